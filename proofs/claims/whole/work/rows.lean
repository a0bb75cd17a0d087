section
/-- a private method of a class that the tables say can be made, by its rows of tables_1 -/
def lw_okq (q : MethodName × Nat) : Prop := (q.1.cls ≠ "java/lang/invoke/MethodHandle" ∧ q.1.cls ≠ "java/lang/invoke/VarHandle") ∧ Cond.instantiable q.1.cls q.2 ∈ tables_1 ∧ Cond.privateMethod q.1 ∈ tables_1 ∧ Cond.instanceMethod q.1 ∈ tables_1
theorem lw_p0 : lw_okq (⟨"TavernBench", "isFeast", "(I)Z"⟩, 11) := ⟨⟨by decide +kernel, by decide +kernel⟩, List.mem_of_getElem? (i := 18) (by decide +kernel), List.mem_of_getElem? (i := 124) (by decide +kernel), List.mem_of_getElem? (i := 125) (by decide +kernel)⟩
theorem lw_p1 : lw_okq (⟨"java/util/ArrayList", "add", "(Ljava/lang/Object;[Ljava/lang/Object;I)V"⟩, 3) := ⟨⟨by decide +kernel, by decide +kernel⟩, List.mem_of_getElem? (i := 26) (by decide +kernel), List.mem_of_getElem? (i := 146) (by decide +kernel), List.mem_of_getElem? (i := 147) (by decide +kernel)⟩
theorem lw_p2 : lw_okq (⟨"java/util/ArrayList", "grow", "()[Ljava/lang/Object;"⟩, 3) := ⟨⟨by decide +kernel, by decide +kernel⟩, List.mem_of_getElem? (i := 26) (by decide +kernel), List.mem_of_getElem? (i := 150) (by decide +kernel), List.mem_of_getElem? (i := 151) (by decide +kernel)⟩
theorem lw_p3 : lw_okq (⟨"java/util/ArrayList", "grow", "(I)[Ljava/lang/Object;"⟩, 3) := ⟨⟨by decide +kernel, by decide +kernel⟩, List.mem_of_getElem? (i := 26) (by decide +kernel), List.mem_of_getElem? (i := 154) (by decide +kernel), List.mem_of_getElem? (i := 155) (by decide +kernel)⟩
theorem lw_p4 : lw_okq (⟨"TavernBench", "judge", "(IIII)I"⟩, 11) := ⟨⟨by decide +kernel, by decide +kernel⟩, List.mem_of_getElem? (i := 18) (by decide +kernel), List.mem_of_getElem? (i := 235) (by decide +kernel), List.mem_of_getElem? (i := 236) (by decide +kernel)⟩
theorem lw_p5 : lw_okq (⟨"TavernBench", "isCrowded", "(III)Z"⟩, 11) := ⟨⟨by decide +kernel, by decide +kernel⟩, List.mem_of_getElem? (i := 18) (by decide +kernel), List.mem_of_getElem? (i := 239) (by decide +kernel), List.mem_of_getElem? (i := 240) (by decide +kernel)⟩
theorem lw_p6 : lw_okq (⟨"TavernBench$House", "endedFrom", "(I)I"⟩, 7) := ⟨⟨by decide +kernel, by decide +kernel⟩, List.mem_of_getElem? (i := 271) (by decide +kernel), List.mem_of_getElem? (i := 269) (by decide +kernel), List.mem_of_getElem? (i := 270) (by decide +kernel)⟩
theorem lw_p7 : lw_okq (⟨"TavernBench$House", "lapsedFrom", "(I)I"⟩, 7) := ⟨⟨by decide +kernel, by decide +kernel⟩, List.mem_of_getElem? (i := 271) (by decide +kernel), List.mem_of_getElem? (i := 282) (by decide +kernel), List.mem_of_getElem? (i := 283) (by decide +kernel)⟩
theorem lw_p8 : lw_okq (⟨"TavernBench$House", "isTransferred", "(II)Z"⟩, 7) := ⟨⟨by decide +kernel, by decide +kernel⟩, List.mem_of_getElem? (i := 271) (by decide +kernel), List.mem_of_getElem? (i := 286) (by decide +kernel), List.mem_of_getElem? (i := 287) (by decide +kernel)⟩
theorem lw_p9 : lw_okq (⟨"TavernBench", "weightHeard", "(II)I"⟩, 11) := ⟨⟨by decide +kernel, by decide +kernel⟩, List.mem_of_getElem? (i := 18) (by decide +kernel), List.mem_of_getElem? (i := 296) (by decide +kernel), List.mem_of_getElem? (i := 297) (by decide +kernel)⟩
theorem lw_p10 : lw_okq (⟨"TavernBench", "houseAt", "(I)LTavernBench$House;"⟩, 11) := ⟨⟨by decide +kernel, by decide +kernel⟩, List.mem_of_getElem? (i := 18) (by decide +kernel), List.mem_of_getElem? (i := 354) (by decide +kernel), List.mem_of_getElem? (i := 355) (by decide +kernel)⟩
theorem lw_p11 : lw_okq (⟨"TavernBench$House", "offenceNumbered", "(I)LTavernBench$Event;"⟩, 7) := ⟨⟨by decide +kernel, by decide +kernel⟩, List.mem_of_getElem? (i := 271) (by decide +kernel), List.mem_of_getElem? (i := 365) (by decide +kernel), List.mem_of_getElem? (i := 366) (by decide +kernel)⟩
theorem lw_p12 : lw_okq (⟨"TavernBench", "openOverMidnightUntil", "(LTavernBench$House;I)I"⟩, 11) := ⟨⟨by decide +kernel, by decide +kernel⟩, List.mem_of_getElem? (i := 18) (by decide +kernel), List.mem_of_getElem? (i := 425) (by decide +kernel), List.mem_of_getElem? (i := 426) (by decide +kernel)⟩
theorem lw_p13 : lw_okq (⟨"TavernBench", "lawOf", "(II)LTavernBench$Law;"⟩, 11) := ⟨⟨by decide +kernel, by decide +kernel⟩, List.mem_of_getElem? (i := 18) (by decide +kernel), List.mem_of_getElem? (i := 429) (by decide +kernel), List.mem_of_getElem? (i := 430) (by decide +kernel)⟩
theorem lw_p14 : lw_okq (⟨"TavernBench", "openTodayUntil", "(LTavernBench$House;I)I"⟩, 11) := ⟨⟨by decide +kernel, by decide +kernel⟩, List.mem_of_getElem? (i := 18) (by decide +kernel), List.mem_of_getElem? (i := 433) (by decide +kernel), List.mem_of_getElem? (i := 434) (by decide +kernel)⟩
theorem lw_p15 : lw_okq (⟨"TavernBench", "partOf", "(IIIJ)I"⟩, 11) := ⟨⟨by decide +kernel, by decide +kernel⟩, List.mem_of_getElem? (i := 18) (by decide +kernel), List.mem_of_getElem? (i := 453) (by decide +kernel), List.mem_of_getElem? (i := 454) (by decide +kernel)⟩
def lw_privs_1 : List (MethodName × Nat) := [(⟨"TavernBench", "isFeast", "(I)Z"⟩, 11), (⟨"java/util/ArrayList", "add", "(Ljava/lang/Object;[Ljava/lang/Object;I)V"⟩, 3), (⟨"java/util/ArrayList", "grow", "()[Ljava/lang/Object;"⟩, 3), (⟨"java/util/ArrayList", "grow", "(I)[Ljava/lang/Object;"⟩, 3), (⟨"TavernBench", "judge", "(IIII)I"⟩, 11), (⟨"TavernBench", "isCrowded", "(III)Z"⟩, 11), (⟨"TavernBench$House", "endedFrom", "(I)I"⟩, 7), (⟨"TavernBench$House", "lapsedFrom", "(I)I"⟩, 7), (⟨"TavernBench$House", "isTransferred", "(II)Z"⟩, 7), (⟨"TavernBench", "weightHeard", "(II)I"⟩, 11), (⟨"TavernBench", "houseAt", "(I)LTavernBench$House;"⟩, 11), (⟨"TavernBench$House", "offenceNumbered", "(I)LTavernBench$Event;"⟩, 7), (⟨"TavernBench", "openOverMidnightUntil", "(LTavernBench$House;I)I"⟩, 11), (⟨"TavernBench", "lawOf", "(II)LTavernBench$Law;"⟩, 11), (⟨"TavernBench", "openTodayUntil", "(LTavernBench$House;I)I"⟩, 11), (⟨"TavernBench", "partOf", "(IIIJ)I"⟩, 11)]
theorem lw_r1 : ∀ q ∈ lw_privs_1, lw_okq q := List.forall_mem_cons.mpr ⟨lw_p0, List.forall_mem_cons.mpr ⟨lw_p1, List.forall_mem_cons.mpr ⟨lw_p2, List.forall_mem_cons.mpr ⟨lw_p3, List.forall_mem_cons.mpr ⟨lw_p4, List.forall_mem_cons.mpr ⟨lw_p5, List.forall_mem_cons.mpr ⟨lw_p6, List.forall_mem_cons.mpr ⟨lw_p7, List.forall_mem_cons.mpr ⟨lw_p8, List.forall_mem_cons.mpr ⟨lw_p9, List.forall_mem_cons.mpr ⟨lw_p10, List.forall_mem_cons.mpr ⟨lw_p11, List.forall_mem_cons.mpr ⟨lw_p12, List.forall_mem_cons.mpr ⟨lw_p13, List.forall_mem_cons.mpr ⟨lw_p14, List.forall_mem_cons.mpr ⟨lw_p15, fun _ h => absurd h List.not_mem_nil⟩⟩⟩⟩⟩⟩⟩⟩⟩⟩⟩⟩⟩⟩⟩⟩
theorem lw_p16 : lw_okq (⟨"TavernBench", "worthOfPayers", "(I)J"⟩, 11) := ⟨⟨by decide +kernel, by decide +kernel⟩, List.mem_of_getElem? (i := 18) (by decide +kernel), List.mem_of_getElem? (i := 457) (by decide +kernel), List.mem_of_getElem? (i := 458) (by decide +kernel)⟩
theorem lw_p17 : lw_okq (⟨"TavernBench", "anyLicence", "(I)Z"⟩, 11) := ⟨⟨by decide +kernel, by decide +kernel⟩, List.mem_of_getElem? (i := 18) (by decide +kernel), List.mem_of_getElem? (i := 465) (by decide +kernel), List.mem_of_getElem? (i := 466) (by decide +kernel)⟩
theorem lw_p18 : lw_okq (⟨"TavernBench", "unvisitedOn", "(I)I"⟩, 11) := ⟨⟨by decide +kernel, by decide +kernel⟩, List.mem_of_getElem? (i := 18) (by decide +kernel), List.mem_of_getElem? (i := 469) (by decide +kernel), List.mem_of_getElem? (i := 470) (by decide +kernel)⟩
theorem lw_p19 : lw_okq (⟨"TavernBench", "beginRound", "()V"⟩, 11) := ⟨⟨by decide +kernel, by decide +kernel⟩, List.mem_of_getElem? (i := 18) (by decide +kernel), List.mem_of_getElem? (i := 473) (by decide +kernel), List.mem_of_getElem? (i := 474) (by decide +kernel)⟩
theorem lw_p20 : lw_okq (⟨"TavernBench", "visitUnvisited", "(II)I"⟩, 11) := ⟨⟨by decide +kernel, by decide +kernel⟩, List.mem_of_getElem? (i := 18) (by decide +kernel), List.mem_of_getElem? (i := 479) (by decide +kernel), List.mem_of_getElem? (i := 480) (by decide +kernel)⟩
theorem lw_p21 : lw_okq (⟨"TavernBenchModel", "isFeast", "(I)Z"⟩, 32) := ⟨⟨by decide +kernel, by decide +kernel⟩, List.mem_of_getElem? (i := 491) (by decide +kernel), List.mem_of_getElem? (i := 606) (by decide +kernel), List.mem_of_getElem? (i := 607) (by decide +kernel)⟩
theorem lw_p22 : lw_okq (⟨"TavernBenchModel", "judged", "(IIII)I"⟩, 32) := ⟨⟨by decide +kernel, by decide +kernel⟩, List.mem_of_getElem? (i := 491) (by decide +kernel), List.mem_of_getElem? (i := 630) (by decide +kernel), List.mem_of_getElem? (i := 631) (by decide +kernel)⟩
theorem lw_p23 : lw_okq (⟨"TavernBenchModel", "has", "(II)Z"⟩, 32) := ⟨⟨by decide +kernel, by decide +kernel⟩, List.mem_of_getElem? (i := 491) (by decide +kernel), List.mem_of_getElem? (i := 634) (by decide +kernel), List.mem_of_getElem? (i := 635) (by decide +kernel)⟩
theorem lw_p24 : lw_okq (⟨"TavernBenchModel", "stateOn", "(II)I"⟩, 32) := ⟨⟨by decide +kernel, by decide +kernel⟩, List.mem_of_getElem? (i := 491) (by decide +kernel), List.mem_of_getElem? (i := 638) (by decide +kernel), List.mem_of_getElem? (i := 639) (by decide +kernel)⟩
theorem lw_p25 : lw_okq (⟨"TavernBenchModel", "endedFrom", "(II)I"⟩, 32) := ⟨⟨by decide +kernel, by decide +kernel⟩, List.mem_of_getElem? (i := 491) (by decide +kernel), List.mem_of_getElem? (i := 642) (by decide +kernel), List.mem_of_getElem? (i := 643) (by decide +kernel)⟩
theorem lw_p26 : lw_okq (⟨"TavernBenchModel", "counts", "(III)Z"⟩, 32) := ⟨⟨by decide +kernel, by decide +kernel⟩, List.mem_of_getElem? (i := 491) (by decide +kernel), List.mem_of_getElem? (i := 646) (by decide +kernel), List.mem_of_getElem? (i := 647) (by decide +kernel)⟩
theorem lw_p27 : lw_okq (⟨"TavernBenchModel", "lapsedFrom", "(II)I"⟩, 32) := ⟨⟨by decide +kernel, by decide +kernel⟩, List.mem_of_getElem? (i := 491) (by decide +kernel), List.mem_of_getElem? (i := 650) (by decide +kernel), List.mem_of_getElem? (i := 651) (by decide +kernel)⟩
theorem lw_p28 : lw_okq (⟨"TavernBenchModel", "surplusFrom", "(II)I"⟩, 32) := ⟨⟨by decide +kernel, by decide +kernel⟩, List.mem_of_getElem? (i := 491) (by decide +kernel), List.mem_of_getElem? (i := 654) (by decide +kernel), List.mem_of_getElem? (i := 655) (by decide +kernel)⟩
theorem lw_p29 : lw_okq (⟨"TavernBenchModel", "isHouse", "(I)Z"⟩, 32) := ⟨⟨by decide +kernel, by decide +kernel⟩, List.mem_of_getElem? (i := 491) (by decide +kernel), List.mem_of_getElem? (i := 665) (by decide +kernel), List.mem_of_getElem? (i := 666) (by decide +kernel)⟩
theorem lw_p30 : lw_okq (⟨"TavernBenchModel", "isTold", "(II)Z"⟩, 32) := ⟨⟨by decide +kernel, by decide +kernel⟩, List.mem_of_getElem? (i := 491) (by decide +kernel), List.mem_of_getElem? (i := 669) (by decide +kernel), List.mem_of_getElem? (i := 670) (by decide +kernel)⟩
theorem lw_p31 : lw_okq (⟨"TavernBenchModel", "condition", "(II)I"⟩, 32) := ⟨⟨by decide +kernel, by decide +kernel⟩, List.mem_of_getElem? (i := 491) (by decide +kernel), List.mem_of_getElem? (i := 681) (by decide +kernel), List.mem_of_getElem? (i := 682) (by decide +kernel)⟩
def lw_privs_2 : List (MethodName × Nat) := [(⟨"TavernBench", "worthOfPayers", "(I)J"⟩, 11), (⟨"TavernBench", "anyLicence", "(I)Z"⟩, 11), (⟨"TavernBench", "unvisitedOn", "(I)I"⟩, 11), (⟨"TavernBench", "beginRound", "()V"⟩, 11), (⟨"TavernBench", "visitUnvisited", "(II)I"⟩, 11), (⟨"TavernBenchModel", "isFeast", "(I)Z"⟩, 32), (⟨"TavernBenchModel", "judged", "(IIII)I"⟩, 32), (⟨"TavernBenchModel", "has", "(II)Z"⟩, 32), (⟨"TavernBenchModel", "stateOn", "(II)I"⟩, 32), (⟨"TavernBenchModel", "endedFrom", "(II)I"⟩, 32), (⟨"TavernBenchModel", "counts", "(III)Z"⟩, 32), (⟨"TavernBenchModel", "lapsedFrom", "(II)I"⟩, 32), (⟨"TavernBenchModel", "surplusFrom", "(II)I"⟩, 32), (⟨"TavernBenchModel", "isHouse", "(I)Z"⟩, 32), (⟨"TavernBenchModel", "isTold", "(II)Z"⟩, 32), (⟨"TavernBenchModel", "condition", "(II)I"⟩, 32)]
theorem lw_r2 : ∀ q ∈ lw_privs_2, lw_okq q := List.forall_mem_cons.mpr ⟨lw_p16, List.forall_mem_cons.mpr ⟨lw_p17, List.forall_mem_cons.mpr ⟨lw_p18, List.forall_mem_cons.mpr ⟨lw_p19, List.forall_mem_cons.mpr ⟨lw_p20, List.forall_mem_cons.mpr ⟨lw_p21, List.forall_mem_cons.mpr ⟨lw_p22, List.forall_mem_cons.mpr ⟨lw_p23, List.forall_mem_cons.mpr ⟨lw_p24, List.forall_mem_cons.mpr ⟨lw_p25, List.forall_mem_cons.mpr ⟨lw_p26, List.forall_mem_cons.mpr ⟨lw_p27, List.forall_mem_cons.mpr ⟨lw_p28, List.forall_mem_cons.mpr ⟨lw_p29, List.forall_mem_cons.mpr ⟨lw_p30, List.forall_mem_cons.mpr ⟨lw_p31, fun _ h => absurd h List.not_mem_nil⟩⟩⟩⟩⟩⟩⟩⟩⟩⟩⟩⟩⟩⟩⟩⟩
theorem lw_p32 : lw_okq (⟨"TavernBenchModel", "worthOn", "(II)I"⟩, 32) := ⟨⟨by decide +kernel, by decide +kernel⟩, List.mem_of_getElem? (i := 491) (by decide +kernel), List.mem_of_getElem? (i := 685) (by decide +kernel), List.mem_of_getElem? (i := 686) (by decide +kernel)⟩
theorem lw_p33 : lw_okq (⟨"TavernBenchModel", "lawOf", "(II)I"⟩, 32) := ⟨⟨by decide +kernel, by decide +kernel⟩, List.mem_of_getElem? (i := 491) (by decide +kernel), List.mem_of_getElem? (i := 693) (by decide +kernel), List.mem_of_getElem? (i := 694) (by decide +kernel)⟩
theorem lw_p34 : lw_okq (⟨"TavernBenchModel", "opens", "(IIII)I"⟩, 32) := ⟨⟨by decide +kernel, by decide +kernel⟩, List.mem_of_getElem? (i := 491) (by decide +kernel), List.mem_of_getElem? (i := 701) (by decide +kernel), List.mem_of_getElem? (i := 702) (by decide +kernel)⟩
theorem lw_p35 : lw_okq (⟨"TavernBenchModel", "may", "(IZZIII)Z"⟩, 32) := ⟨⟨by decide +kernel, by decide +kernel⟩, List.mem_of_getElem? (i := 491) (by decide +kernel), List.mem_of_getElem? (i := 705) (by decide +kernel), List.mem_of_getElem? (i := 706) (by decide +kernel)⟩
theorem lw_p36 : lw_okq (⟨"TavernBenchModel", "isOpen", "(II)Z"⟩, 32) := ⟨⟨by decide +kernel, by decide +kernel⟩, List.mem_of_getElem? (i := 491) (by decide +kernel), List.mem_of_getElem? (i := 709) (by decide +kernel), List.mem_of_getElem? (i := 710) (by decide +kernel)⟩
theorem lw_p37 : lw_okq (⟨"TavernBenchModel", "many", "(IZ)I"⟩, 32) := ⟨⟨by decide +kernel, by decide +kernel⟩, List.mem_of_getElem? (i := 491) (by decide +kernel), List.mem_of_getElem? (i := 727) (by decide +kernel), List.mem_of_getElem? (i := 728) (by decide +kernel)⟩
theorem lw_p38 : lw_okq (⟨"TavernBenchModel", "round", "()V"⟩, 32) := ⟨⟨by decide +kernel, by decide +kernel⟩, List.mem_of_getElem? (i := 491) (by decide +kernel), List.mem_of_getElem? (i := 731) (by decide +kernel), List.mem_of_getElem? (i := 732) (by decide +kernel)⟩
def lw_privs_3 : List (MethodName × Nat) := [(⟨"TavernBenchModel", "worthOn", "(II)I"⟩, 32), (⟨"TavernBenchModel", "lawOf", "(II)I"⟩, 32), (⟨"TavernBenchModel", "opens", "(IIII)I"⟩, 32), (⟨"TavernBenchModel", "may", "(IZZIII)Z"⟩, 32), (⟨"TavernBenchModel", "isOpen", "(II)Z"⟩, 32), (⟨"TavernBenchModel", "many", "(IZ)I"⟩, 32), (⟨"TavernBenchModel", "round", "()V"⟩, 32)]
theorem lw_r3 : ∀ q ∈ lw_privs_3, lw_okq q := List.forall_mem_cons.mpr ⟨lw_p32, List.forall_mem_cons.mpr ⟨lw_p33, List.forall_mem_cons.mpr ⟨lw_p34, List.forall_mem_cons.mpr ⟨lw_p35, List.forall_mem_cons.mpr ⟨lw_p36, List.forall_mem_cons.mpr ⟨lw_p37, List.forall_mem_cons.mpr ⟨lw_p38, fun _ h => absurd h List.not_mem_nil⟩⟩⟩⟩⟩⟩⟩
def lw_privs : List (MethodName × Nat) := lw_privs_1 ++ (lw_privs_2 ++ (lw_privs_3))
def lw_tbl : List Cond := k2_sels lw_privs ++ tables_1
theorem lw_privs_ok : ∀ q ∈ lw_privs, lw_okq q := by
  show ∀ q ∈ lw_privs_1 ++ (lw_privs_2 ++ (lw_privs_3)), lw_okq q
  exact List.forall_mem_append.mpr ⟨lw_r1, List.forall_mem_append.mpr ⟨lw_r2, lw_r3⟩⟩
/-! ===== BEGIN words of one list among another's, by their places ===== -/
theorem goodIn_r {big : List Cond} (ws : List Cond) (ps : List Nat) (hp : ws = ps.filterMap (fun i => big[i]?)) (h : ws.all goodWord = true) : GoodIn big ws := by
  intro w hw
  have h1 := List.all_eq_true.mp h w hw
  rw [hp] at hw
  obtain ⟨i, -, hi⟩ := List.mem_filterMap.mp hw
  have hm : w ∈ big := by first | exact List.mem_of_getElem? hi | exact List.getElem?_mem hi
  exact ⟨hm, good_of_word h1⟩
theorem goodIn_app {big a b : List Cond} (ha : GoodIn big a) (hb : GoodIn big b) : GoodIn big (a ++ b) := fun w h => (List.mem_append.mp h).elim (ha w) (hb w)
theorem goodIn_ca {big a b : List Cond} {c : Cond} (ha : GoodIn big (c :: a)) (hb : GoodIn big b) : GoodIn big (c :: (a ++ b)) := fun w h => (List.mem_cons.mp h).elim (fun e => ha w (List.mem_cons.mpr (Or.inl e))) (fun h => (List.mem_append.mp h).elim (fun h => ha w (List.mem_cons.mpr (Or.inr h))) (hb w))
theorem goodIn_sub {big ws : List Cond} (hm : ∀ w ∈ ws, w ∈ big) (h : ws.all goodWord = true) : GoodIn big ws := fun w hw => ⟨hm w hw, good_of_word (List.all_eq_true.mp h w hw)⟩
/-! ===== END ===== -/

/-! ===== BEGIN printed: names, fields, word lists, decode rows ===== -/
def RX0 : String := "TavernBench$Event"
def TX0 : u_T := fun k => match k with
  | 0 => ("TavernBench$Event", "day", "I", true)
  | 1 => ("TavernBench$Event", "kind", "I", true)
  | 2 => ("TavernBench$Event", "v", "I", true)
  | _ => ("TavernBench$Event", "quashedFrom", "I", false)
def tyX0 : Nat → FieldType := fun k => match k with
  | 0 => .int
  | 1 => .int
  | 2 => .int
  | _ => .int
abbrev wsX00 : List Cond := u_ws RX0 TX0 4
theorem nmX0 : ∀ a, a < 4 → ∀ b, b < 4 → a ≠ b → (TX0 a).2.1 ≠ (TX0 b).2.1 := by decide +kernel
theorem tyX0_ok : ∀ k, k < 4 → parseFieldDescriptor (TX0 k).2.2.1 = some (tyX0 k) := by decide +kernel
abbrev cX0_init : ByteArray := prog_2_method_1_code
def yX0_init : MethodName := ⟨RX0, "<init>", "(III)V"⟩
def RX1 : String := "TavernBench$House"
def TX1 : u_T := fun k => match k with
  | 0 => ("TavernBench$House", "x", "I", true)
  | 1 => ("TavernBench$House", "y", "I", true)
  | 2 => ("TavernBench$House", "kind", "I", true)
  | 3 => ("TavernBench$House", "granted", "I", true)
  | 4 => ("TavernBench$House", "events", "Ljava/util/ArrayList;", true)
  | 5 => ("TavernBench$House", "worths", "Ljava/util/ArrayList;", true)
  | _ => ("TavernBench$House", "visited", "Z", false)
def tyX1 : Nat → FieldType := fun k => match k with
  | 0 => .int
  | 1 => .int
  | 2 => .int
  | 3 => .int
  | 4 => .object "java/util/ArrayList"
  | 5 => .object "java/util/ArrayList"
  | _ => .boolean
abbrev wsX10 : List Cond := u_ws RX1 TX1 7
theorem nmX1 : ∀ a, a < 7 → ∀ b, b < 7 → a ≠ b → (TX1 a).2.1 ≠ (TX1 b).2.1 := by decide +kernel
theorem tyX1_ok : ∀ k, k < 7 → parseFieldDescriptor (TX1 k).2.2.1 = some (tyX1 k) := by decide +kernel
abbrev cX1_init : ByteArray := prog_3_method_1_code
def yX1_init : MethodName := ⟨RX1, "<init>", "(IIIII)V"⟩
abbrev cX1_mayBeTold : ByteArray := prog_3_method_2_code
def yX1_mayBeTold : MethodName := ⟨RX1, "mayBeTold", "(II)Z"⟩
abbrev cX1_tell : ByteArray := prog_3_method_3_code
def yX1_tell : MethodName := ⟨RX1, "tell", "(III)V"⟩
abbrev cX1_offenceNumbered : ByteArray := prog_3_method_4_code
def yX1_offenceNumbered : MethodName := ⟨RX1, "offenceNumbered", "(I)LTavernBench$Event;"⟩
abbrev cX1_hasLicence : ByteArray := prog_3_method_5_code
def yX1_hasLicence : MethodName := ⟨RX1, "hasLicence", "(I)Z"⟩
abbrev cX1_stateOn : ByteArray := prog_3_method_6_code
def yX1_stateOn : MethodName := ⟨RX1, "stateOn", "(I)I"⟩
abbrev cX1_endedFrom : ByteArray := prog_3_method_7_code
def yX1_endedFrom : MethodName := ⟨RX1, "endedFrom", "(I)I"⟩
abbrev cX1_offencesCounted : ByteArray := prog_3_method_8_code
def yX1_offencesCounted : MethodName := ⟨RX1, "offencesCounted", "(II)I"⟩
abbrev cX1_lapsedFrom : ByteArray := prog_3_method_9_code
def yX1_lapsedFrom : MethodName := ⟨RX1, "lapsedFrom", "(I)I"⟩
abbrev cX1_isTransferred : ByteArray := prog_3_method_10_code
def yX1_isTransferred : MethodName := ⟨RX1, "isTransferred", "(II)Z"⟩
abbrev cX1_surplusFrom : ByteArray := prog_3_method_11_code
def yX1_surplusFrom : MethodName := ⟨RX1, "surplusFrom", "(I)I"⟩
abbrev cX1_conditionOn : ByteArray := prog_3_method_12_code
def yX1_conditionOn : MethodName := ⟨RX1, "conditionOn", "(I)I"⟩
abbrev cX1_worthOn : ByteArray := prog_3_method_13_code
def yX1_worthOn : MethodName := ⟨RX1, "worthOn", "(I)I"⟩
def RX2 : String := "TavernBench$Law"
def TX2 : u_T := fun k => match k with
  | 0 => ("TavernBench$Law", "day", "I", true)
  | 1 => ("TavernBench$Law", "kind", "I", true)
  | 2 => ("TavernBench$Law", "weekday", "I", true)
  | 3 => ("TavernBench$Law", "from", "I", true)
  | _ => ("TavernBench$Law", "to", "I", true)
def tyX2 : Nat → FieldType := fun k => match k with
  | 0 => .int
  | 1 => .int
  | 2 => .int
  | 3 => .int
  | _ => .int
abbrev wsX20 : List Cond := u_ws RX2 TX2 5
theorem nmX2 : ∀ a, a < 5 → ∀ b, b < 5 → a ≠ b → (TX2 a).2.1 ≠ (TX2 b).2.1 := by decide +kernel
theorem tyX2_ok : ∀ k, k < 5 → parseFieldDescriptor (TX2 k).2.2.1 = some (tyX2 k) := by decide +kernel
abbrev cX2_init : ByteArray := prog_4_method_1_code
def yX2_init : MethodName := ⟨RX2, "<init>", "(IIIII)V"⟩
def RX3 : String := "TavernBench$Objector"
def TX3 : u_T := fun k => match k with
  | 0 => ("TavernBench$Objector", "x", "I", true)
  | 1 => ("TavernBench$Objector", "y", "I", true)
  | _ => ("TavernBench$Objector", "weight", "I", true)
def tyX3 : Nat → FieldType := fun k => match k with
  | 0 => .int
  | 1 => .int
  | _ => .int
abbrev wsX30 : List Cond := u_ws RX3 TX3 3
theorem nmX3 : ∀ a, a < 3 → ∀ b, b < 3 → a ≠ b → (TX3 a).2.1 ≠ (TX3 b).2.1 := by decide +kernel
theorem tyX3_ok : ∀ k, k < 3 → parseFieldDescriptor (TX3 k).2.2.1 = some (tyX3 k) := by decide +kernel
abbrev cX3_init : ByteArray := prog_5_method_1_code
def yX3_init : MethodName := ⟨RX3, "<init>", "(III)V"⟩
def RX4 : String := "TavernBench$Worth"
def TX4 : u_T := fun k => match k with
  | 0 => ("TavernBench$Worth", "day", "I", true)
  | _ => ("TavernBench$Worth", "amount", "I", true)
def tyX4 : Nat → FieldType := fun k => match k with
  | 0 => .int
  | _ => .int
abbrev wsX40 : List Cond := u_ws RX4 TX4 2
theorem nmX4 : ∀ a, a < 2 → ∀ b, b < 2 → a ≠ b → (TX4 a).2.1 ≠ (TX4 b).2.1 := by decide +kernel
theorem tyX4_ok : ∀ k, k < 2 → parseFieldDescriptor (TX4 k).2.2.1 = some (tyX4 k) := by decide +kernel
abbrev cX4_init : ByteArray := prog_6_method_1_code
def yX4_init : MethodName := ⟨RX4, "<init>", "(II)V"⟩
def RX5 : String := "TavernBench"
def TX5 : u_T := fun k => match k with
  | 0 => ("TavernBench", "laws", "Ljava/util/ArrayList;", true)
  | 1 => ("TavernBench", "objectors", "Ljava/util/ArrayList;", true)
  | 2 => ("TavernBench", "houses", "Ljava/util/ArrayList;", true)
  | 3 => ("TavernBench", "feastDays", "[I", true)
  | 4 => ("TavernBench", "shutLaw", "LTavernBench$Law;", true)
  | 5 => ("TavernBench", "feasts", "I", false)
  | 6 => ("TavernBench", "near", "I", false)
  | 7 => ("TavernBench", "heard", "I", false)
  | 8 => ("TavernBench", "refusedAsks", "I", false)
  | 9 => ("TavernBench", "visitsInRound", "I", false)
  | _ => ("TavernBench", "lastSeed", "J", false)
def tyX5 : Nat → FieldType := fun k => match k with
  | 0 => .object "java/util/ArrayList"
  | 1 => .object "java/util/ArrayList"
  | 2 => .object "java/util/ArrayList"
  | 3 => .array .int
  | 4 => .object "TavernBench$Law"
  | 5 => .int
  | 6 => .int
  | 7 => .int
  | 8 => .int
  | 9 => .int
  | _ => .long
abbrev wsX50 : List Cond := u_ws RX5 TX5 11
theorem nmX5 : ∀ a, a < 11 → ∀ b, b < 11 → a ≠ b → (TX5 a).2.1 ≠ (TX5 b).2.1 := by decide +kernel
theorem tyX5_ok : ∀ k, k < 11 → parseFieldDescriptor (TX5 k).2.2.1 = some (tyX5 k) := by decide +kernel
abbrev cX5_init : ByteArray := prog_1_method_1_code
def yX5_init : MethodName := ⟨RX5, "<init>", "()V"⟩
abbrev cX5_feast : ByteArray := prog_1_method_2_code
def yX5_feast : MethodName := ⟨RX5, "feast", "(I)I"⟩
abbrev cX5_law : ByteArray := prog_1_method_3_code
def yX5_law : MethodName := ⟨RX5, "law", "(IIIII)I"⟩
abbrev cX5_rule : ByteArray := prog_1_method_4_code
def yX5_rule : MethodName := ⟨RX5, "rule", "(II)I"⟩
abbrev cX5_objector : ByteArray := prog_1_method_5_code
def yX5_objector : MethodName := ⟨RX5, "objector", "(III)I"⟩
abbrev cX5_ask : ByteArray := prog_1_method_6_code
def yX5_ask : MethodName := ⟨RX5, "ask", "(IIIIII)I"⟩
abbrev cX5_event : ByteArray := prog_1_method_7_code
def yX5_event : MethodName := ⟨RX5, "event", "(IIII)I"⟩
abbrev cX5_worth : ByteArray := prog_1_method_8_code
def yX5_worth : MethodName := ⟨RX5, "worth", "(III)I"⟩
abbrev cX5_on : ByteArray := prog_1_method_9_code
def yX5_on : MethodName := ⟨RX5, "on", "(III)I"⟩
abbrev cX5_open : ByteArray := prog_1_method_10_code
def yX5_open : MethodName := ⟨RX5, "open", "(III)I"⟩
abbrev cX5_minutes : ByteArray := prog_1_method_11_code
def yX5_minutes : MethodName := ⟨RX5, "minutes", "(II)I"⟩
abbrev cX5_lawOn : ByteArray := prog_1_method_12_code
def yX5_lawOn : MethodName := ⟨RX5, "lawOn", "(III)I"⟩
abbrev cX5_owes : ByteArray := prog_1_method_13_code
def yX5_owes : MethodName := ⟨RX5, "owes", "(II)I"⟩
abbrev cX5_visit : ByteArray := prog_1_method_14_code
def yX5_visit : MethodName := ⟨RX5, "visit", "(I)I"⟩
abbrev cX5_seed : ByteArray := prog_1_method_15_code
def yX5_seed : MethodName := ⟨RX5, "seed", "(I)I"⟩
abbrev cX5_count : ByteArray := prog_1_method_16_code
def yX5_count : MethodName := ⟨RX5, "count", "(I)I"⟩
abbrev cX5_isIn : ByteArray := prog_1_method_17_code
def yX5_isIn : MethodName := ⟨RX5, "isIn", "(III)Z"⟩
abbrev cX5_isDay : ByteArray := prog_1_method_18_code
def yX5_isDay : MethodName := ⟨RX5, "isDay", "(I)Z"⟩
abbrev cX5_isKind : ByteArray := prog_1_method_19_code
def yX5_isKind : MethodName := ⟨RX5, "isKind", "(I)Z"⟩
abbrev cX5_isPlace : ByteArray := prog_1_method_20_code
def yX5_isPlace : MethodName := ⟨RX5, "isPlace", "(II)Z"⟩
abbrev cX5_isWorth : ByteArray := prog_1_method_21_code
def yX5_isWorth : MethodName := ⟨RX5, "isWorth", "(I)Z"⟩
abbrev cX5_areHours : ByteArray := prog_1_method_22_code
def yX5_areHours : MethodName := ⟨RX5, "areHours", "(II)Z"⟩
abbrev cX5_isEvent : ByteArray := prog_1_method_23_code
def yX5_isEvent : MethodName := ⟨RX5, "isEvent", "(II)Z"⟩
abbrev cX5_squareOfDistance : ByteArray := prog_1_method_24_code
def yX5_squareOfDistance : MethodName := ⟨RX5, "squareOfDistance", "(IIII)I"⟩
abbrev cX5_houseAt : ByteArray := prog_1_method_25_code
def yX5_houseAt : MethodName := ⟨RX5, "houseAt", "(I)LTavernBench$House;"⟩
abbrev cX5_isFeast : ByteArray := prog_1_method_26_code
def yX5_isFeast : MethodName := ⟨RX5, "isFeast", "(I)Z"⟩
abbrev cX5_lawOf : ByteArray := prog_1_method_27_code
def yX5_lawOf : MethodName := ⟨RX5, "lawOf", "(II)LTavernBench$Law;"⟩
abbrev cX5_judge : ByteArray := prog_1_method_28_code
def yX5_judge : MethodName := ⟨RX5, "judge", "(IIII)I"⟩
abbrev cX5_isCrowded : ByteArray := prog_1_method_29_code
def yX5_isCrowded : MethodName := ⟨RX5, "isCrowded", "(III)Z"⟩
abbrev cX5_weightHeard : ByteArray := prog_1_method_30_code
def yX5_weightHeard : MethodName := ⟨RX5, "weightHeard", "(II)I"⟩
abbrev cX5_openOverMidnightUntil : ByteArray := prog_1_method_31_code
def yX5_openOverMidnightUntil : MethodName := ⟨RX5, "openOverMidnightUntil", "(LTavernBench$House;I)I"⟩
abbrev cX5_openTodayUntil : ByteArray := prog_1_method_32_code
def yX5_openTodayUntil : MethodName := ⟨RX5, "openTodayUntil", "(LTavernBench$House;I)I"⟩
abbrev cX5_partOf : ByteArray := prog_1_method_33_code
def yX5_partOf : MethodName := ⟨RX5, "partOf", "(IIIJ)I"⟩
abbrev cX5_worthOfPayers : ByteArray := prog_1_method_34_code
def yX5_worthOfPayers : MethodName := ⟨RX5, "worthOfPayers", "(I)J"⟩
abbrev cX5_anyLicence : ByteArray := prog_1_method_35_code
def yX5_anyLicence : MethodName := ⟨RX5, "anyLicence", "(I)Z"⟩
abbrev cX5_unvisitedOn : ByteArray := prog_1_method_36_code
def yX5_unvisitedOn : MethodName := ⟨RX5, "unvisitedOn", "(I)I"⟩
abbrev cX5_visitUnvisited : ByteArray := prog_1_method_37_code
def yX5_visitUnvisited : MethodName := ⟨RX5, "visitUnvisited", "(II)I"⟩
abbrev cX5_beginRound : ByteArray := prog_1_method_38_code
def yX5_beginRound : MethodName := ⟨RX5, "beginRound", "()V"⟩
def RX6 : String := "TavernBenchModel"
def TX6 : u_T := fun k => match k with
  | 0 => ("TavernBenchModel", "feasts", "I", false)
  | 1 => ("TavernBenchModel", "feast", "[I", true)
  | 2 => ("TavernBenchModel", "laws", "I", false)
  | 3 => ("TavernBenchModel", "lawDay", "[I", true)
  | 4 => ("TavernBenchModel", "lawKind", "[I", true)
  | 5 => ("TavernBenchModel", "lawWeek", "[I", true)
  | 6 => ("TavernBenchModel", "lawFrom", "[I", true)
  | 7 => ("TavernBenchModel", "lawTo", "[I", true)
  | 8 => ("TavernBenchModel", "near", "I", false)
  | 9 => ("TavernBenchModel", "heard", "I", false)
  | 10 => ("TavernBenchModel", "objectors", "I", false)
  | 11 => ("TavernBenchModel", "ox", "[I", true)
  | 12 => ("TavernBenchModel", "oy", "[I", true)
  | 13 => ("TavernBenchModel", "ow", "[I", true)
  | 14 => ("TavernBenchModel", "houses", "I", false)
  | 15 => ("TavernBenchModel", "hx", "[I", true)
  | 16 => ("TavernBenchModel", "hy", "[I", true)
  | 17 => ("TavernBenchModel", "kind", "[I", true)
  | 18 => ("TavernBenchModel", "granted", "[I", true)
  | 19 => ("TavernBenchModel", "events", "[I", true)
  | 20 => ("TavernBenchModel", "eventDay", "[I", true)
  | 21 => ("TavernBenchModel", "eventKind", "[I", true)
  | 22 => ("TavernBenchModel", "eventValue", "[I", true)
  | 23 => ("TavernBenchModel", "worths", "[I", true)
  | 24 => ("TavernBenchModel", "worthDay", "[I", true)
  | 25 => ("TavernBenchModel", "worth", "[I", true)
  | 26 => ("TavernBenchModel", "isVisited", "[Z", true)
  | 27 => ("TavernBenchModel", "visits", "I", false)
  | 28 => ("TavernBenchModel", "refused", "I", false)
  | 29 => ("TavernBenchModel", "seed", "J", false)
  | 30 => ("TavernBenchModel", "part", "[J", true)
  | _ => ("TavernBenchModel", "rest", "[J", true)
def tyX6 : Nat → FieldType := fun k => match k with
  | 0 => .int
  | 1 => .array .int
  | 2 => .int
  | 3 => .array .int
  | 4 => .array .int
  | 5 => .array .int
  | 6 => .array .int
  | 7 => .array .int
  | 8 => .int
  | 9 => .int
  | 10 => .int
  | 11 => .array .int
  | 12 => .array .int
  | 13 => .array .int
  | 14 => .int
  | 15 => .array .int
  | 16 => .array .int
  | 17 => .array .int
  | 18 => .array .int
  | 19 => .array .int
  | 20 => .array .int
  | 21 => .array .int
  | 22 => .array .int
  | 23 => .array .int
  | 24 => .array .int
  | 25 => .array .int
  | 26 => .array .boolean
  | 27 => .int
  | 28 => .int
  | 29 => .long
  | 30 => .array .long
  | _ => .array .long
abbrev wsX60 : List Cond := u_ws RX6 TX6 32
theorem nmX6 : ∀ a, a < 32 → ∀ b, b < 32 → a ≠ b → (TX6 a).2.1 ≠ (TX6 b).2.1 := by decide +kernel
theorem tyX6_ok : ∀ k, k < 32 → parseFieldDescriptor (TX6 k).2.2.1 = some (tyX6 k) := by decide +kernel
abbrev cX6_init : ByteArray := prog_8_method_1_code
def yX6_init : MethodName := ⟨RX6, "<init>", "()V"⟩
abbrev cX6_in : ByteArray := prog_8_method_2_code
def yX6_in : MethodName := ⟨RX6, "in", "(III)Z"⟩
abbrev cX6_isDay : ByteArray := prog_8_method_3_code
def yX6_isDay : MethodName := ⟨RX6, "isDay", "(I)Z"⟩
abbrev cX6_isFeast : ByteArray := prog_8_method_4_code
def yX6_isFeast : MethodName := ⟨RX6, "isFeast", "(I)Z"⟩
abbrev cX6_feast : ByteArray := prog_8_method_5_code
def yX6_feast : MethodName := ⟨RX6, "feast", "(I)I"⟩
abbrev cX6_law : ByteArray := prog_8_method_6_code
def yX6_law : MethodName := ⟨RX6, "law", "(IIIII)I"⟩
abbrev cX6_rule : ByteArray := prog_8_method_7_code
def yX6_rule : MethodName := ⟨RX6, "rule", "(II)I"⟩
abbrev cX6_isPlace : ByteArray := prog_8_method_8_code
def yX6_isPlace : MethodName := ⟨RX6, "isPlace", "(II)Z"⟩
abbrev cX6_objector : ByteArray := prog_8_method_9_code
def yX6_objector : MethodName := ⟨RX6, "objector", "(III)I"⟩
abbrev cX6_off : ByteArray := prog_8_method_10_code
def yX6_off : MethodName := ⟨RX6, "off", "(IIII)I"⟩
abbrev cX6_judged : ByteArray := prog_8_method_11_code
def yX6_judged : MethodName := ⟨RX6, "judged", "(IIII)I"⟩
abbrev cX6_ask : ByteArray := prog_8_method_12_code
def yX6_ask : MethodName := ⟨RX6, "ask", "(IIIIII)I"⟩
abbrev cX6_isHouse : ByteArray := prog_8_method_13_code
def yX6_isHouse : MethodName := ⟨RX6, "isHouse", "(I)Z"⟩
abbrev cX6_isTold : ByteArray := prog_8_method_14_code
def yX6_isTold : MethodName := ⟨RX6, "isTold", "(II)Z"⟩
abbrev cX6_event : ByteArray := prog_8_method_15_code
def yX6_event : MethodName := ⟨RX6, "event", "(IIII)I"⟩
abbrev cX6_worth : ByteArray := prog_8_method_16_code
def yX6_worth : MethodName := ⟨RX6, "worth", "(III)I"⟩
abbrev cX6_counts : ByteArray := prog_8_method_17_code
def yX6_counts : MethodName := ⟨RX6, "counts", "(III)Z"⟩
abbrev cX6_endedFrom : ByteArray := prog_8_method_18_code
def yX6_endedFrom : MethodName := ⟨RX6, "endedFrom", "(II)I"⟩
abbrev cX6_lapsedFrom : ByteArray := prog_8_method_19_code
def yX6_lapsedFrom : MethodName := ⟨RX6, "lapsedFrom", "(II)I"⟩
abbrev cX6_surplusFrom : ByteArray := prog_8_method_20_code
def yX6_surplusFrom : MethodName := ⟨RX6, "surplusFrom", "(II)I"⟩
abbrev cX6_stateOn : ByteArray := prog_8_method_21_code
def yX6_stateOn : MethodName := ⟨RX6, "stateOn", "(II)I"⟩
abbrev cX6_has : ByteArray := prog_8_method_22_code
def yX6_has : MethodName := ⟨RX6, "has", "(II)Z"⟩
abbrev cX6_condition : ByteArray := prog_8_method_23_code
def yX6_condition : MethodName := ⟨RX6, "condition", "(II)I"⟩
abbrev cX6_worthOn : ByteArray := prog_8_method_24_code
def yX6_worthOn : MethodName := ⟨RX6, "worthOn", "(II)I"⟩
abbrev cX6_on : ByteArray := prog_8_method_25_code
def yX6_on : MethodName := ⟨RX6, "on", "(III)I"⟩
abbrev cX6_lawOf : ByteArray := prog_8_method_26_code
def yX6_lawOf : MethodName := ⟨RX6, "lawOf", "(II)I"⟩
abbrev cX6_lawOn : ByteArray := prog_8_method_27_code
def yX6_lawOn : MethodName := ⟨RX6, "lawOn", "(III)I"⟩
abbrev cX6_isOpen : ByteArray := prog_8_method_28_code
def yX6_isOpen : MethodName := ⟨RX6, "isOpen", "(II)Z"⟩
abbrev cX6_may : ByteArray := prog_8_method_29_code
def yX6_may : MethodName := ⟨RX6, "may", "(IZZIII)Z"⟩
abbrev cX6_opens : ByteArray := prog_8_method_30_code
def yX6_opens : MethodName := ⟨RX6, "opens", "(IIII)I"⟩
abbrev cX6_open : ByteArray := prog_8_method_31_code
def yX6_open : MethodName := ⟨RX6, "open", "(III)I"⟩
abbrev cX6_minutes : ByteArray := prog_8_method_32_code
def yX6_minutes : MethodName := ⟨RX6, "minutes", "(II)I"⟩
abbrev cX6_owes : ByteArray := prog_8_method_33_code
def yX6_owes : MethodName := ⟨RX6, "owes", "(II)I"⟩
abbrev cX6_many : ByteArray := prog_8_method_34_code
def yX6_many : MethodName := ⟨RX6, "many", "(IZ)I"⟩
abbrev cX6_round : ByteArray := prog_8_method_35_code
def yX6_round : MethodName := ⟨RX6, "round", "()V"⟩
abbrev cX6_visit : ByteArray := prog_8_method_36_code
def yX6_visit : MethodName := ⟨RX6, "visit", "(I)I"⟩
abbrev cX6_seed : ByteArray := prog_8_method_37_code
def yX6_seed : MethodName := ⟨RX6, "seed", "(I)I"⟩
abbrev cX6_count : ByteArray := prog_8_method_38_code
def yX6_count : MethodName := ⟨RX6, "count", "(I)I"⟩
def RJx145de : String := "java/io/Serializable"
def TJx145de : u_T := fun k => match k with
  | _ => ("", "", "", false)
def tyJx145de : Nat → FieldType := fun k => match k with
  | _ => .int
abbrev wsJx145de0 : List Cond := u_ws RJx145de TJx145de 0
theorem nmJx145de : ∀ a, a < 0 → ∀ b, b < 0 → a ≠ b → (TJx145de a).2.1 ≠ (TJx145de b).2.1 := by decide +kernel
theorem tyJx145de_ok : ∀ k, k < 0 → parseFieldDescriptor (TJx145de k).2.2.1 = some (tyJx145de k) := by decide +kernel
def RJx8e188 : String := "java/lang/Cloneable"
def TJx8e188 : u_T := fun k => match k with
  | _ => ("", "", "", false)
def tyJx8e188 : Nat → FieldType := fun k => match k with
  | _ => .int
abbrev wsJx8e1880 : List Cond := u_ws RJx8e188 TJx8e188 0
theorem nmJx8e188 : ∀ a, a < 0 → ∀ b, b < 0 → a ≠ b → (TJx8e188 a).2.1 ≠ (TJx8e188 b).2.1 := by decide +kernel
theorem tyJx8e188_ok : ∀ k, k < 0 → parseFieldDescriptor (TJx8e188 k).2.2.1 = some (tyJx8e188 k) := by decide +kernel
def RJxab1ab : String := "java/lang/Iterable"
def TJxab1ab : u_T := fun k => match k with
  | _ => ("", "", "", false)
def tyJxab1ab : Nat → FieldType := fun k => match k with
  | _ => .int
abbrev wsJxab1ab0 : List Cond := u_ws RJxab1ab TJxab1ab 0
theorem nmJxab1ab : ∀ a, a < 0 → ∀ b, b < 0 → a ≠ b → (TJxab1ab a).2.1 ≠ (TJxab1ab b).2.1 := by decide +kernel
theorem tyJxab1ab_ok : ∀ k, k < 0 → parseFieldDescriptor (TJxab1ab k).2.2.1 = some (tyJxab1ab k) := by decide +kernel
def RJ9 : String := "java/lang/Math"
def TJ9 : u_T := fun k => match k with
  | _ => ("", "", "", false)
def tyJ9 : Nat → FieldType := fun k => match k with
  | _ => .int
abbrev wsJ90 : List Cond := u_ws RJ9 TJ9 0
theorem nmJ9 : ∀ a, a < 0 → ∀ b, b < 0 → a ≠ b → (TJ9 a).2.1 ≠ (TJ9 b).2.1 := by decide +kernel
theorem tyJ9_ok : ∀ k, k < 0 → parseFieldDescriptor (TJ9 k).2.2.1 = some (tyJ9 k) := by decide +kernel
abbrev cJ9_max_7cf53 : ByteArray := prog_12_method_65_code
def yJ9_max_7cf53 : MethodName := ⟨RJ9, "max", "(II)I"⟩
abbrev cJ9_min_7cf53 : ByteArray := prog_12_method_69_code
def yJ9_min_7cf53 : MethodName := ⟨RJ9, "min", "(II)I"⟩
def RJ10 : String := "java/lang/System"
def TJ10 : u_T := fun k => match k with
  | _ => ("", "", "", false)
def tyJ10 : Nat → FieldType := fun k => match k with
  | _ => .int
abbrev wsJ100 : List Cond := u_ws RJ10 TJ10 0
theorem nmJ10 : ∀ a, a < 0 → ∀ b, b < 0 → a ≠ b → (TJ10 a).2.1 ≠ (TJ10 b).2.1 := by decide +kernel
theorem tyJ10_ok : ∀ k, k < 0 → parseFieldDescriptor (TJ10 k).2.2.1 = some (tyJ10 k) := by decide +kernel
def RJxa1e45 : String := "java/util/AbstractCollection"
def TJxa1e45 : u_T := fun k => match k with
  | _ => ("", "", "", false)
def tyJxa1e45 : Nat → FieldType := fun k => match k with
  | _ => .int
abbrev wsJxa1e450 : List Cond := u_ws RJxa1e45 TJxa1e45 0
theorem nmJxa1e45 : ∀ a, a < 0 → ∀ b, b < 0 → a ≠ b → (TJxa1e45 a).2.1 ≠ (TJxa1e45 b).2.1 := by decide +kernel
theorem tyJxa1e45_ok : ∀ k, k < 0 → parseFieldDescriptor (TJxa1e45 k).2.2.1 = some (tyJxa1e45 k) := by decide +kernel
abbrev cJxa1e45_init_da8c8 : ByteArray := prog_14_method_1_code
def yJxa1e45_init_da8c8 : MethodName := ⟨RJxa1e45, "<init>", "()V"⟩
def RJxc12de : String := "java/util/AbstractList"
def TJxc12de : u_T := fun k => match k with
  | _ => ("", "", "", false)
def tyJxc12de : Nat → FieldType := fun k => match k with
  | _ => .int
abbrev wsJxc12de0 : List Cond := u_ws RJxc12de TJxc12de 0
theorem nmJxc12de : ∀ a, a < 0 → ∀ b, b < 0 → a ≠ b → (TJxc12de a).2.1 ≠ (TJxc12de b).2.1 := by decide +kernel
theorem tyJxc12de_ok : ∀ k, k < 0 → parseFieldDescriptor (TJxc12de k).2.2.1 = some (tyJxc12de k) := by decide +kernel
abbrev cJxc12de_init_da8c8 : ByteArray := prog_15_method_1_code
def yJxc12de_init_da8c8 : MethodName := ⟨RJxc12de, "<init>", "()V"⟩
def RJx4a65c : String := "java/util/ArrayList"
def TJx4a65c : u_T := fun k => match k with
  | 0 => ("java/util/AbstractList", "modCount", "I", false)
  | 1 => ("java/util/ArrayList", "elementData", "[Ljava/lang/Object;", false)
  | _ => ("java/util/ArrayList", "size", "I", false)
def tyJx4a65c : Nat → FieldType := fun k => match k with
  | 0 => .int
  | 1 => .array (.object "java/lang/Object")
  | _ => .int
abbrev wsJx4a65c0 : List Cond := u_ws RJx4a65c TJx4a65c 3
theorem nmJx4a65c : ∀ a, a < 3 → ∀ b, b < 3 → a ≠ b → (TJx4a65c a).2.1 ≠ (TJx4a65c b).2.1 := by decide +kernel
theorem tyJx4a65c_ok : ∀ k, k < 3 → parseFieldDescriptor (TJx4a65c k).2.2.1 = some (tyJx4a65c k) := by decide +kernel
abbrev cJx4a65c_init_da8c8 : ByteArray := prog_16_method_2_code
def yJx4a65c_init_da8c8 : MethodName := ⟨RJx4a65c, "<init>", "()V"⟩
abbrev cJx4a65c_grow_92f84 : ByteArray := prog_16_method_6_code
def yJx4a65c_grow_92f84 : MethodName := ⟨RJx4a65c, "grow", "(I)[Ljava/lang/Object;"⟩
abbrev cJx4a65c_grow_d5877 : ByteArray := prog_16_method_7_code
def yJx4a65c_grow_d5877 : MethodName := ⟨RJx4a65c, "grow", "()[Ljava/lang/Object;"⟩
abbrev cJx4a65c_size_8abf5 : ByteArray := prog_16_method_8_code
def yJx4a65c_size_8abf5 : MethodName := ⟨RJx4a65c, "size", "()I"⟩
abbrev cJx4a65c_isEmpty_aae02 : ByteArray := prog_16_method_9_code
def yJx4a65c_isEmpty_aae02 : MethodName := ⟨RJx4a65c, "isEmpty", "()Z"⟩
abbrev cJx4a65c_elementData_915e3 : ByteArray := prog_16_method_18_code
def yJx4a65c_elementData_915e3 : MethodName := ⟨RJx4a65c, "elementData", "(I)Ljava/lang/Object;"⟩
abbrev cJx4a65c_get_915e3 : ByteArray := prog_16_method_20_code
def yJx4a65c_get_915e3 : MethodName := ⟨RJx4a65c, "get", "(I)Ljava/lang/Object;"⟩
abbrev cJx4a65c_add_72be8 : ByteArray := prog_16_method_24_code
def yJx4a65c_add_72be8 : MethodName := ⟨RJx4a65c, "add", "(Ljava/lang/Object;[Ljava/lang/Object;I)V"⟩
abbrev cJx4a65c_add_9ea2d : ByteArray := prog_16_method_25_code
def yJx4a65c_add_9ea2d : MethodName := ⟨RJx4a65c, "add", "(Ljava/lang/Object;)Z"⟩
def RJ7 : String := "java/util/Arrays"
def TJ7 : u_T := fun k => match k with
  | _ => ("", "", "", false)
def tyJ7 : Nat → FieldType := fun k => match k with
  | _ => .int
abbrev wsJ70 : List Cond := u_ws RJ7 TJ7 0
theorem nmJ7 : ∀ a, a < 0 → ∀ b, b < 0 → a ≠ b → (TJ7 a).2.1 ≠ (TJ7 b).2.1 := by decide +kernel
theorem tyJ7_ok : ∀ k, k < 0 → parseFieldDescriptor (TJ7 k).2.2.1 = some (tyJ7 k) := by decide +kernel
abbrev cJ7_copyOf_1904c : ByteArray := prog_17_method_119_code
def yJ7_copyOf_1904c : MethodName := ⟨RJ7, "copyOf", "([Ljava/lang/Object;I)[Ljava/lang/Object;"⟩
abbrev cJ7_copyOf_6403c : ByteArray := prog_17_method_120_code
def yJ7_copyOf_6403c : MethodName := ⟨RJ7, "copyOf", "([Ljava/lang/Object;ILjava/lang/Class;)[Ljava/lang/Object;"⟩
def RJx5ef63 : String := "java/util/Collection"
def TJx5ef63 : u_T := fun k => match k with
  | _ => ("", "", "", false)
def tyJx5ef63 : Nat → FieldType := fun k => match k with
  | _ => .int
abbrev wsJx5ef630 : List Cond := u_ws RJx5ef63 TJx5ef63 0
theorem nmJx5ef63 : ∀ a, a < 0 → ∀ b, b < 0 → a ≠ b → (TJx5ef63 a).2.1 ≠ (TJx5ef63 b).2.1 := by decide +kernel
theorem tyJx5ef63_ok : ∀ k, k < 0 → parseFieldDescriptor (TJx5ef63 k).2.2.1 = some (tyJx5ef63 k) := by decide +kernel
def RJxbd725 : String := "java/util/List"
def TJxbd725 : u_T := fun k => match k with
  | _ => ("", "", "", false)
def tyJxbd725 : Nat → FieldType := fun k => match k with
  | _ => .int
abbrev wsJxbd7250 : List Cond := u_ws RJxbd725 TJxbd725 0
theorem nmJxbd725 : ∀ a, a < 0 → ∀ b, b < 0 → a ≠ b → (TJxbd725 a).2.1 ≠ (TJxbd725 b).2.1 := by decide +kernel
theorem tyJxbd725_ok : ∀ k, k < 0 → parseFieldDescriptor (TJxbd725 k).2.2.1 = some (tyJxbd725 k) := by decide +kernel
def RJ15 : String := "java/util/Objects"
def TJ15 : u_T := fun k => match k with
  | _ => ("", "", "", false)
def tyJ15 : Nat → FieldType := fun k => match k with
  | _ => .int
abbrev wsJ150 : List Cond := u_ws RJ15 TJ15 0
theorem nmJ15 : ∀ a, a < 0 → ∀ b, b < 0 → a ≠ b → (TJ15 a).2.1 ≠ (TJ15 b).2.1 := by decide +kernel
theorem tyJ15_ok : ∀ k, k < 0 → parseFieldDescriptor (TJ15 k).2.2.1 = some (tyJ15 k) := by decide +kernel
abbrev cJ15_checkIndex_7cf53 : ByteArray := prog_20_method_17_code
def yJ15_checkIndex_7cf53 : MethodName := ⟨RJ15, "checkIndex", "(II)I"⟩
def RJxf0a74 : String := "java/util/RandomAccess"
def TJxf0a74 : u_T := fun k => match k with
  | _ => ("", "", "", false)
def tyJxf0a74 : Nat → FieldType := fun k => match k with
  | _ => .int
abbrev wsJxf0a740 : List Cond := u_ws RJxf0a74 TJxf0a74 0
theorem nmJxf0a74 : ∀ a, a < 0 → ∀ b, b < 0 → a ≠ b → (TJxf0a74 a).2.1 ≠ (TJxf0a74 b).2.1 := by decide +kernel
theorem tyJxf0a74_ok : ∀ k, k < 0 → parseFieldDescriptor (TJxf0a74 k).2.2.1 = some (tyJxf0a74 k) := by decide +kernel
def RJxa66e6 : String := "java/util/SequencedCollection"
def TJxa66e6 : u_T := fun k => match k with
  | _ => ("", "", "", false)
def tyJxa66e6 : Nat → FieldType := fun k => match k with
  | _ => .int
abbrev wsJxa66e60 : List Cond := u_ws RJxa66e6 TJxa66e6 0
theorem nmJxa66e6 : ∀ a, a < 0 → ∀ b, b < 0 → a ≠ b → (TJxa66e6 a).2.1 ≠ (TJxa66e6 b).2.1 := by decide +kernel
theorem tyJxa66e6_ok : ∀ k, k < 0 → parseFieldDescriptor (TJxa66e6 k).2.2.1 = some (tyJxa66e6 k) := by decide +kernel
def RJ8 : String := "jdk/internal/util/ArraysSupport"
def TJ8 : u_T := fun k => match k with
  | _ => ("", "", "", false)
def tyJ8 : Nat → FieldType := fun k => match k with
  | _ => .int
abbrev wsJ80 : List Cond := u_ws RJ8 TJ8 0
theorem nmJ8 : ∀ a, a < 0 → ∀ b, b < 0 → a ≠ b → (TJ8 a).2.1 ≠ (TJ8 b).2.1 := by decide +kernel
theorem tyJ8_ok : ∀ k, k < 0 → parseFieldDescriptor (TJ8 k).2.2.1 = some (tyJ8 k) := by decide +kernel
abbrev cJ8_newLength_cabcc : ByteArray := prog_23_method_27_code
def yJ8_newLength_cabcc : MethodName := ⟨RJ8, "newLength", "(III)I"⟩
abbrev cJ8_hugeLength_7cf53 : ByteArray := prog_23_method_28_code
def yJ8_hugeLength_7cf53 : MethodName := ⟨RJ8, "hugeLength", "(II)I"⟩
def RJ3 : String := "jdk/internal/util/Preconditions"
def TJ3 : u_T := fun k => match k with
  | _ => ("", "", "", false)
def tyJ3 : Nat → FieldType := fun k => match k with
  | _ => .int
abbrev wsJ30 : List Cond := u_ws RJ3 TJ3 0
theorem nmJ3 : ∀ a, a < 0 → ∀ b, b < 0 → a ≠ b → (TJ3 a).2.1 ≠ (TJ3 b).2.1 := by decide +kernel
theorem tyJ3_ok : ∀ k, k < 0 → parseFieldDescriptor (TJ3 k).2.2.1 = some (tyJ3 k) := by decide +kernel
abbrev cJ3_checkIndex_8e157 : ByteArray := prog_24_method_11_code
def yJ3_checkIndex_8e157 : MethodName := ⟨RJ3, "checkIndex", "(IILjava/util/function/BiFunction;)I"⟩
def RL : String := "TavernBenchLaw"
abbrev cL_law : ByteArray := code
def yL_law : MethodName := ⟨RL, "law", "([I)Z"⟩
def wsX0_init : List Cond := .code yX0_init cX0_init 4 none :: ([.methodLink RX0 3 objectInit, .instanceMethod objectInit, .code objectInit ⟨#[0xb1]⟩ 1 none, .fieldLink RX0 9 "TavernBench$Event" "day" "I", .fieldLink RX0 15 "TavernBench$Event" "kind" "I", .fieldLink RX0 18 "TavernBench$Event" "v" "I", .constant RX0 21 (1000000), .fieldLink RX0 22 "TavernBench$Event" "quashedFrom" "I"] ++ wsX00)
def wsJxa1e45_init_da8c8 : List Cond := .code yJxa1e45_init_da8c8 cJxa1e45_init_da8c8 1 none :: ([.methodLink RJxa1e45 1 objectInit, .instanceMethod objectInit, .code objectInit ⟨#[0xb1]⟩ 1 none])
def wsJxc12de_init_da8c8 : List Cond := .code yJxc12de_init_da8c8 cJxc12de_init_da8c8 1 none :: ([.fieldLink RJxc12de 7 "java/util/AbstractList" "modCount" "I", .methodLink RJxc12de 1 yJxa1e45_init_da8c8, .instanceMethod yJxa1e45_init_da8c8, .initialized RJxa1e45, .code yJxa1e45_init_da8c8 cJxa1e45_init_da8c8 1 none, .methodLink RJxa1e45 1 objectInit, .instanceMethod objectInit, .code objectInit ⟨#[0xb1]⟩ 1 none] ++ wsJx4a65c0)
def wsJx4a65c_init_da8c8 : List Cond := .code yJx4a65c_init_da8c8 cJx4a65c_init_da8c8 1 none :: ([.fieldLink RJx4a65c 39 "java/util/ArrayList" "DEFAULTCAPACITY_EMPTY_ELEMENTDATA" "[Ljava/lang/Object;", .fieldLink RJx4a65c 9 "java/util/ArrayList" "elementData" "[Ljava/lang/Object;", .methodLink RJx4a65c 1 yJxc12de_init_da8c8, .instanceMethod yJxc12de_init_da8c8, .initialized RJxc12de, .code yJxc12de_init_da8c8 cJxc12de_init_da8c8 1 none, .fieldLink RJxc12de 7 "java/util/AbstractList" "modCount" "I", .methodLink RJxc12de 1 yJxa1e45_init_da8c8, .instanceMethod yJxa1e45_init_da8c8, .initialized RJxa1e45, .code yJxa1e45_init_da8c8 cJxa1e45_init_da8c8 1 none, .methodLink RJxa1e45 1 objectInit, .instanceMethod objectInit, .code objectInit ⟨#[0xb1]⟩ 1 none] ++ wsJx4a65c0)
def wsX4_init : List Cond := .code yX4_init cX4_init 3 none :: ([.methodLink RX4 1 objectInit, .instanceMethod objectInit, .code objectInit ⟨#[0xb1]⟩ 1 none, .fieldLink RX4 7 "TavernBench$Worth" "day" "I", .fieldLink RX4 13 "TavernBench$Worth" "amount" "I"] ++ wsX40)
def wsJ8_hugeLength_7cf53 : List Cond := .code yJ8_hugeLength_7cf53 cJ8_hugeLength_7cf53 3 (some .int) :: ([.constant RJ8 200 (2147483639)])
def wsJ8_newLength_cabcc : List Cond := .code yJ8_newLength_cabcc cJ8_newLength_cabcc 4 (some .int) :: ([.methodLink RJ8 194 Lib.Math.max.name, .static Lib.Math.max.name, .initialized "java/lang/Math", .code Lib.Math.max.name Lib.Math.max.code 2 (some .int), .constant RJ8 200 (2147483639), .methodLink RJ8 201 yJ8_hugeLength_7cf53, .static yJ8_hugeLength_7cf53, .initialized RJ8, .code yJ8_hugeLength_7cf53 cJ8_hugeLength_7cf53 3 (some .int)])
def wsJ7_copyOf_6403c : List Cond := .code yJ7_copyOf_6403c cJ7_copyOf_6403c 4 (some (.array (.object "java/lang/Object"))) :: ([.classLink RJ7 110 "[Ljava/lang/Object;", .classLink RJ7 2 "java/lang/Object", .methodLink RJ7 304 Lib.Math.min.name, .static Lib.Math.min.name, .initialized "java/lang/Math", .code Lib.Math.min.name Lib.Math.min.code 2 (some .int), .methodLink RJ7 150 arraycopyName, .native arraycopyName, .static arraycopyName, .initialized "java/lang/System"])
def wsJ7_copyOf_1904c : List Cond := .code yJ7_copyOf_1904c cJ7_copyOf_1904c 2 (some (.array (.object "java/lang/Object"))) :: ([.methodLink RJ7 86 ⟨"java/lang/Object", "getClass", "()Ljava/lang/Class;"⟩, .selects "[Ljava/lang/Object;" ⟨"java/lang/Object", "getClass", "()Ljava/lang/Class;"⟩ ⟨"java/lang/Object", "getClass", "()Ljava/lang/Class;"⟩, .instanceMethod ⟨"java/lang/Object", "getClass", "()Ljava/lang/Class;"⟩, .native ⟨"java/lang/Object", "getClass", "()Ljava/lang/Class;"⟩, .methodLink RJ7 300 yJ7_copyOf_6403c, .static yJ7_copyOf_6403c, .initialized RJ7, .code yJ7_copyOf_6403c cJ7_copyOf_6403c 4 (some (.array (.object "java/lang/Object"))), .classLink RJ7 110 "[Ljava/lang/Object;", .classLink RJ7 2 "java/lang/Object", .methodLink RJ7 304 Lib.Math.min.name, .static Lib.Math.min.name, .initialized "java/lang/Math", .code Lib.Math.min.name Lib.Math.min.code 2 (some .int), .methodLink RJ7 150 arraycopyName, .native arraycopyName, .static arraycopyName, .initialized "java/lang/System"])
def wsJx4a65c_grow_92f84_r1 : List Cond := [Cond.fieldLink RJx4a65c 9 "java/util/ArrayList" "elementData" "[Ljava/lang/Object;", Cond.fieldLink RJx4a65c 39 "java/util/ArrayList" "DEFAULTCAPACITY_EMPTY_ELEMENTDATA" "[Ljava/lang/Object;", Cond.methodLink RJx4a65c 79 Lib.Math.max.name, Cond.static Lib.Math.max.name, Cond.initialized "java/lang/Math", Cond.code Lib.Math.max.name Lib.Math.max.code 2 (some .int), Cond.classLink RJx4a65c 7 "java/lang/Object", Cond.methodLink RJx4a65c 73 yJ8_newLength_cabcc, Cond.static yJ8_newLength_cabcc, Cond.initialized RJ8, Cond.code yJ8_newLength_cabcc cJ8_newLength_cabcc 4 (some .int), Cond.methodLink RJ8 194 Lib.Math.max.name, Cond.constant RJ8 200 (2147483639), Cond.methodLink RJ8 201 yJ8_hugeLength_7cf53, Cond.static yJ8_hugeLength_7cf53, Cond.code yJ8_hugeLength_7cf53 cJ8_hugeLength_7cf53 3 (some .int), Cond.methodLink RJx4a65c 66 yJ7_copyOf_1904c, Cond.static yJ7_copyOf_1904c, Cond.initialized RJ7, Cond.code yJ7_copyOf_1904c cJ7_copyOf_1904c 2 (some (.array (.object "java/lang/Object"))), Cond.methodLink RJ7 86 ⟨"java/lang/Object", "getClass", "()Ljava/lang/Class;"⟩, Cond.selects "[Ljava/lang/Object;" ⟨"java/lang/Object", "getClass", "()Ljava/lang/Class;"⟩ ⟨"java/lang/Object", "getClass", "()Ljava/lang/Class;"⟩, Cond.instanceMethod ⟨"java/lang/Object", "getClass", "()Ljava/lang/Class;"⟩, Cond.native ⟨"java/lang/Object", "getClass", "()Ljava/lang/Class;"⟩]
def wsJx4a65c_grow_92f84_r2 : List Cond := [Cond.methodLink RJ7 300 yJ7_copyOf_6403c, Cond.static yJ7_copyOf_6403c, Cond.code yJ7_copyOf_6403c cJ7_copyOf_6403c 4 (some (.array (.object "java/lang/Object"))), Cond.classLink RJ7 110 "[Ljava/lang/Object;", Cond.classLink RJ7 2 "java/lang/Object", Cond.methodLink RJ7 304 Lib.Math.min.name, Cond.static Lib.Math.min.name, Cond.code Lib.Math.min.name Lib.Math.min.code 2 (some .int), Cond.methodLink RJ7 150 arraycopyName, Cond.native arraycopyName, Cond.static arraycopyName, Cond.initialized "java/lang/System"]
def wsJx4a65c_grow_92f84 : List Cond := .code yJx4a65c_grow_92f84 cJx4a65c_grow_92f84 4 (some (.array (.object "java/lang/Object"))) :: ((wsJx4a65c_grow_92f84_r1 ++ wsJx4a65c_grow_92f84_r2) ++ wsJx4a65c0)
def wsJx4a65c_grow_d5877_r1 : List Cond := [Cond.fieldLink RJx4a65c 48 "java/util/ArrayList" "size" "I", Cond.methodLink RJx4a65c 69 yJx4a65c_grow_92f84, Cond.instanceMethod yJx4a65c_grow_92f84, Cond.selects RJx4a65c yJx4a65c_grow_92f84 yJx4a65c_grow_92f84, Cond.initialized RJx4a65c, Cond.code yJx4a65c_grow_92f84 cJx4a65c_grow_92f84 4 (some (.array (.object "java/lang/Object"))), Cond.fieldLink RJx4a65c 9 "java/util/ArrayList" "elementData" "[Ljava/lang/Object;", Cond.fieldLink RJx4a65c 39 "java/util/ArrayList" "DEFAULTCAPACITY_EMPTY_ELEMENTDATA" "[Ljava/lang/Object;", Cond.methodLink RJx4a65c 79 Lib.Math.max.name, Cond.static Lib.Math.max.name, Cond.initialized "java/lang/Math", Cond.code Lib.Math.max.name Lib.Math.max.code 2 (some .int), Cond.classLink RJx4a65c 7 "java/lang/Object", Cond.methodLink RJx4a65c 73 yJ8_newLength_cabcc, Cond.static yJ8_newLength_cabcc, Cond.initialized RJ8, Cond.code yJ8_newLength_cabcc cJ8_newLength_cabcc 4 (some .int), Cond.methodLink RJ8 194 Lib.Math.max.name, Cond.constant RJ8 200 (2147483639), Cond.methodLink RJ8 201 yJ8_hugeLength_7cf53, Cond.static yJ8_hugeLength_7cf53, Cond.code yJ8_hugeLength_7cf53 cJ8_hugeLength_7cf53 3 (some .int), Cond.methodLink RJx4a65c 66 yJ7_copyOf_1904c, Cond.static yJ7_copyOf_1904c]
def wsJx4a65c_grow_d5877_r2 : List Cond := [Cond.initialized RJ7, Cond.code yJ7_copyOf_1904c cJ7_copyOf_1904c 2 (some (.array (.object "java/lang/Object"))), Cond.methodLink RJ7 86 ⟨"java/lang/Object", "getClass", "()Ljava/lang/Class;"⟩, Cond.selects "[Ljava/lang/Object;" ⟨"java/lang/Object", "getClass", "()Ljava/lang/Class;"⟩ ⟨"java/lang/Object", "getClass", "()Ljava/lang/Class;"⟩, Cond.instanceMethod ⟨"java/lang/Object", "getClass", "()Ljava/lang/Class;"⟩, Cond.native ⟨"java/lang/Object", "getClass", "()Ljava/lang/Class;"⟩, Cond.methodLink RJ7 300 yJ7_copyOf_6403c, Cond.static yJ7_copyOf_6403c, Cond.code yJ7_copyOf_6403c cJ7_copyOf_6403c 4 (some (.array (.object "java/lang/Object"))), Cond.classLink RJ7 110 "[Ljava/lang/Object;", Cond.classLink RJ7 2 "java/lang/Object", Cond.methodLink RJ7 304 Lib.Math.min.name, Cond.static Lib.Math.min.name, Cond.code Lib.Math.min.name Lib.Math.min.code 2 (some .int), Cond.methodLink RJ7 150 arraycopyName, Cond.native arraycopyName, Cond.static arraycopyName, Cond.initialized "java/lang/System"]
def wsJx4a65c_grow_d5877 : List Cond := .code yJx4a65c_grow_d5877 cJx4a65c_grow_d5877 1 (some (.array (.object "java/lang/Object"))) :: ((wsJx4a65c_grow_d5877_r1 ++ wsJx4a65c_grow_d5877_r2) ++ wsJx4a65c0)
def wsJx4a65c_add_72be8_r1 : List Cond := [Cond.fieldLink RJx4a65c 48 "java/util/ArrayList" "size" "I", Cond.methodLink RJx4a65c 129 yJx4a65c_grow_d5877, Cond.instanceMethod yJx4a65c_grow_d5877, Cond.selects RJx4a65c yJx4a65c_grow_d5877 yJx4a65c_grow_d5877, Cond.initialized RJx4a65c, Cond.code yJx4a65c_grow_d5877 cJx4a65c_grow_d5877 1 (some (.array (.object "java/lang/Object"))), Cond.methodLink RJx4a65c 69 yJx4a65c_grow_92f84, Cond.instanceMethod yJx4a65c_grow_92f84, Cond.selects RJx4a65c yJx4a65c_grow_92f84 yJx4a65c_grow_92f84, Cond.code yJx4a65c_grow_92f84 cJx4a65c_grow_92f84 4 (some (.array (.object "java/lang/Object"))), Cond.fieldLink RJx4a65c 9 "java/util/ArrayList" "elementData" "[Ljava/lang/Object;", Cond.fieldLink RJx4a65c 39 "java/util/ArrayList" "DEFAULTCAPACITY_EMPTY_ELEMENTDATA" "[Ljava/lang/Object;", Cond.methodLink RJx4a65c 79 Lib.Math.max.name, Cond.static Lib.Math.max.name, Cond.initialized "java/lang/Math", Cond.code Lib.Math.max.name Lib.Math.max.code 2 (some .int), Cond.classLink RJx4a65c 7 "java/lang/Object", Cond.methodLink RJx4a65c 73 yJ8_newLength_cabcc, Cond.static yJ8_newLength_cabcc, Cond.initialized RJ8, Cond.code yJ8_newLength_cabcc cJ8_newLength_cabcc 4 (some .int), Cond.methodLink RJ8 194 Lib.Math.max.name, Cond.constant RJ8 200 (2147483639), Cond.methodLink RJ8 201 yJ8_hugeLength_7cf53]
def wsJx4a65c_add_72be8_r2 : List Cond := [Cond.static yJ8_hugeLength_7cf53, Cond.code yJ8_hugeLength_7cf53 cJ8_hugeLength_7cf53 3 (some .int), Cond.methodLink RJx4a65c 66 yJ7_copyOf_1904c, Cond.static yJ7_copyOf_1904c, Cond.initialized RJ7, Cond.code yJ7_copyOf_1904c cJ7_copyOf_1904c 2 (some (.array (.object "java/lang/Object"))), Cond.methodLink RJ7 86 ⟨"java/lang/Object", "getClass", "()Ljava/lang/Class;"⟩, Cond.selects "[Ljava/lang/Object;" ⟨"java/lang/Object", "getClass", "()Ljava/lang/Class;"⟩ ⟨"java/lang/Object", "getClass", "()Ljava/lang/Class;"⟩, Cond.instanceMethod ⟨"java/lang/Object", "getClass", "()Ljava/lang/Class;"⟩, Cond.native ⟨"java/lang/Object", "getClass", "()Ljava/lang/Class;"⟩, Cond.methodLink RJ7 300 yJ7_copyOf_6403c, Cond.static yJ7_copyOf_6403c, Cond.code yJ7_copyOf_6403c cJ7_copyOf_6403c 4 (some (.array (.object "java/lang/Object"))), Cond.classLink RJ7 110 "[Ljava/lang/Object;", Cond.classLink RJ7 2 "java/lang/Object", Cond.methodLink RJ7 304 Lib.Math.min.name, Cond.static Lib.Math.min.name, Cond.code Lib.Math.min.name Lib.Math.min.code 2 (some .int), Cond.methodLink RJ7 150 arraycopyName, Cond.native arraycopyName, Cond.static arraycopyName, Cond.initialized "java/lang/System"]
def wsJx4a65c_add_72be8 : List Cond := .code yJx4a65c_add_72be8 cJx4a65c_add_72be8 4 none :: ((wsJx4a65c_add_72be8_r1 ++ wsJx4a65c_add_72be8_r2) ++ wsJx4a65c0)
def wsJx4a65c_add_9ea2d_r1 : List Cond := [Cond.fieldLink RJx4a65c 63 "java/util/ArrayList" "modCount" "I", Cond.sameField "java/util/ArrayList" "java/util/AbstractList" "modCount" "I", Cond.fieldLink RJx4a65c 9 "java/util/ArrayList" "elementData" "[Ljava/lang/Object;", Cond.fieldLink RJx4a65c 48 "java/util/ArrayList" "size" "I", Cond.methodLink RJx4a65c 131 yJx4a65c_add_72be8, Cond.instanceMethod yJx4a65c_add_72be8, Cond.selects RJx4a65c yJx4a65c_add_72be8 yJx4a65c_add_72be8, Cond.initialized RJx4a65c, Cond.code yJx4a65c_add_72be8 cJx4a65c_add_72be8 4 none, Cond.methodLink RJx4a65c 129 yJx4a65c_grow_d5877, Cond.instanceMethod yJx4a65c_grow_d5877, Cond.selects RJx4a65c yJx4a65c_grow_d5877 yJx4a65c_grow_d5877, Cond.code yJx4a65c_grow_d5877 cJx4a65c_grow_d5877 1 (some (.array (.object "java/lang/Object"))), Cond.methodLink RJx4a65c 69 yJx4a65c_grow_92f84, Cond.instanceMethod yJx4a65c_grow_92f84, Cond.selects RJx4a65c yJx4a65c_grow_92f84 yJx4a65c_grow_92f84, Cond.code yJx4a65c_grow_92f84 cJx4a65c_grow_92f84 4 (some (.array (.object "java/lang/Object"))), Cond.fieldLink RJx4a65c 39 "java/util/ArrayList" "DEFAULTCAPACITY_EMPTY_ELEMENTDATA" "[Ljava/lang/Object;", Cond.methodLink RJx4a65c 79 Lib.Math.max.name, Cond.static Lib.Math.max.name, Cond.initialized "java/lang/Math", Cond.code Lib.Math.max.name Lib.Math.max.code 2 (some .int), Cond.classLink RJx4a65c 7 "java/lang/Object", Cond.methodLink RJx4a65c 73 yJ8_newLength_cabcc]
def wsJx4a65c_add_9ea2d_r2 : List Cond := [Cond.static yJ8_newLength_cabcc, Cond.initialized RJ8, Cond.code yJ8_newLength_cabcc cJ8_newLength_cabcc 4 (some .int), Cond.methodLink RJ8 194 Lib.Math.max.name, Cond.constant RJ8 200 (2147483639), Cond.methodLink RJ8 201 yJ8_hugeLength_7cf53, Cond.static yJ8_hugeLength_7cf53, Cond.code yJ8_hugeLength_7cf53 cJ8_hugeLength_7cf53 3 (some .int), Cond.methodLink RJx4a65c 66 yJ7_copyOf_1904c, Cond.static yJ7_copyOf_1904c, Cond.initialized RJ7, Cond.code yJ7_copyOf_1904c cJ7_copyOf_1904c 2 (some (.array (.object "java/lang/Object"))), Cond.methodLink RJ7 86 ⟨"java/lang/Object", "getClass", "()Ljava/lang/Class;"⟩, Cond.selects "[Ljava/lang/Object;" ⟨"java/lang/Object", "getClass", "()Ljava/lang/Class;"⟩ ⟨"java/lang/Object", "getClass", "()Ljava/lang/Class;"⟩, Cond.instanceMethod ⟨"java/lang/Object", "getClass", "()Ljava/lang/Class;"⟩, Cond.native ⟨"java/lang/Object", "getClass", "()Ljava/lang/Class;"⟩, Cond.methodLink RJ7 300 yJ7_copyOf_6403c, Cond.static yJ7_copyOf_6403c, Cond.code yJ7_copyOf_6403c cJ7_copyOf_6403c 4 (some (.array (.object "java/lang/Object"))), Cond.classLink RJ7 110 "[Ljava/lang/Object;", Cond.classLink RJ7 2 "java/lang/Object", Cond.methodLink RJ7 304 Lib.Math.min.name, Cond.static Lib.Math.min.name, Cond.code Lib.Math.min.name Lib.Math.min.code 2 (some .int)]
def wsJx4a65c_add_9ea2d_r3 : List Cond := [Cond.methodLink RJ7 150 arraycopyName, Cond.native arraycopyName, Cond.static arraycopyName, Cond.initialized "java/lang/System"]
def wsJx4a65c_add_9ea2d : List Cond := .code yJx4a65c_add_9ea2d cJx4a65c_add_9ea2d 2 (some .boolean) :: ((wsJx4a65c_add_9ea2d_r1 ++ (wsJx4a65c_add_9ea2d_r2 ++ wsJx4a65c_add_9ea2d_r3)) ++ wsJx4a65c0)
def wsX1_init_r1 : List Cond := [Cond.methodLink RX1 3 objectInit, Cond.instanceMethod objectInit, Cond.code objectInit ⟨#[0xb1]⟩ 1 none, Cond.fieldLink RX1 9 "TavernBench$House" "x" "I", Cond.fieldLink RX1 15 "TavernBench$House" "y" "I", Cond.fieldLink RX1 18 "TavernBench$House" "kind" "I", Cond.fieldLink RX1 21 "TavernBench$House" "granted" "I", Cond.classLink RX1 24 RJx4a65c, Cond.instantiable RJx4a65c 3, Cond.initialized RJx4a65c, Cond.fieldLink RX1 27 "TavernBench$House" "events" "Ljava/util/ArrayList;", Cond.fieldLink RX1 31 "TavernBench$House" "worths" "Ljava/util/ArrayList;", Cond.classLink RX1 34 RX4, Cond.instantiable RX4 2, Cond.initialized RX4, Cond.methodLink RX1 26 yJx4a65c_init_da8c8, Cond.instanceMethod yJx4a65c_init_da8c8, Cond.code yJx4a65c_init_da8c8 cJx4a65c_init_da8c8 1 none, Cond.fieldLink RJx4a65c 39 "java/util/ArrayList" "DEFAULTCAPACITY_EMPTY_ELEMENTDATA" "[Ljava/lang/Object;", Cond.fieldLink RJx4a65c 9 "java/util/ArrayList" "elementData" "[Ljava/lang/Object;", Cond.methodLink RJx4a65c 1 yJxc12de_init_da8c8, Cond.instanceMethod yJxc12de_init_da8c8, Cond.initialized RJxc12de, Cond.code yJxc12de_init_da8c8 cJxc12de_init_da8c8 1 none]
def wsX1_init_r2 : List Cond := [Cond.fieldLink RJxc12de 7 "java/util/AbstractList" "modCount" "I", Cond.methodLink RJxc12de 1 yJxa1e45_init_da8c8, Cond.instanceMethod yJxa1e45_init_da8c8, Cond.initialized RJxa1e45, Cond.code yJxa1e45_init_da8c8 cJxa1e45_init_da8c8 1 none, Cond.methodLink RJxa1e45 1 objectInit, Cond.methodLink RX1 36 yX4_init, Cond.instanceMethod yX4_init, Cond.code yX4_init cX4_init 3 none, Cond.methodLink RX4 1 objectInit, Cond.fieldLink RX4 7 "TavernBench$Worth" "day" "I", Cond.fieldLink RX4 13 "TavernBench$Worth" "amount" "I", Cond.methodLink RX1 39 yJx4a65c_add_9ea2d, Cond.instanceMethod yJx4a65c_add_9ea2d, Cond.selects RJx4a65c yJx4a65c_add_9ea2d yJx4a65c_add_9ea2d, Cond.code yJx4a65c_add_9ea2d cJx4a65c_add_9ea2d 2 (some .boolean), Cond.fieldLink RJx4a65c 63 "java/util/ArrayList" "modCount" "I", Cond.sameField "java/util/ArrayList" "java/util/AbstractList" "modCount" "I", Cond.fieldLink RJx4a65c 48 "java/util/ArrayList" "size" "I", Cond.methodLink RJx4a65c 131 yJx4a65c_add_72be8, Cond.instanceMethod yJx4a65c_add_72be8, Cond.selects RJx4a65c yJx4a65c_add_72be8 yJx4a65c_add_72be8, Cond.code yJx4a65c_add_72be8 cJx4a65c_add_72be8 4 none, Cond.methodLink RJx4a65c 129 yJx4a65c_grow_d5877]
def wsX1_init_r3 : List Cond := [Cond.instanceMethod yJx4a65c_grow_d5877, Cond.selects RJx4a65c yJx4a65c_grow_d5877 yJx4a65c_grow_d5877, Cond.code yJx4a65c_grow_d5877 cJx4a65c_grow_d5877 1 (some (.array (.object "java/lang/Object"))), Cond.methodLink RJx4a65c 69 yJx4a65c_grow_92f84, Cond.instanceMethod yJx4a65c_grow_92f84, Cond.selects RJx4a65c yJx4a65c_grow_92f84 yJx4a65c_grow_92f84, Cond.code yJx4a65c_grow_92f84 cJx4a65c_grow_92f84 4 (some (.array (.object "java/lang/Object"))), Cond.methodLink RJx4a65c 79 Lib.Math.max.name, Cond.static Lib.Math.max.name, Cond.initialized "java/lang/Math", Cond.code Lib.Math.max.name Lib.Math.max.code 2 (some .int), Cond.classLink RJx4a65c 7 "java/lang/Object", Cond.methodLink RJx4a65c 73 yJ8_newLength_cabcc, Cond.static yJ8_newLength_cabcc, Cond.initialized RJ8, Cond.code yJ8_newLength_cabcc cJ8_newLength_cabcc 4 (some .int), Cond.methodLink RJ8 194 Lib.Math.max.name, Cond.constant RJ8 200 (2147483639), Cond.methodLink RJ8 201 yJ8_hugeLength_7cf53, Cond.static yJ8_hugeLength_7cf53, Cond.code yJ8_hugeLength_7cf53 cJ8_hugeLength_7cf53 3 (some .int), Cond.methodLink RJx4a65c 66 yJ7_copyOf_1904c, Cond.static yJ7_copyOf_1904c, Cond.initialized RJ7]
def wsX1_init_r4 : List Cond := [Cond.code yJ7_copyOf_1904c cJ7_copyOf_1904c 2 (some (.array (.object "java/lang/Object"))), Cond.methodLink RJ7 86 ⟨"java/lang/Object", "getClass", "()Ljava/lang/Class;"⟩, Cond.selects "[Ljava/lang/Object;" ⟨"java/lang/Object", "getClass", "()Ljava/lang/Class;"⟩ ⟨"java/lang/Object", "getClass", "()Ljava/lang/Class;"⟩, Cond.instanceMethod ⟨"java/lang/Object", "getClass", "()Ljava/lang/Class;"⟩, Cond.native ⟨"java/lang/Object", "getClass", "()Ljava/lang/Class;"⟩, Cond.methodLink RJ7 300 yJ7_copyOf_6403c, Cond.static yJ7_copyOf_6403c, Cond.code yJ7_copyOf_6403c cJ7_copyOf_6403c 4 (some (.array (.object "java/lang/Object"))), Cond.classLink RJ7 110 "[Ljava/lang/Object;", Cond.classLink RJ7 2 "java/lang/Object", Cond.methodLink RJ7 304 Lib.Math.min.name, Cond.static Lib.Math.min.name, Cond.code Lib.Math.min.name Lib.Math.min.code 2 (some .int), Cond.methodLink RJ7 150 arraycopyName, Cond.native arraycopyName, Cond.static arraycopyName, Cond.initialized "java/lang/System"]
def wsX1_init : List Cond := .code yX1_init cX1_init 6 none :: ((wsX1_init_r1 ++ (wsX1_init_r2 ++ (wsX1_init_r3 ++ wsX1_init_r4))) ++ wsX10 ++ wsJx4a65c0 ++ wsX40)
def wsJx4a65c_size_8abf5 : List Cond := .code yJx4a65c_size_8abf5 cJx4a65c_size_8abf5 1 (some .int) :: ([.fieldLink RJx4a65c 48 "java/util/ArrayList" "size" "I"] ++ wsJx4a65c0)
def wsJ3_checkIndex_8e157 : List Cond := .code yJ3_checkIndex_8e157 cJ3_checkIndex_8e157 3 (some .int) :: ([])
def wsJ15_checkIndex_7cf53 : List Cond := .code yJ15_checkIndex_7cf53 cJ15_checkIndex_7cf53 2 (some .int) :: ([.methodLink RJ15 105 yJ3_checkIndex_8e157, .static yJ3_checkIndex_8e157, .initialized RJ3, .code yJ3_checkIndex_8e157 cJ3_checkIndex_8e157 3 (some .int)])
def wsJx4a65c_elementData_915e3 : List Cond := .code yJx4a65c_elementData_915e3 cJx4a65c_elementData_915e3 2 (some (.object "java/lang/Object")) :: ([.fieldLink RJx4a65c 9 "java/util/ArrayList" "elementData" "[Ljava/lang/Object;"] ++ wsJx4a65c0)
def wsJx4a65c_get_915e3 : List Cond := .code yJx4a65c_get_915e3 cJx4a65c_get_915e3 2 (some (.object "java/lang/Object")) :: ([.fieldLink RJx4a65c 48 "java/util/ArrayList" "size" "I", .methodLink RJx4a65c 118 yJ15_checkIndex_7cf53, .static yJ15_checkIndex_7cf53, .initialized RJ15, .code yJ15_checkIndex_7cf53 cJ15_checkIndex_7cf53 2 (some .int), .methodLink RJ15 105 yJ3_checkIndex_8e157, .static yJ3_checkIndex_8e157, .initialized RJ3, .code yJ3_checkIndex_8e157 cJ3_checkIndex_8e157 3 (some .int), .methodLink RJx4a65c 123 yJx4a65c_elementData_915e3, .instanceMethod yJx4a65c_elementData_915e3, .selects RJx4a65c yJx4a65c_elementData_915e3 yJx4a65c_elementData_915e3, .initialized RJx4a65c, .code yJx4a65c_elementData_915e3 cJx4a65c_elementData_915e3 2 (some (.object "java/lang/Object")), .fieldLink RJx4a65c 9 "java/util/ArrayList" "elementData" "[Ljava/lang/Object;"] ++ wsJx4a65c0)
def wsX1_offenceNumbered_r1 : List Cond := [Cond.fieldLink RX1 27 "TavernBench$House" "events" "Ljava/util/ArrayList;", Cond.classLink RX1 47 "TavernBench$Event", Cond.fieldLink RX1 69 "TavernBench$Event" "kind" "I", Cond.fieldLink RX1 70 "TavernBench$Event" "v" "I", Cond.methodLink RX1 61 yJx4a65c_size_8abf5, Cond.instanceMethod yJx4a65c_size_8abf5, Cond.selects RJx4a65c yJx4a65c_size_8abf5 yJx4a65c_size_8abf5, Cond.initialized RJx4a65c, Cond.code yJx4a65c_size_8abf5 cJx4a65c_size_8abf5 1 (some .int), Cond.fieldLink RJx4a65c 48 "java/util/ArrayList" "size" "I", Cond.methodLink RX1 65 yJx4a65c_get_915e3, Cond.instanceMethod yJx4a65c_get_915e3, Cond.selects RJx4a65c yJx4a65c_get_915e3 yJx4a65c_get_915e3, Cond.code yJx4a65c_get_915e3 cJx4a65c_get_915e3 2 (some (.object "java/lang/Object")), Cond.methodLink RJx4a65c 118 yJ15_checkIndex_7cf53, Cond.static yJ15_checkIndex_7cf53, Cond.initialized RJ15, Cond.code yJ15_checkIndex_7cf53 cJ15_checkIndex_7cf53 2 (some .int), Cond.methodLink RJ15 105 yJ3_checkIndex_8e157, Cond.static yJ3_checkIndex_8e157, Cond.initialized RJ3, Cond.code yJ3_checkIndex_8e157 cJ3_checkIndex_8e157 3 (some .int), Cond.methodLink RJx4a65c 123 yJx4a65c_elementData_915e3, Cond.instanceMethod yJx4a65c_elementData_915e3]
def wsX1_offenceNumbered_r2 : List Cond := [Cond.selects RJx4a65c yJx4a65c_elementData_915e3 yJx4a65c_elementData_915e3, Cond.code yJx4a65c_elementData_915e3 cJx4a65c_elementData_915e3 2 (some (.object "java/lang/Object")), Cond.fieldLink RJx4a65c 9 "java/util/ArrayList" "elementData" "[Ljava/lang/Object;"]
def wsX1_offenceNumbered : List Cond := .code yX1_offenceNumbered cX1_offenceNumbered 4 (some (.object "TavernBench$Event")) :: ((wsX1_offenceNumbered_r1 ++ wsX1_offenceNumbered_r2) ++ wsX10 ++ wsX00 ++ wsJx4a65c0)
def wsX1_mayBeTold_r1 : List Cond := [Cond.methodLink RX1 43 yX1_offenceNumbered, Cond.instanceMethod yX1_offenceNumbered, Cond.selects RX1 yX1_offenceNumbered yX1_offenceNumbered, Cond.initialized RX1, Cond.code yX1_offenceNumbered cX1_offenceNumbered 4 (some (.object "TavernBench$Event")), Cond.fieldLink RX1 27 "TavernBench$House" "events" "Ljava/util/ArrayList;", Cond.classLink RX1 47 "TavernBench$Event", Cond.fieldLink RX1 69 "TavernBench$Event" "kind" "I", Cond.fieldLink RX1 70 "TavernBench$Event" "v" "I", Cond.methodLink RX1 61 yJx4a65c_size_8abf5, Cond.instanceMethod yJx4a65c_size_8abf5, Cond.selects RJx4a65c yJx4a65c_size_8abf5 yJx4a65c_size_8abf5, Cond.initialized RJx4a65c, Cond.code yJx4a65c_size_8abf5 cJx4a65c_size_8abf5 1 (some .int), Cond.fieldLink RJx4a65c 48 "java/util/ArrayList" "size" "I", Cond.methodLink RX1 65 yJx4a65c_get_915e3, Cond.instanceMethod yJx4a65c_get_915e3, Cond.selects RJx4a65c yJx4a65c_get_915e3 yJx4a65c_get_915e3, Cond.code yJx4a65c_get_915e3 cJx4a65c_get_915e3 2 (some (.object "java/lang/Object")), Cond.methodLink RJx4a65c 118 yJ15_checkIndex_7cf53, Cond.static yJ15_checkIndex_7cf53, Cond.initialized RJ15, Cond.code yJ15_checkIndex_7cf53 cJ15_checkIndex_7cf53 2 (some .int), Cond.methodLink RJ15 105 yJ3_checkIndex_8e157]
def wsX1_mayBeTold_r2 : List Cond := [Cond.static yJ3_checkIndex_8e157, Cond.initialized RJ3, Cond.code yJ3_checkIndex_8e157 cJ3_checkIndex_8e157 3 (some .int), Cond.methodLink RJx4a65c 123 yJx4a65c_elementData_915e3, Cond.instanceMethod yJx4a65c_elementData_915e3, Cond.selects RJx4a65c yJx4a65c_elementData_915e3 yJx4a65c_elementData_915e3, Cond.code yJx4a65c_elementData_915e3 cJx4a65c_elementData_915e3 2 (some (.object "java/lang/Object")), Cond.fieldLink RJx4a65c 9 "java/util/ArrayList" "elementData" "[Ljava/lang/Object;"]
def wsX1_mayBeTold : List Cond := .code yX1_mayBeTold cX1_mayBeTold 3 (some .boolean) :: ((wsX1_mayBeTold_r1 ++ wsX1_mayBeTold_r2) ++ wsX10 ++ wsX00 ++ wsJx4a65c0)
def wsX1_tell_r1 : List Cond := [Cond.fieldLink RX1 27 "TavernBench$House" "events" "Ljava/util/ArrayList;", Cond.classLink RX1 47 RX0, Cond.instantiable RX0 4, Cond.initialized RX0, Cond.fieldLink RX1 52 "TavernBench$Event" "quashedFrom" "I", Cond.methodLink RX1 55 Lib.Math.min.name, Cond.static Lib.Math.min.name, Cond.initialized "java/lang/Math", Cond.code Lib.Math.min.name Lib.Math.min.code 2 (some .int), Cond.methodLink RX1 49 yX0_init, Cond.instanceMethod yX0_init, Cond.code yX0_init cX0_init 4 none, Cond.methodLink RX0 3 objectInit, Cond.instanceMethod objectInit, Cond.code objectInit ⟨#[0xb1]⟩ 1 none, Cond.fieldLink RX0 9 "TavernBench$Event" "day" "I", Cond.fieldLink RX0 15 "TavernBench$Event" "kind" "I", Cond.fieldLink RX0 18 "TavernBench$Event" "v" "I", Cond.constant RX0 21 (1000000), Cond.fieldLink RX0 22 "TavernBench$Event" "quashedFrom" "I", Cond.methodLink RX1 39 yJx4a65c_add_9ea2d, Cond.instanceMethod yJx4a65c_add_9ea2d, Cond.selects RJx4a65c yJx4a65c_add_9ea2d yJx4a65c_add_9ea2d, Cond.initialized RJx4a65c]
def wsX1_tell_r2 : List Cond := [Cond.code yJx4a65c_add_9ea2d cJx4a65c_add_9ea2d 2 (some .boolean), Cond.fieldLink RJx4a65c 63 "java/util/ArrayList" "modCount" "I", Cond.sameField "java/util/ArrayList" "java/util/AbstractList" "modCount" "I", Cond.fieldLink RJx4a65c 9 "java/util/ArrayList" "elementData" "[Ljava/lang/Object;", Cond.fieldLink RJx4a65c 48 "java/util/ArrayList" "size" "I", Cond.methodLink RJx4a65c 131 yJx4a65c_add_72be8, Cond.instanceMethod yJx4a65c_add_72be8, Cond.selects RJx4a65c yJx4a65c_add_72be8 yJx4a65c_add_72be8, Cond.code yJx4a65c_add_72be8 cJx4a65c_add_72be8 4 none, Cond.methodLink RJx4a65c 129 yJx4a65c_grow_d5877, Cond.instanceMethod yJx4a65c_grow_d5877, Cond.selects RJx4a65c yJx4a65c_grow_d5877 yJx4a65c_grow_d5877, Cond.code yJx4a65c_grow_d5877 cJx4a65c_grow_d5877 1 (some (.array (.object "java/lang/Object"))), Cond.methodLink RJx4a65c 69 yJx4a65c_grow_92f84, Cond.instanceMethod yJx4a65c_grow_92f84, Cond.selects RJx4a65c yJx4a65c_grow_92f84 yJx4a65c_grow_92f84, Cond.code yJx4a65c_grow_92f84 cJx4a65c_grow_92f84 4 (some (.array (.object "java/lang/Object"))), Cond.fieldLink RJx4a65c 39 "java/util/ArrayList" "DEFAULTCAPACITY_EMPTY_ELEMENTDATA" "[Ljava/lang/Object;", Cond.methodLink RJx4a65c 79 Lib.Math.max.name, Cond.static Lib.Math.max.name, Cond.code Lib.Math.max.name Lib.Math.max.code 2 (some .int), Cond.classLink RJx4a65c 7 "java/lang/Object", Cond.methodLink RJx4a65c 73 yJ8_newLength_cabcc, Cond.static yJ8_newLength_cabcc]
def wsX1_tell_r3 : List Cond := [Cond.initialized RJ8, Cond.code yJ8_newLength_cabcc cJ8_newLength_cabcc 4 (some .int), Cond.methodLink RJ8 194 Lib.Math.max.name, Cond.constant RJ8 200 (2147483639), Cond.methodLink RJ8 201 yJ8_hugeLength_7cf53, Cond.static yJ8_hugeLength_7cf53, Cond.code yJ8_hugeLength_7cf53 cJ8_hugeLength_7cf53 3 (some .int), Cond.methodLink RJx4a65c 66 yJ7_copyOf_1904c, Cond.static yJ7_copyOf_1904c, Cond.initialized RJ7, Cond.code yJ7_copyOf_1904c cJ7_copyOf_1904c 2 (some (.array (.object "java/lang/Object"))), Cond.methodLink RJ7 86 ⟨"java/lang/Object", "getClass", "()Ljava/lang/Class;"⟩, Cond.selects "[Ljava/lang/Object;" ⟨"java/lang/Object", "getClass", "()Ljava/lang/Class;"⟩ ⟨"java/lang/Object", "getClass", "()Ljava/lang/Class;"⟩, Cond.instanceMethod ⟨"java/lang/Object", "getClass", "()Ljava/lang/Class;"⟩, Cond.native ⟨"java/lang/Object", "getClass", "()Ljava/lang/Class;"⟩, Cond.methodLink RJ7 300 yJ7_copyOf_6403c, Cond.static yJ7_copyOf_6403c, Cond.code yJ7_copyOf_6403c cJ7_copyOf_6403c 4 (some (.array (.object "java/lang/Object"))), Cond.classLink RJ7 110 "[Ljava/lang/Object;", Cond.classLink RJ7 2 "java/lang/Object", Cond.methodLink RJ7 304 Lib.Math.min.name, Cond.methodLink RJ7 150 arraycopyName, Cond.native arraycopyName, Cond.static arraycopyName]
def wsX1_tell_r4 : List Cond := [Cond.initialized "java/lang/System", Cond.methodLink RX1 43 yX1_offenceNumbered, Cond.instanceMethod yX1_offenceNumbered, Cond.selects RX1 yX1_offenceNumbered yX1_offenceNumbered, Cond.initialized RX1, Cond.code yX1_offenceNumbered cX1_offenceNumbered 4 (some (.object "TavernBench$Event")), Cond.classLink RX1 47 "TavernBench$Event", Cond.fieldLink RX1 69 "TavernBench$Event" "kind" "I", Cond.fieldLink RX1 70 "TavernBench$Event" "v" "I", Cond.methodLink RX1 61 yJx4a65c_size_8abf5, Cond.instanceMethod yJx4a65c_size_8abf5, Cond.selects RJx4a65c yJx4a65c_size_8abf5 yJx4a65c_size_8abf5, Cond.code yJx4a65c_size_8abf5 cJx4a65c_size_8abf5 1 (some .int), Cond.methodLink RX1 65 yJx4a65c_get_915e3, Cond.instanceMethod yJx4a65c_get_915e3, Cond.selects RJx4a65c yJx4a65c_get_915e3 yJx4a65c_get_915e3, Cond.code yJx4a65c_get_915e3 cJx4a65c_get_915e3 2 (some (.object "java/lang/Object")), Cond.methodLink RJx4a65c 118 yJ15_checkIndex_7cf53, Cond.static yJ15_checkIndex_7cf53, Cond.initialized RJ15, Cond.code yJ15_checkIndex_7cf53 cJ15_checkIndex_7cf53 2 (some .int), Cond.methodLink RJ15 105 yJ3_checkIndex_8e157, Cond.static yJ3_checkIndex_8e157, Cond.initialized RJ3]
def wsX1_tell_r5 : List Cond := [Cond.code yJ3_checkIndex_8e157 cJ3_checkIndex_8e157 3 (some .int), Cond.methodLink RJx4a65c 123 yJx4a65c_elementData_915e3, Cond.instanceMethod yJx4a65c_elementData_915e3, Cond.selects RJx4a65c yJx4a65c_elementData_915e3 yJx4a65c_elementData_915e3, Cond.code yJx4a65c_elementData_915e3 cJx4a65c_elementData_915e3 2 (some (.object "java/lang/Object"))]
def wsX1_tell : List Cond := .code yX1_tell cX1_tell 5 none :: ((wsX1_tell_r1 ++ (wsX1_tell_r2 ++ (wsX1_tell_r3 ++ (wsX1_tell_r4 ++ wsX1_tell_r5)))) ++ wsX10 ++ wsX00 ++ wsJx4a65c0)
def wsX1_offencesCounted_r1 : List Cond := [Cond.fieldLink RX1 27 "TavernBench$House" "events" "Ljava/util/ArrayList;", Cond.classLink RX1 47 "TavernBench$Event", Cond.fieldLink RX1 87 "TavernBench$Event" "day" "I", Cond.fieldLink RX1 69 "TavernBench$Event" "kind" "I", Cond.fieldLink RX1 52 "TavernBench$Event" "quashedFrom" "I", Cond.methodLink RX1 61 yJx4a65c_size_8abf5, Cond.instanceMethod yJx4a65c_size_8abf5, Cond.selects RJx4a65c yJx4a65c_size_8abf5 yJx4a65c_size_8abf5, Cond.initialized RJx4a65c, Cond.code yJx4a65c_size_8abf5 cJx4a65c_size_8abf5 1 (some .int), Cond.fieldLink RJx4a65c 48 "java/util/ArrayList" "size" "I", Cond.methodLink RX1 65 yJx4a65c_get_915e3, Cond.instanceMethod yJx4a65c_get_915e3, Cond.selects RJx4a65c yJx4a65c_get_915e3 yJx4a65c_get_915e3, Cond.code yJx4a65c_get_915e3 cJx4a65c_get_915e3 2 (some (.object "java/lang/Object")), Cond.methodLink RJx4a65c 118 yJ15_checkIndex_7cf53, Cond.static yJ15_checkIndex_7cf53, Cond.initialized RJ15, Cond.code yJ15_checkIndex_7cf53 cJ15_checkIndex_7cf53 2 (some .int), Cond.methodLink RJ15 105 yJ3_checkIndex_8e157, Cond.static yJ3_checkIndex_8e157, Cond.initialized RJ3, Cond.code yJ3_checkIndex_8e157 cJ3_checkIndex_8e157 3 (some .int), Cond.methodLink RJx4a65c 123 yJx4a65c_elementData_915e3]
def wsX1_offencesCounted_r2 : List Cond := [Cond.instanceMethod yJx4a65c_elementData_915e3, Cond.selects RJx4a65c yJx4a65c_elementData_915e3 yJx4a65c_elementData_915e3, Cond.code yJx4a65c_elementData_915e3 cJx4a65c_elementData_915e3 2 (some (.object "java/lang/Object")), Cond.fieldLink RJx4a65c 9 "java/util/ArrayList" "elementData" "[Ljava/lang/Object;"]
def wsX1_offencesCounted : List Cond := .code yX1_offencesCounted cX1_offencesCounted 7 (some .int) :: ((wsX1_offencesCounted_r1 ++ wsX1_offencesCounted_r2) ++ wsX10 ++ wsX00 ++ wsJx4a65c0)
def wsX1_endedFrom_r1 : List Cond := [Cond.constant RX1 86 (1000000), Cond.fieldLink RX1 27 "TavernBench$House" "events" "Ljava/util/ArrayList;", Cond.classLink RX1 47 "TavernBench$Event", Cond.fieldLink RX1 69 "TavernBench$Event" "kind" "I", Cond.fieldLink RX1 87 "TavernBench$Event" "day" "I", Cond.methodLink RX1 61 yJx4a65c_size_8abf5, Cond.instanceMethod yJx4a65c_size_8abf5, Cond.selects RJx4a65c yJx4a65c_size_8abf5 yJx4a65c_size_8abf5, Cond.initialized RJx4a65c, Cond.code yJx4a65c_size_8abf5 cJx4a65c_size_8abf5 1 (some .int), Cond.fieldLink RJx4a65c 48 "java/util/ArrayList" "size" "I", Cond.methodLink RX1 65 yJx4a65c_get_915e3, Cond.instanceMethod yJx4a65c_get_915e3, Cond.selects RJx4a65c yJx4a65c_get_915e3 yJx4a65c_get_915e3, Cond.code yJx4a65c_get_915e3 cJx4a65c_get_915e3 2 (some (.object "java/lang/Object")), Cond.methodLink RJx4a65c 118 yJ15_checkIndex_7cf53, Cond.static yJ15_checkIndex_7cf53, Cond.initialized RJ15, Cond.code yJ15_checkIndex_7cf53 cJ15_checkIndex_7cf53 2 (some .int), Cond.methodLink RJ15 105 yJ3_checkIndex_8e157, Cond.static yJ3_checkIndex_8e157, Cond.initialized RJ3, Cond.code yJ3_checkIndex_8e157 cJ3_checkIndex_8e157 3 (some .int), Cond.methodLink RJx4a65c 123 yJx4a65c_elementData_915e3]
def wsX1_endedFrom_r2 : List Cond := [Cond.instanceMethod yJx4a65c_elementData_915e3, Cond.selects RJx4a65c yJx4a65c_elementData_915e3 yJx4a65c_elementData_915e3, Cond.code yJx4a65c_elementData_915e3 cJx4a65c_elementData_915e3 2 (some (.object "java/lang/Object")), Cond.fieldLink RJx4a65c 9 "java/util/ArrayList" "elementData" "[Ljava/lang/Object;", Cond.methodLink RX1 90 yX1_offencesCounted, Cond.instanceMethod yX1_offencesCounted, Cond.selects RX1 yX1_offencesCounted yX1_offencesCounted, Cond.initialized RX1, Cond.code yX1_offencesCounted cX1_offencesCounted 7 (some .int), Cond.fieldLink RX1 52 "TavernBench$Event" "quashedFrom" "I"]
def wsX1_endedFrom : List Cond := .code yX1_endedFrom cX1_endedFrom 6 (some .int) :: ((wsX1_endedFrom_r1 ++ wsX1_endedFrom_r2) ++ wsX10 ++ wsX00 ++ wsJx4a65c0)
def wsX5_isIn : List Cond := .code yX5_isIn cX5_isIn 3 (some .boolean) :: ([])
def wsX1_isTransferred_r1 : List Cond := [Cond.fieldLink RX1 27 "TavernBench$House" "events" "Ljava/util/ArrayList;", Cond.classLink RX1 47 "TavernBench$Event", Cond.fieldLink RX1 69 "TavernBench$Event" "kind" "I", Cond.fieldLink RX1 87 "TavernBench$Event" "day" "I", Cond.methodLink RX1 61 yJx4a65c_size_8abf5, Cond.instanceMethod yJx4a65c_size_8abf5, Cond.selects RJx4a65c yJx4a65c_size_8abf5 yJx4a65c_size_8abf5, Cond.initialized RJx4a65c, Cond.code yJx4a65c_size_8abf5 cJx4a65c_size_8abf5 1 (some .int), Cond.fieldLink RJx4a65c 48 "java/util/ArrayList" "size" "I", Cond.methodLink RX1 65 yJx4a65c_get_915e3, Cond.instanceMethod yJx4a65c_get_915e3, Cond.selects RJx4a65c yJx4a65c_get_915e3 yJx4a65c_get_915e3, Cond.code yJx4a65c_get_915e3 cJx4a65c_get_915e3 2 (some (.object "java/lang/Object")), Cond.methodLink RJx4a65c 118 yJ15_checkIndex_7cf53, Cond.static yJ15_checkIndex_7cf53, Cond.initialized RJ15, Cond.code yJ15_checkIndex_7cf53 cJ15_checkIndex_7cf53 2 (some .int), Cond.methodLink RJ15 105 yJ3_checkIndex_8e157, Cond.static yJ3_checkIndex_8e157, Cond.initialized RJ3, Cond.code yJ3_checkIndex_8e157 cJ3_checkIndex_8e157 3 (some .int), Cond.methodLink RJx4a65c 123 yJx4a65c_elementData_915e3, Cond.instanceMethod yJx4a65c_elementData_915e3]
def wsX1_isTransferred_r2 : List Cond := [Cond.selects RJx4a65c yJx4a65c_elementData_915e3 yJx4a65c_elementData_915e3, Cond.code yJx4a65c_elementData_915e3 cJx4a65c_elementData_915e3 2 (some (.object "java/lang/Object")), Cond.fieldLink RJx4a65c 9 "java/util/ArrayList" "elementData" "[Ljava/lang/Object;", Cond.static yX5_isIn, Cond.initialized RX5, Cond.code yX5_isIn cX5_isIn 3 (some .boolean)]
def wsX1_isTransferred : List Cond := .code yX1_isTransferred cX1_isTransferred 5 (some .boolean) :: ((wsX1_isTransferred_r1 ++ wsX1_isTransferred_r2) ++ wsX10 ++ wsX00 ++ wsJx4a65c0)
def wsX1_lapsedFrom_r1 : List Cond := [Cond.constant RX1 86 (1000000), Cond.fieldLink RX1 27 "TavernBench$House" "events" "Ljava/util/ArrayList;", Cond.classLink RX1 47 "TavernBench$Event", Cond.fieldLink RX1 87 "TavernBench$Event" "day" "I", Cond.fieldLink RX1 69 "TavernBench$Event" "kind" "I", Cond.methodLink RX1 61 yJx4a65c_size_8abf5, Cond.instanceMethod yJx4a65c_size_8abf5, Cond.selects RJx4a65c yJx4a65c_size_8abf5 yJx4a65c_size_8abf5, Cond.initialized RJx4a65c, Cond.code yJx4a65c_size_8abf5 cJx4a65c_size_8abf5 1 (some .int), Cond.fieldLink RJx4a65c 48 "java/util/ArrayList" "size" "I", Cond.methodLink RX1 65 yJx4a65c_get_915e3, Cond.instanceMethod yJx4a65c_get_915e3, Cond.selects RJx4a65c yJx4a65c_get_915e3 yJx4a65c_get_915e3, Cond.code yJx4a65c_get_915e3 cJx4a65c_get_915e3 2 (some (.object "java/lang/Object")), Cond.methodLink RJx4a65c 118 yJ15_checkIndex_7cf53, Cond.static yJ15_checkIndex_7cf53, Cond.initialized RJ15, Cond.code yJ15_checkIndex_7cf53 cJ15_checkIndex_7cf53 2 (some .int), Cond.methodLink RJ15 105 yJ3_checkIndex_8e157, Cond.static yJ3_checkIndex_8e157, Cond.initialized RJ3, Cond.code yJ3_checkIndex_8e157 cJ3_checkIndex_8e157 3 (some .int), Cond.methodLink RJx4a65c 123 yJx4a65c_elementData_915e3]
def wsX1_lapsedFrom_r2 : List Cond := [Cond.instanceMethod yJx4a65c_elementData_915e3, Cond.selects RJx4a65c yJx4a65c_elementData_915e3 yJx4a65c_elementData_915e3, Cond.code yJx4a65c_elementData_915e3 cJx4a65c_elementData_915e3 2 (some (.object "java/lang/Object")), Cond.fieldLink RJx4a65c 9 "java/util/ArrayList" "elementData" "[Ljava/lang/Object;", Cond.methodLink RX1 93 yX1_isTransferred, Cond.instanceMethod yX1_isTransferred, Cond.selects RX1 yX1_isTransferred yX1_isTransferred, Cond.initialized RX1, Cond.code yX1_isTransferred cX1_isTransferred 5 (some .boolean), Cond.static yX5_isIn, Cond.initialized RX5, Cond.code yX5_isIn cX5_isIn 3 (some .boolean)]
def wsX1_lapsedFrom : List Cond := .code yX1_lapsedFrom cX1_lapsedFrom 7 (some .int) :: ((wsX1_lapsedFrom_r1 ++ wsX1_lapsedFrom_r2) ++ wsX10 ++ wsX00 ++ wsJx4a65c0)
def wsX1_surplusFrom_r1 : List Cond := [Cond.constant RX1 86 (1000000), Cond.fieldLink RX1 27 "TavernBench$House" "events" "Ljava/util/ArrayList;", Cond.classLink RX1 47 "TavernBench$Event", Cond.fieldLink RX1 69 "TavernBench$Event" "kind" "I", Cond.fieldLink RX1 87 "TavernBench$Event" "day" "I", Cond.methodLink RX1 55 Lib.Math.min.name, Cond.static Lib.Math.min.name, Cond.initialized "java/lang/Math", Cond.code Lib.Math.min.name Lib.Math.min.code 2 (some .int), Cond.methodLink RX1 61 yJx4a65c_size_8abf5, Cond.instanceMethod yJx4a65c_size_8abf5, Cond.selects RJx4a65c yJx4a65c_size_8abf5 yJx4a65c_size_8abf5, Cond.initialized RJx4a65c, Cond.code yJx4a65c_size_8abf5 cJx4a65c_size_8abf5 1 (some .int), Cond.fieldLink RJx4a65c 48 "java/util/ArrayList" "size" "I", Cond.methodLink RX1 65 yJx4a65c_get_915e3, Cond.instanceMethod yJx4a65c_get_915e3, Cond.selects RJx4a65c yJx4a65c_get_915e3 yJx4a65c_get_915e3, Cond.code yJx4a65c_get_915e3 cJx4a65c_get_915e3 2 (some (.object "java/lang/Object")), Cond.methodLink RJx4a65c 118 yJ15_checkIndex_7cf53, Cond.static yJ15_checkIndex_7cf53, Cond.initialized RJ15, Cond.code yJ15_checkIndex_7cf53 cJ15_checkIndex_7cf53 2 (some .int), Cond.methodLink RJ15 105 yJ3_checkIndex_8e157]
def wsX1_surplusFrom_r2 : List Cond := [Cond.static yJ3_checkIndex_8e157, Cond.initialized RJ3, Cond.code yJ3_checkIndex_8e157 cJ3_checkIndex_8e157 3 (some .int), Cond.methodLink RJx4a65c 123 yJx4a65c_elementData_915e3, Cond.instanceMethod yJx4a65c_elementData_915e3, Cond.selects RJx4a65c yJx4a65c_elementData_915e3 yJx4a65c_elementData_915e3, Cond.code yJx4a65c_elementData_915e3 cJx4a65c_elementData_915e3 2 (some (.object "java/lang/Object")), Cond.fieldLink RJx4a65c 9 "java/util/ArrayList" "elementData" "[Ljava/lang/Object;"]
def wsX1_surplusFrom : List Cond := .code yX1_surplusFrom cX1_surplusFrom 5 (some .int) :: ((wsX1_surplusFrom_r1 ++ wsX1_surplusFrom_r2) ++ wsX10 ++ wsX00 ++ wsJx4a65c0)
def wsX1_stateOn_r1 : List Cond := [Cond.fieldLink RX1 21 "TavernBench$House" "granted" "I", Cond.methodLink RX1 55 Lib.Math.min.name, Cond.static Lib.Math.min.name, Cond.initialized "java/lang/Math", Cond.code Lib.Math.min.name Lib.Math.min.code 2 (some .int), Cond.constant RX1 86 (1000000), Cond.methodLink RX1 77 yX1_endedFrom, Cond.instanceMethod yX1_endedFrom, Cond.selects RX1 yX1_endedFrom yX1_endedFrom, Cond.initialized RX1, Cond.code yX1_endedFrom cX1_endedFrom 6 (some .int), Cond.fieldLink RX1 27 "TavernBench$House" "events" "Ljava/util/ArrayList;", Cond.classLink RX1 47 "TavernBench$Event", Cond.fieldLink RX1 69 "TavernBench$Event" "kind" "I", Cond.fieldLink RX1 87 "TavernBench$Event" "day" "I", Cond.methodLink RX1 61 yJx4a65c_size_8abf5, Cond.instanceMethod yJx4a65c_size_8abf5, Cond.selects RJx4a65c yJx4a65c_size_8abf5 yJx4a65c_size_8abf5, Cond.initialized RJx4a65c, Cond.code yJx4a65c_size_8abf5 cJx4a65c_size_8abf5 1 (some .int), Cond.fieldLink RJx4a65c 48 "java/util/ArrayList" "size" "I", Cond.methodLink RX1 65 yJx4a65c_get_915e3, Cond.instanceMethod yJx4a65c_get_915e3, Cond.selects RJx4a65c yJx4a65c_get_915e3 yJx4a65c_get_915e3]
def wsX1_stateOn_r2 : List Cond := [Cond.code yJx4a65c_get_915e3 cJx4a65c_get_915e3 2 (some (.object "java/lang/Object")), Cond.methodLink RJx4a65c 118 yJ15_checkIndex_7cf53, Cond.static yJ15_checkIndex_7cf53, Cond.initialized RJ15, Cond.code yJ15_checkIndex_7cf53 cJ15_checkIndex_7cf53 2 (some .int), Cond.methodLink RJ15 105 yJ3_checkIndex_8e157, Cond.static yJ3_checkIndex_8e157, Cond.initialized RJ3, Cond.code yJ3_checkIndex_8e157 cJ3_checkIndex_8e157 3 (some .int), Cond.methodLink RJx4a65c 123 yJx4a65c_elementData_915e3, Cond.instanceMethod yJx4a65c_elementData_915e3, Cond.selects RJx4a65c yJx4a65c_elementData_915e3 yJx4a65c_elementData_915e3, Cond.code yJx4a65c_elementData_915e3 cJx4a65c_elementData_915e3 2 (some (.object "java/lang/Object")), Cond.fieldLink RJx4a65c 9 "java/util/ArrayList" "elementData" "[Ljava/lang/Object;", Cond.methodLink RX1 90 yX1_offencesCounted, Cond.instanceMethod yX1_offencesCounted, Cond.selects RX1 yX1_offencesCounted yX1_offencesCounted, Cond.code yX1_offencesCounted cX1_offencesCounted 7 (some .int), Cond.fieldLink RX1 52 "TavernBench$Event" "quashedFrom" "I", Cond.methodLink RX1 80 yX1_lapsedFrom, Cond.instanceMethod yX1_lapsedFrom, Cond.selects RX1 yX1_lapsedFrom yX1_lapsedFrom, Cond.code yX1_lapsedFrom cX1_lapsedFrom 7 (some .int), Cond.methodLink RX1 93 yX1_isTransferred]
def wsX1_stateOn_r3 : List Cond := [Cond.instanceMethod yX1_isTransferred, Cond.selects RX1 yX1_isTransferred yX1_isTransferred, Cond.code yX1_isTransferred cX1_isTransferred 5 (some .boolean), Cond.static yX5_isIn, Cond.initialized RX5, Cond.code yX5_isIn cX5_isIn 3 (some .boolean), Cond.methodLink RX1 83 yX1_surplusFrom, Cond.instanceMethod yX1_surplusFrom, Cond.selects RX1 yX1_surplusFrom yX1_surplusFrom, Cond.code yX1_surplusFrom cX1_surplusFrom 5 (some .int)]
def wsX1_stateOn : List Cond := .code yX1_stateOn cX1_stateOn 6 (some .int) :: ((wsX1_stateOn_r1 ++ (wsX1_stateOn_r2 ++ wsX1_stateOn_r3)) ++ wsX10 ++ wsX00 ++ wsJx4a65c0)
def wsX1_hasLicence_r1 : List Cond := [Cond.methodLink RX1 73 yX1_stateOn, Cond.instanceMethod yX1_stateOn, Cond.selects RX1 yX1_stateOn yX1_stateOn, Cond.initialized RX1, Cond.code yX1_stateOn cX1_stateOn 6 (some .int), Cond.fieldLink RX1 21 "TavernBench$House" "granted" "I", Cond.methodLink RX1 55 Lib.Math.min.name, Cond.static Lib.Math.min.name, Cond.initialized "java/lang/Math", Cond.code Lib.Math.min.name Lib.Math.min.code 2 (some .int), Cond.constant RX1 86 (1000000), Cond.methodLink RX1 77 yX1_endedFrom, Cond.instanceMethod yX1_endedFrom, Cond.selects RX1 yX1_endedFrom yX1_endedFrom, Cond.code yX1_endedFrom cX1_endedFrom 6 (some .int), Cond.fieldLink RX1 27 "TavernBench$House" "events" "Ljava/util/ArrayList;", Cond.classLink RX1 47 "TavernBench$Event", Cond.fieldLink RX1 69 "TavernBench$Event" "kind" "I", Cond.fieldLink RX1 87 "TavernBench$Event" "day" "I", Cond.methodLink RX1 61 yJx4a65c_size_8abf5, Cond.instanceMethod yJx4a65c_size_8abf5, Cond.selects RJx4a65c yJx4a65c_size_8abf5 yJx4a65c_size_8abf5, Cond.initialized RJx4a65c, Cond.code yJx4a65c_size_8abf5 cJx4a65c_size_8abf5 1 (some .int)]
def wsX1_hasLicence_r2 : List Cond := [Cond.fieldLink RJx4a65c 48 "java/util/ArrayList" "size" "I", Cond.methodLink RX1 65 yJx4a65c_get_915e3, Cond.instanceMethod yJx4a65c_get_915e3, Cond.selects RJx4a65c yJx4a65c_get_915e3 yJx4a65c_get_915e3, Cond.code yJx4a65c_get_915e3 cJx4a65c_get_915e3 2 (some (.object "java/lang/Object")), Cond.methodLink RJx4a65c 118 yJ15_checkIndex_7cf53, Cond.static yJ15_checkIndex_7cf53, Cond.initialized RJ15, Cond.code yJ15_checkIndex_7cf53 cJ15_checkIndex_7cf53 2 (some .int), Cond.methodLink RJ15 105 yJ3_checkIndex_8e157, Cond.static yJ3_checkIndex_8e157, Cond.initialized RJ3, Cond.code yJ3_checkIndex_8e157 cJ3_checkIndex_8e157 3 (some .int), Cond.methodLink RJx4a65c 123 yJx4a65c_elementData_915e3, Cond.instanceMethod yJx4a65c_elementData_915e3, Cond.selects RJx4a65c yJx4a65c_elementData_915e3 yJx4a65c_elementData_915e3, Cond.code yJx4a65c_elementData_915e3 cJx4a65c_elementData_915e3 2 (some (.object "java/lang/Object")), Cond.fieldLink RJx4a65c 9 "java/util/ArrayList" "elementData" "[Ljava/lang/Object;", Cond.methodLink RX1 90 yX1_offencesCounted, Cond.instanceMethod yX1_offencesCounted, Cond.selects RX1 yX1_offencesCounted yX1_offencesCounted, Cond.code yX1_offencesCounted cX1_offencesCounted 7 (some .int), Cond.fieldLink RX1 52 "TavernBench$Event" "quashedFrom" "I", Cond.methodLink RX1 80 yX1_lapsedFrom]
def wsX1_hasLicence_r3 : List Cond := [Cond.instanceMethod yX1_lapsedFrom, Cond.selects RX1 yX1_lapsedFrom yX1_lapsedFrom, Cond.code yX1_lapsedFrom cX1_lapsedFrom 7 (some .int), Cond.methodLink RX1 93 yX1_isTransferred, Cond.instanceMethod yX1_isTransferred, Cond.selects RX1 yX1_isTransferred yX1_isTransferred, Cond.code yX1_isTransferred cX1_isTransferred 5 (some .boolean), Cond.static yX5_isIn, Cond.initialized RX5, Cond.code yX5_isIn cX5_isIn 3 (some .boolean), Cond.methodLink RX1 83 yX1_surplusFrom, Cond.instanceMethod yX1_surplusFrom, Cond.selects RX1 yX1_surplusFrom yX1_surplusFrom, Cond.code yX1_surplusFrom cX1_surplusFrom 5 (some .int)]
def wsX1_hasLicence : List Cond := .code yX1_hasLicence cX1_hasLicence 2 (some .boolean) :: ((wsX1_hasLicence_r1 ++ (wsX1_hasLicence_r2 ++ wsX1_hasLicence_r3)) ++ wsX10 ++ wsX00 ++ wsJx4a65c0)
def wsX1_conditionOn_r1 : List Cond := [Cond.fieldLink RX1 27 "TavernBench$House" "events" "Ljava/util/ArrayList;", Cond.classLink RX1 47 "TavernBench$Event", Cond.fieldLink RX1 69 "TavernBench$Event" "kind" "I", Cond.fieldLink RX1 87 "TavernBench$Event" "day" "I", Cond.fieldLink RX1 70 "TavernBench$Event" "v" "I", Cond.methodLink RX1 61 yJx4a65c_size_8abf5, Cond.instanceMethod yJx4a65c_size_8abf5, Cond.selects RJx4a65c yJx4a65c_size_8abf5 yJx4a65c_size_8abf5, Cond.initialized RJx4a65c, Cond.code yJx4a65c_size_8abf5 cJx4a65c_size_8abf5 1 (some .int), Cond.fieldLink RJx4a65c 48 "java/util/ArrayList" "size" "I", Cond.methodLink RX1 65 yJx4a65c_get_915e3, Cond.instanceMethod yJx4a65c_get_915e3, Cond.selects RJx4a65c yJx4a65c_get_915e3 yJx4a65c_get_915e3, Cond.code yJx4a65c_get_915e3 cJx4a65c_get_915e3 2 (some (.object "java/lang/Object")), Cond.methodLink RJx4a65c 118 yJ15_checkIndex_7cf53, Cond.static yJ15_checkIndex_7cf53, Cond.initialized RJ15, Cond.code yJ15_checkIndex_7cf53 cJ15_checkIndex_7cf53 2 (some .int), Cond.methodLink RJ15 105 yJ3_checkIndex_8e157, Cond.static yJ3_checkIndex_8e157, Cond.initialized RJ3, Cond.code yJ3_checkIndex_8e157 cJ3_checkIndex_8e157 3 (some .int), Cond.methodLink RJx4a65c 123 yJx4a65c_elementData_915e3]
def wsX1_conditionOn_r2 : List Cond := [Cond.instanceMethod yJx4a65c_elementData_915e3, Cond.selects RJx4a65c yJx4a65c_elementData_915e3 yJx4a65c_elementData_915e3, Cond.code yJx4a65c_elementData_915e3 cJx4a65c_elementData_915e3 2 (some (.object "java/lang/Object")), Cond.fieldLink RJx4a65c 9 "java/util/ArrayList" "elementData" "[Ljava/lang/Object;", Cond.static yX5_isIn, Cond.initialized RX5, Cond.code yX5_isIn cX5_isIn 3 (some .boolean)]
def wsX1_conditionOn : List Cond := .code yX1_conditionOn cX1_conditionOn 7 (some .int) :: ((wsX1_conditionOn_r1 ++ wsX1_conditionOn_r2) ++ wsX10 ++ wsX00 ++ wsJx4a65c0)
def wsJx4a65c_isEmpty_aae02 : List Cond := .code yJx4a65c_isEmpty_aae02 cJx4a65c_isEmpty_aae02 1 (some .boolean) :: ([.fieldLink RJx4a65c 48 "java/util/ArrayList" "size" "I"] ++ wsJx4a65c0)
def wsX1_worthOn_r1 : List Cond := [Cond.fieldLink RX1 31 "TavernBench$House" "worths" "Ljava/util/ArrayList;", Cond.classLink RX1 34 "TavernBench$Worth", Cond.fieldLink RX1 105 "TavernBench$Worth" "amount" "I", Cond.fieldLink RX1 108 "TavernBench$Worth" "day" "I", Cond.methodLink RX1 101 yJx4a65c_isEmpty_aae02, Cond.instanceMethod yJx4a65c_isEmpty_aae02, Cond.selects RJx4a65c yJx4a65c_isEmpty_aae02 yJx4a65c_isEmpty_aae02, Cond.initialized RJx4a65c, Cond.code yJx4a65c_isEmpty_aae02 cJx4a65c_isEmpty_aae02 1 (some .boolean), Cond.fieldLink RJx4a65c 48 "java/util/ArrayList" "size" "I", Cond.methodLink RX1 65 yJx4a65c_get_915e3, Cond.instanceMethod yJx4a65c_get_915e3, Cond.selects RJx4a65c yJx4a65c_get_915e3 yJx4a65c_get_915e3, Cond.code yJx4a65c_get_915e3 cJx4a65c_get_915e3 2 (some (.object "java/lang/Object")), Cond.methodLink RJx4a65c 118 yJ15_checkIndex_7cf53, Cond.static yJ15_checkIndex_7cf53, Cond.initialized RJ15, Cond.code yJ15_checkIndex_7cf53 cJ15_checkIndex_7cf53 2 (some .int), Cond.methodLink RJ15 105 yJ3_checkIndex_8e157, Cond.static yJ3_checkIndex_8e157, Cond.initialized RJ3, Cond.code yJ3_checkIndex_8e157 cJ3_checkIndex_8e157 3 (some .int), Cond.methodLink RJx4a65c 123 yJx4a65c_elementData_915e3, Cond.instanceMethod yJx4a65c_elementData_915e3]
def wsX1_worthOn_r2 : List Cond := [Cond.selects RJx4a65c yJx4a65c_elementData_915e3 yJx4a65c_elementData_915e3, Cond.code yJx4a65c_elementData_915e3 cJx4a65c_elementData_915e3 2 (some (.object "java/lang/Object")), Cond.fieldLink RJx4a65c 9 "java/util/ArrayList" "elementData" "[Ljava/lang/Object;", Cond.methodLink RX1 61 yJx4a65c_size_8abf5, Cond.instanceMethod yJx4a65c_size_8abf5, Cond.selects RJx4a65c yJx4a65c_size_8abf5 yJx4a65c_size_8abf5, Cond.code yJx4a65c_size_8abf5 cJx4a65c_size_8abf5 1 (some .int), Cond.static yX5_isIn, Cond.initialized RX5, Cond.code yX5_isIn cX5_isIn 3 (some .boolean)]
def wsX1_worthOn : List Cond := .code yX1_worthOn cX1_worthOn 6 (some .int) :: ((wsX1_worthOn_r1 ++ wsX1_worthOn_r2) ++ wsX10 ++ wsX40 ++ wsJx4a65c0)
def wsX2_init : List Cond := .code yX2_init cX2_init 6 none :: ([.methodLink RX2 1 objectInit, .instanceMethod objectInit, .code objectInit ⟨#[0xb1]⟩ 1 none, .fieldLink RX2 7 "TavernBench$Law" "day" "I", .fieldLink RX2 13 "TavernBench$Law" "kind" "I", .fieldLink RX2 16 "TavernBench$Law" "weekday" "I", .fieldLink RX2 19 "TavernBench$Law" "from" "I", .fieldLink RX2 22 "TavernBench$Law" "to" "I"] ++ wsX20)
def wsX3_init : List Cond := .code yX3_init cX3_init 4 none :: ([.methodLink RX3 1 objectInit, .instanceMethod objectInit, .code objectInit ⟨#[0xb1]⟩ 1 none, .fieldLink RX3 7 "TavernBench$Objector" "x" "I", .fieldLink RX3 13 "TavernBench$Objector" "y" "I", .fieldLink RX3 16 "TavernBench$Objector" "weight" "I"] ++ wsX30)
def wsX5_init_r1 : List Cond := [Cond.methodLink RX5 1 objectInit, Cond.instanceMethod objectInit, Cond.code objectInit ⟨#[0xb1]⟩ 1 none, Cond.classLink RX5 7 RJx4a65c, Cond.instantiable RJx4a65c 3, Cond.initialized RJx4a65c, Cond.fieldLink RX5 10 "TavernBench" "laws" "Ljava/util/ArrayList;", Cond.fieldLink RX5 16 "TavernBench" "objectors" "Ljava/util/ArrayList;", Cond.fieldLink RX5 19 "TavernBench" "houses" "Ljava/util/ArrayList;", Cond.arrayClass .int, Cond.fieldLink RX5 22 "TavernBench" "feastDays" "[I", Cond.classLink RX5 26 RX2, Cond.instantiable RX2 5, Cond.initialized RX2, Cond.fieldLink RX5 31 "TavernBench" "shutLaw" "LTavernBench$Law;", Cond.fieldLink RX5 35 "TavernBench" "near" "I", Cond.fieldLink RX5 39 "TavernBench" "heard" "I", Cond.fieldLink RX5 42 "TavernBench" "lastSeed" "J", Cond.methodLink RX5 9 yJx4a65c_init_da8c8, Cond.instanceMethod yJx4a65c_init_da8c8, Cond.code yJx4a65c_init_da8c8 cJx4a65c_init_da8c8 1 none, Cond.fieldLink RJx4a65c 39 "java/util/ArrayList" "DEFAULTCAPACITY_EMPTY_ELEMENTDATA" "[Ljava/lang/Object;", Cond.fieldLink RJx4a65c 9 "java/util/ArrayList" "elementData" "[Ljava/lang/Object;", Cond.methodLink RJx4a65c 1 yJxc12de_init_da8c8]
def wsX5_init_r2 : List Cond := [Cond.instanceMethod yJxc12de_init_da8c8, Cond.initialized RJxc12de, Cond.code yJxc12de_init_da8c8 cJxc12de_init_da8c8 1 none, Cond.fieldLink RJxc12de 7 "java/util/AbstractList" "modCount" "I", Cond.methodLink RJxc12de 1 yJxa1e45_init_da8c8, Cond.instanceMethod yJxa1e45_init_da8c8, Cond.initialized RJxa1e45, Cond.code yJxa1e45_init_da8c8 cJxa1e45_init_da8c8 1 none, Cond.methodLink RJxa1e45 1 objectInit, Cond.methodLink RX5 28 yX2_init, Cond.instanceMethod yX2_init, Cond.code yX2_init cX2_init 6 none, Cond.methodLink RX2 1 objectInit, Cond.fieldLink RX2 7 "TavernBench$Law" "day" "I", Cond.fieldLink RX2 13 "TavernBench$Law" "kind" "I", Cond.fieldLink RX2 16 "TavernBench$Law" "weekday" "I", Cond.fieldLink RX2 19 "TavernBench$Law" "from" "I", Cond.fieldLink RX2 22 "TavernBench$Law" "to" "I"]
def wsX5_init : List Cond := .code yX5_init cX5_init 1 none :: ((wsX5_init_r1 ++ wsX5_init_r2) ++ wsJx4a65c0 ++ wsX50 ++ wsX20)
def wsX5_isDay : List Cond := .code yX5_isDay cX5_isDay 1 (some .boolean) :: ([.methodLink RX5 59 yX5_isIn, .static yX5_isIn, .initialized RX5, .code yX5_isIn cX5_isIn 3 (some .boolean)])
def wsX5_isFeast : List Cond := .code yX5_isFeast cX5_isFeast 3 (some .boolean) :: ([.fieldLink RX5 53 "TavernBench" "feasts" "I", .fieldLink RX5 22 "TavernBench" "feastDays" "[I"] ++ wsX50)
def wsX5_feast : List Cond := .code yX5_feast cX5_feast 2 (some .int) :: ([.fieldLink RX5 53 "TavernBench" "feasts" "I", .fieldLink RX5 22 "TavernBench" "feastDays" "[I", .methodLink RX5 46 yX5_isDay, .static yX5_isDay, .initialized RX5, .code yX5_isDay cX5_isDay 1 (some .boolean), .methodLink RX5 59 yX5_isIn, .static yX5_isIn, .code yX5_isIn cX5_isIn 3 (some .boolean), .methodLink RX5 50 yX5_isFeast, .instanceMethod yX5_isFeast, .selects RX5 yX5_isFeast yX5_isFeast, .code yX5_isFeast cX5_isFeast 3 (some .boolean)] ++ wsX50)
def wsX5_isKind : List Cond := .code yX5_isKind cX5_isKind 1 (some .boolean) :: ([.methodLink RX5 59 yX5_isIn, .static yX5_isIn, .initialized RX5, .code yX5_isIn cX5_isIn 3 (some .boolean)])
def wsX5_areHours : List Cond := .code yX5_areHours cX5_areHours 3 (some .boolean) :: ([.methodLink RX5 59 yX5_isIn, .static yX5_isIn, .initialized RX5, .code yX5_isIn cX5_isIn 3 (some .boolean)])
def wsX5_law_r1 : List Cond := [Cond.fieldLink RX5 10 "TavernBench" "laws" "Ljava/util/ArrayList;", Cond.classLink RX5 26 RX2, Cond.instantiable RX2 5, Cond.initialized RX2, Cond.methodLink RX5 46 yX5_isDay, Cond.static yX5_isDay, Cond.initialized RX5, Cond.code yX5_isDay cX5_isDay 1 (some .boolean), Cond.methodLink RX5 59 yX5_isIn, Cond.static yX5_isIn, Cond.code yX5_isIn cX5_isIn 3 (some .boolean), Cond.methodLink RX5 56 yX5_isKind, Cond.static yX5_isKind, Cond.code yX5_isKind cX5_isKind 1 (some .boolean), Cond.methodLink RX5 63 yX5_areHours, Cond.static yX5_areHours, Cond.code yX5_areHours cX5_areHours 3 (some .boolean), Cond.methodLink RX5 67 yJx4a65c_size_8abf5, Cond.instanceMethod yJx4a65c_size_8abf5, Cond.selects RJx4a65c yJx4a65c_size_8abf5 yJx4a65c_size_8abf5, Cond.initialized RJx4a65c, Cond.code yJx4a65c_size_8abf5 cJx4a65c_size_8abf5 1 (some .int), Cond.fieldLink RJx4a65c 48 "java/util/ArrayList" "size" "I", Cond.methodLink RX5 28 yX2_init]
def wsX5_law_r2 : List Cond := [Cond.instanceMethod yX2_init, Cond.code yX2_init cX2_init 6 none, Cond.methodLink RX2 1 objectInit, Cond.instanceMethod objectInit, Cond.code objectInit ⟨#[0xb1]⟩ 1 none, Cond.fieldLink RX2 7 "TavernBench$Law" "day" "I", Cond.fieldLink RX2 13 "TavernBench$Law" "kind" "I", Cond.fieldLink RX2 16 "TavernBench$Law" "weekday" "I", Cond.fieldLink RX2 19 "TavernBench$Law" "from" "I", Cond.fieldLink RX2 22 "TavernBench$Law" "to" "I", Cond.methodLink RX5 71 yJx4a65c_add_9ea2d, Cond.instanceMethod yJx4a65c_add_9ea2d, Cond.selects RJx4a65c yJx4a65c_add_9ea2d yJx4a65c_add_9ea2d, Cond.code yJx4a65c_add_9ea2d cJx4a65c_add_9ea2d 2 (some .boolean), Cond.fieldLink RJx4a65c 63 "java/util/ArrayList" "modCount" "I", Cond.sameField "java/util/ArrayList" "java/util/AbstractList" "modCount" "I", Cond.fieldLink RJx4a65c 9 "java/util/ArrayList" "elementData" "[Ljava/lang/Object;", Cond.methodLink RJx4a65c 131 yJx4a65c_add_72be8, Cond.instanceMethod yJx4a65c_add_72be8, Cond.selects RJx4a65c yJx4a65c_add_72be8 yJx4a65c_add_72be8, Cond.code yJx4a65c_add_72be8 cJx4a65c_add_72be8 4 none, Cond.methodLink RJx4a65c 129 yJx4a65c_grow_d5877, Cond.instanceMethod yJx4a65c_grow_d5877, Cond.selects RJx4a65c yJx4a65c_grow_d5877 yJx4a65c_grow_d5877]
def wsX5_law_r3 : List Cond := [Cond.code yJx4a65c_grow_d5877 cJx4a65c_grow_d5877 1 (some (.array (.object "java/lang/Object"))), Cond.methodLink RJx4a65c 69 yJx4a65c_grow_92f84, Cond.instanceMethod yJx4a65c_grow_92f84, Cond.selects RJx4a65c yJx4a65c_grow_92f84 yJx4a65c_grow_92f84, Cond.code yJx4a65c_grow_92f84 cJx4a65c_grow_92f84 4 (some (.array (.object "java/lang/Object"))), Cond.fieldLink RJx4a65c 39 "java/util/ArrayList" "DEFAULTCAPACITY_EMPTY_ELEMENTDATA" "[Ljava/lang/Object;", Cond.methodLink RJx4a65c 79 Lib.Math.max.name, Cond.static Lib.Math.max.name, Cond.initialized "java/lang/Math", Cond.code Lib.Math.max.name Lib.Math.max.code 2 (some .int), Cond.classLink RJx4a65c 7 "java/lang/Object", Cond.methodLink RJx4a65c 73 yJ8_newLength_cabcc, Cond.static yJ8_newLength_cabcc, Cond.initialized RJ8, Cond.code yJ8_newLength_cabcc cJ8_newLength_cabcc 4 (some .int), Cond.methodLink RJ8 194 Lib.Math.max.name, Cond.constant RJ8 200 (2147483639), Cond.methodLink RJ8 201 yJ8_hugeLength_7cf53, Cond.static yJ8_hugeLength_7cf53, Cond.code yJ8_hugeLength_7cf53 cJ8_hugeLength_7cf53 3 (some .int), Cond.methodLink RJx4a65c 66 yJ7_copyOf_1904c, Cond.static yJ7_copyOf_1904c, Cond.initialized RJ7, Cond.code yJ7_copyOf_1904c cJ7_copyOf_1904c 2 (some (.array (.object "java/lang/Object")))]
def wsX5_law_r4 : List Cond := [Cond.methodLink RJ7 86 ⟨"java/lang/Object", "getClass", "()Ljava/lang/Class;"⟩, Cond.selects "[Ljava/lang/Object;" ⟨"java/lang/Object", "getClass", "()Ljava/lang/Class;"⟩ ⟨"java/lang/Object", "getClass", "()Ljava/lang/Class;"⟩, Cond.instanceMethod ⟨"java/lang/Object", "getClass", "()Ljava/lang/Class;"⟩, Cond.native ⟨"java/lang/Object", "getClass", "()Ljava/lang/Class;"⟩, Cond.methodLink RJ7 300 yJ7_copyOf_6403c, Cond.static yJ7_copyOf_6403c, Cond.code yJ7_copyOf_6403c cJ7_copyOf_6403c 4 (some (.array (.object "java/lang/Object"))), Cond.classLink RJ7 110 "[Ljava/lang/Object;", Cond.classLink RJ7 2 "java/lang/Object", Cond.methodLink RJ7 304 Lib.Math.min.name, Cond.static Lib.Math.min.name, Cond.code Lib.Math.min.name Lib.Math.min.code 2 (some .int), Cond.methodLink RJ7 150 arraycopyName, Cond.native arraycopyName, Cond.static arraycopyName, Cond.initialized "java/lang/System"]
def wsX5_law : List Cond := .code yX5_law cX5_law 6 (some .int) :: ((wsX5_law_r1 ++ (wsX5_law_r2 ++ (wsX5_law_r3 ++ wsX5_law_r4))) ++ wsX50 ++ wsX20 ++ wsJx4a65c0)
def wsX5_rule : List Cond := .code yX5_rule cX5_rule 4 (some .int) :: ([.fieldLink RX5 35 "TavernBench" "near" "I", .fieldLink RX5 39 "TavernBench" "heard" "I", .methodLink RX5 59 yX5_isIn, .static yX5_isIn, .initialized RX5, .code yX5_isIn cX5_isIn 3 (some .boolean)] ++ wsX50)
def wsX5_isPlace : List Cond := .code yX5_isPlace cX5_isPlace 2 (some .boolean) :: ([.methodLink RX5 59 yX5_isIn, .static yX5_isIn, .initialized RX5, .code yX5_isIn cX5_isIn 3 (some .boolean)])
def wsX5_objector_r1 : List Cond := [Cond.fieldLink RX5 16 "TavernBench" "objectors" "Ljava/util/ArrayList;", Cond.classLink RX5 78 RX3, Cond.instantiable RX3 3, Cond.initialized RX3, Cond.methodLink RX5 75 yX5_isPlace, Cond.static yX5_isPlace, Cond.initialized RX5, Cond.code yX5_isPlace cX5_isPlace 2 (some .boolean), Cond.methodLink RX5 59 yX5_isIn, Cond.static yX5_isIn, Cond.code yX5_isIn cX5_isIn 3 (some .boolean), Cond.methodLink RX5 67 yJx4a65c_size_8abf5, Cond.instanceMethod yJx4a65c_size_8abf5, Cond.selects RJx4a65c yJx4a65c_size_8abf5 yJx4a65c_size_8abf5, Cond.initialized RJx4a65c, Cond.code yJx4a65c_size_8abf5 cJx4a65c_size_8abf5 1 (some .int), Cond.fieldLink RJx4a65c 48 "java/util/ArrayList" "size" "I", Cond.methodLink RX5 80 yX3_init, Cond.instanceMethod yX3_init, Cond.code yX3_init cX3_init 4 none, Cond.methodLink RX3 1 objectInit, Cond.instanceMethod objectInit, Cond.code objectInit ⟨#[0xb1]⟩ 1 none, Cond.fieldLink RX3 7 "TavernBench$Objector" "x" "I"]
def wsX5_objector_r2 : List Cond := [Cond.fieldLink RX3 13 "TavernBench$Objector" "y" "I", Cond.fieldLink RX3 16 "TavernBench$Objector" "weight" "I", Cond.methodLink RX5 71 yJx4a65c_add_9ea2d, Cond.instanceMethod yJx4a65c_add_9ea2d, Cond.selects RJx4a65c yJx4a65c_add_9ea2d yJx4a65c_add_9ea2d, Cond.code yJx4a65c_add_9ea2d cJx4a65c_add_9ea2d 2 (some .boolean), Cond.fieldLink RJx4a65c 63 "java/util/ArrayList" "modCount" "I", Cond.sameField "java/util/ArrayList" "java/util/AbstractList" "modCount" "I", Cond.fieldLink RJx4a65c 9 "java/util/ArrayList" "elementData" "[Ljava/lang/Object;", Cond.methodLink RJx4a65c 131 yJx4a65c_add_72be8, Cond.instanceMethod yJx4a65c_add_72be8, Cond.selects RJx4a65c yJx4a65c_add_72be8 yJx4a65c_add_72be8, Cond.code yJx4a65c_add_72be8 cJx4a65c_add_72be8 4 none, Cond.methodLink RJx4a65c 129 yJx4a65c_grow_d5877, Cond.instanceMethod yJx4a65c_grow_d5877, Cond.selects RJx4a65c yJx4a65c_grow_d5877 yJx4a65c_grow_d5877, Cond.code yJx4a65c_grow_d5877 cJx4a65c_grow_d5877 1 (some (.array (.object "java/lang/Object"))), Cond.methodLink RJx4a65c 69 yJx4a65c_grow_92f84, Cond.instanceMethod yJx4a65c_grow_92f84, Cond.selects RJx4a65c yJx4a65c_grow_92f84 yJx4a65c_grow_92f84, Cond.code yJx4a65c_grow_92f84 cJx4a65c_grow_92f84 4 (some (.array (.object "java/lang/Object"))), Cond.fieldLink RJx4a65c 39 "java/util/ArrayList" "DEFAULTCAPACITY_EMPTY_ELEMENTDATA" "[Ljava/lang/Object;", Cond.methodLink RJx4a65c 79 Lib.Math.max.name, Cond.static Lib.Math.max.name]
def wsX5_objector_r3 : List Cond := [Cond.initialized "java/lang/Math", Cond.code Lib.Math.max.name Lib.Math.max.code 2 (some .int), Cond.classLink RJx4a65c 7 "java/lang/Object", Cond.methodLink RJx4a65c 73 yJ8_newLength_cabcc, Cond.static yJ8_newLength_cabcc, Cond.initialized RJ8, Cond.code yJ8_newLength_cabcc cJ8_newLength_cabcc 4 (some .int), Cond.methodLink RJ8 194 Lib.Math.max.name, Cond.constant RJ8 200 (2147483639), Cond.methodLink RJ8 201 yJ8_hugeLength_7cf53, Cond.static yJ8_hugeLength_7cf53, Cond.code yJ8_hugeLength_7cf53 cJ8_hugeLength_7cf53 3 (some .int), Cond.methodLink RJx4a65c 66 yJ7_copyOf_1904c, Cond.static yJ7_copyOf_1904c, Cond.initialized RJ7, Cond.code yJ7_copyOf_1904c cJ7_copyOf_1904c 2 (some (.array (.object "java/lang/Object"))), Cond.methodLink RJ7 86 ⟨"java/lang/Object", "getClass", "()Ljava/lang/Class;"⟩, Cond.selects "[Ljava/lang/Object;" ⟨"java/lang/Object", "getClass", "()Ljava/lang/Class;"⟩ ⟨"java/lang/Object", "getClass", "()Ljava/lang/Class;"⟩, Cond.instanceMethod ⟨"java/lang/Object", "getClass", "()Ljava/lang/Class;"⟩, Cond.native ⟨"java/lang/Object", "getClass", "()Ljava/lang/Class;"⟩, Cond.methodLink RJ7 300 yJ7_copyOf_6403c, Cond.static yJ7_copyOf_6403c, Cond.code yJ7_copyOf_6403c cJ7_copyOf_6403c 4 (some (.array (.object "java/lang/Object"))), Cond.classLink RJ7 110 "[Ljava/lang/Object;"]
def wsX5_objector_r4 : List Cond := [Cond.classLink RJ7 2 "java/lang/Object", Cond.methodLink RJ7 304 Lib.Math.min.name, Cond.static Lib.Math.min.name, Cond.code Lib.Math.min.name Lib.Math.min.code 2 (some .int), Cond.methodLink RJ7 150 arraycopyName, Cond.native arraycopyName, Cond.static arraycopyName, Cond.initialized "java/lang/System"]
def wsX5_objector : List Cond := .code yX5_objector cX5_objector 4 (some .int) :: ((wsX5_objector_r1 ++ (wsX5_objector_r2 ++ (wsX5_objector_r3 ++ wsX5_objector_r4))) ++ wsX50 ++ wsX30 ++ wsJx4a65c0)
def wsX5_isWorth : List Cond := .code yX5_isWorth cX5_isWorth 1 (some .boolean) :: ([.constant RX5 194 (100000), .methodLink RX5 59 yX5_isIn, .static yX5_isIn, .initialized RX5, .code yX5_isIn cX5_isIn 3 (some .boolean)])
def wsX5_squareOfDistance : List Cond := .code yX5_squareOfDistance cX5_squareOfDistance 4 (some .int) :: ([])
def wsX5_isCrowded_r1 : List Cond := [Cond.fieldLink RX5 19 "TavernBench" "houses" "Ljava/util/ArrayList;", Cond.classLink RX5 93 "TavernBench$House", Cond.fieldLink RX5 212 "TavernBench$House" "x" "I", Cond.fieldLink RX5 215 "TavernBench$House" "y" "I", Cond.fieldLink RX5 35 "TavernBench" "near" "I", Cond.methodLink RX5 67 yJx4a65c_size_8abf5, Cond.instanceMethod yJx4a65c_size_8abf5, Cond.selects RJx4a65c yJx4a65c_size_8abf5 yJx4a65c_size_8abf5, Cond.initialized RJx4a65c, Cond.code yJx4a65c_size_8abf5 cJx4a65c_size_8abf5 1 (some .int), Cond.fieldLink RJx4a65c 48 "java/util/ArrayList" "size" "I", Cond.methodLink RX5 195 yJx4a65c_get_915e3, Cond.instanceMethod yJx4a65c_get_915e3, Cond.selects RJx4a65c yJx4a65c_get_915e3 yJx4a65c_get_915e3, Cond.code yJx4a65c_get_915e3 cJx4a65c_get_915e3 2 (some (.object "java/lang/Object")), Cond.methodLink RJx4a65c 118 yJ15_checkIndex_7cf53, Cond.static yJ15_checkIndex_7cf53, Cond.initialized RJ15, Cond.code yJ15_checkIndex_7cf53 cJ15_checkIndex_7cf53 2 (some .int), Cond.methodLink RJ15 105 yJ3_checkIndex_8e157, Cond.static yJ3_checkIndex_8e157, Cond.initialized RJ3, Cond.code yJ3_checkIndex_8e157 cJ3_checkIndex_8e157 3 (some .int), Cond.methodLink RJx4a65c 123 yJx4a65c_elementData_915e3]
def wsX5_isCrowded_r2 : List Cond := [Cond.instanceMethod yJx4a65c_elementData_915e3, Cond.selects RJx4a65c yJx4a65c_elementData_915e3 yJx4a65c_elementData_915e3, Cond.code yJx4a65c_elementData_915e3 cJx4a65c_elementData_915e3 2 (some (.object "java/lang/Object")), Cond.fieldLink RJx4a65c 9 "java/util/ArrayList" "elementData" "[Ljava/lang/Object;", Cond.methodLink RX5 218 yX5_squareOfDistance, Cond.static yX5_squareOfDistance, Cond.initialized RX5, Cond.code yX5_squareOfDistance cX5_squareOfDistance 4 (some .int), Cond.methodLink RX5 166 yX1_hasLicence, Cond.instanceMethod yX1_hasLicence, Cond.selects RX1 yX1_hasLicence yX1_hasLicence, Cond.initialized RX1, Cond.code yX1_hasLicence cX1_hasLicence 2 (some .boolean), Cond.methodLink RX1 73 yX1_stateOn, Cond.instanceMethod yX1_stateOn, Cond.selects RX1 yX1_stateOn yX1_stateOn, Cond.code yX1_stateOn cX1_stateOn 6 (some .int), Cond.fieldLink RX1 21 "TavernBench$House" "granted" "I", Cond.methodLink RX1 55 Lib.Math.min.name, Cond.static Lib.Math.min.name, Cond.initialized "java/lang/Math", Cond.code Lib.Math.min.name Lib.Math.min.code 2 (some .int), Cond.constant RX1 86 (1000000), Cond.methodLink RX1 77 yX1_endedFrom]
def wsX5_isCrowded_r3 : List Cond := [Cond.instanceMethod yX1_endedFrom, Cond.selects RX1 yX1_endedFrom yX1_endedFrom, Cond.code yX1_endedFrom cX1_endedFrom 6 (some .int), Cond.fieldLink RX1 27 "TavernBench$House" "events" "Ljava/util/ArrayList;", Cond.classLink RX1 47 "TavernBench$Event", Cond.fieldLink RX1 69 "TavernBench$Event" "kind" "I", Cond.fieldLink RX1 87 "TavernBench$Event" "day" "I", Cond.methodLink RX1 61 yJx4a65c_size_8abf5, Cond.methodLink RX1 65 yJx4a65c_get_915e3, Cond.methodLink RX1 90 yX1_offencesCounted, Cond.instanceMethod yX1_offencesCounted, Cond.selects RX1 yX1_offencesCounted yX1_offencesCounted, Cond.code yX1_offencesCounted cX1_offencesCounted 7 (some .int), Cond.fieldLink RX1 52 "TavernBench$Event" "quashedFrom" "I", Cond.methodLink RX1 80 yX1_lapsedFrom, Cond.instanceMethod yX1_lapsedFrom, Cond.selects RX1 yX1_lapsedFrom yX1_lapsedFrom, Cond.code yX1_lapsedFrom cX1_lapsedFrom 7 (some .int), Cond.methodLink RX1 93 yX1_isTransferred, Cond.instanceMethod yX1_isTransferred, Cond.selects RX1 yX1_isTransferred yX1_isTransferred, Cond.code yX1_isTransferred cX1_isTransferred 5 (some .boolean), Cond.static yX5_isIn, Cond.code yX5_isIn cX5_isIn 3 (some .boolean)]
def wsX5_isCrowded_r4 : List Cond := [Cond.methodLink RX1 83 yX1_surplusFrom, Cond.instanceMethod yX1_surplusFrom, Cond.selects RX1 yX1_surplusFrom yX1_surplusFrom, Cond.code yX1_surplusFrom cX1_surplusFrom 5 (some .int)]
def wsX5_isCrowded : List Cond := .code yX5_isCrowded cX5_isCrowded 6 (some .boolean) :: ((wsX5_isCrowded_r1 ++ (wsX5_isCrowded_r2 ++ (wsX5_isCrowded_r3 ++ wsX5_isCrowded_r4))) ++ wsX50 ++ wsX10 ++ wsJx4a65c0 ++ wsX00)
def wsX5_weightHeard_r1 : List Cond := [Cond.fieldLink RX5 16 "TavernBench" "objectors" "Ljava/util/ArrayList;", Cond.classLink RX5 78 "TavernBench$Objector", Cond.fieldLink RX5 221 "TavernBench$Objector" "x" "I", Cond.fieldLink RX5 222 "TavernBench$Objector" "y" "I", Cond.fieldLink RX5 39 "TavernBench" "heard" "I", Cond.fieldLink RX5 223 "TavernBench$Objector" "weight" "I", Cond.methodLink RX5 67 yJx4a65c_size_8abf5, Cond.instanceMethod yJx4a65c_size_8abf5, Cond.selects RJx4a65c yJx4a65c_size_8abf5 yJx4a65c_size_8abf5, Cond.initialized RJx4a65c, Cond.code yJx4a65c_size_8abf5 cJx4a65c_size_8abf5 1 (some .int), Cond.fieldLink RJx4a65c 48 "java/util/ArrayList" "size" "I", Cond.methodLink RX5 195 yJx4a65c_get_915e3, Cond.instanceMethod yJx4a65c_get_915e3, Cond.selects RJx4a65c yJx4a65c_get_915e3 yJx4a65c_get_915e3, Cond.code yJx4a65c_get_915e3 cJx4a65c_get_915e3 2 (some (.object "java/lang/Object")), Cond.methodLink RJx4a65c 118 yJ15_checkIndex_7cf53, Cond.static yJ15_checkIndex_7cf53, Cond.initialized RJ15, Cond.code yJ15_checkIndex_7cf53 cJ15_checkIndex_7cf53 2 (some .int), Cond.methodLink RJ15 105 yJ3_checkIndex_8e157, Cond.static yJ3_checkIndex_8e157, Cond.initialized RJ3, Cond.code yJ3_checkIndex_8e157 cJ3_checkIndex_8e157 3 (some .int)]
def wsX5_weightHeard_r2 : List Cond := [Cond.methodLink RJx4a65c 123 yJx4a65c_elementData_915e3, Cond.instanceMethod yJx4a65c_elementData_915e3, Cond.selects RJx4a65c yJx4a65c_elementData_915e3 yJx4a65c_elementData_915e3, Cond.code yJx4a65c_elementData_915e3 cJx4a65c_elementData_915e3 2 (some (.object "java/lang/Object")), Cond.fieldLink RJx4a65c 9 "java/util/ArrayList" "elementData" "[Ljava/lang/Object;", Cond.methodLink RX5 218 yX5_squareOfDistance, Cond.static yX5_squareOfDistance, Cond.initialized RX5, Cond.code yX5_squareOfDistance cX5_squareOfDistance 4 (some .int)]
def wsX5_weightHeard : List Cond := .code yX5_weightHeard cX5_weightHeard 6 (some .int) :: ((wsX5_weightHeard_r1 ++ wsX5_weightHeard_r2) ++ wsX50 ++ wsX30 ++ wsJx4a65c0)
def wsX5_judge_r1 : List Cond := [Cond.methodLink RX5 206 yX5_isCrowded, Cond.instanceMethod yX5_isCrowded, Cond.selects RX5 yX5_isCrowded yX5_isCrowded, Cond.initialized RX5, Cond.code yX5_isCrowded cX5_isCrowded 6 (some .boolean), Cond.fieldLink RX5 19 "TavernBench" "houses" "Ljava/util/ArrayList;", Cond.classLink RX5 93 "TavernBench$House", Cond.fieldLink RX5 212 "TavernBench$House" "x" "I", Cond.fieldLink RX5 215 "TavernBench$House" "y" "I", Cond.fieldLink RX5 35 "TavernBench" "near" "I", Cond.methodLink RX5 67 yJx4a65c_size_8abf5, Cond.instanceMethod yJx4a65c_size_8abf5, Cond.selects RJx4a65c yJx4a65c_size_8abf5 yJx4a65c_size_8abf5, Cond.initialized RJx4a65c, Cond.code yJx4a65c_size_8abf5 cJx4a65c_size_8abf5 1 (some .int), Cond.fieldLink RJx4a65c 48 "java/util/ArrayList" "size" "I", Cond.methodLink RX5 195 yJx4a65c_get_915e3, Cond.instanceMethod yJx4a65c_get_915e3, Cond.selects RJx4a65c yJx4a65c_get_915e3 yJx4a65c_get_915e3, Cond.code yJx4a65c_get_915e3 cJx4a65c_get_915e3 2 (some (.object "java/lang/Object")), Cond.methodLink RJx4a65c 118 yJ15_checkIndex_7cf53, Cond.static yJ15_checkIndex_7cf53, Cond.initialized RJ15, Cond.code yJ15_checkIndex_7cf53 cJ15_checkIndex_7cf53 2 (some .int)]
def wsX5_judge_r2 : List Cond := [Cond.methodLink RJ15 105 yJ3_checkIndex_8e157, Cond.static yJ3_checkIndex_8e157, Cond.initialized RJ3, Cond.code yJ3_checkIndex_8e157 cJ3_checkIndex_8e157 3 (some .int), Cond.methodLink RJx4a65c 123 yJx4a65c_elementData_915e3, Cond.instanceMethod yJx4a65c_elementData_915e3, Cond.selects RJx4a65c yJx4a65c_elementData_915e3 yJx4a65c_elementData_915e3, Cond.code yJx4a65c_elementData_915e3 cJx4a65c_elementData_915e3 2 (some (.object "java/lang/Object")), Cond.fieldLink RJx4a65c 9 "java/util/ArrayList" "elementData" "[Ljava/lang/Object;", Cond.methodLink RX5 218 yX5_squareOfDistance, Cond.static yX5_squareOfDistance, Cond.code yX5_squareOfDistance cX5_squareOfDistance 4 (some .int), Cond.methodLink RX5 166 yX1_hasLicence, Cond.instanceMethod yX1_hasLicence, Cond.selects RX1 yX1_hasLicence yX1_hasLicence, Cond.initialized RX1, Cond.code yX1_hasLicence cX1_hasLicence 2 (some .boolean), Cond.methodLink RX1 73 yX1_stateOn, Cond.instanceMethod yX1_stateOn, Cond.selects RX1 yX1_stateOn yX1_stateOn, Cond.code yX1_stateOn cX1_stateOn 6 (some .int), Cond.fieldLink RX1 21 "TavernBench$House" "granted" "I", Cond.methodLink RX1 55 Lib.Math.min.name, Cond.static Lib.Math.min.name]
def wsX5_judge_r3 : List Cond := [Cond.initialized "java/lang/Math", Cond.code Lib.Math.min.name Lib.Math.min.code 2 (some .int), Cond.constant RX1 86 (1000000), Cond.methodLink RX1 77 yX1_endedFrom, Cond.instanceMethod yX1_endedFrom, Cond.selects RX1 yX1_endedFrom yX1_endedFrom, Cond.code yX1_endedFrom cX1_endedFrom 6 (some .int), Cond.fieldLink RX1 27 "TavernBench$House" "events" "Ljava/util/ArrayList;", Cond.classLink RX1 47 "TavernBench$Event", Cond.fieldLink RX1 69 "TavernBench$Event" "kind" "I", Cond.fieldLink RX1 87 "TavernBench$Event" "day" "I", Cond.methodLink RX1 61 yJx4a65c_size_8abf5, Cond.methodLink RX1 65 yJx4a65c_get_915e3, Cond.methodLink RX1 90 yX1_offencesCounted, Cond.instanceMethod yX1_offencesCounted, Cond.selects RX1 yX1_offencesCounted yX1_offencesCounted, Cond.code yX1_offencesCounted cX1_offencesCounted 7 (some .int), Cond.fieldLink RX1 52 "TavernBench$Event" "quashedFrom" "I", Cond.methodLink RX1 80 yX1_lapsedFrom, Cond.instanceMethod yX1_lapsedFrom, Cond.selects RX1 yX1_lapsedFrom yX1_lapsedFrom, Cond.code yX1_lapsedFrom cX1_lapsedFrom 7 (some .int), Cond.methodLink RX1 93 yX1_isTransferred, Cond.instanceMethod yX1_isTransferred]
def wsX5_judge_r4 : List Cond := [Cond.selects RX1 yX1_isTransferred yX1_isTransferred, Cond.code yX1_isTransferred cX1_isTransferred 5 (some .boolean), Cond.static yX5_isIn, Cond.code yX5_isIn cX5_isIn 3 (some .boolean), Cond.methodLink RX1 83 yX1_surplusFrom, Cond.instanceMethod yX1_surplusFrom, Cond.selects RX1 yX1_surplusFrom yX1_surplusFrom, Cond.code yX1_surplusFrom cX1_surplusFrom 5 (some .int), Cond.methodLink RX5 209 yX5_weightHeard, Cond.instanceMethod yX5_weightHeard, Cond.selects RX5 yX5_weightHeard yX5_weightHeard, Cond.code yX5_weightHeard cX5_weightHeard 6 (some .int), Cond.fieldLink RX5 16 "TavernBench" "objectors" "Ljava/util/ArrayList;", Cond.classLink RX5 78 "TavernBench$Objector", Cond.fieldLink RX5 221 "TavernBench$Objector" "x" "I", Cond.fieldLink RX5 222 "TavernBench$Objector" "y" "I", Cond.fieldLink RX5 39 "TavernBench" "heard" "I", Cond.fieldLink RX5 223 "TavernBench$Objector" "weight" "I"]
def wsX5_judge : List Cond := .code yX5_judge cX5_judge 5 (some .int) :: ((wsX5_judge_r1 ++ (wsX5_judge_r2 ++ (wsX5_judge_r3 ++ wsX5_judge_r4))) ++ wsX50 ++ wsX10 ++ wsJx4a65c0 ++ wsX00 ++ wsX30)
def wsX5_ask_r1 : List Cond := [Cond.fieldLink RX5 19 "TavernBench" "houses" "Ljava/util/ArrayList;", Cond.fieldLink RX5 90 "TavernBench" "refusedAsks" "I", Cond.classLink RX5 93 RX1, Cond.instantiable RX1 7, Cond.initialized RX1, Cond.methodLink RX5 75 yX5_isPlace, Cond.static yX5_isPlace, Cond.initialized RX5, Cond.code yX5_isPlace cX5_isPlace 2 (some .boolean), Cond.methodLink RX5 59 yX5_isIn, Cond.static yX5_isIn, Cond.code yX5_isIn cX5_isIn 3 (some .boolean), Cond.methodLink RX5 56 yX5_isKind, Cond.static yX5_isKind, Cond.code yX5_isKind cX5_isKind 1 (some .boolean), Cond.methodLink RX5 83 yX5_isWorth, Cond.static yX5_isWorth, Cond.code yX5_isWorth cX5_isWorth 1 (some .boolean), Cond.constant RX5 194 (100000), Cond.methodLink RX5 46 yX5_isDay, Cond.static yX5_isDay, Cond.code yX5_isDay cX5_isDay 1 (some .boolean), Cond.methodLink RX5 67 yJx4a65c_size_8abf5, Cond.instanceMethod yJx4a65c_size_8abf5]
def wsX5_ask_r2 : List Cond := [Cond.selects RJx4a65c yJx4a65c_size_8abf5 yJx4a65c_size_8abf5, Cond.initialized RJx4a65c, Cond.code yJx4a65c_size_8abf5 cJx4a65c_size_8abf5 1 (some .int), Cond.fieldLink RJx4a65c 48 "java/util/ArrayList" "size" "I", Cond.methodLink RX5 86 yX5_judge, Cond.instanceMethod yX5_judge, Cond.selects RX5 yX5_judge yX5_judge, Cond.code yX5_judge cX5_judge 5 (some .int), Cond.methodLink RX5 206 yX5_isCrowded, Cond.instanceMethod yX5_isCrowded, Cond.selects RX5 yX5_isCrowded yX5_isCrowded, Cond.code yX5_isCrowded cX5_isCrowded 6 (some .boolean), Cond.classLink RX5 93 "TavernBench$House", Cond.fieldLink RX5 212 "TavernBench$House" "x" "I", Cond.fieldLink RX5 215 "TavernBench$House" "y" "I", Cond.fieldLink RX5 35 "TavernBench" "near" "I", Cond.methodLink RX5 195 yJx4a65c_get_915e3, Cond.instanceMethod yJx4a65c_get_915e3, Cond.selects RJx4a65c yJx4a65c_get_915e3 yJx4a65c_get_915e3, Cond.code yJx4a65c_get_915e3 cJx4a65c_get_915e3 2 (some (.object "java/lang/Object")), Cond.methodLink RJx4a65c 118 yJ15_checkIndex_7cf53, Cond.static yJ15_checkIndex_7cf53, Cond.initialized RJ15, Cond.code yJ15_checkIndex_7cf53 cJ15_checkIndex_7cf53 2 (some .int)]
def wsX5_ask_r3 : List Cond := [Cond.methodLink RJ15 105 yJ3_checkIndex_8e157, Cond.static yJ3_checkIndex_8e157, Cond.initialized RJ3, Cond.code yJ3_checkIndex_8e157 cJ3_checkIndex_8e157 3 (some .int), Cond.methodLink RJx4a65c 123 yJx4a65c_elementData_915e3, Cond.instanceMethod yJx4a65c_elementData_915e3, Cond.selects RJx4a65c yJx4a65c_elementData_915e3 yJx4a65c_elementData_915e3, Cond.code yJx4a65c_elementData_915e3 cJx4a65c_elementData_915e3 2 (some (.object "java/lang/Object")), Cond.fieldLink RJx4a65c 9 "java/util/ArrayList" "elementData" "[Ljava/lang/Object;", Cond.methodLink RX5 218 yX5_squareOfDistance, Cond.static yX5_squareOfDistance, Cond.code yX5_squareOfDistance cX5_squareOfDistance 4 (some .int), Cond.methodLink RX5 166 yX1_hasLicence, Cond.instanceMethod yX1_hasLicence, Cond.selects RX1 yX1_hasLicence yX1_hasLicence, Cond.code yX1_hasLicence cX1_hasLicence 2 (some .boolean), Cond.methodLink RX1 73 yX1_stateOn, Cond.instanceMethod yX1_stateOn, Cond.selects RX1 yX1_stateOn yX1_stateOn, Cond.code yX1_stateOn cX1_stateOn 6 (some .int), Cond.fieldLink RX1 21 "TavernBench$House" "granted" "I", Cond.methodLink RX1 55 Lib.Math.min.name, Cond.static Lib.Math.min.name, Cond.initialized "java/lang/Math"]
def wsX5_ask_r4 : List Cond := [Cond.code Lib.Math.min.name Lib.Math.min.code 2 (some .int), Cond.constant RX1 86 (1000000), Cond.methodLink RX1 77 yX1_endedFrom, Cond.instanceMethod yX1_endedFrom, Cond.selects RX1 yX1_endedFrom yX1_endedFrom, Cond.code yX1_endedFrom cX1_endedFrom 6 (some .int), Cond.fieldLink RX1 27 "TavernBench$House" "events" "Ljava/util/ArrayList;", Cond.classLink RX1 47 "TavernBench$Event", Cond.fieldLink RX1 69 "TavernBench$Event" "kind" "I", Cond.fieldLink RX1 87 "TavernBench$Event" "day" "I", Cond.methodLink RX1 61 yJx4a65c_size_8abf5, Cond.methodLink RX1 65 yJx4a65c_get_915e3, Cond.methodLink RX1 90 yX1_offencesCounted, Cond.instanceMethod yX1_offencesCounted, Cond.selects RX1 yX1_offencesCounted yX1_offencesCounted, Cond.code yX1_offencesCounted cX1_offencesCounted 7 (some .int), Cond.fieldLink RX1 52 "TavernBench$Event" "quashedFrom" "I", Cond.methodLink RX1 80 yX1_lapsedFrom, Cond.instanceMethod yX1_lapsedFrom, Cond.selects RX1 yX1_lapsedFrom yX1_lapsedFrom, Cond.code yX1_lapsedFrom cX1_lapsedFrom 7 (some .int), Cond.methodLink RX1 93 yX1_isTransferred, Cond.instanceMethod yX1_isTransferred, Cond.selects RX1 yX1_isTransferred yX1_isTransferred]
def wsX5_ask_r5 : List Cond := [Cond.code yX1_isTransferred cX1_isTransferred 5 (some .boolean), Cond.methodLink RX1 83 yX1_surplusFrom, Cond.instanceMethod yX1_surplusFrom, Cond.selects RX1 yX1_surplusFrom yX1_surplusFrom, Cond.code yX1_surplusFrom cX1_surplusFrom 5 (some .int), Cond.methodLink RX5 209 yX5_weightHeard, Cond.instanceMethod yX5_weightHeard, Cond.selects RX5 yX5_weightHeard yX5_weightHeard, Cond.code yX5_weightHeard cX5_weightHeard 6 (some .int), Cond.fieldLink RX5 16 "TavernBench" "objectors" "Ljava/util/ArrayList;", Cond.classLink RX5 78 "TavernBench$Objector", Cond.fieldLink RX5 221 "TavernBench$Objector" "x" "I", Cond.fieldLink RX5 222 "TavernBench$Objector" "y" "I", Cond.fieldLink RX5 39 "TavernBench" "heard" "I", Cond.fieldLink RX5 223 "TavernBench$Objector" "weight" "I", Cond.methodLink RX5 95 yX1_init, Cond.instanceMethod yX1_init, Cond.code yX1_init cX1_init 6 none, Cond.methodLink RX1 3 objectInit, Cond.instanceMethod objectInit, Cond.code objectInit ⟨#[0xb1]⟩ 1 none, Cond.fieldLink RX1 9 "TavernBench$House" "x" "I", Cond.fieldLink RX1 15 "TavernBench$House" "y" "I", Cond.fieldLink RX1 18 "TavernBench$House" "kind" "I"]
def wsX5_ask_r6 : List Cond := [Cond.classLink RX1 24 RJx4a65c, Cond.instantiable RJx4a65c 3, Cond.fieldLink RX1 31 "TavernBench$House" "worths" "Ljava/util/ArrayList;", Cond.classLink RX1 34 RX4, Cond.instantiable RX4 2, Cond.initialized RX4, Cond.methodLink RX1 26 yJx4a65c_init_da8c8, Cond.instanceMethod yJx4a65c_init_da8c8, Cond.code yJx4a65c_init_da8c8 cJx4a65c_init_da8c8 1 none, Cond.fieldLink RJx4a65c 39 "java/util/ArrayList" "DEFAULTCAPACITY_EMPTY_ELEMENTDATA" "[Ljava/lang/Object;", Cond.methodLink RJx4a65c 1 yJxc12de_init_da8c8, Cond.instanceMethod yJxc12de_init_da8c8, Cond.initialized RJxc12de, Cond.code yJxc12de_init_da8c8 cJxc12de_init_da8c8 1 none, Cond.fieldLink RJxc12de 7 "java/util/AbstractList" "modCount" "I", Cond.methodLink RJxc12de 1 yJxa1e45_init_da8c8, Cond.instanceMethod yJxa1e45_init_da8c8, Cond.initialized RJxa1e45, Cond.code yJxa1e45_init_da8c8 cJxa1e45_init_da8c8 1 none, Cond.methodLink RJxa1e45 1 objectInit, Cond.methodLink RX1 36 yX4_init, Cond.instanceMethod yX4_init, Cond.code yX4_init cX4_init 3 none, Cond.methodLink RX4 1 objectInit]
def wsX5_ask_r7 : List Cond := [Cond.fieldLink RX4 7 "TavernBench$Worth" "day" "I", Cond.fieldLink RX4 13 "TavernBench$Worth" "amount" "I", Cond.methodLink RX1 39 yJx4a65c_add_9ea2d, Cond.instanceMethod yJx4a65c_add_9ea2d, Cond.selects RJx4a65c yJx4a65c_add_9ea2d yJx4a65c_add_9ea2d, Cond.code yJx4a65c_add_9ea2d cJx4a65c_add_9ea2d 2 (some .boolean), Cond.fieldLink RJx4a65c 63 "java/util/ArrayList" "modCount" "I", Cond.sameField "java/util/ArrayList" "java/util/AbstractList" "modCount" "I", Cond.methodLink RJx4a65c 131 yJx4a65c_add_72be8, Cond.instanceMethod yJx4a65c_add_72be8, Cond.selects RJx4a65c yJx4a65c_add_72be8 yJx4a65c_add_72be8, Cond.code yJx4a65c_add_72be8 cJx4a65c_add_72be8 4 none, Cond.methodLink RJx4a65c 129 yJx4a65c_grow_d5877, Cond.instanceMethod yJx4a65c_grow_d5877, Cond.selects RJx4a65c yJx4a65c_grow_d5877 yJx4a65c_grow_d5877, Cond.code yJx4a65c_grow_d5877 cJx4a65c_grow_d5877 1 (some (.array (.object "java/lang/Object"))), Cond.methodLink RJx4a65c 69 yJx4a65c_grow_92f84, Cond.instanceMethod yJx4a65c_grow_92f84, Cond.selects RJx4a65c yJx4a65c_grow_92f84 yJx4a65c_grow_92f84, Cond.code yJx4a65c_grow_92f84 cJx4a65c_grow_92f84 4 (some (.array (.object "java/lang/Object"))), Cond.methodLink RJx4a65c 79 Lib.Math.max.name, Cond.static Lib.Math.max.name, Cond.code Lib.Math.max.name Lib.Math.max.code 2 (some .int), Cond.classLink RJx4a65c 7 "java/lang/Object"]
def wsX5_ask_r8 : List Cond := [Cond.methodLink RJx4a65c 73 yJ8_newLength_cabcc, Cond.static yJ8_newLength_cabcc, Cond.initialized RJ8, Cond.code yJ8_newLength_cabcc cJ8_newLength_cabcc 4 (some .int), Cond.methodLink RJ8 194 Lib.Math.max.name, Cond.constant RJ8 200 (2147483639), Cond.methodLink RJ8 201 yJ8_hugeLength_7cf53, Cond.static yJ8_hugeLength_7cf53, Cond.code yJ8_hugeLength_7cf53 cJ8_hugeLength_7cf53 3 (some .int), Cond.methodLink RJx4a65c 66 yJ7_copyOf_1904c, Cond.static yJ7_copyOf_1904c, Cond.initialized RJ7, Cond.code yJ7_copyOf_1904c cJ7_copyOf_1904c 2 (some (.array (.object "java/lang/Object"))), Cond.methodLink RJ7 86 ⟨"java/lang/Object", "getClass", "()Ljava/lang/Class;"⟩, Cond.selects "[Ljava/lang/Object;" ⟨"java/lang/Object", "getClass", "()Ljava/lang/Class;"⟩ ⟨"java/lang/Object", "getClass", "()Ljava/lang/Class;"⟩, Cond.instanceMethod ⟨"java/lang/Object", "getClass", "()Ljava/lang/Class;"⟩, Cond.native ⟨"java/lang/Object", "getClass", "()Ljava/lang/Class;"⟩, Cond.methodLink RJ7 300 yJ7_copyOf_6403c, Cond.static yJ7_copyOf_6403c, Cond.code yJ7_copyOf_6403c cJ7_copyOf_6403c 4 (some (.array (.object "java/lang/Object"))), Cond.classLink RJ7 110 "[Ljava/lang/Object;", Cond.classLink RJ7 2 "java/lang/Object", Cond.methodLink RJ7 304 Lib.Math.min.name, Cond.methodLink RJ7 150 arraycopyName]
def wsX5_ask_r9 : List Cond := [Cond.native arraycopyName, Cond.static arraycopyName, Cond.initialized "java/lang/System", Cond.methodLink RX5 71 yJx4a65c_add_9ea2d]
def wsX5_ask : List Cond := .code yX5_ask cX5_ask 8 (some .int) :: ((wsX5_ask_r1 ++ (wsX5_ask_r2 ++ (wsX5_ask_r3 ++ (wsX5_ask_r4 ++ (wsX5_ask_r5 ++ (wsX5_ask_r6 ++ (wsX5_ask_r7 ++ (wsX5_ask_r8 ++ wsX5_ask_r9)))))))) ++ wsX50 ++ wsX10 ++ wsJx4a65c0 ++ wsX00 ++ wsX30 ++ wsX40)
def wsX5_houseAt_r1 : List Cond := [Cond.fieldLink RX5 19 "TavernBench" "houses" "Ljava/util/ArrayList;", Cond.classLink RX5 93 "TavernBench$House", Cond.methodLink RX5 67 yJx4a65c_size_8abf5, Cond.instanceMethod yJx4a65c_size_8abf5, Cond.selects RJx4a65c yJx4a65c_size_8abf5 yJx4a65c_size_8abf5, Cond.initialized RJx4a65c, Cond.code yJx4a65c_size_8abf5 cJx4a65c_size_8abf5 1 (some .int), Cond.fieldLink RJx4a65c 48 "java/util/ArrayList" "size" "I", Cond.methodLink RX5 195 yJx4a65c_get_915e3, Cond.instanceMethod yJx4a65c_get_915e3, Cond.selects RJx4a65c yJx4a65c_get_915e3 yJx4a65c_get_915e3, Cond.code yJx4a65c_get_915e3 cJx4a65c_get_915e3 2 (some (.object "java/lang/Object")), Cond.methodLink RJx4a65c 118 yJ15_checkIndex_7cf53, Cond.static yJ15_checkIndex_7cf53, Cond.initialized RJ15, Cond.code yJ15_checkIndex_7cf53 cJ15_checkIndex_7cf53 2 (some .int), Cond.methodLink RJ15 105 yJ3_checkIndex_8e157, Cond.static yJ3_checkIndex_8e157, Cond.initialized RJ3, Cond.code yJ3_checkIndex_8e157 cJ3_checkIndex_8e157 3 (some .int), Cond.methodLink RJx4a65c 123 yJx4a65c_elementData_915e3, Cond.instanceMethod yJx4a65c_elementData_915e3, Cond.selects RJx4a65c yJx4a65c_elementData_915e3 yJx4a65c_elementData_915e3, Cond.code yJx4a65c_elementData_915e3 cJx4a65c_elementData_915e3 2 (some (.object "java/lang/Object"))]
def wsX5_houseAt_r2 : List Cond := [Cond.fieldLink RJx4a65c 9 "java/util/ArrayList" "elementData" "[Ljava/lang/Object;"]
def wsX5_houseAt : List Cond := .code yX5_houseAt cX5_houseAt 2 (some (.object "TavernBench$House")) :: ((wsX5_houseAt_r1 ++ wsX5_houseAt_r2) ++ wsX50 ++ wsJx4a65c0)
def wsX5_isEvent : List Cond := .code yX5_isEvent cX5_isEvent 2 (some .boolean) :: ([.methodLink RX5 59 yX5_isIn, .static yX5_isIn, .initialized RX5, .code yX5_isIn cX5_isIn 3 (some .boolean)])
def wsX5_event_r1 : List Cond := [Cond.fieldLink RX5 103 "TavernBench$House" "granted" "I", Cond.fieldLink RX5 109 "TavernBench$House" "events" "Ljava/util/ArrayList;", Cond.methodLink RX5 96 yX5_houseAt, Cond.instanceMethod yX5_houseAt, Cond.selects RX5 yX5_houseAt yX5_houseAt, Cond.initialized RX5, Cond.code yX5_houseAt cX5_houseAt 2 (some (.object "TavernBench$House")), Cond.fieldLink RX5 19 "TavernBench" "houses" "Ljava/util/ArrayList;", Cond.classLink RX5 93 "TavernBench$House", Cond.methodLink RX5 67 yJx4a65c_size_8abf5, Cond.instanceMethod yJx4a65c_size_8abf5, Cond.selects RJx4a65c yJx4a65c_size_8abf5 yJx4a65c_size_8abf5, Cond.initialized RJx4a65c, Cond.code yJx4a65c_size_8abf5 cJx4a65c_size_8abf5 1 (some .int), Cond.fieldLink RJx4a65c 48 "java/util/ArrayList" "size" "I", Cond.methodLink RX5 195 yJx4a65c_get_915e3, Cond.instanceMethod yJx4a65c_get_915e3, Cond.selects RJx4a65c yJx4a65c_get_915e3 yJx4a65c_get_915e3, Cond.code yJx4a65c_get_915e3 cJx4a65c_get_915e3 2 (some (.object "java/lang/Object")), Cond.methodLink RJx4a65c 118 yJ15_checkIndex_7cf53, Cond.static yJ15_checkIndex_7cf53, Cond.initialized RJ15, Cond.code yJ15_checkIndex_7cf53 cJ15_checkIndex_7cf53 2 (some .int), Cond.methodLink RJ15 105 yJ3_checkIndex_8e157]
def wsX5_event_r2 : List Cond := [Cond.static yJ3_checkIndex_8e157, Cond.initialized RJ3, Cond.code yJ3_checkIndex_8e157 cJ3_checkIndex_8e157 3 (some .int), Cond.methodLink RJx4a65c 123 yJx4a65c_elementData_915e3, Cond.instanceMethod yJx4a65c_elementData_915e3, Cond.selects RJx4a65c yJx4a65c_elementData_915e3 yJx4a65c_elementData_915e3, Cond.code yJx4a65c_elementData_915e3 cJx4a65c_elementData_915e3 2 (some (.object "java/lang/Object")), Cond.fieldLink RJx4a65c 9 "java/util/ArrayList" "elementData" "[Ljava/lang/Object;", Cond.methodLink RX5 46 yX5_isDay, Cond.static yX5_isDay, Cond.code yX5_isDay cX5_isDay 1 (some .boolean), Cond.methodLink RX5 59 yX5_isIn, Cond.static yX5_isIn, Cond.code yX5_isIn cX5_isIn 3 (some .boolean), Cond.methodLink RX5 100 yX5_isEvent, Cond.static yX5_isEvent, Cond.code yX5_isEvent cX5_isEvent 2 (some .boolean), Cond.methodLink RX5 106 yX1_mayBeTold, Cond.instanceMethod yX1_mayBeTold, Cond.selects RX1 yX1_mayBeTold yX1_mayBeTold, Cond.initialized RX1, Cond.code yX1_mayBeTold cX1_mayBeTold 3 (some .boolean), Cond.methodLink RX1 43 yX1_offenceNumbered, Cond.instanceMethod yX1_offenceNumbered]
def wsX5_event_r3 : List Cond := [Cond.selects RX1 yX1_offenceNumbered yX1_offenceNumbered, Cond.code yX1_offenceNumbered cX1_offenceNumbered 4 (some (.object "TavernBench$Event")), Cond.fieldLink RX1 27 "TavernBench$House" "events" "Ljava/util/ArrayList;", Cond.classLink RX1 47 "TavernBench$Event", Cond.fieldLink RX1 69 "TavernBench$Event" "kind" "I", Cond.fieldLink RX1 70 "TavernBench$Event" "v" "I", Cond.methodLink RX1 61 yJx4a65c_size_8abf5, Cond.methodLink RX1 65 yJx4a65c_get_915e3, Cond.methodLink RX5 112 yX1_tell, Cond.instanceMethod yX1_tell, Cond.selects RX1 yX1_tell yX1_tell, Cond.code yX1_tell cX1_tell 5 none, Cond.classLink RX1 47 RX0, Cond.instantiable RX0 4, Cond.initialized RX0, Cond.fieldLink RX1 52 "TavernBench$Event" "quashedFrom" "I", Cond.methodLink RX1 55 Lib.Math.min.name, Cond.static Lib.Math.min.name, Cond.initialized "java/lang/Math", Cond.code Lib.Math.min.name Lib.Math.min.code 2 (some .int), Cond.methodLink RX1 49 yX0_init, Cond.instanceMethod yX0_init, Cond.code yX0_init cX0_init 4 none, Cond.methodLink RX0 3 objectInit]
def wsX5_event_r4 : List Cond := [Cond.instanceMethod objectInit, Cond.code objectInit ⟨#[0xb1]⟩ 1 none, Cond.fieldLink RX0 9 "TavernBench$Event" "day" "I", Cond.fieldLink RX0 15 "TavernBench$Event" "kind" "I", Cond.fieldLink RX0 18 "TavernBench$Event" "v" "I", Cond.constant RX0 21 (1000000), Cond.fieldLink RX0 22 "TavernBench$Event" "quashedFrom" "I", Cond.methodLink RX1 39 yJx4a65c_add_9ea2d, Cond.instanceMethod yJx4a65c_add_9ea2d, Cond.selects RJx4a65c yJx4a65c_add_9ea2d yJx4a65c_add_9ea2d, Cond.code yJx4a65c_add_9ea2d cJx4a65c_add_9ea2d 2 (some .boolean), Cond.fieldLink RJx4a65c 63 "java/util/ArrayList" "modCount" "I", Cond.sameField "java/util/ArrayList" "java/util/AbstractList" "modCount" "I", Cond.methodLink RJx4a65c 131 yJx4a65c_add_72be8, Cond.instanceMethod yJx4a65c_add_72be8, Cond.selects RJx4a65c yJx4a65c_add_72be8 yJx4a65c_add_72be8, Cond.code yJx4a65c_add_72be8 cJx4a65c_add_72be8 4 none, Cond.methodLink RJx4a65c 129 yJx4a65c_grow_d5877, Cond.instanceMethod yJx4a65c_grow_d5877, Cond.selects RJx4a65c yJx4a65c_grow_d5877 yJx4a65c_grow_d5877, Cond.code yJx4a65c_grow_d5877 cJx4a65c_grow_d5877 1 (some (.array (.object "java/lang/Object"))), Cond.methodLink RJx4a65c 69 yJx4a65c_grow_92f84, Cond.instanceMethod yJx4a65c_grow_92f84, Cond.selects RJx4a65c yJx4a65c_grow_92f84 yJx4a65c_grow_92f84]
def wsX5_event_r5 : List Cond := [Cond.code yJx4a65c_grow_92f84 cJx4a65c_grow_92f84 4 (some (.array (.object "java/lang/Object"))), Cond.fieldLink RJx4a65c 39 "java/util/ArrayList" "DEFAULTCAPACITY_EMPTY_ELEMENTDATA" "[Ljava/lang/Object;", Cond.methodLink RJx4a65c 79 Lib.Math.max.name, Cond.static Lib.Math.max.name, Cond.code Lib.Math.max.name Lib.Math.max.code 2 (some .int), Cond.classLink RJx4a65c 7 "java/lang/Object", Cond.methodLink RJx4a65c 73 yJ8_newLength_cabcc, Cond.static yJ8_newLength_cabcc, Cond.initialized RJ8, Cond.code yJ8_newLength_cabcc cJ8_newLength_cabcc 4 (some .int), Cond.methodLink RJ8 194 Lib.Math.max.name, Cond.constant RJ8 200 (2147483639), Cond.methodLink RJ8 201 yJ8_hugeLength_7cf53, Cond.static yJ8_hugeLength_7cf53, Cond.code yJ8_hugeLength_7cf53 cJ8_hugeLength_7cf53 3 (some .int), Cond.methodLink RJx4a65c 66 yJ7_copyOf_1904c, Cond.static yJ7_copyOf_1904c, Cond.initialized RJ7, Cond.code yJ7_copyOf_1904c cJ7_copyOf_1904c 2 (some (.array (.object "java/lang/Object"))), Cond.methodLink RJ7 86 ⟨"java/lang/Object", "getClass", "()Ljava/lang/Class;"⟩, Cond.selects "[Ljava/lang/Object;" ⟨"java/lang/Object", "getClass", "()Ljava/lang/Class;"⟩ ⟨"java/lang/Object", "getClass", "()Ljava/lang/Class;"⟩, Cond.instanceMethod ⟨"java/lang/Object", "getClass", "()Ljava/lang/Class;"⟩, Cond.native ⟨"java/lang/Object", "getClass", "()Ljava/lang/Class;"⟩, Cond.methodLink RJ7 300 yJ7_copyOf_6403c]
def wsX5_event_r6 : List Cond := [Cond.static yJ7_copyOf_6403c, Cond.code yJ7_copyOf_6403c cJ7_copyOf_6403c 4 (some (.array (.object "java/lang/Object"))), Cond.classLink RJ7 110 "[Ljava/lang/Object;", Cond.classLink RJ7 2 "java/lang/Object", Cond.methodLink RJ7 304 Lib.Math.min.name, Cond.methodLink RJ7 150 arraycopyName, Cond.native arraycopyName, Cond.static arraycopyName, Cond.initialized "java/lang/System"]
def wsX5_event : List Cond := .code yX5_event cX5_event 6 (some .int) :: ((wsX5_event_r1 ++ (wsX5_event_r2 ++ (wsX5_event_r3 ++ (wsX5_event_r4 ++ (wsX5_event_r5 ++ wsX5_event_r6))))) ++ wsX10 ++ wsX50 ++ wsJx4a65c0 ++ wsX00)
def wsX5_worth_r1 : List Cond := [Cond.fieldLink RX5 115 "TavernBench$House" "worths" "Ljava/util/ArrayList;", Cond.classLink RX5 118 RX4, Cond.instantiable RX4 2, Cond.initialized RX4, Cond.fieldLink RX5 103 "TavernBench$House" "granted" "I", Cond.methodLink RX5 120 Lib.Math.max.name, Cond.static Lib.Math.max.name, Cond.initialized "java/lang/Math", Cond.code Lib.Math.max.name Lib.Math.max.code 2 (some .int), Cond.methodLink RX5 96 yX5_houseAt, Cond.instanceMethod yX5_houseAt, Cond.selects RX5 yX5_houseAt yX5_houseAt, Cond.initialized RX5, Cond.code yX5_houseAt cX5_houseAt 2 (some (.object "TavernBench$House")), Cond.fieldLink RX5 19 "TavernBench" "houses" "Ljava/util/ArrayList;", Cond.classLink RX5 93 "TavernBench$House", Cond.methodLink RX5 67 yJx4a65c_size_8abf5, Cond.instanceMethod yJx4a65c_size_8abf5, Cond.selects RJx4a65c yJx4a65c_size_8abf5 yJx4a65c_size_8abf5, Cond.initialized RJx4a65c, Cond.code yJx4a65c_size_8abf5 cJx4a65c_size_8abf5 1 (some .int), Cond.fieldLink RJx4a65c 48 "java/util/ArrayList" "size" "I", Cond.methodLink RX5 195 yJx4a65c_get_915e3, Cond.instanceMethod yJx4a65c_get_915e3]
def wsX5_worth_r2 : List Cond := [Cond.selects RJx4a65c yJx4a65c_get_915e3 yJx4a65c_get_915e3, Cond.code yJx4a65c_get_915e3 cJx4a65c_get_915e3 2 (some (.object "java/lang/Object")), Cond.methodLink RJx4a65c 118 yJ15_checkIndex_7cf53, Cond.static yJ15_checkIndex_7cf53, Cond.initialized RJ15, Cond.code yJ15_checkIndex_7cf53 cJ15_checkIndex_7cf53 2 (some .int), Cond.methodLink RJ15 105 yJ3_checkIndex_8e157, Cond.static yJ3_checkIndex_8e157, Cond.initialized RJ3, Cond.code yJ3_checkIndex_8e157 cJ3_checkIndex_8e157 3 (some .int), Cond.methodLink RJx4a65c 123 yJx4a65c_elementData_915e3, Cond.instanceMethod yJx4a65c_elementData_915e3, Cond.selects RJx4a65c yJx4a65c_elementData_915e3 yJx4a65c_elementData_915e3, Cond.code yJx4a65c_elementData_915e3 cJx4a65c_elementData_915e3 2 (some (.object "java/lang/Object")), Cond.fieldLink RJx4a65c 9 "java/util/ArrayList" "elementData" "[Ljava/lang/Object;", Cond.methodLink RX5 46 yX5_isDay, Cond.static yX5_isDay, Cond.code yX5_isDay cX5_isDay 1 (some .boolean), Cond.methodLink RX5 59 yX5_isIn, Cond.static yX5_isIn, Cond.code yX5_isIn cX5_isIn 3 (some .boolean), Cond.methodLink RX5 83 yX5_isWorth, Cond.static yX5_isWorth, Cond.code yX5_isWorth cX5_isWorth 1 (some .boolean)]
def wsX5_worth_r3 : List Cond := [Cond.constant RX5 194 (100000), Cond.methodLink RX5 126 yX4_init, Cond.instanceMethod yX4_init, Cond.code yX4_init cX4_init 3 none, Cond.methodLink RX4 1 objectInit, Cond.instanceMethod objectInit, Cond.code objectInit ⟨#[0xb1]⟩ 1 none, Cond.fieldLink RX4 7 "TavernBench$Worth" "day" "I", Cond.fieldLink RX4 13 "TavernBench$Worth" "amount" "I", Cond.methodLink RX5 71 yJx4a65c_add_9ea2d, Cond.instanceMethod yJx4a65c_add_9ea2d, Cond.selects RJx4a65c yJx4a65c_add_9ea2d yJx4a65c_add_9ea2d, Cond.code yJx4a65c_add_9ea2d cJx4a65c_add_9ea2d 2 (some .boolean), Cond.fieldLink RJx4a65c 63 "java/util/ArrayList" "modCount" "I", Cond.sameField "java/util/ArrayList" "java/util/AbstractList" "modCount" "I", Cond.methodLink RJx4a65c 131 yJx4a65c_add_72be8, Cond.instanceMethod yJx4a65c_add_72be8, Cond.selects RJx4a65c yJx4a65c_add_72be8 yJx4a65c_add_72be8, Cond.code yJx4a65c_add_72be8 cJx4a65c_add_72be8 4 none, Cond.methodLink RJx4a65c 129 yJx4a65c_grow_d5877, Cond.instanceMethod yJx4a65c_grow_d5877, Cond.selects RJx4a65c yJx4a65c_grow_d5877 yJx4a65c_grow_d5877, Cond.code yJx4a65c_grow_d5877 cJx4a65c_grow_d5877 1 (some (.array (.object "java/lang/Object"))), Cond.methodLink RJx4a65c 69 yJx4a65c_grow_92f84]
def wsX5_worth_r4 : List Cond := [Cond.instanceMethod yJx4a65c_grow_92f84, Cond.selects RJx4a65c yJx4a65c_grow_92f84 yJx4a65c_grow_92f84, Cond.code yJx4a65c_grow_92f84 cJx4a65c_grow_92f84 4 (some (.array (.object "java/lang/Object"))), Cond.fieldLink RJx4a65c 39 "java/util/ArrayList" "DEFAULTCAPACITY_EMPTY_ELEMENTDATA" "[Ljava/lang/Object;", Cond.methodLink RJx4a65c 79 Lib.Math.max.name, Cond.classLink RJx4a65c 7 "java/lang/Object", Cond.methodLink RJx4a65c 73 yJ8_newLength_cabcc, Cond.static yJ8_newLength_cabcc, Cond.initialized RJ8, Cond.code yJ8_newLength_cabcc cJ8_newLength_cabcc 4 (some .int), Cond.methodLink RJ8 194 Lib.Math.max.name, Cond.constant RJ8 200 (2147483639), Cond.methodLink RJ8 201 yJ8_hugeLength_7cf53, Cond.static yJ8_hugeLength_7cf53, Cond.code yJ8_hugeLength_7cf53 cJ8_hugeLength_7cf53 3 (some .int), Cond.methodLink RJx4a65c 66 yJ7_copyOf_1904c, Cond.static yJ7_copyOf_1904c, Cond.initialized RJ7, Cond.code yJ7_copyOf_1904c cJ7_copyOf_1904c 2 (some (.array (.object "java/lang/Object"))), Cond.methodLink RJ7 86 ⟨"java/lang/Object", "getClass", "()Ljava/lang/Class;"⟩, Cond.selects "[Ljava/lang/Object;" ⟨"java/lang/Object", "getClass", "()Ljava/lang/Class;"⟩ ⟨"java/lang/Object", "getClass", "()Ljava/lang/Class;"⟩, Cond.instanceMethod ⟨"java/lang/Object", "getClass", "()Ljava/lang/Class;"⟩, Cond.native ⟨"java/lang/Object", "getClass", "()Ljava/lang/Class;"⟩, Cond.methodLink RJ7 300 yJ7_copyOf_6403c]
def wsX5_worth_r5 : List Cond := [Cond.static yJ7_copyOf_6403c, Cond.code yJ7_copyOf_6403c cJ7_copyOf_6403c 4 (some (.array (.object "java/lang/Object"))), Cond.classLink RJ7 110 "[Ljava/lang/Object;", Cond.classLink RJ7 2 "java/lang/Object", Cond.methodLink RJ7 304 Lib.Math.min.name, Cond.static Lib.Math.min.name, Cond.code Lib.Math.min.name Lib.Math.min.code 2 (some .int), Cond.methodLink RJ7 150 arraycopyName, Cond.native arraycopyName, Cond.static arraycopyName, Cond.initialized "java/lang/System"]
def wsX5_worth : List Cond := .code yX5_worth cX5_worth 5 (some .int) :: ((wsX5_worth_r1 ++ (wsX5_worth_r2 ++ (wsX5_worth_r3 ++ (wsX5_worth_r4 ++ wsX5_worth_r5)))) ++ wsX10 ++ wsX40 ++ wsX50 ++ wsJx4a65c0)
def wsX5_on_r1 : List Cond := [Cond.methodLink RX5 96 yX5_houseAt, Cond.instanceMethod yX5_houseAt, Cond.selects RX5 yX5_houseAt yX5_houseAt, Cond.initialized RX5, Cond.code yX5_houseAt cX5_houseAt 2 (some (.object "TavernBench$House")), Cond.fieldLink RX5 19 "TavernBench" "houses" "Ljava/util/ArrayList;", Cond.classLink RX5 93 "TavernBench$House", Cond.methodLink RX5 67 yJx4a65c_size_8abf5, Cond.instanceMethod yJx4a65c_size_8abf5, Cond.selects RJx4a65c yJx4a65c_size_8abf5 yJx4a65c_size_8abf5, Cond.initialized RJx4a65c, Cond.code yJx4a65c_size_8abf5 cJx4a65c_size_8abf5 1 (some .int), Cond.fieldLink RJx4a65c 48 "java/util/ArrayList" "size" "I", Cond.methodLink RX5 195 yJx4a65c_get_915e3, Cond.instanceMethod yJx4a65c_get_915e3, Cond.selects RJx4a65c yJx4a65c_get_915e3 yJx4a65c_get_915e3, Cond.code yJx4a65c_get_915e3 cJx4a65c_get_915e3 2 (some (.object "java/lang/Object")), Cond.methodLink RJx4a65c 118 yJ15_checkIndex_7cf53, Cond.static yJ15_checkIndex_7cf53, Cond.initialized RJ15, Cond.code yJ15_checkIndex_7cf53 cJ15_checkIndex_7cf53 2 (some .int), Cond.methodLink RJ15 105 yJ3_checkIndex_8e157, Cond.static yJ3_checkIndex_8e157, Cond.initialized RJ3]
def wsX5_on_r2 : List Cond := [Cond.code yJ3_checkIndex_8e157 cJ3_checkIndex_8e157 3 (some .int), Cond.methodLink RJx4a65c 123 yJx4a65c_elementData_915e3, Cond.instanceMethod yJx4a65c_elementData_915e3, Cond.selects RJx4a65c yJx4a65c_elementData_915e3 yJx4a65c_elementData_915e3, Cond.code yJx4a65c_elementData_915e3 cJx4a65c_elementData_915e3 2 (some (.object "java/lang/Object")), Cond.fieldLink RJx4a65c 9 "java/util/ArrayList" "elementData" "[Ljava/lang/Object;", Cond.methodLink RX5 46 yX5_isDay, Cond.static yX5_isDay, Cond.code yX5_isDay cX5_isDay 1 (some .boolean), Cond.methodLink RX5 59 yX5_isIn, Cond.static yX5_isIn, Cond.code yX5_isIn cX5_isIn 3 (some .boolean), Cond.methodLink RX5 129 yX1_stateOn, Cond.instanceMethod yX1_stateOn, Cond.selects RX1 yX1_stateOn yX1_stateOn, Cond.initialized RX1, Cond.code yX1_stateOn cX1_stateOn 6 (some .int), Cond.fieldLink RX1 21 "TavernBench$House" "granted" "I", Cond.methodLink RX1 55 Lib.Math.min.name, Cond.static Lib.Math.min.name, Cond.initialized "java/lang/Math", Cond.code Lib.Math.min.name Lib.Math.min.code 2 (some .int), Cond.constant RX1 86 (1000000), Cond.methodLink RX1 77 yX1_endedFrom]
def wsX5_on_r3 : List Cond := [Cond.instanceMethod yX1_endedFrom, Cond.selects RX1 yX1_endedFrom yX1_endedFrom, Cond.code yX1_endedFrom cX1_endedFrom 6 (some .int), Cond.fieldLink RX1 27 "TavernBench$House" "events" "Ljava/util/ArrayList;", Cond.classLink RX1 47 "TavernBench$Event", Cond.fieldLink RX1 69 "TavernBench$Event" "kind" "I", Cond.fieldLink RX1 87 "TavernBench$Event" "day" "I", Cond.methodLink RX1 61 yJx4a65c_size_8abf5, Cond.methodLink RX1 65 yJx4a65c_get_915e3, Cond.methodLink RX1 90 yX1_offencesCounted, Cond.instanceMethod yX1_offencesCounted, Cond.selects RX1 yX1_offencesCounted yX1_offencesCounted, Cond.code yX1_offencesCounted cX1_offencesCounted 7 (some .int), Cond.fieldLink RX1 52 "TavernBench$Event" "quashedFrom" "I", Cond.methodLink RX1 80 yX1_lapsedFrom, Cond.instanceMethod yX1_lapsedFrom, Cond.selects RX1 yX1_lapsedFrom yX1_lapsedFrom, Cond.code yX1_lapsedFrom cX1_lapsedFrom 7 (some .int), Cond.methodLink RX1 93 yX1_isTransferred, Cond.instanceMethod yX1_isTransferred, Cond.selects RX1 yX1_isTransferred yX1_isTransferred, Cond.code yX1_isTransferred cX1_isTransferred 5 (some .boolean), Cond.methodLink RX1 83 yX1_surplusFrom, Cond.instanceMethod yX1_surplusFrom]
def wsX5_on_r4 : List Cond := [Cond.selects RX1 yX1_surplusFrom yX1_surplusFrom, Cond.code yX1_surplusFrom cX1_surplusFrom 5 (some .int), Cond.methodLink RX5 133 yX1_offencesCounted, Cond.methodLink RX5 136 yX1_conditionOn, Cond.instanceMethod yX1_conditionOn, Cond.selects RX1 yX1_conditionOn yX1_conditionOn, Cond.code yX1_conditionOn cX1_conditionOn 7 (some .int), Cond.fieldLink RX1 70 "TavernBench$Event" "v" "I", Cond.methodLink RX5 139 yX1_worthOn, Cond.instanceMethod yX1_worthOn, Cond.selects RX1 yX1_worthOn yX1_worthOn, Cond.code yX1_worthOn cX1_worthOn 6 (some .int), Cond.fieldLink RX1 31 "TavernBench$House" "worths" "Ljava/util/ArrayList;", Cond.classLink RX1 34 "TavernBench$Worth", Cond.fieldLink RX1 105 "TavernBench$Worth" "amount" "I", Cond.fieldLink RX1 108 "TavernBench$Worth" "day" "I", Cond.methodLink RX1 101 yJx4a65c_isEmpty_aae02, Cond.instanceMethod yJx4a65c_isEmpty_aae02, Cond.selects RJx4a65c yJx4a65c_isEmpty_aae02 yJx4a65c_isEmpty_aae02, Cond.code yJx4a65c_isEmpty_aae02 cJx4a65c_isEmpty_aae02 1 (some .boolean)]
def wsX5_on : List Cond := .code yX5_on cX5_on 5 (some .int) :: ((wsX5_on_r1 ++ (wsX5_on_r2 ++ (wsX5_on_r3 ++ wsX5_on_r4))) ++ wsX50 ++ wsJx4a65c0 ++ wsX10 ++ wsX00 ++ wsX40)
def wsX5_lawOf_r1 : List Cond := [Cond.fieldLink RX5 31 "TavernBench" "shutLaw" "LTavernBench$Law;", Cond.fieldLink RX5 10 "TavernBench" "laws" "Ljava/util/ArrayList;", Cond.classLink RX5 26 "TavernBench$Law", Cond.fieldLink RX5 199 "TavernBench$Law" "kind" "I", Cond.fieldLink RX5 200 "TavernBench$Law" "weekday" "I", Cond.fieldLink RX5 203 "TavernBench$Law" "day" "I", Cond.methodLink RX5 50 yX5_isFeast, Cond.instanceMethod yX5_isFeast, Cond.selects RX5 yX5_isFeast yX5_isFeast, Cond.initialized RX5, Cond.code yX5_isFeast cX5_isFeast 3 (some .boolean), Cond.fieldLink RX5 53 "TavernBench" "feasts" "I", Cond.fieldLink RX5 22 "TavernBench" "feastDays" "[I", Cond.methodLink RX5 67 yJx4a65c_size_8abf5, Cond.instanceMethod yJx4a65c_size_8abf5, Cond.selects RJx4a65c yJx4a65c_size_8abf5 yJx4a65c_size_8abf5, Cond.initialized RJx4a65c, Cond.code yJx4a65c_size_8abf5 cJx4a65c_size_8abf5 1 (some .int), Cond.fieldLink RJx4a65c 48 "java/util/ArrayList" "size" "I", Cond.methodLink RX5 195 yJx4a65c_get_915e3, Cond.instanceMethod yJx4a65c_get_915e3, Cond.selects RJx4a65c yJx4a65c_get_915e3 yJx4a65c_get_915e3, Cond.code yJx4a65c_get_915e3 cJx4a65c_get_915e3 2 (some (.object "java/lang/Object")), Cond.methodLink RJx4a65c 118 yJ15_checkIndex_7cf53]
def wsX5_lawOf_r2 : List Cond := [Cond.static yJ15_checkIndex_7cf53, Cond.initialized RJ15, Cond.code yJ15_checkIndex_7cf53 cJ15_checkIndex_7cf53 2 (some .int), Cond.methodLink RJ15 105 yJ3_checkIndex_8e157, Cond.static yJ3_checkIndex_8e157, Cond.initialized RJ3, Cond.code yJ3_checkIndex_8e157 cJ3_checkIndex_8e157 3 (some .int), Cond.methodLink RJx4a65c 123 yJx4a65c_elementData_915e3, Cond.instanceMethod yJx4a65c_elementData_915e3, Cond.selects RJx4a65c yJx4a65c_elementData_915e3 yJx4a65c_elementData_915e3, Cond.code yJx4a65c_elementData_915e3 cJx4a65c_elementData_915e3 2 (some (.object "java/lang/Object")), Cond.fieldLink RJx4a65c 9 "java/util/ArrayList" "elementData" "[Ljava/lang/Object;"]
def wsX5_lawOf : List Cond := .code yX5_lawOf cX5_lawOf 8 (some (.object "TavernBench$Law")) :: ((wsX5_lawOf_r1 ++ wsX5_lawOf_r2) ++ wsX50 ++ wsX20 ++ wsJx4a65c0)
def wsX5_openOverMidnightUntil_r1 : List Cond := [Cond.fieldLink RX5 146 "TavernBench$House" "kind" "I", Cond.fieldLink RX5 159 "TavernBench$Law" "to" "I", Cond.methodLink RX5 120 Lib.Math.max.name, Cond.static Lib.Math.max.name, Cond.initialized "java/lang/Math", Cond.code Lib.Math.max.name Lib.Math.max.code 2 (some .int), Cond.methodLink RX5 136 yX1_conditionOn, Cond.instanceMethod yX1_conditionOn, Cond.selects RX1 yX1_conditionOn yX1_conditionOn, Cond.initialized RX1, Cond.code yX1_conditionOn cX1_conditionOn 7 (some .int), Cond.fieldLink RX1 27 "TavernBench$House" "events" "Ljava/util/ArrayList;", Cond.classLink RX1 47 "TavernBench$Event", Cond.fieldLink RX1 69 "TavernBench$Event" "kind" "I", Cond.fieldLink RX1 87 "TavernBench$Event" "day" "I", Cond.fieldLink RX1 70 "TavernBench$Event" "v" "I", Cond.methodLink RX1 61 yJx4a65c_size_8abf5, Cond.instanceMethod yJx4a65c_size_8abf5, Cond.selects RJx4a65c yJx4a65c_size_8abf5 yJx4a65c_size_8abf5, Cond.initialized RJx4a65c, Cond.code yJx4a65c_size_8abf5 cJx4a65c_size_8abf5 1 (some .int), Cond.fieldLink RJx4a65c 48 "java/util/ArrayList" "size" "I", Cond.methodLink RX1 65 yJx4a65c_get_915e3, Cond.instanceMethod yJx4a65c_get_915e3]
def wsX5_openOverMidnightUntil_r2 : List Cond := [Cond.selects RJx4a65c yJx4a65c_get_915e3 yJx4a65c_get_915e3, Cond.code yJx4a65c_get_915e3 cJx4a65c_get_915e3 2 (some (.object "java/lang/Object")), Cond.methodLink RJx4a65c 118 yJ15_checkIndex_7cf53, Cond.static yJ15_checkIndex_7cf53, Cond.initialized RJ15, Cond.code yJ15_checkIndex_7cf53 cJ15_checkIndex_7cf53 2 (some .int), Cond.methodLink RJ15 105 yJ3_checkIndex_8e157, Cond.static yJ3_checkIndex_8e157, Cond.initialized RJ3, Cond.code yJ3_checkIndex_8e157 cJ3_checkIndex_8e157 3 (some .int), Cond.methodLink RJx4a65c 123 yJx4a65c_elementData_915e3, Cond.instanceMethod yJx4a65c_elementData_915e3, Cond.selects RJx4a65c yJx4a65c_elementData_915e3 yJx4a65c_elementData_915e3, Cond.code yJx4a65c_elementData_915e3 cJx4a65c_elementData_915e3 2 (some (.object "java/lang/Object")), Cond.fieldLink RJx4a65c 9 "java/util/ArrayList" "elementData" "[Ljava/lang/Object;", Cond.static yX5_isIn, Cond.initialized RX5, Cond.code yX5_isIn cX5_isIn 3 (some .boolean), Cond.methodLink RX5 166 yX1_hasLicence, Cond.instanceMethod yX1_hasLicence, Cond.selects RX1 yX1_hasLicence yX1_hasLicence, Cond.code yX1_hasLicence cX1_hasLicence 2 (some .boolean), Cond.methodLink RX1 73 yX1_stateOn, Cond.instanceMethod yX1_stateOn]
def wsX5_openOverMidnightUntil_r3 : List Cond := [Cond.selects RX1 yX1_stateOn yX1_stateOn, Cond.code yX1_stateOn cX1_stateOn 6 (some .int), Cond.fieldLink RX1 21 "TavernBench$House" "granted" "I", Cond.methodLink RX1 55 Lib.Math.min.name, Cond.static Lib.Math.min.name, Cond.code Lib.Math.min.name Lib.Math.min.code 2 (some .int), Cond.constant RX1 86 (1000000), Cond.methodLink RX1 77 yX1_endedFrom, Cond.instanceMethod yX1_endedFrom, Cond.selects RX1 yX1_endedFrom yX1_endedFrom, Cond.code yX1_endedFrom cX1_endedFrom 6 (some .int), Cond.methodLink RX1 90 yX1_offencesCounted, Cond.instanceMethod yX1_offencesCounted, Cond.selects RX1 yX1_offencesCounted yX1_offencesCounted, Cond.code yX1_offencesCounted cX1_offencesCounted 7 (some .int), Cond.fieldLink RX1 52 "TavernBench$Event" "quashedFrom" "I", Cond.methodLink RX1 80 yX1_lapsedFrom, Cond.instanceMethod yX1_lapsedFrom, Cond.selects RX1 yX1_lapsedFrom yX1_lapsedFrom, Cond.code yX1_lapsedFrom cX1_lapsedFrom 7 (some .int), Cond.methodLink RX1 93 yX1_isTransferred, Cond.instanceMethod yX1_isTransferred, Cond.selects RX1 yX1_isTransferred yX1_isTransferred, Cond.code yX1_isTransferred cX1_isTransferred 5 (some .boolean)]
def wsX5_openOverMidnightUntil_r4 : List Cond := [Cond.methodLink RX1 83 yX1_surplusFrom, Cond.instanceMethod yX1_surplusFrom, Cond.selects RX1 yX1_surplusFrom yX1_surplusFrom, Cond.code yX1_surplusFrom cX1_surplusFrom 5 (some .int), Cond.methodLink RX5 149 yX5_lawOf, Cond.instanceMethod yX5_lawOf, Cond.selects RX5 yX5_lawOf yX5_lawOf, Cond.code yX5_lawOf cX5_lawOf 8 (some (.object "TavernBench$Law")), Cond.fieldLink RX5 31 "TavernBench" "shutLaw" "LTavernBench$Law;", Cond.fieldLink RX5 10 "TavernBench" "laws" "Ljava/util/ArrayList;", Cond.classLink RX5 26 "TavernBench$Law", Cond.fieldLink RX5 199 "TavernBench$Law" "kind" "I", Cond.fieldLink RX5 200 "TavernBench$Law" "weekday" "I", Cond.fieldLink RX5 203 "TavernBench$Law" "day" "I", Cond.methodLink RX5 50 yX5_isFeast, Cond.instanceMethod yX5_isFeast, Cond.selects RX5 yX5_isFeast yX5_isFeast, Cond.code yX5_isFeast cX5_isFeast 3 (some .boolean), Cond.fieldLink RX5 53 "TavernBench" "feasts" "I", Cond.fieldLink RX5 22 "TavernBench" "feastDays" "[I", Cond.methodLink RX5 67 yJx4a65c_size_8abf5, Cond.methodLink RX5 195 yJx4a65c_get_915e3]
def wsX5_openOverMidnightUntil : List Cond := .code yX5_openOverMidnightUntil cX5_openOverMidnightUntil 3 (some .int) :: ((wsX5_openOverMidnightUntil_r1 ++ (wsX5_openOverMidnightUntil_r2 ++ (wsX5_openOverMidnightUntil_r3 ++ wsX5_openOverMidnightUntil_r4))) ++ wsX10 ++ wsX20 ++ wsX00 ++ wsJx4a65c0 ++ wsX50)
def wsX5_openTodayUntil_r1 : List Cond := [Cond.fieldLink RX5 146 "TavernBench$House" "kind" "I", Cond.fieldLink RX5 159 "TavernBench$Law" "to" "I", Cond.methodLink RX5 226 Lib.Math.min.name, Cond.static Lib.Math.min.name, Cond.initialized "java/lang/Math", Cond.code Lib.Math.min.name Lib.Math.min.code 2 (some .int), Cond.methodLink RX5 166 yX1_hasLicence, Cond.instanceMethod yX1_hasLicence, Cond.selects RX1 yX1_hasLicence yX1_hasLicence, Cond.initialized RX1, Cond.code yX1_hasLicence cX1_hasLicence 2 (some .boolean), Cond.methodLink RX1 73 yX1_stateOn, Cond.instanceMethod yX1_stateOn, Cond.selects RX1 yX1_stateOn yX1_stateOn, Cond.code yX1_stateOn cX1_stateOn 6 (some .int), Cond.fieldLink RX1 21 "TavernBench$House" "granted" "I", Cond.methodLink RX1 55 Lib.Math.min.name, Cond.constant RX1 86 (1000000), Cond.methodLink RX1 77 yX1_endedFrom, Cond.instanceMethod yX1_endedFrom, Cond.selects RX1 yX1_endedFrom yX1_endedFrom, Cond.code yX1_endedFrom cX1_endedFrom 6 (some .int), Cond.fieldLink RX1 27 "TavernBench$House" "events" "Ljava/util/ArrayList;", Cond.classLink RX1 47 "TavernBench$Event"]
def wsX5_openTodayUntil_r2 : List Cond := [Cond.fieldLink RX1 69 "TavernBench$Event" "kind" "I", Cond.fieldLink RX1 87 "TavernBench$Event" "day" "I", Cond.methodLink RX1 61 yJx4a65c_size_8abf5, Cond.instanceMethod yJx4a65c_size_8abf5, Cond.selects RJx4a65c yJx4a65c_size_8abf5 yJx4a65c_size_8abf5, Cond.initialized RJx4a65c, Cond.code yJx4a65c_size_8abf5 cJx4a65c_size_8abf5 1 (some .int), Cond.fieldLink RJx4a65c 48 "java/util/ArrayList" "size" "I", Cond.methodLink RX1 65 yJx4a65c_get_915e3, Cond.instanceMethod yJx4a65c_get_915e3, Cond.selects RJx4a65c yJx4a65c_get_915e3 yJx4a65c_get_915e3, Cond.code yJx4a65c_get_915e3 cJx4a65c_get_915e3 2 (some (.object "java/lang/Object")), Cond.methodLink RJx4a65c 118 yJ15_checkIndex_7cf53, Cond.static yJ15_checkIndex_7cf53, Cond.initialized RJ15, Cond.code yJ15_checkIndex_7cf53 cJ15_checkIndex_7cf53 2 (some .int), Cond.methodLink RJ15 105 yJ3_checkIndex_8e157, Cond.static yJ3_checkIndex_8e157, Cond.initialized RJ3, Cond.code yJ3_checkIndex_8e157 cJ3_checkIndex_8e157 3 (some .int), Cond.methodLink RJx4a65c 123 yJx4a65c_elementData_915e3, Cond.instanceMethod yJx4a65c_elementData_915e3, Cond.selects RJx4a65c yJx4a65c_elementData_915e3 yJx4a65c_elementData_915e3, Cond.code yJx4a65c_elementData_915e3 cJx4a65c_elementData_915e3 2 (some (.object "java/lang/Object"))]
def wsX5_openTodayUntil_r3 : List Cond := [Cond.fieldLink RJx4a65c 9 "java/util/ArrayList" "elementData" "[Ljava/lang/Object;", Cond.methodLink RX1 90 yX1_offencesCounted, Cond.instanceMethod yX1_offencesCounted, Cond.selects RX1 yX1_offencesCounted yX1_offencesCounted, Cond.code yX1_offencesCounted cX1_offencesCounted 7 (some .int), Cond.fieldLink RX1 52 "TavernBench$Event" "quashedFrom" "I", Cond.methodLink RX1 80 yX1_lapsedFrom, Cond.instanceMethod yX1_lapsedFrom, Cond.selects RX1 yX1_lapsedFrom yX1_lapsedFrom, Cond.code yX1_lapsedFrom cX1_lapsedFrom 7 (some .int), Cond.methodLink RX1 93 yX1_isTransferred, Cond.instanceMethod yX1_isTransferred, Cond.selects RX1 yX1_isTransferred yX1_isTransferred, Cond.code yX1_isTransferred cX1_isTransferred 5 (some .boolean), Cond.static yX5_isIn, Cond.initialized RX5, Cond.code yX5_isIn cX5_isIn 3 (some .boolean), Cond.methodLink RX1 83 yX1_surplusFrom, Cond.instanceMethod yX1_surplusFrom, Cond.selects RX1 yX1_surplusFrom yX1_surplusFrom, Cond.code yX1_surplusFrom cX1_surplusFrom 5 (some .int), Cond.methodLink RX5 136 yX1_conditionOn, Cond.instanceMethod yX1_conditionOn, Cond.selects RX1 yX1_conditionOn yX1_conditionOn]
def wsX5_openTodayUntil_r4 : List Cond := [Cond.code yX1_conditionOn cX1_conditionOn 7 (some .int), Cond.fieldLink RX1 70 "TavernBench$Event" "v" "I", Cond.methodLink RX5 149 yX5_lawOf, Cond.instanceMethod yX5_lawOf, Cond.selects RX5 yX5_lawOf yX5_lawOf, Cond.code yX5_lawOf cX5_lawOf 8 (some (.object "TavernBench$Law")), Cond.fieldLink RX5 31 "TavernBench" "shutLaw" "LTavernBench$Law;", Cond.fieldLink RX5 10 "TavernBench" "laws" "Ljava/util/ArrayList;", Cond.classLink RX5 26 "TavernBench$Law", Cond.fieldLink RX5 199 "TavernBench$Law" "kind" "I", Cond.fieldLink RX5 200 "TavernBench$Law" "weekday" "I", Cond.fieldLink RX5 203 "TavernBench$Law" "day" "I", Cond.methodLink RX5 50 yX5_isFeast, Cond.instanceMethod yX5_isFeast, Cond.selects RX5 yX5_isFeast yX5_isFeast, Cond.code yX5_isFeast cX5_isFeast 3 (some .boolean), Cond.fieldLink RX5 53 "TavernBench" "feasts" "I", Cond.fieldLink RX5 22 "TavernBench" "feastDays" "[I", Cond.methodLink RX5 67 yJx4a65c_size_8abf5, Cond.methodLink RX5 195 yJx4a65c_get_915e3]
def wsX5_openTodayUntil : List Cond := .code yX5_openTodayUntil cX5_openTodayUntil 5 (some .int) :: ((wsX5_openTodayUntil_r1 ++ (wsX5_openTodayUntil_r2 ++ (wsX5_openTodayUntil_r3 ++ wsX5_openTodayUntil_r4))) ++ wsX10 ++ wsX20 ++ wsX00 ++ wsJx4a65c0 ++ wsX50)
def wsX5_open_r1 : List Cond := [Cond.fieldLink RX5 146 "TavernBench$House" "kind" "I", Cond.fieldLink RX5 153 "TavernBench$Law" "from" "I", Cond.methodLink RX5 96 yX5_houseAt, Cond.instanceMethod yX5_houseAt, Cond.selects RX5 yX5_houseAt yX5_houseAt, Cond.initialized RX5, Cond.code yX5_houseAt cX5_houseAt 2 (some (.object "TavernBench$House")), Cond.fieldLink RX5 19 "TavernBench" "houses" "Ljava/util/ArrayList;", Cond.classLink RX5 93 "TavernBench$House", Cond.methodLink RX5 67 yJx4a65c_size_8abf5, Cond.instanceMethod yJx4a65c_size_8abf5, Cond.selects RJx4a65c yJx4a65c_size_8abf5 yJx4a65c_size_8abf5, Cond.initialized RJx4a65c, Cond.code yJx4a65c_size_8abf5 cJx4a65c_size_8abf5 1 (some .int), Cond.fieldLink RJx4a65c 48 "java/util/ArrayList" "size" "I", Cond.methodLink RX5 195 yJx4a65c_get_915e3, Cond.instanceMethod yJx4a65c_get_915e3, Cond.selects RJx4a65c yJx4a65c_get_915e3 yJx4a65c_get_915e3, Cond.code yJx4a65c_get_915e3 cJx4a65c_get_915e3 2 (some (.object "java/lang/Object")), Cond.methodLink RJx4a65c 118 yJ15_checkIndex_7cf53, Cond.static yJ15_checkIndex_7cf53, Cond.initialized RJ15, Cond.code yJ15_checkIndex_7cf53 cJ15_checkIndex_7cf53 2 (some .int), Cond.methodLink RJ15 105 yJ3_checkIndex_8e157]
def wsX5_open_r2 : List Cond := [Cond.static yJ3_checkIndex_8e157, Cond.initialized RJ3, Cond.code yJ3_checkIndex_8e157 cJ3_checkIndex_8e157 3 (some .int), Cond.methodLink RJx4a65c 123 yJx4a65c_elementData_915e3, Cond.instanceMethod yJx4a65c_elementData_915e3, Cond.selects RJx4a65c yJx4a65c_elementData_915e3 yJx4a65c_elementData_915e3, Cond.code yJx4a65c_elementData_915e3 cJx4a65c_elementData_915e3 2 (some (.object "java/lang/Object")), Cond.fieldLink RJx4a65c 9 "java/util/ArrayList" "elementData" "[Ljava/lang/Object;", Cond.methodLink RX5 46 yX5_isDay, Cond.static yX5_isDay, Cond.code yX5_isDay cX5_isDay 1 (some .boolean), Cond.methodLink RX5 59 yX5_isIn, Cond.static yX5_isIn, Cond.code yX5_isIn cX5_isIn 3 (some .boolean), Cond.methodLink RX5 142 yX5_openOverMidnightUntil, Cond.instanceMethod yX5_openOverMidnightUntil, Cond.selects RX5 yX5_openOverMidnightUntil yX5_openOverMidnightUntil, Cond.code yX5_openOverMidnightUntil cX5_openOverMidnightUntil 3 (some .int), Cond.fieldLink RX5 159 "TavernBench$Law" "to" "I", Cond.methodLink RX5 120 Lib.Math.max.name, Cond.static Lib.Math.max.name, Cond.initialized "java/lang/Math", Cond.code Lib.Math.max.name Lib.Math.max.code 2 (some .int), Cond.methodLink RX5 136 yX1_conditionOn]
def wsX5_open_r3 : List Cond := [Cond.instanceMethod yX1_conditionOn, Cond.selects RX1 yX1_conditionOn yX1_conditionOn, Cond.initialized RX1, Cond.code yX1_conditionOn cX1_conditionOn 7 (some .int), Cond.fieldLink RX1 27 "TavernBench$House" "events" "Ljava/util/ArrayList;", Cond.classLink RX1 47 "TavernBench$Event", Cond.fieldLink RX1 69 "TavernBench$Event" "kind" "I", Cond.fieldLink RX1 87 "TavernBench$Event" "day" "I", Cond.fieldLink RX1 70 "TavernBench$Event" "v" "I", Cond.methodLink RX1 61 yJx4a65c_size_8abf5, Cond.methodLink RX1 65 yJx4a65c_get_915e3, Cond.methodLink RX5 166 yX1_hasLicence, Cond.instanceMethod yX1_hasLicence, Cond.selects RX1 yX1_hasLicence yX1_hasLicence, Cond.code yX1_hasLicence cX1_hasLicence 2 (some .boolean), Cond.methodLink RX1 73 yX1_stateOn, Cond.instanceMethod yX1_stateOn, Cond.selects RX1 yX1_stateOn yX1_stateOn, Cond.code yX1_stateOn cX1_stateOn 6 (some .int), Cond.fieldLink RX1 21 "TavernBench$House" "granted" "I", Cond.methodLink RX1 55 Lib.Math.min.name, Cond.static Lib.Math.min.name, Cond.code Lib.Math.min.name Lib.Math.min.code 2 (some .int), Cond.constant RX1 86 (1000000)]
def wsX5_open_r4 : List Cond := [Cond.methodLink RX1 77 yX1_endedFrom, Cond.instanceMethod yX1_endedFrom, Cond.selects RX1 yX1_endedFrom yX1_endedFrom, Cond.code yX1_endedFrom cX1_endedFrom 6 (some .int), Cond.methodLink RX1 90 yX1_offencesCounted, Cond.instanceMethod yX1_offencesCounted, Cond.selects RX1 yX1_offencesCounted yX1_offencesCounted, Cond.code yX1_offencesCounted cX1_offencesCounted 7 (some .int), Cond.fieldLink RX1 52 "TavernBench$Event" "quashedFrom" "I", Cond.methodLink RX1 80 yX1_lapsedFrom, Cond.instanceMethod yX1_lapsedFrom, Cond.selects RX1 yX1_lapsedFrom yX1_lapsedFrom, Cond.code yX1_lapsedFrom cX1_lapsedFrom 7 (some .int), Cond.methodLink RX1 93 yX1_isTransferred, Cond.instanceMethod yX1_isTransferred, Cond.selects RX1 yX1_isTransferred yX1_isTransferred, Cond.code yX1_isTransferred cX1_isTransferred 5 (some .boolean), Cond.methodLink RX1 83 yX1_surplusFrom, Cond.instanceMethod yX1_surplusFrom, Cond.selects RX1 yX1_surplusFrom yX1_surplusFrom, Cond.code yX1_surplusFrom cX1_surplusFrom 5 (some .int), Cond.methodLink RX5 149 yX5_lawOf, Cond.instanceMethod yX5_lawOf, Cond.selects RX5 yX5_lawOf yX5_lawOf]
def wsX5_open_r5 : List Cond := [Cond.code yX5_lawOf cX5_lawOf 8 (some (.object "TavernBench$Law")), Cond.fieldLink RX5 31 "TavernBench" "shutLaw" "LTavernBench$Law;", Cond.fieldLink RX5 10 "TavernBench" "laws" "Ljava/util/ArrayList;", Cond.classLink RX5 26 "TavernBench$Law", Cond.fieldLink RX5 199 "TavernBench$Law" "kind" "I", Cond.fieldLink RX5 200 "TavernBench$Law" "weekday" "I", Cond.fieldLink RX5 203 "TavernBench$Law" "day" "I", Cond.methodLink RX5 50 yX5_isFeast, Cond.instanceMethod yX5_isFeast, Cond.selects RX5 yX5_isFeast yX5_isFeast, Cond.code yX5_isFeast cX5_isFeast 3 (some .boolean), Cond.fieldLink RX5 53 "TavernBench" "feasts" "I", Cond.fieldLink RX5 22 "TavernBench" "feastDays" "[I", Cond.methodLink RX5 156 yX5_openTodayUntil, Cond.instanceMethod yX5_openTodayUntil, Cond.selects RX5 yX5_openTodayUntil yX5_openTodayUntil, Cond.code yX5_openTodayUntil cX5_openTodayUntil 5 (some .int), Cond.methodLink RX5 226 Lib.Math.min.name]
def wsX5_open : List Cond := .code yX5_open cX5_open 5 (some .int) :: ((wsX5_open_r1 ++ (wsX5_open_r2 ++ (wsX5_open_r3 ++ (wsX5_open_r4 ++ wsX5_open_r5)))) ++ wsX10 ++ wsX20 ++ wsX50 ++ wsJx4a65c0 ++ wsX00)
def wsX5_minutes_r1 : List Cond := [Cond.fieldLink RX5 146 "TavernBench$House" "kind" "I", Cond.fieldLink RX5 153 "TavernBench$Law" "from" "I", Cond.methodLink RX5 120 Lib.Math.max.name, Cond.static Lib.Math.max.name, Cond.initialized "java/lang/Math", Cond.code Lib.Math.max.name Lib.Math.max.code 2 (some .int), Cond.methodLink RX5 96 yX5_houseAt, Cond.instanceMethod yX5_houseAt, Cond.selects RX5 yX5_houseAt yX5_houseAt, Cond.initialized RX5, Cond.code yX5_houseAt cX5_houseAt 2 (some (.object "TavernBench$House")), Cond.fieldLink RX5 19 "TavernBench" "houses" "Ljava/util/ArrayList;", Cond.classLink RX5 93 "TavernBench$House", Cond.methodLink RX5 67 yJx4a65c_size_8abf5, Cond.instanceMethod yJx4a65c_size_8abf5, Cond.selects RJx4a65c yJx4a65c_size_8abf5 yJx4a65c_size_8abf5, Cond.initialized RJx4a65c, Cond.code yJx4a65c_size_8abf5 cJx4a65c_size_8abf5 1 (some .int), Cond.fieldLink RJx4a65c 48 "java/util/ArrayList" "size" "I", Cond.methodLink RX5 195 yJx4a65c_get_915e3, Cond.instanceMethod yJx4a65c_get_915e3, Cond.selects RJx4a65c yJx4a65c_get_915e3 yJx4a65c_get_915e3, Cond.code yJx4a65c_get_915e3 cJx4a65c_get_915e3 2 (some (.object "java/lang/Object")), Cond.methodLink RJx4a65c 118 yJ15_checkIndex_7cf53]
def wsX5_minutes_r2 : List Cond := [Cond.static yJ15_checkIndex_7cf53, Cond.initialized RJ15, Cond.code yJ15_checkIndex_7cf53 cJ15_checkIndex_7cf53 2 (some .int), Cond.methodLink RJ15 105 yJ3_checkIndex_8e157, Cond.static yJ3_checkIndex_8e157, Cond.initialized RJ3, Cond.code yJ3_checkIndex_8e157 cJ3_checkIndex_8e157 3 (some .int), Cond.methodLink RJx4a65c 123 yJx4a65c_elementData_915e3, Cond.instanceMethod yJx4a65c_elementData_915e3, Cond.selects RJx4a65c yJx4a65c_elementData_915e3 yJx4a65c_elementData_915e3, Cond.code yJx4a65c_elementData_915e3 cJx4a65c_elementData_915e3 2 (some (.object "java/lang/Object")), Cond.fieldLink RJx4a65c 9 "java/util/ArrayList" "elementData" "[Ljava/lang/Object;", Cond.methodLink RX5 46 yX5_isDay, Cond.static yX5_isDay, Cond.code yX5_isDay cX5_isDay 1 (some .boolean), Cond.methodLink RX5 59 yX5_isIn, Cond.static yX5_isIn, Cond.code yX5_isIn cX5_isIn 3 (some .boolean), Cond.methodLink RX5 142 yX5_openOverMidnightUntil, Cond.instanceMethod yX5_openOverMidnightUntil, Cond.selects RX5 yX5_openOverMidnightUntil yX5_openOverMidnightUntil, Cond.code yX5_openOverMidnightUntil cX5_openOverMidnightUntil 3 (some .int), Cond.fieldLink RX5 159 "TavernBench$Law" "to" "I", Cond.methodLink RX5 136 yX1_conditionOn]
def wsX5_minutes_r3 : List Cond := [Cond.instanceMethod yX1_conditionOn, Cond.selects RX1 yX1_conditionOn yX1_conditionOn, Cond.initialized RX1, Cond.code yX1_conditionOn cX1_conditionOn 7 (some .int), Cond.fieldLink RX1 27 "TavernBench$House" "events" "Ljava/util/ArrayList;", Cond.classLink RX1 47 "TavernBench$Event", Cond.fieldLink RX1 69 "TavernBench$Event" "kind" "I", Cond.fieldLink RX1 87 "TavernBench$Event" "day" "I", Cond.fieldLink RX1 70 "TavernBench$Event" "v" "I", Cond.methodLink RX1 61 yJx4a65c_size_8abf5, Cond.methodLink RX1 65 yJx4a65c_get_915e3, Cond.methodLink RX5 166 yX1_hasLicence, Cond.instanceMethod yX1_hasLicence, Cond.selects RX1 yX1_hasLicence yX1_hasLicence, Cond.code yX1_hasLicence cX1_hasLicence 2 (some .boolean), Cond.methodLink RX1 73 yX1_stateOn, Cond.instanceMethod yX1_stateOn, Cond.selects RX1 yX1_stateOn yX1_stateOn, Cond.code yX1_stateOn cX1_stateOn 6 (some .int), Cond.fieldLink RX1 21 "TavernBench$House" "granted" "I", Cond.methodLink RX1 55 Lib.Math.min.name, Cond.static Lib.Math.min.name, Cond.code Lib.Math.min.name Lib.Math.min.code 2 (some .int), Cond.constant RX1 86 (1000000)]
def wsX5_minutes_r4 : List Cond := [Cond.methodLink RX1 77 yX1_endedFrom, Cond.instanceMethod yX1_endedFrom, Cond.selects RX1 yX1_endedFrom yX1_endedFrom, Cond.code yX1_endedFrom cX1_endedFrom 6 (some .int), Cond.methodLink RX1 90 yX1_offencesCounted, Cond.instanceMethod yX1_offencesCounted, Cond.selects RX1 yX1_offencesCounted yX1_offencesCounted, Cond.code yX1_offencesCounted cX1_offencesCounted 7 (some .int), Cond.fieldLink RX1 52 "TavernBench$Event" "quashedFrom" "I", Cond.methodLink RX1 80 yX1_lapsedFrom, Cond.instanceMethod yX1_lapsedFrom, Cond.selects RX1 yX1_lapsedFrom yX1_lapsedFrom, Cond.code yX1_lapsedFrom cX1_lapsedFrom 7 (some .int), Cond.methodLink RX1 93 yX1_isTransferred, Cond.instanceMethod yX1_isTransferred, Cond.selects RX1 yX1_isTransferred yX1_isTransferred, Cond.code yX1_isTransferred cX1_isTransferred 5 (some .boolean), Cond.methodLink RX1 83 yX1_surplusFrom, Cond.instanceMethod yX1_surplusFrom, Cond.selects RX1 yX1_surplusFrom yX1_surplusFrom, Cond.code yX1_surplusFrom cX1_surplusFrom 5 (some .int), Cond.methodLink RX5 149 yX5_lawOf, Cond.instanceMethod yX5_lawOf, Cond.selects RX5 yX5_lawOf yX5_lawOf]
def wsX5_minutes_r5 : List Cond := [Cond.code yX5_lawOf cX5_lawOf 8 (some (.object "TavernBench$Law")), Cond.fieldLink RX5 31 "TavernBench" "shutLaw" "LTavernBench$Law;", Cond.fieldLink RX5 10 "TavernBench" "laws" "Ljava/util/ArrayList;", Cond.classLink RX5 26 "TavernBench$Law", Cond.fieldLink RX5 199 "TavernBench$Law" "kind" "I", Cond.fieldLink RX5 200 "TavernBench$Law" "weekday" "I", Cond.fieldLink RX5 203 "TavernBench$Law" "day" "I", Cond.methodLink RX5 50 yX5_isFeast, Cond.instanceMethod yX5_isFeast, Cond.selects RX5 yX5_isFeast yX5_isFeast, Cond.code yX5_isFeast cX5_isFeast 3 (some .boolean), Cond.fieldLink RX5 53 "TavernBench" "feasts" "I", Cond.fieldLink RX5 22 "TavernBench" "feastDays" "[I", Cond.methodLink RX5 156 yX5_openTodayUntil, Cond.instanceMethod yX5_openTodayUntil, Cond.selects RX5 yX5_openTodayUntil yX5_openTodayUntil, Cond.code yX5_openTodayUntil cX5_openTodayUntil 5 (some .int), Cond.methodLink RX5 226 Lib.Math.min.name]
def wsX5_minutes : List Cond := .code yX5_minutes cX5_minutes 6 (some .int) :: ((wsX5_minutes_r1 ++ (wsX5_minutes_r2 ++ (wsX5_minutes_r3 ++ (wsX5_minutes_r4 ++ wsX5_minutes_r5)))) ++ wsX10 ++ wsX20 ++ wsX50 ++ wsJx4a65c0 ++ wsX00)
def wsX5_lawOn_r1 : List Cond := [Cond.fieldLink RX5 153 "TavernBench$Law" "from" "I", Cond.fieldLink RX5 159 "TavernBench$Law" "to" "I", Cond.methodLink RX5 56 yX5_isKind, Cond.static yX5_isKind, Cond.initialized RX5, Cond.code yX5_isKind cX5_isKind 1 (some .boolean), Cond.methodLink RX5 59 yX5_isIn, Cond.static yX5_isIn, Cond.code yX5_isIn cX5_isIn 3 (some .boolean), Cond.methodLink RX5 46 yX5_isDay, Cond.static yX5_isDay, Cond.code yX5_isDay cX5_isDay 1 (some .boolean), Cond.methodLink RX5 149 yX5_lawOf, Cond.instanceMethod yX5_lawOf, Cond.selects RX5 yX5_lawOf yX5_lawOf, Cond.code yX5_lawOf cX5_lawOf 8 (some (.object "TavernBench$Law")), Cond.fieldLink RX5 31 "TavernBench" "shutLaw" "LTavernBench$Law;", Cond.fieldLink RX5 10 "TavernBench" "laws" "Ljava/util/ArrayList;", Cond.classLink RX5 26 "TavernBench$Law", Cond.fieldLink RX5 199 "TavernBench$Law" "kind" "I", Cond.fieldLink RX5 200 "TavernBench$Law" "weekday" "I", Cond.fieldLink RX5 203 "TavernBench$Law" "day" "I", Cond.methodLink RX5 50 yX5_isFeast, Cond.instanceMethod yX5_isFeast]
def wsX5_lawOn_r2 : List Cond := [Cond.selects RX5 yX5_isFeast yX5_isFeast, Cond.code yX5_isFeast cX5_isFeast 3 (some .boolean), Cond.fieldLink RX5 53 "TavernBench" "feasts" "I", Cond.fieldLink RX5 22 "TavernBench" "feastDays" "[I", Cond.methodLink RX5 67 yJx4a65c_size_8abf5, Cond.instanceMethod yJx4a65c_size_8abf5, Cond.selects RJx4a65c yJx4a65c_size_8abf5 yJx4a65c_size_8abf5, Cond.initialized RJx4a65c, Cond.code yJx4a65c_size_8abf5 cJx4a65c_size_8abf5 1 (some .int), Cond.fieldLink RJx4a65c 48 "java/util/ArrayList" "size" "I", Cond.methodLink RX5 195 yJx4a65c_get_915e3, Cond.instanceMethod yJx4a65c_get_915e3, Cond.selects RJx4a65c yJx4a65c_get_915e3 yJx4a65c_get_915e3, Cond.code yJx4a65c_get_915e3 cJx4a65c_get_915e3 2 (some (.object "java/lang/Object")), Cond.methodLink RJx4a65c 118 yJ15_checkIndex_7cf53, Cond.static yJ15_checkIndex_7cf53, Cond.initialized RJ15, Cond.code yJ15_checkIndex_7cf53 cJ15_checkIndex_7cf53 2 (some .int), Cond.methodLink RJ15 105 yJ3_checkIndex_8e157, Cond.static yJ3_checkIndex_8e157, Cond.initialized RJ3, Cond.code yJ3_checkIndex_8e157 cJ3_checkIndex_8e157 3 (some .int), Cond.methodLink RJx4a65c 123 yJx4a65c_elementData_915e3, Cond.instanceMethod yJx4a65c_elementData_915e3]
def wsX5_lawOn_r3 : List Cond := [Cond.selects RJx4a65c yJx4a65c_elementData_915e3 yJx4a65c_elementData_915e3, Cond.code yJx4a65c_elementData_915e3 cJx4a65c_elementData_915e3 2 (some (.object "java/lang/Object")), Cond.fieldLink RJx4a65c 9 "java/util/ArrayList" "elementData" "[Ljava/lang/Object;"]
def wsX5_lawOn : List Cond := .code yX5_lawOn cX5_lawOn 5 (some .int) :: ((wsX5_lawOn_r1 ++ (wsX5_lawOn_r2 ++ wsX5_lawOn_r3)) ++ wsX20 ++ wsX50 ++ wsJx4a65c0)
def wsX5_worthOfPayers_r1 : List Cond := [Cond.fieldLink RX5 19 "TavernBench" "houses" "Ljava/util/ArrayList;", Cond.classLink RX5 93 "TavernBench$House", Cond.methodLink RX5 67 yJx4a65c_size_8abf5, Cond.instanceMethod yJx4a65c_size_8abf5, Cond.selects RJx4a65c yJx4a65c_size_8abf5 yJx4a65c_size_8abf5, Cond.initialized RJx4a65c, Cond.code yJx4a65c_size_8abf5 cJx4a65c_size_8abf5 1 (some .int), Cond.fieldLink RJx4a65c 48 "java/util/ArrayList" "size" "I", Cond.methodLink RX5 195 yJx4a65c_get_915e3, Cond.instanceMethod yJx4a65c_get_915e3, Cond.selects RJx4a65c yJx4a65c_get_915e3 yJx4a65c_get_915e3, Cond.code yJx4a65c_get_915e3 cJx4a65c_get_915e3 2 (some (.object "java/lang/Object")), Cond.methodLink RJx4a65c 118 yJ15_checkIndex_7cf53, Cond.static yJ15_checkIndex_7cf53, Cond.initialized RJ15, Cond.code yJ15_checkIndex_7cf53 cJ15_checkIndex_7cf53 2 (some .int), Cond.methodLink RJ15 105 yJ3_checkIndex_8e157, Cond.static yJ3_checkIndex_8e157, Cond.initialized RJ3, Cond.code yJ3_checkIndex_8e157 cJ3_checkIndex_8e157 3 (some .int), Cond.methodLink RJx4a65c 123 yJx4a65c_elementData_915e3, Cond.instanceMethod yJx4a65c_elementData_915e3, Cond.selects RJx4a65c yJx4a65c_elementData_915e3 yJx4a65c_elementData_915e3, Cond.code yJx4a65c_elementData_915e3 cJx4a65c_elementData_915e3 2 (some (.object "java/lang/Object"))]
def wsX5_worthOfPayers_r2 : List Cond := [Cond.fieldLink RJx4a65c 9 "java/util/ArrayList" "elementData" "[Ljava/lang/Object;", Cond.methodLink RX5 166 yX1_hasLicence, Cond.instanceMethod yX1_hasLicence, Cond.selects RX1 yX1_hasLicence yX1_hasLicence, Cond.initialized RX1, Cond.code yX1_hasLicence cX1_hasLicence 2 (some .boolean), Cond.methodLink RX1 73 yX1_stateOn, Cond.instanceMethod yX1_stateOn, Cond.selects RX1 yX1_stateOn yX1_stateOn, Cond.code yX1_stateOn cX1_stateOn 6 (some .int), Cond.fieldLink RX1 21 "TavernBench$House" "granted" "I", Cond.methodLink RX1 55 Lib.Math.min.name, Cond.static Lib.Math.min.name, Cond.initialized "java/lang/Math", Cond.code Lib.Math.min.name Lib.Math.min.code 2 (some .int), Cond.constant RX1 86 (1000000), Cond.methodLink RX1 77 yX1_endedFrom, Cond.instanceMethod yX1_endedFrom, Cond.selects RX1 yX1_endedFrom yX1_endedFrom, Cond.code yX1_endedFrom cX1_endedFrom 6 (some .int), Cond.fieldLink RX1 27 "TavernBench$House" "events" "Ljava/util/ArrayList;", Cond.classLink RX1 47 "TavernBench$Event", Cond.fieldLink RX1 69 "TavernBench$Event" "kind" "I", Cond.fieldLink RX1 87 "TavernBench$Event" "day" "I"]
def wsX5_worthOfPayers_r3 : List Cond := [Cond.methodLink RX1 61 yJx4a65c_size_8abf5, Cond.methodLink RX1 65 yJx4a65c_get_915e3, Cond.methodLink RX1 90 yX1_offencesCounted, Cond.instanceMethod yX1_offencesCounted, Cond.selects RX1 yX1_offencesCounted yX1_offencesCounted, Cond.code yX1_offencesCounted cX1_offencesCounted 7 (some .int), Cond.fieldLink RX1 52 "TavernBench$Event" "quashedFrom" "I", Cond.methodLink RX1 80 yX1_lapsedFrom, Cond.instanceMethod yX1_lapsedFrom, Cond.selects RX1 yX1_lapsedFrom yX1_lapsedFrom, Cond.code yX1_lapsedFrom cX1_lapsedFrom 7 (some .int), Cond.methodLink RX1 93 yX1_isTransferred, Cond.instanceMethod yX1_isTransferred, Cond.selects RX1 yX1_isTransferred yX1_isTransferred, Cond.code yX1_isTransferred cX1_isTransferred 5 (some .boolean), Cond.static yX5_isIn, Cond.initialized RX5, Cond.code yX5_isIn cX5_isIn 3 (some .boolean), Cond.methodLink RX1 83 yX1_surplusFrom, Cond.instanceMethod yX1_surplusFrom, Cond.selects RX1 yX1_surplusFrom yX1_surplusFrom, Cond.code yX1_surplusFrom cX1_surplusFrom 5 (some .int), Cond.methodLink RX5 139 yX1_worthOn, Cond.instanceMethod yX1_worthOn]
def wsX5_worthOfPayers_r4 : List Cond := [Cond.selects RX1 yX1_worthOn yX1_worthOn, Cond.code yX1_worthOn cX1_worthOn 6 (some .int), Cond.fieldLink RX1 31 "TavernBench$House" "worths" "Ljava/util/ArrayList;", Cond.classLink RX1 34 "TavernBench$Worth", Cond.fieldLink RX1 105 "TavernBench$Worth" "amount" "I", Cond.fieldLink RX1 108 "TavernBench$Worth" "day" "I", Cond.methodLink RX1 101 yJx4a65c_isEmpty_aae02, Cond.instanceMethod yJx4a65c_isEmpty_aae02, Cond.selects RJx4a65c yJx4a65c_isEmpty_aae02 yJx4a65c_isEmpty_aae02, Cond.code yJx4a65c_isEmpty_aae02 cJx4a65c_isEmpty_aae02 1 (some .boolean)]
def wsX5_worthOfPayers : List Cond := .code yX5_worthOfPayers cX5_worthOfPayers 6 (some .long) :: ((wsX5_worthOfPayers_r1 ++ (wsX5_worthOfPayers_r2 ++ (wsX5_worthOfPayers_r3 ++ wsX5_worthOfPayers_r4))) ++ wsX50 ++ wsJx4a65c0 ++ wsX10 ++ wsX00 ++ wsX40)
def wsX5_partOf_r1 : List Cond := [Cond.fieldLink RX5 19 "TavernBench" "houses" "Ljava/util/ArrayList;", Cond.classLink RX5 93 "TavernBench$House", Cond.methodLink RX5 229 yX5_worthOfPayers, Cond.instanceMethod yX5_worthOfPayers, Cond.selects RX5 yX5_worthOfPayers yX5_worthOfPayers, Cond.initialized RX5, Cond.code yX5_worthOfPayers cX5_worthOfPayers 6 (some .long), Cond.methodLink RX5 67 yJx4a65c_size_8abf5, Cond.instanceMethod yJx4a65c_size_8abf5, Cond.selects RJx4a65c yJx4a65c_size_8abf5 yJx4a65c_size_8abf5, Cond.initialized RJx4a65c, Cond.code yJx4a65c_size_8abf5 cJx4a65c_size_8abf5 1 (some .int), Cond.fieldLink RJx4a65c 48 "java/util/ArrayList" "size" "I", Cond.methodLink RX5 195 yJx4a65c_get_915e3, Cond.instanceMethod yJx4a65c_get_915e3, Cond.selects RJx4a65c yJx4a65c_get_915e3 yJx4a65c_get_915e3, Cond.code yJx4a65c_get_915e3 cJx4a65c_get_915e3 2 (some (.object "java/lang/Object")), Cond.methodLink RJx4a65c 118 yJ15_checkIndex_7cf53, Cond.static yJ15_checkIndex_7cf53, Cond.initialized RJ15, Cond.code yJ15_checkIndex_7cf53 cJ15_checkIndex_7cf53 2 (some .int), Cond.methodLink RJ15 105 yJ3_checkIndex_8e157, Cond.static yJ3_checkIndex_8e157, Cond.initialized RJ3]
def wsX5_partOf_r2 : List Cond := [Cond.code yJ3_checkIndex_8e157 cJ3_checkIndex_8e157 3 (some .int), Cond.methodLink RJx4a65c 123 yJx4a65c_elementData_915e3, Cond.instanceMethod yJx4a65c_elementData_915e3, Cond.selects RJx4a65c yJx4a65c_elementData_915e3 yJx4a65c_elementData_915e3, Cond.code yJx4a65c_elementData_915e3 cJx4a65c_elementData_915e3 2 (some (.object "java/lang/Object")), Cond.fieldLink RJx4a65c 9 "java/util/ArrayList" "elementData" "[Ljava/lang/Object;", Cond.methodLink RX5 166 yX1_hasLicence, Cond.instanceMethod yX1_hasLicence, Cond.selects RX1 yX1_hasLicence yX1_hasLicence, Cond.initialized RX1, Cond.code yX1_hasLicence cX1_hasLicence 2 (some .boolean), Cond.methodLink RX1 73 yX1_stateOn, Cond.instanceMethod yX1_stateOn, Cond.selects RX1 yX1_stateOn yX1_stateOn, Cond.code yX1_stateOn cX1_stateOn 6 (some .int), Cond.fieldLink RX1 21 "TavernBench$House" "granted" "I", Cond.methodLink RX1 55 Lib.Math.min.name, Cond.static Lib.Math.min.name, Cond.initialized "java/lang/Math", Cond.code Lib.Math.min.name Lib.Math.min.code 2 (some .int), Cond.constant RX1 86 (1000000), Cond.methodLink RX1 77 yX1_endedFrom, Cond.instanceMethod yX1_endedFrom, Cond.selects RX1 yX1_endedFrom yX1_endedFrom]
def wsX5_partOf_r3 : List Cond := [Cond.code yX1_endedFrom cX1_endedFrom 6 (some .int), Cond.fieldLink RX1 27 "TavernBench$House" "events" "Ljava/util/ArrayList;", Cond.classLink RX1 47 "TavernBench$Event", Cond.fieldLink RX1 69 "TavernBench$Event" "kind" "I", Cond.fieldLink RX1 87 "TavernBench$Event" "day" "I", Cond.methodLink RX1 61 yJx4a65c_size_8abf5, Cond.methodLink RX1 65 yJx4a65c_get_915e3, Cond.methodLink RX1 90 yX1_offencesCounted, Cond.instanceMethod yX1_offencesCounted, Cond.selects RX1 yX1_offencesCounted yX1_offencesCounted, Cond.code yX1_offencesCounted cX1_offencesCounted 7 (some .int), Cond.fieldLink RX1 52 "TavernBench$Event" "quashedFrom" "I", Cond.methodLink RX1 80 yX1_lapsedFrom, Cond.instanceMethod yX1_lapsedFrom, Cond.selects RX1 yX1_lapsedFrom yX1_lapsedFrom, Cond.code yX1_lapsedFrom cX1_lapsedFrom 7 (some .int), Cond.methodLink RX1 93 yX1_isTransferred, Cond.instanceMethod yX1_isTransferred, Cond.selects RX1 yX1_isTransferred yX1_isTransferred, Cond.code yX1_isTransferred cX1_isTransferred 5 (some .boolean), Cond.static yX5_isIn, Cond.code yX5_isIn cX5_isIn 3 (some .boolean), Cond.methodLink RX1 83 yX1_surplusFrom, Cond.instanceMethod yX1_surplusFrom]
def wsX5_partOf_r4 : List Cond := [Cond.selects RX1 yX1_surplusFrom yX1_surplusFrom, Cond.code yX1_surplusFrom cX1_surplusFrom 5 (some .int), Cond.methodLink RX5 139 yX1_worthOn, Cond.instanceMethod yX1_worthOn, Cond.selects RX1 yX1_worthOn yX1_worthOn, Cond.code yX1_worthOn cX1_worthOn 6 (some .int), Cond.fieldLink RX1 31 "TavernBench$House" "worths" "Ljava/util/ArrayList;", Cond.classLink RX1 34 "TavernBench$Worth", Cond.fieldLink RX1 105 "TavernBench$Worth" "amount" "I", Cond.fieldLink RX1 108 "TavernBench$Worth" "day" "I", Cond.methodLink RX1 101 yJx4a65c_isEmpty_aae02, Cond.instanceMethod yJx4a65c_isEmpty_aae02, Cond.selects RJx4a65c yJx4a65c_isEmpty_aae02 yJx4a65c_isEmpty_aae02, Cond.code yJx4a65c_isEmpty_aae02 cJx4a65c_isEmpty_aae02 1 (some .boolean)]
def wsX5_partOf : List Cond := .code yX5_partOf cX5_partOf 21 (some .int) :: ((wsX5_partOf_r1 ++ (wsX5_partOf_r2 ++ (wsX5_partOf_r3 ++ wsX5_partOf_r4))) ++ wsX50 ++ wsJx4a65c0 ++ wsX10 ++ wsX00 ++ wsX40)
def wsX5_owes_r1 : List Cond := [Cond.constant RX5 165 (1000000), Cond.constantLong RX5 169 (3), Cond.methodLink RX5 96 yX5_houseAt, Cond.instanceMethod yX5_houseAt, Cond.selects RX5 yX5_houseAt yX5_houseAt, Cond.initialized RX5, Cond.code yX5_houseAt cX5_houseAt 2 (some (.object "TavernBench$House")), Cond.fieldLink RX5 19 "TavernBench" "houses" "Ljava/util/ArrayList;", Cond.classLink RX5 93 "TavernBench$House", Cond.methodLink RX5 67 yJx4a65c_size_8abf5, Cond.instanceMethod yJx4a65c_size_8abf5, Cond.selects RJx4a65c yJx4a65c_size_8abf5 yJx4a65c_size_8abf5, Cond.initialized RJx4a65c, Cond.code yJx4a65c_size_8abf5 cJx4a65c_size_8abf5 1 (some .int), Cond.fieldLink RJx4a65c 48 "java/util/ArrayList" "size" "I", Cond.methodLink RX5 195 yJx4a65c_get_915e3, Cond.instanceMethod yJx4a65c_get_915e3, Cond.selects RJx4a65c yJx4a65c_get_915e3 yJx4a65c_get_915e3, Cond.code yJx4a65c_get_915e3 cJx4a65c_get_915e3 2 (some (.object "java/lang/Object")), Cond.methodLink RJx4a65c 118 yJ15_checkIndex_7cf53, Cond.static yJ15_checkIndex_7cf53, Cond.initialized RJ15, Cond.code yJ15_checkIndex_7cf53 cJ15_checkIndex_7cf53 2 (some .int), Cond.methodLink RJ15 105 yJ3_checkIndex_8e157]
def wsX5_owes_r2 : List Cond := [Cond.static yJ3_checkIndex_8e157, Cond.initialized RJ3, Cond.code yJ3_checkIndex_8e157 cJ3_checkIndex_8e157 3 (some .int), Cond.methodLink RJx4a65c 123 yJx4a65c_elementData_915e3, Cond.instanceMethod yJx4a65c_elementData_915e3, Cond.selects RJx4a65c yJx4a65c_elementData_915e3 yJx4a65c_elementData_915e3, Cond.code yJx4a65c_elementData_915e3 cJx4a65c_elementData_915e3 2 (some (.object "java/lang/Object")), Cond.fieldLink RJx4a65c 9 "java/util/ArrayList" "elementData" "[Ljava/lang/Object;", Cond.methodLink RX5 162 yX1_surplusFrom, Cond.instanceMethod yX1_surplusFrom, Cond.selects RX1 yX1_surplusFrom yX1_surplusFrom, Cond.initialized RX1, Cond.code yX1_surplusFrom cX1_surplusFrom 5 (some .int), Cond.constant RX1 86 (1000000), Cond.fieldLink RX1 27 "TavernBench$House" "events" "Ljava/util/ArrayList;", Cond.classLink RX1 47 "TavernBench$Event", Cond.fieldLink RX1 69 "TavernBench$Event" "kind" "I", Cond.fieldLink RX1 87 "TavernBench$Event" "day" "I", Cond.methodLink RX1 55 Lib.Math.min.name, Cond.static Lib.Math.min.name, Cond.initialized "java/lang/Math", Cond.code Lib.Math.min.name Lib.Math.min.code 2 (some .int), Cond.methodLink RX1 61 yJx4a65c_size_8abf5, Cond.methodLink RX1 65 yJx4a65c_get_915e3]
def wsX5_owes_r3 : List Cond := [Cond.methodLink RX5 166 yX1_hasLicence, Cond.instanceMethod yX1_hasLicence, Cond.selects RX1 yX1_hasLicence yX1_hasLicence, Cond.code yX1_hasLicence cX1_hasLicence 2 (some .boolean), Cond.methodLink RX1 73 yX1_stateOn, Cond.instanceMethod yX1_stateOn, Cond.selects RX1 yX1_stateOn yX1_stateOn, Cond.code yX1_stateOn cX1_stateOn 6 (some .int), Cond.fieldLink RX1 21 "TavernBench$House" "granted" "I", Cond.methodLink RX1 77 yX1_endedFrom, Cond.instanceMethod yX1_endedFrom, Cond.selects RX1 yX1_endedFrom yX1_endedFrom, Cond.code yX1_endedFrom cX1_endedFrom 6 (some .int), Cond.methodLink RX1 90 yX1_offencesCounted, Cond.instanceMethod yX1_offencesCounted, Cond.selects RX1 yX1_offencesCounted yX1_offencesCounted, Cond.code yX1_offencesCounted cX1_offencesCounted 7 (some .int), Cond.fieldLink RX1 52 "TavernBench$Event" "quashedFrom" "I", Cond.methodLink RX1 80 yX1_lapsedFrom, Cond.instanceMethod yX1_lapsedFrom, Cond.selects RX1 yX1_lapsedFrom yX1_lapsedFrom, Cond.code yX1_lapsedFrom cX1_lapsedFrom 7 (some .int), Cond.methodLink RX1 93 yX1_isTransferred, Cond.instanceMethod yX1_isTransferred]
def wsX5_owes_r4 : List Cond := [Cond.selects RX1 yX1_isTransferred yX1_isTransferred, Cond.code yX1_isTransferred cX1_isTransferred 5 (some .boolean), Cond.static yX5_isIn, Cond.code yX5_isIn cX5_isIn 3 (some .boolean), Cond.methodLink RX1 83 yX1_surplusFrom, Cond.methodLink RX5 139 yX1_worthOn, Cond.instanceMethod yX1_worthOn, Cond.selects RX1 yX1_worthOn yX1_worthOn, Cond.code yX1_worthOn cX1_worthOn 6 (some .int), Cond.fieldLink RX1 31 "TavernBench$House" "worths" "Ljava/util/ArrayList;", Cond.classLink RX1 34 "TavernBench$Worth", Cond.fieldLink RX1 105 "TavernBench$Worth" "amount" "I", Cond.fieldLink RX1 108 "TavernBench$Worth" "day" "I", Cond.methodLink RX1 101 yJx4a65c_isEmpty_aae02, Cond.instanceMethod yJx4a65c_isEmpty_aae02, Cond.selects RJx4a65c yJx4a65c_isEmpty_aae02 yJx4a65c_isEmpty_aae02, Cond.code yJx4a65c_isEmpty_aae02 cJx4a65c_isEmpty_aae02 1 (some .boolean), Cond.methodLink RX5 171 yX5_partOf, Cond.instanceMethod yX5_partOf, Cond.selects RX5 yX5_partOf yX5_partOf, Cond.code yX5_partOf cX5_partOf 21 (some .int), Cond.methodLink RX5 229 yX5_worthOfPayers, Cond.instanceMethod yX5_worthOfPayers, Cond.selects RX5 yX5_worthOfPayers yX5_worthOfPayers]
def wsX5_owes_r5 : List Cond := [Cond.code yX5_worthOfPayers cX5_worthOfPayers 6 (some .long)]
def wsX5_owes : List Cond := .code yX5_owes cX5_owes 6 (some .int) :: ((wsX5_owes_r1 ++ (wsX5_owes_r2 ++ (wsX5_owes_r3 ++ (wsX5_owes_r4 ++ wsX5_owes_r5)))) ++ wsX50 ++ wsJx4a65c0 ++ wsX10 ++ wsX00 ++ wsX40)
def wsX5_anyLicence_r1 : List Cond := [Cond.fieldLink RX5 19 "TavernBench" "houses" "Ljava/util/ArrayList;", Cond.classLink RX5 93 "TavernBench$House", Cond.methodLink RX5 67 yJx4a65c_size_8abf5, Cond.instanceMethod yJx4a65c_size_8abf5, Cond.selects RJx4a65c yJx4a65c_size_8abf5 yJx4a65c_size_8abf5, Cond.initialized RJx4a65c, Cond.code yJx4a65c_size_8abf5 cJx4a65c_size_8abf5 1 (some .int), Cond.fieldLink RJx4a65c 48 "java/util/ArrayList" "size" "I", Cond.methodLink RX5 195 yJx4a65c_get_915e3, Cond.instanceMethod yJx4a65c_get_915e3, Cond.selects RJx4a65c yJx4a65c_get_915e3 yJx4a65c_get_915e3, Cond.code yJx4a65c_get_915e3 cJx4a65c_get_915e3 2 (some (.object "java/lang/Object")), Cond.methodLink RJx4a65c 118 yJ15_checkIndex_7cf53, Cond.static yJ15_checkIndex_7cf53, Cond.initialized RJ15, Cond.code yJ15_checkIndex_7cf53 cJ15_checkIndex_7cf53 2 (some .int), Cond.methodLink RJ15 105 yJ3_checkIndex_8e157, Cond.static yJ3_checkIndex_8e157, Cond.initialized RJ3, Cond.code yJ3_checkIndex_8e157 cJ3_checkIndex_8e157 3 (some .int), Cond.methodLink RJx4a65c 123 yJx4a65c_elementData_915e3, Cond.instanceMethod yJx4a65c_elementData_915e3, Cond.selects RJx4a65c yJx4a65c_elementData_915e3 yJx4a65c_elementData_915e3, Cond.code yJx4a65c_elementData_915e3 cJx4a65c_elementData_915e3 2 (some (.object "java/lang/Object"))]
def wsX5_anyLicence_r2 : List Cond := [Cond.fieldLink RJx4a65c 9 "java/util/ArrayList" "elementData" "[Ljava/lang/Object;", Cond.methodLink RX5 166 yX1_hasLicence, Cond.instanceMethod yX1_hasLicence, Cond.selects RX1 yX1_hasLicence yX1_hasLicence, Cond.initialized RX1, Cond.code yX1_hasLicence cX1_hasLicence 2 (some .boolean), Cond.methodLink RX1 73 yX1_stateOn, Cond.instanceMethod yX1_stateOn, Cond.selects RX1 yX1_stateOn yX1_stateOn, Cond.code yX1_stateOn cX1_stateOn 6 (some .int), Cond.fieldLink RX1 21 "TavernBench$House" "granted" "I", Cond.methodLink RX1 55 Lib.Math.min.name, Cond.static Lib.Math.min.name, Cond.initialized "java/lang/Math", Cond.code Lib.Math.min.name Lib.Math.min.code 2 (some .int), Cond.constant RX1 86 (1000000), Cond.methodLink RX1 77 yX1_endedFrom, Cond.instanceMethod yX1_endedFrom, Cond.selects RX1 yX1_endedFrom yX1_endedFrom, Cond.code yX1_endedFrom cX1_endedFrom 6 (some .int), Cond.fieldLink RX1 27 "TavernBench$House" "events" "Ljava/util/ArrayList;", Cond.classLink RX1 47 "TavernBench$Event", Cond.fieldLink RX1 69 "TavernBench$Event" "kind" "I", Cond.fieldLink RX1 87 "TavernBench$Event" "day" "I"]
def wsX5_anyLicence_r3 : List Cond := [Cond.methodLink RX1 61 yJx4a65c_size_8abf5, Cond.methodLink RX1 65 yJx4a65c_get_915e3, Cond.methodLink RX1 90 yX1_offencesCounted, Cond.instanceMethod yX1_offencesCounted, Cond.selects RX1 yX1_offencesCounted yX1_offencesCounted, Cond.code yX1_offencesCounted cX1_offencesCounted 7 (some .int), Cond.fieldLink RX1 52 "TavernBench$Event" "quashedFrom" "I", Cond.methodLink RX1 80 yX1_lapsedFrom, Cond.instanceMethod yX1_lapsedFrom, Cond.selects RX1 yX1_lapsedFrom yX1_lapsedFrom, Cond.code yX1_lapsedFrom cX1_lapsedFrom 7 (some .int), Cond.methodLink RX1 93 yX1_isTransferred, Cond.instanceMethod yX1_isTransferred, Cond.selects RX1 yX1_isTransferred yX1_isTransferred, Cond.code yX1_isTransferred cX1_isTransferred 5 (some .boolean), Cond.static yX5_isIn, Cond.initialized RX5, Cond.code yX5_isIn cX5_isIn 3 (some .boolean), Cond.methodLink RX1 83 yX1_surplusFrom, Cond.instanceMethod yX1_surplusFrom, Cond.selects RX1 yX1_surplusFrom yX1_surplusFrom, Cond.code yX1_surplusFrom cX1_surplusFrom 5 (some .int)]
def wsX5_anyLicence : List Cond := .code yX5_anyLicence cX5_anyLicence 3 (some .boolean) :: ((wsX5_anyLicence_r1 ++ (wsX5_anyLicence_r2 ++ wsX5_anyLicence_r3)) ++ wsX50 ++ wsJx4a65c0 ++ wsX10 ++ wsX00)
def wsX5_unvisitedOn_r1 : List Cond := [Cond.fieldLink RX5 19 "TavernBench" "houses" "Ljava/util/ArrayList;", Cond.classLink RX5 93 "TavernBench$House", Cond.fieldLink RX5 233 "TavernBench$House" "visited" "Z", Cond.methodLink RX5 67 yJx4a65c_size_8abf5, Cond.instanceMethod yJx4a65c_size_8abf5, Cond.selects RJx4a65c yJx4a65c_size_8abf5 yJx4a65c_size_8abf5, Cond.initialized RJx4a65c, Cond.code yJx4a65c_size_8abf5 cJx4a65c_size_8abf5 1 (some .int), Cond.fieldLink RJx4a65c 48 "java/util/ArrayList" "size" "I", Cond.methodLink RX5 195 yJx4a65c_get_915e3, Cond.instanceMethod yJx4a65c_get_915e3, Cond.selects RJx4a65c yJx4a65c_get_915e3 yJx4a65c_get_915e3, Cond.code yJx4a65c_get_915e3 cJx4a65c_get_915e3 2 (some (.object "java/lang/Object")), Cond.methodLink RJx4a65c 118 yJ15_checkIndex_7cf53, Cond.static yJ15_checkIndex_7cf53, Cond.initialized RJ15, Cond.code yJ15_checkIndex_7cf53 cJ15_checkIndex_7cf53 2 (some .int), Cond.methodLink RJ15 105 yJ3_checkIndex_8e157, Cond.static yJ3_checkIndex_8e157, Cond.initialized RJ3, Cond.code yJ3_checkIndex_8e157 cJ3_checkIndex_8e157 3 (some .int), Cond.methodLink RJx4a65c 123 yJx4a65c_elementData_915e3, Cond.instanceMethod yJx4a65c_elementData_915e3, Cond.selects RJx4a65c yJx4a65c_elementData_915e3 yJx4a65c_elementData_915e3]
def wsX5_unvisitedOn_r2 : List Cond := [Cond.code yJx4a65c_elementData_915e3 cJx4a65c_elementData_915e3 2 (some (.object "java/lang/Object")), Cond.fieldLink RJx4a65c 9 "java/util/ArrayList" "elementData" "[Ljava/lang/Object;", Cond.methodLink RX5 166 yX1_hasLicence, Cond.instanceMethod yX1_hasLicence, Cond.selects RX1 yX1_hasLicence yX1_hasLicence, Cond.initialized RX1, Cond.code yX1_hasLicence cX1_hasLicence 2 (some .boolean), Cond.methodLink RX1 73 yX1_stateOn, Cond.instanceMethod yX1_stateOn, Cond.selects RX1 yX1_stateOn yX1_stateOn, Cond.code yX1_stateOn cX1_stateOn 6 (some .int), Cond.fieldLink RX1 21 "TavernBench$House" "granted" "I", Cond.methodLink RX1 55 Lib.Math.min.name, Cond.static Lib.Math.min.name, Cond.initialized "java/lang/Math", Cond.code Lib.Math.min.name Lib.Math.min.code 2 (some .int), Cond.constant RX1 86 (1000000), Cond.methodLink RX1 77 yX1_endedFrom, Cond.instanceMethod yX1_endedFrom, Cond.selects RX1 yX1_endedFrom yX1_endedFrom, Cond.code yX1_endedFrom cX1_endedFrom 6 (some .int), Cond.fieldLink RX1 27 "TavernBench$House" "events" "Ljava/util/ArrayList;", Cond.classLink RX1 47 "TavernBench$Event", Cond.fieldLink RX1 69 "TavernBench$Event" "kind" "I"]
def wsX5_unvisitedOn_r3 : List Cond := [Cond.fieldLink RX1 87 "TavernBench$Event" "day" "I", Cond.methodLink RX1 61 yJx4a65c_size_8abf5, Cond.methodLink RX1 65 yJx4a65c_get_915e3, Cond.methodLink RX1 90 yX1_offencesCounted, Cond.instanceMethod yX1_offencesCounted, Cond.selects RX1 yX1_offencesCounted yX1_offencesCounted, Cond.code yX1_offencesCounted cX1_offencesCounted 7 (some .int), Cond.fieldLink RX1 52 "TavernBench$Event" "quashedFrom" "I", Cond.methodLink RX1 80 yX1_lapsedFrom, Cond.instanceMethod yX1_lapsedFrom, Cond.selects RX1 yX1_lapsedFrom yX1_lapsedFrom, Cond.code yX1_lapsedFrom cX1_lapsedFrom 7 (some .int), Cond.methodLink RX1 93 yX1_isTransferred, Cond.instanceMethod yX1_isTransferred, Cond.selects RX1 yX1_isTransferred yX1_isTransferred, Cond.code yX1_isTransferred cX1_isTransferred 5 (some .boolean), Cond.static yX5_isIn, Cond.initialized RX5, Cond.code yX5_isIn cX5_isIn 3 (some .boolean), Cond.methodLink RX1 83 yX1_surplusFrom, Cond.instanceMethod yX1_surplusFrom, Cond.selects RX1 yX1_surplusFrom yX1_surplusFrom, Cond.code yX1_surplusFrom cX1_surplusFrom 5 (some .int)]
def wsX5_unvisitedOn : List Cond := .code yX5_unvisitedOn cX5_unvisitedOn 5 (some .int) :: ((wsX5_unvisitedOn_r1 ++ (wsX5_unvisitedOn_r2 ++ wsX5_unvisitedOn_r3)) ++ wsX50 ++ wsX10 ++ wsJx4a65c0 ++ wsX00)
def wsX5_beginRound_r1 : List Cond := [Cond.fieldLink RX5 19 "TavernBench" "houses" "Ljava/util/ArrayList;", Cond.classLink RX5 93 "TavernBench$House", Cond.fieldLink RX5 233 "TavernBench$House" "visited" "Z", Cond.fieldLink RX5 191 "TavernBench" "visitsInRound" "I", Cond.methodLink RX5 67 yJx4a65c_size_8abf5, Cond.instanceMethod yJx4a65c_size_8abf5, Cond.selects RJx4a65c yJx4a65c_size_8abf5 yJx4a65c_size_8abf5, Cond.initialized RJx4a65c, Cond.code yJx4a65c_size_8abf5 cJx4a65c_size_8abf5 1 (some .int), Cond.fieldLink RJx4a65c 48 "java/util/ArrayList" "size" "I", Cond.methodLink RX5 195 yJx4a65c_get_915e3, Cond.instanceMethod yJx4a65c_get_915e3, Cond.selects RJx4a65c yJx4a65c_get_915e3 yJx4a65c_get_915e3, Cond.code yJx4a65c_get_915e3 cJx4a65c_get_915e3 2 (some (.object "java/lang/Object")), Cond.methodLink RJx4a65c 118 yJ15_checkIndex_7cf53, Cond.static yJ15_checkIndex_7cf53, Cond.initialized RJ15, Cond.code yJ15_checkIndex_7cf53 cJ15_checkIndex_7cf53 2 (some .int), Cond.methodLink RJ15 105 yJ3_checkIndex_8e157, Cond.static yJ3_checkIndex_8e157, Cond.initialized RJ3, Cond.code yJ3_checkIndex_8e157 cJ3_checkIndex_8e157 3 (some .int), Cond.methodLink RJx4a65c 123 yJx4a65c_elementData_915e3, Cond.instanceMethod yJx4a65c_elementData_915e3]
def wsX5_beginRound_r2 : List Cond := [Cond.selects RJx4a65c yJx4a65c_elementData_915e3 yJx4a65c_elementData_915e3, Cond.code yJx4a65c_elementData_915e3 cJx4a65c_elementData_915e3 2 (some (.object "java/lang/Object")), Cond.fieldLink RJx4a65c 9 "java/util/ArrayList" "elementData" "[Ljava/lang/Object;"]
def wsX5_beginRound : List Cond := .code yX5_beginRound cX5_beginRound 2 none :: ((wsX5_beginRound_r1 ++ wsX5_beginRound_r2) ++ wsX50 ++ wsX10 ++ wsJx4a65c0)
def wsX5_visitUnvisited_r1 : List Cond := [Cond.fieldLink RX5 19 "TavernBench" "houses" "Ljava/util/ArrayList;", Cond.classLink RX5 93 "TavernBench$House", Cond.fieldLink RX5 233 "TavernBench$House" "visited" "Z", Cond.fieldLink RX5 191 "TavernBench" "visitsInRound" "I", Cond.methodLink RX5 67 yJx4a65c_size_8abf5, Cond.instanceMethod yJx4a65c_size_8abf5, Cond.selects RJx4a65c yJx4a65c_size_8abf5 yJx4a65c_size_8abf5, Cond.initialized RJx4a65c, Cond.code yJx4a65c_size_8abf5 cJx4a65c_size_8abf5 1 (some .int), Cond.fieldLink RJx4a65c 48 "java/util/ArrayList" "size" "I", Cond.methodLink RX5 195 yJx4a65c_get_915e3, Cond.instanceMethod yJx4a65c_get_915e3, Cond.selects RJx4a65c yJx4a65c_get_915e3 yJx4a65c_get_915e3, Cond.code yJx4a65c_get_915e3 cJx4a65c_get_915e3 2 (some (.object "java/lang/Object")), Cond.methodLink RJx4a65c 118 yJ15_checkIndex_7cf53, Cond.static yJ15_checkIndex_7cf53, Cond.initialized RJ15, Cond.code yJ15_checkIndex_7cf53 cJ15_checkIndex_7cf53 2 (some .int), Cond.methodLink RJ15 105 yJ3_checkIndex_8e157, Cond.static yJ3_checkIndex_8e157, Cond.initialized RJ3, Cond.code yJ3_checkIndex_8e157 cJ3_checkIndex_8e157 3 (some .int), Cond.methodLink RJx4a65c 123 yJx4a65c_elementData_915e3, Cond.instanceMethod yJx4a65c_elementData_915e3]
def wsX5_visitUnvisited_r2 : List Cond := [Cond.selects RJx4a65c yJx4a65c_elementData_915e3 yJx4a65c_elementData_915e3, Cond.code yJx4a65c_elementData_915e3 cJx4a65c_elementData_915e3 2 (some (.object "java/lang/Object")), Cond.fieldLink RJx4a65c 9 "java/util/ArrayList" "elementData" "[Ljava/lang/Object;", Cond.methodLink RX5 166 yX1_hasLicence, Cond.instanceMethod yX1_hasLicence, Cond.selects RX1 yX1_hasLicence yX1_hasLicence, Cond.initialized RX1, Cond.code yX1_hasLicence cX1_hasLicence 2 (some .boolean), Cond.methodLink RX1 73 yX1_stateOn, Cond.instanceMethod yX1_stateOn, Cond.selects RX1 yX1_stateOn yX1_stateOn, Cond.code yX1_stateOn cX1_stateOn 6 (some .int), Cond.fieldLink RX1 21 "TavernBench$House" "granted" "I", Cond.methodLink RX1 55 Lib.Math.min.name, Cond.static Lib.Math.min.name, Cond.initialized "java/lang/Math", Cond.code Lib.Math.min.name Lib.Math.min.code 2 (some .int), Cond.constant RX1 86 (1000000), Cond.methodLink RX1 77 yX1_endedFrom, Cond.instanceMethod yX1_endedFrom, Cond.selects RX1 yX1_endedFrom yX1_endedFrom, Cond.code yX1_endedFrom cX1_endedFrom 6 (some .int), Cond.fieldLink RX1 27 "TavernBench$House" "events" "Ljava/util/ArrayList;", Cond.classLink RX1 47 "TavernBench$Event"]
def wsX5_visitUnvisited_r3 : List Cond := [Cond.fieldLink RX1 69 "TavernBench$Event" "kind" "I", Cond.fieldLink RX1 87 "TavernBench$Event" "day" "I", Cond.methodLink RX1 61 yJx4a65c_size_8abf5, Cond.methodLink RX1 65 yJx4a65c_get_915e3, Cond.methodLink RX1 90 yX1_offencesCounted, Cond.instanceMethod yX1_offencesCounted, Cond.selects RX1 yX1_offencesCounted yX1_offencesCounted, Cond.code yX1_offencesCounted cX1_offencesCounted 7 (some .int), Cond.fieldLink RX1 52 "TavernBench$Event" "quashedFrom" "I", Cond.methodLink RX1 80 yX1_lapsedFrom, Cond.instanceMethod yX1_lapsedFrom, Cond.selects RX1 yX1_lapsedFrom yX1_lapsedFrom, Cond.code yX1_lapsedFrom cX1_lapsedFrom 7 (some .int), Cond.methodLink RX1 93 yX1_isTransferred, Cond.instanceMethod yX1_isTransferred, Cond.selects RX1 yX1_isTransferred yX1_isTransferred, Cond.code yX1_isTransferred cX1_isTransferred 5 (some .boolean), Cond.static yX5_isIn, Cond.initialized RX5, Cond.code yX5_isIn cX5_isIn 3 (some .boolean), Cond.methodLink RX1 83 yX1_surplusFrom, Cond.instanceMethod yX1_surplusFrom, Cond.selects RX1 yX1_surplusFrom yX1_surplusFrom, Cond.code yX1_surplusFrom cX1_surplusFrom 5 (some .int)]
def wsX5_visitUnvisited : List Cond := .code yX5_visitUnvisited cX5_visitUnvisited 6 (some .int) :: ((wsX5_visitUnvisited_r1 ++ (wsX5_visitUnvisited_r2 ++ wsX5_visitUnvisited_r3)) ++ wsX50 ++ wsX10 ++ wsJx4a65c0 ++ wsX00)
def wsX5_visit_r1 : List Cond := [Cond.fieldLink RX5 42 "TavernBench" "lastSeed" "J", Cond.constantLong RX5 184 (16807), Cond.constantLong RX5 186 (2147483647), Cond.methodLink RX5 46 yX5_isDay, Cond.static yX5_isDay, Cond.initialized RX5, Cond.code yX5_isDay cX5_isDay 1 (some .boolean), Cond.methodLink RX5 59 yX5_isIn, Cond.static yX5_isIn, Cond.code yX5_isIn cX5_isIn 3 (some .boolean), Cond.methodLink RX5 175 yX5_anyLicence, Cond.instanceMethod yX5_anyLicence, Cond.selects RX5 yX5_anyLicence yX5_anyLicence, Cond.code yX5_anyLicence cX5_anyLicence 3 (some .boolean), Cond.fieldLink RX5 19 "TavernBench" "houses" "Ljava/util/ArrayList;", Cond.classLink RX5 93 "TavernBench$House", Cond.methodLink RX5 67 yJx4a65c_size_8abf5, Cond.instanceMethod yJx4a65c_size_8abf5, Cond.selects RJx4a65c yJx4a65c_size_8abf5 yJx4a65c_size_8abf5, Cond.initialized RJx4a65c, Cond.code yJx4a65c_size_8abf5 cJx4a65c_size_8abf5 1 (some .int), Cond.fieldLink RJx4a65c 48 "java/util/ArrayList" "size" "I", Cond.methodLink RX5 195 yJx4a65c_get_915e3, Cond.instanceMethod yJx4a65c_get_915e3]
def wsX5_visit_r2 : List Cond := [Cond.selects RJx4a65c yJx4a65c_get_915e3 yJx4a65c_get_915e3, Cond.code yJx4a65c_get_915e3 cJx4a65c_get_915e3 2 (some (.object "java/lang/Object")), Cond.methodLink RJx4a65c 118 yJ15_checkIndex_7cf53, Cond.static yJ15_checkIndex_7cf53, Cond.initialized RJ15, Cond.code yJ15_checkIndex_7cf53 cJ15_checkIndex_7cf53 2 (some .int), Cond.methodLink RJ15 105 yJ3_checkIndex_8e157, Cond.static yJ3_checkIndex_8e157, Cond.initialized RJ3, Cond.code yJ3_checkIndex_8e157 cJ3_checkIndex_8e157 3 (some .int), Cond.methodLink RJx4a65c 123 yJx4a65c_elementData_915e3, Cond.instanceMethod yJx4a65c_elementData_915e3, Cond.selects RJx4a65c yJx4a65c_elementData_915e3 yJx4a65c_elementData_915e3, Cond.code yJx4a65c_elementData_915e3 cJx4a65c_elementData_915e3 2 (some (.object "java/lang/Object")), Cond.fieldLink RJx4a65c 9 "java/util/ArrayList" "elementData" "[Ljava/lang/Object;", Cond.methodLink RX5 166 yX1_hasLicence, Cond.instanceMethod yX1_hasLicence, Cond.selects RX1 yX1_hasLicence yX1_hasLicence, Cond.initialized RX1, Cond.code yX1_hasLicence cX1_hasLicence 2 (some .boolean), Cond.methodLink RX1 73 yX1_stateOn, Cond.instanceMethod yX1_stateOn, Cond.selects RX1 yX1_stateOn yX1_stateOn, Cond.code yX1_stateOn cX1_stateOn 6 (some .int)]
def wsX5_visit_r3 : List Cond := [Cond.fieldLink RX1 21 "TavernBench$House" "granted" "I", Cond.methodLink RX1 55 Lib.Math.min.name, Cond.static Lib.Math.min.name, Cond.initialized "java/lang/Math", Cond.code Lib.Math.min.name Lib.Math.min.code 2 (some .int), Cond.constant RX1 86 (1000000), Cond.methodLink RX1 77 yX1_endedFrom, Cond.instanceMethod yX1_endedFrom, Cond.selects RX1 yX1_endedFrom yX1_endedFrom, Cond.code yX1_endedFrom cX1_endedFrom 6 (some .int), Cond.fieldLink RX1 27 "TavernBench$House" "events" "Ljava/util/ArrayList;", Cond.classLink RX1 47 "TavernBench$Event", Cond.fieldLink RX1 69 "TavernBench$Event" "kind" "I", Cond.fieldLink RX1 87 "TavernBench$Event" "day" "I", Cond.methodLink RX1 61 yJx4a65c_size_8abf5, Cond.methodLink RX1 65 yJx4a65c_get_915e3, Cond.methodLink RX1 90 yX1_offencesCounted, Cond.instanceMethod yX1_offencesCounted, Cond.selects RX1 yX1_offencesCounted yX1_offencesCounted, Cond.code yX1_offencesCounted cX1_offencesCounted 7 (some .int), Cond.fieldLink RX1 52 "TavernBench$Event" "quashedFrom" "I", Cond.methodLink RX1 80 yX1_lapsedFrom, Cond.instanceMethod yX1_lapsedFrom, Cond.selects RX1 yX1_lapsedFrom yX1_lapsedFrom]
def wsX5_visit_r4 : List Cond := [Cond.code yX1_lapsedFrom cX1_lapsedFrom 7 (some .int), Cond.methodLink RX1 93 yX1_isTransferred, Cond.instanceMethod yX1_isTransferred, Cond.selects RX1 yX1_isTransferred yX1_isTransferred, Cond.code yX1_isTransferred cX1_isTransferred 5 (some .boolean), Cond.methodLink RX1 83 yX1_surplusFrom, Cond.instanceMethod yX1_surplusFrom, Cond.selects RX1 yX1_surplusFrom yX1_surplusFrom, Cond.code yX1_surplusFrom cX1_surplusFrom 5 (some .int), Cond.methodLink RX5 178 yX5_unvisitedOn, Cond.instanceMethod yX5_unvisitedOn, Cond.selects RX5 yX5_unvisitedOn yX5_unvisitedOn, Cond.code yX5_unvisitedOn cX5_unvisitedOn 5 (some .int), Cond.fieldLink RX5 233 "TavernBench$House" "visited" "Z", Cond.methodLink RX5 181 yX5_beginRound, Cond.instanceMethod yX5_beginRound, Cond.selects RX5 yX5_beginRound yX5_beginRound, Cond.code yX5_beginRound cX5_beginRound 2 none, Cond.fieldLink RX5 191 "TavernBench" "visitsInRound" "I", Cond.methodLink RX5 188 yX5_visitUnvisited, Cond.instanceMethod yX5_visitUnvisited, Cond.selects RX5 yX5_visitUnvisited yX5_visitUnvisited, Cond.code yX5_visitUnvisited cX5_visitUnvisited 6 (some .int)]
def wsX5_visit : List Cond := .code yX5_visit cX5_visit 3 (some .int) :: ((wsX5_visit_r1 ++ (wsX5_visit_r2 ++ (wsX5_visit_r3 ++ wsX5_visit_r4))) ++ wsX50 ++ wsJx4a65c0 ++ wsX10 ++ wsX00)
def wsX5_seed_r1 : List Cond := [Cond.constantLong RX5 186 (2147483647), Cond.fieldLink RX5 42 "TavernBench" "lastSeed" "J", Cond.methodLink RX5 181 yX5_beginRound, Cond.instanceMethod yX5_beginRound, Cond.selects RX5 yX5_beginRound yX5_beginRound, Cond.initialized RX5, Cond.code yX5_beginRound cX5_beginRound 2 none, Cond.fieldLink RX5 19 "TavernBench" "houses" "Ljava/util/ArrayList;", Cond.classLink RX5 93 "TavernBench$House", Cond.fieldLink RX5 233 "TavernBench$House" "visited" "Z", Cond.fieldLink RX5 191 "TavernBench" "visitsInRound" "I", Cond.methodLink RX5 67 yJx4a65c_size_8abf5, Cond.instanceMethod yJx4a65c_size_8abf5, Cond.selects RJx4a65c yJx4a65c_size_8abf5 yJx4a65c_size_8abf5, Cond.initialized RJx4a65c, Cond.code yJx4a65c_size_8abf5 cJx4a65c_size_8abf5 1 (some .int), Cond.fieldLink RJx4a65c 48 "java/util/ArrayList" "size" "I", Cond.methodLink RX5 195 yJx4a65c_get_915e3, Cond.instanceMethod yJx4a65c_get_915e3, Cond.selects RJx4a65c yJx4a65c_get_915e3 yJx4a65c_get_915e3, Cond.code yJx4a65c_get_915e3 cJx4a65c_get_915e3 2 (some (.object "java/lang/Object")), Cond.methodLink RJx4a65c 118 yJ15_checkIndex_7cf53, Cond.static yJ15_checkIndex_7cf53, Cond.initialized RJ15]
def wsX5_seed_r2 : List Cond := [Cond.code yJ15_checkIndex_7cf53 cJ15_checkIndex_7cf53 2 (some .int), Cond.methodLink RJ15 105 yJ3_checkIndex_8e157, Cond.static yJ3_checkIndex_8e157, Cond.initialized RJ3, Cond.code yJ3_checkIndex_8e157 cJ3_checkIndex_8e157 3 (some .int), Cond.methodLink RJx4a65c 123 yJx4a65c_elementData_915e3, Cond.instanceMethod yJx4a65c_elementData_915e3, Cond.selects RJx4a65c yJx4a65c_elementData_915e3 yJx4a65c_elementData_915e3, Cond.code yJx4a65c_elementData_915e3 cJx4a65c_elementData_915e3 2 (some (.object "java/lang/Object")), Cond.fieldLink RJx4a65c 9 "java/util/ArrayList" "elementData" "[Ljava/lang/Object;"]
def wsX5_seed : List Cond := .code yX5_seed cX5_seed 2 (some .int) :: ((wsX5_seed_r1 ++ wsX5_seed_r2) ++ wsX50 ++ wsX10 ++ wsJx4a65c0)
def wsX5_count : List Cond := .code yX5_count cX5_count 2 (some .int) :: ([.fieldLink RX5 19 "TavernBench" "houses" "Ljava/util/ArrayList;", .fieldLink RX5 10 "TavernBench" "laws" "Ljava/util/ArrayList;", .fieldLink RX5 53 "TavernBench" "feasts" "I", .fieldLink RX5 16 "TavernBench" "objectors" "Ljava/util/ArrayList;", .fieldLink RX5 191 "TavernBench" "visitsInRound" "I", .fieldLink RX5 90 "TavernBench" "refusedAsks" "I", .methodLink RX5 67 yJx4a65c_size_8abf5, .instanceMethod yJx4a65c_size_8abf5, .selects RJx4a65c yJx4a65c_size_8abf5 yJx4a65c_size_8abf5, .initialized RJx4a65c, .code yJx4a65c_size_8abf5 cJx4a65c_size_8abf5 1 (some .int), .fieldLink RJx4a65c 48 "java/util/ArrayList" "size" "I"] ++ wsX50 ++ wsJx4a65c0)
def wsX6_init_r1 : List Cond := [Cond.methodLink RX6 1 objectInit, Cond.instanceMethod objectInit, Cond.code objectInit ⟨#[0xb1]⟩ 1 none, Cond.arrayClass .int, Cond.fieldLink RX6 7 "TavernBenchModel" "feast" "[I", Cond.fieldLink RX6 13 "TavernBenchModel" "lawDay" "[I", Cond.fieldLink RX6 16 "TavernBenchModel" "lawKind" "[I", Cond.fieldLink RX6 19 "TavernBenchModel" "lawWeek" "[I", Cond.fieldLink RX6 22 "TavernBenchModel" "lawFrom" "[I", Cond.fieldLink RX6 25 "TavernBenchModel" "lawTo" "[I", Cond.fieldLink RX6 28 "TavernBenchModel" "near" "I", Cond.fieldLink RX6 32 "TavernBenchModel" "heard" "I", Cond.fieldLink RX6 35 "TavernBenchModel" "ox" "[I", Cond.fieldLink RX6 38 "TavernBenchModel" "oy" "[I", Cond.fieldLink RX6 41 "TavernBenchModel" "ow" "[I", Cond.fieldLink RX6 44 "TavernBenchModel" "hx" "[I", Cond.fieldLink RX6 47 "TavernBenchModel" "hy" "[I", Cond.fieldLink RX6 50 "TavernBenchModel" "kind" "[I", Cond.fieldLink RX6 53 "TavernBenchModel" "granted" "[I", Cond.fieldLink RX6 56 "TavernBenchModel" "events" "[I", Cond.fieldLink RX6 59 "TavernBenchModel" "eventDay" "[I", Cond.fieldLink RX6 62 "TavernBenchModel" "eventKind" "[I", Cond.fieldLink RX6 65 "TavernBenchModel" "eventValue" "[I", Cond.fieldLink RX6 68 "TavernBenchModel" "worths" "[I"]
def wsX6_init_r2 : List Cond := [Cond.fieldLink RX6 71 "TavernBenchModel" "worthDay" "[I", Cond.fieldLink RX6 74 "TavernBenchModel" "worth" "[I", Cond.arrayClass .boolean, Cond.fieldLink RX6 77 "TavernBenchModel" "isVisited" "[Z", Cond.fieldLink RX6 81 "TavernBenchModel" "seed" "J", Cond.arrayClass .long, Cond.fieldLink RX6 85 "TavernBenchModel" "part" "[J", Cond.fieldLink RX6 89 "TavernBenchModel" "rest" "[J"]
def wsX6_init : List Cond := .code yX6_init cX6_init 1 none :: ((wsX6_init_r1 ++ wsX6_init_r2) ++ wsX60)
def wsX6_in : List Cond := .code yX6_in cX6_in 3 (some .boolean) :: ([])
def wsX6_isDay : List Cond := .code yX6_isDay cX6_isDay 1 (some .boolean) :: ([.methodLink RX6 92 yX6_in, .static yX6_in, .initialized RX6, .code yX6_in cX6_in 3 (some .boolean)])
def wsX6_isFeast : List Cond := .code yX6_isFeast cX6_isFeast 4 (some .boolean) :: ([.fieldLink RX6 96 "TavernBenchModel" "feasts" "I", .fieldLink RX6 7 "TavernBenchModel" "feast" "[I"] ++ wsX60)
def wsX6_feast : List Cond := .code yX6_feast cX6_feast 2 (some .int) :: ([.fieldLink RX6 96 "TavernBenchModel" "feasts" "I", .fieldLink RX6 7 "TavernBenchModel" "feast" "[I", .methodLink RX6 99 yX6_isDay, .static yX6_isDay, .initialized RX6, .code yX6_isDay cX6_isDay 1 (some .boolean), .methodLink RX6 92 yX6_in, .static yX6_in, .code yX6_in cX6_in 3 (some .boolean), .methodLink RX6 103 yX6_isFeast, .instanceMethod yX6_isFeast, .selects RX6 yX6_isFeast yX6_isFeast, .code yX6_isFeast cX6_isFeast 4 (some .boolean)] ++ wsX60)
def wsX6_law : List Cond := .code yX6_law cX6_law 6 (some .int) :: ([.fieldLink RX6 106 "TavernBenchModel" "laws" "I", .fieldLink RX6 13 "TavernBenchModel" "lawDay" "[I", .fieldLink RX6 16 "TavernBenchModel" "lawKind" "[I", .fieldLink RX6 19 "TavernBenchModel" "lawWeek" "[I", .fieldLink RX6 22 "TavernBenchModel" "lawFrom" "[I", .fieldLink RX6 25 "TavernBenchModel" "lawTo" "[I", .methodLink RX6 99 yX6_isDay, .static yX6_isDay, .initialized RX6, .code yX6_isDay cX6_isDay 1 (some .boolean), .methodLink RX6 92 yX6_in, .static yX6_in, .code yX6_in cX6_in 3 (some .boolean)] ++ wsX60)
def wsX6_rule : List Cond := .code yX6_rule cX6_rule 4 (some .int) :: ([.fieldLink RX6 28 "TavernBenchModel" "near" "I", .fieldLink RX6 32 "TavernBenchModel" "heard" "I", .methodLink RX6 92 yX6_in, .static yX6_in, .initialized RX6, .code yX6_in cX6_in 3 (some .boolean)] ++ wsX60)
def wsX6_isPlace : List Cond := .code yX6_isPlace cX6_isPlace 2 (some .boolean) :: ([.methodLink RX6 92 yX6_in, .static yX6_in, .initialized RX6, .code yX6_in cX6_in 3 (some .boolean)])
def wsX6_objector : List Cond := .code yX6_objector cX6_objector 4 (some .int) :: ([.fieldLink RX6 113 "TavernBenchModel" "objectors" "I", .fieldLink RX6 35 "TavernBenchModel" "ox" "[I", .fieldLink RX6 38 "TavernBenchModel" "oy" "[I", .fieldLink RX6 41 "TavernBenchModel" "ow" "[I", .methodLink RX6 109 yX6_isPlace, .static yX6_isPlace, .initialized RX6, .code yX6_isPlace cX6_isPlace 2 (some .boolean), .methodLink RX6 92 yX6_in, .static yX6_in, .code yX6_in cX6_in 3 (some .boolean)] ++ wsX60)
def wsX6_off : List Cond := .code yX6_off cX6_off 4 (some .int) :: ([])
def wsX6_counts : List Cond := .code yX6_counts cX6_counts 6 (some .boolean) :: ([.fieldLink RX6 62 "TavernBenchModel" "eventKind" "[I", .fieldLink RX6 59 "TavernBenchModel" "eventDay" "[I", .fieldLink RX6 56 "TavernBenchModel" "events" "[I", .fieldLink RX6 65 "TavernBenchModel" "eventValue" "[I"] ++ wsX60)
def wsX6_endedFrom : List Cond := .code yX6_endedFrom cX6_endedFrom 8 (some .int) :: ([.constant RX6 126 (100000), .fieldLink RX6 56 "TavernBenchModel" "events" "[I", .fieldLink RX6 59 "TavernBenchModel" "eventDay" "[I", .methodLink RX6 139 yX6_counts, .instanceMethod yX6_counts, .selects RX6 yX6_counts yX6_counts, .initialized RX6, .code yX6_counts cX6_counts 6 (some .boolean), .fieldLink RX6 62 "TavernBenchModel" "eventKind" "[I", .fieldLink RX6 65 "TavernBenchModel" "eventValue" "[I"] ++ wsX60)
def wsX6_lapsedFrom : List Cond := .code yX6_lapsedFrom cX6_lapsedFrom 8 (some .int) :: ([.constant RX6 126 (100000), .fieldLink RX6 56 "TavernBenchModel" "events" "[I", .fieldLink RX6 62 "TavernBenchModel" "eventKind" "[I", .fieldLink RX6 59 "TavernBenchModel" "eventDay" "[I", .methodLink RX6 92 yX6_in, .static yX6_in, .initialized RX6, .code yX6_in cX6_in 3 (some .boolean)] ++ wsX60)
def wsX6_surplusFrom : List Cond := .code yX6_surplusFrom cX6_surplusFrom 5 (some .int) :: ([.constant RX6 126 (100000), .fieldLink RX6 56 "TavernBenchModel" "events" "[I", .fieldLink RX6 62 "TavernBenchModel" "eventKind" "[I", .fieldLink RX6 59 "TavernBenchModel" "eventDay" "[I"] ++ wsX60)
def wsX6_stateOn_r1 : List Cond := [Cond.fieldLink RX6 53 "TavernBenchModel" "granted" "[I", Cond.constant RX6 126 (100000), Cond.methodLink RX6 142 yX6_endedFrom, Cond.instanceMethod yX6_endedFrom, Cond.selects RX6 yX6_endedFrom yX6_endedFrom, Cond.initialized RX6, Cond.code yX6_endedFrom cX6_endedFrom 8 (some .int), Cond.fieldLink RX6 56 "TavernBenchModel" "events" "[I", Cond.fieldLink RX6 59 "TavernBenchModel" "eventDay" "[I", Cond.methodLink RX6 139 yX6_counts, Cond.instanceMethod yX6_counts, Cond.selects RX6 yX6_counts yX6_counts, Cond.code yX6_counts cX6_counts 6 (some .boolean), Cond.fieldLink RX6 62 "TavernBenchModel" "eventKind" "[I", Cond.fieldLink RX6 65 "TavernBenchModel" "eventValue" "[I", Cond.methodLink RX6 146 yX6_lapsedFrom, Cond.instanceMethod yX6_lapsedFrom, Cond.selects RX6 yX6_lapsedFrom yX6_lapsedFrom, Cond.code yX6_lapsedFrom cX6_lapsedFrom 8 (some .int), Cond.methodLink RX6 92 yX6_in, Cond.static yX6_in, Cond.code yX6_in cX6_in 3 (some .boolean), Cond.methodLink RX6 149 yX6_surplusFrom, Cond.instanceMethod yX6_surplusFrom]
def wsX6_stateOn_r2 : List Cond := [Cond.selects RX6 yX6_surplusFrom yX6_surplusFrom, Cond.code yX6_surplusFrom cX6_surplusFrom 5 (some .int)]
def wsX6_stateOn : List Cond := .code yX6_stateOn cX6_stateOn 6 (some .int) :: ((wsX6_stateOn_r1 ++ wsX6_stateOn_r2) ++ wsX60)
def wsX6_has_r1 : List Cond := [Cond.methodLink RX6 152 yX6_stateOn, Cond.instanceMethod yX6_stateOn, Cond.selects RX6 yX6_stateOn yX6_stateOn, Cond.initialized RX6, Cond.code yX6_stateOn cX6_stateOn 6 (some .int), Cond.fieldLink RX6 53 "TavernBenchModel" "granted" "[I", Cond.constant RX6 126 (100000), Cond.methodLink RX6 142 yX6_endedFrom, Cond.instanceMethod yX6_endedFrom, Cond.selects RX6 yX6_endedFrom yX6_endedFrom, Cond.code yX6_endedFrom cX6_endedFrom 8 (some .int), Cond.fieldLink RX6 56 "TavernBenchModel" "events" "[I", Cond.fieldLink RX6 59 "TavernBenchModel" "eventDay" "[I", Cond.methodLink RX6 139 yX6_counts, Cond.instanceMethod yX6_counts, Cond.selects RX6 yX6_counts yX6_counts, Cond.code yX6_counts cX6_counts 6 (some .boolean), Cond.fieldLink RX6 62 "TavernBenchModel" "eventKind" "[I", Cond.fieldLink RX6 65 "TavernBenchModel" "eventValue" "[I", Cond.methodLink RX6 146 yX6_lapsedFrom, Cond.instanceMethod yX6_lapsedFrom, Cond.selects RX6 yX6_lapsedFrom yX6_lapsedFrom, Cond.code yX6_lapsedFrom cX6_lapsedFrom 8 (some .int), Cond.methodLink RX6 92 yX6_in]
def wsX6_has_r2 : List Cond := [Cond.static yX6_in, Cond.code yX6_in cX6_in 3 (some .boolean), Cond.methodLink RX6 149 yX6_surplusFrom, Cond.instanceMethod yX6_surplusFrom, Cond.selects RX6 yX6_surplusFrom yX6_surplusFrom, Cond.code yX6_surplusFrom cX6_surplusFrom 5 (some .int)]
def wsX6_has : List Cond := .code yX6_has cX6_has 3 (some .boolean) :: ((wsX6_has_r1 ++ wsX6_has_r2) ++ wsX60)
def wsX6_judged_r1 : List Cond := [Cond.fieldLink RX6 116 "TavernBenchModel" "houses" "I", Cond.fieldLink RX6 44 "TavernBenchModel" "hx" "[I", Cond.fieldLink RX6 47 "TavernBenchModel" "hy" "[I", Cond.fieldLink RX6 28 "TavernBenchModel" "near" "I", Cond.fieldLink RX6 113 "TavernBenchModel" "objectors" "I", Cond.fieldLink RX6 35 "TavernBenchModel" "ox" "[I", Cond.fieldLink RX6 38 "TavernBenchModel" "oy" "[I", Cond.fieldLink RX6 32 "TavernBenchModel" "heard" "I", Cond.fieldLink RX6 41 "TavernBenchModel" "ow" "[I", Cond.methodLink RX6 119 yX6_has, Cond.instanceMethod yX6_has, Cond.selects RX6 yX6_has yX6_has, Cond.initialized RX6, Cond.code yX6_has cX6_has 3 (some .boolean), Cond.methodLink RX6 152 yX6_stateOn, Cond.instanceMethod yX6_stateOn, Cond.selects RX6 yX6_stateOn yX6_stateOn, Cond.code yX6_stateOn cX6_stateOn 6 (some .int), Cond.fieldLink RX6 53 "TavernBenchModel" "granted" "[I", Cond.constant RX6 126 (100000), Cond.methodLink RX6 142 yX6_endedFrom, Cond.instanceMethod yX6_endedFrom, Cond.selects RX6 yX6_endedFrom yX6_endedFrom, Cond.code yX6_endedFrom cX6_endedFrom 8 (some .int)]
def wsX6_judged_r2 : List Cond := [Cond.fieldLink RX6 56 "TavernBenchModel" "events" "[I", Cond.fieldLink RX6 59 "TavernBenchModel" "eventDay" "[I", Cond.methodLink RX6 139 yX6_counts, Cond.instanceMethod yX6_counts, Cond.selects RX6 yX6_counts yX6_counts, Cond.code yX6_counts cX6_counts 6 (some .boolean), Cond.fieldLink RX6 62 "TavernBenchModel" "eventKind" "[I", Cond.fieldLink RX6 65 "TavernBenchModel" "eventValue" "[I", Cond.methodLink RX6 146 yX6_lapsedFrom, Cond.instanceMethod yX6_lapsedFrom, Cond.selects RX6 yX6_lapsedFrom yX6_lapsedFrom, Cond.code yX6_lapsedFrom cX6_lapsedFrom 8 (some .int), Cond.methodLink RX6 92 yX6_in, Cond.static yX6_in, Cond.code yX6_in cX6_in 3 (some .boolean), Cond.methodLink RX6 149 yX6_surplusFrom, Cond.instanceMethod yX6_surplusFrom, Cond.selects RX6 yX6_surplusFrom yX6_surplusFrom, Cond.code yX6_surplusFrom cX6_surplusFrom 5 (some .int), Cond.methodLink RX6 122 yX6_off, Cond.static yX6_off, Cond.code yX6_off cX6_off 4 (some .int)]
def wsX6_judged : List Cond := .code yX6_judged cX6_judged 7 (some .int) :: ((wsX6_judged_r1 ++ wsX6_judged_r2) ++ wsX60)
def wsX6_ask_r1 : List Cond := [Cond.constant RX6 126 (100000), Cond.fieldLink RX6 116 "TavernBenchModel" "houses" "I", Cond.fieldLink RX6 130 "TavernBenchModel" "refused" "I", Cond.fieldLink RX6 44 "TavernBenchModel" "hx" "[I", Cond.fieldLink RX6 47 "TavernBenchModel" "hy" "[I", Cond.fieldLink RX6 50 "TavernBenchModel" "kind" "[I", Cond.fieldLink RX6 53 "TavernBenchModel" "granted" "[I", Cond.fieldLink RX6 68 "TavernBenchModel" "worths" "[I", Cond.fieldLink RX6 71 "TavernBenchModel" "worthDay" "[I", Cond.fieldLink RX6 74 "TavernBenchModel" "worth" "[I", Cond.methodLink RX6 109 yX6_isPlace, Cond.static yX6_isPlace, Cond.initialized RX6, Cond.code yX6_isPlace cX6_isPlace 2 (some .boolean), Cond.methodLink RX6 92 yX6_in, Cond.static yX6_in, Cond.code yX6_in cX6_in 3 (some .boolean), Cond.methodLink RX6 99 yX6_isDay, Cond.static yX6_isDay, Cond.code yX6_isDay cX6_isDay 1 (some .boolean), Cond.methodLink RX6 127 yX6_judged, Cond.instanceMethod yX6_judged, Cond.selects RX6 yX6_judged yX6_judged, Cond.code yX6_judged cX6_judged 7 (some .int)]
def wsX6_ask_r2 : List Cond := [Cond.fieldLink RX6 28 "TavernBenchModel" "near" "I", Cond.fieldLink RX6 113 "TavernBenchModel" "objectors" "I", Cond.fieldLink RX6 35 "TavernBenchModel" "ox" "[I", Cond.fieldLink RX6 38 "TavernBenchModel" "oy" "[I", Cond.fieldLink RX6 32 "TavernBenchModel" "heard" "I", Cond.fieldLink RX6 41 "TavernBenchModel" "ow" "[I", Cond.methodLink RX6 119 yX6_has, Cond.instanceMethod yX6_has, Cond.selects RX6 yX6_has yX6_has, Cond.code yX6_has cX6_has 3 (some .boolean), Cond.methodLink RX6 152 yX6_stateOn, Cond.instanceMethod yX6_stateOn, Cond.selects RX6 yX6_stateOn yX6_stateOn, Cond.code yX6_stateOn cX6_stateOn 6 (some .int), Cond.methodLink RX6 142 yX6_endedFrom, Cond.instanceMethod yX6_endedFrom, Cond.selects RX6 yX6_endedFrom yX6_endedFrom, Cond.code yX6_endedFrom cX6_endedFrom 8 (some .int), Cond.fieldLink RX6 56 "TavernBenchModel" "events" "[I", Cond.fieldLink RX6 59 "TavernBenchModel" "eventDay" "[I", Cond.methodLink RX6 139 yX6_counts, Cond.instanceMethod yX6_counts, Cond.selects RX6 yX6_counts yX6_counts, Cond.code yX6_counts cX6_counts 6 (some .boolean)]
def wsX6_ask_r3 : List Cond := [Cond.fieldLink RX6 62 "TavernBenchModel" "eventKind" "[I", Cond.fieldLink RX6 65 "TavernBenchModel" "eventValue" "[I", Cond.methodLink RX6 146 yX6_lapsedFrom, Cond.instanceMethod yX6_lapsedFrom, Cond.selects RX6 yX6_lapsedFrom yX6_lapsedFrom, Cond.code yX6_lapsedFrom cX6_lapsedFrom 8 (some .int), Cond.methodLink RX6 149 yX6_surplusFrom, Cond.instanceMethod yX6_surplusFrom, Cond.selects RX6 yX6_surplusFrom yX6_surplusFrom, Cond.code yX6_surplusFrom cX6_surplusFrom 5 (some .int), Cond.methodLink RX6 122 yX6_off, Cond.static yX6_off, Cond.code yX6_off cX6_off 4 (some .int)]
def wsX6_ask : List Cond := .code yX6_ask cX6_ask 8 (some .int) :: ((wsX6_ask_r1 ++ (wsX6_ask_r2 ++ wsX6_ask_r3)) ++ wsX60)
def wsX6_isHouse : List Cond := .code yX6_isHouse cX6_isHouse 2 (some .boolean) :: ([.fieldLink RX6 116 "TavernBenchModel" "houses" "I", .methodLink RX6 92 yX6_in, .static yX6_in, .initialized RX6, .code yX6_in cX6_in 3 (some .boolean)] ++ wsX60)
def wsX6_isTold : List Cond := .code yX6_isTold cX6_isTold 5 (some .boolean) :: ([.fieldLink RX6 56 "TavernBenchModel" "events" "[I", .fieldLink RX6 62 "TavernBenchModel" "eventKind" "[I", .fieldLink RX6 65 "TavernBenchModel" "eventValue" "[I"] ++ wsX60)
def wsX6_event : List Cond := .code yX6_event cX6_event 7 (some .int) :: ([.fieldLink RX6 53 "TavernBenchModel" "granted" "[I", .fieldLink RX6 56 "TavernBenchModel" "events" "[I", .fieldLink RX6 59 "TavernBenchModel" "eventDay" "[I", .fieldLink RX6 62 "TavernBenchModel" "eventKind" "[I", .fieldLink RX6 65 "TavernBenchModel" "eventValue" "[I", .methodLink RX6 92 yX6_in, .static yX6_in, .initialized RX6, .code yX6_in cX6_in 3 (some .boolean), .methodLink RX6 133 yX6_isHouse, .instanceMethod yX6_isHouse, .selects RX6 yX6_isHouse yX6_isHouse, .code yX6_isHouse cX6_isHouse 2 (some .boolean), .fieldLink RX6 116 "TavernBenchModel" "houses" "I", .methodLink RX6 99 yX6_isDay, .static yX6_isDay, .code yX6_isDay cX6_isDay 1 (some .boolean), .methodLink RX6 136 yX6_isTold, .instanceMethod yX6_isTold, .selects RX6 yX6_isTold yX6_isTold, .code yX6_isTold cX6_isTold 5 (some .boolean)] ++ wsX60)
def wsX6_worth : List Cond := .code yX6_worth cX6_worth 4 (some .int) :: ([.constant RX6 126 (100000), .fieldLink RX6 68 "TavernBenchModel" "worths" "[I", .fieldLink RX6 71 "TavernBenchModel" "worthDay" "[I", .fieldLink RX6 53 "TavernBenchModel" "granted" "[I", .fieldLink RX6 74 "TavernBenchModel" "worth" "[I", .methodLink RX6 133 yX6_isHouse, .instanceMethod yX6_isHouse, .selects RX6 yX6_isHouse yX6_isHouse, .initialized RX6, .code yX6_isHouse cX6_isHouse 2 (some .boolean), .fieldLink RX6 116 "TavernBenchModel" "houses" "I", .methodLink RX6 92 yX6_in, .static yX6_in, .code yX6_in cX6_in 3 (some .boolean), .methodLink RX6 99 yX6_isDay, .static yX6_isDay, .code yX6_isDay cX6_isDay 1 (some .boolean)] ++ wsX60)
def wsX6_condition : List Cond := .code yX6_condition cX6_condition 6 (some .int) :: ([.fieldLink RX6 56 "TavernBenchModel" "events" "[I", .fieldLink RX6 62 "TavernBenchModel" "eventKind" "[I", .fieldLink RX6 59 "TavernBenchModel" "eventDay" "[I", .fieldLink RX6 65 "TavernBenchModel" "eventValue" "[I", .methodLink RX6 92 yX6_in, .static yX6_in, .initialized RX6, .code yX6_in cX6_in 3 (some .boolean)] ++ wsX60)
def wsX6_worthOn : List Cond := .code yX6_worthOn cX6_worthOn 5 (some .int) :: ([.fieldLink RX6 68 "TavernBenchModel" "worths" "[I", .fieldLink RX6 71 "TavernBenchModel" "worthDay" "[I", .fieldLink RX6 74 "TavernBenchModel" "worth" "[I"] ++ wsX60)
def wsX6_on_r1 : List Cond := [Cond.fieldLink RX6 56 "TavernBenchModel" "events" "[I", Cond.fieldLink RX6 59 "TavernBenchModel" "eventDay" "[I", Cond.methodLink RX6 133 yX6_isHouse, Cond.instanceMethod yX6_isHouse, Cond.selects RX6 yX6_isHouse yX6_isHouse, Cond.initialized RX6, Cond.code yX6_isHouse cX6_isHouse 2 (some .boolean), Cond.fieldLink RX6 116 "TavernBenchModel" "houses" "I", Cond.methodLink RX6 92 yX6_in, Cond.static yX6_in, Cond.code yX6_in cX6_in 3 (some .boolean), Cond.methodLink RX6 99 yX6_isDay, Cond.static yX6_isDay, Cond.code yX6_isDay cX6_isDay 1 (some .boolean), Cond.methodLink RX6 139 yX6_counts, Cond.instanceMethod yX6_counts, Cond.selects RX6 yX6_counts yX6_counts, Cond.code yX6_counts cX6_counts 6 (some .boolean), Cond.fieldLink RX6 62 "TavernBenchModel" "eventKind" "[I", Cond.fieldLink RX6 65 "TavernBenchModel" "eventValue" "[I", Cond.methodLink RX6 152 yX6_stateOn, Cond.instanceMethod yX6_stateOn, Cond.selects RX6 yX6_stateOn yX6_stateOn, Cond.code yX6_stateOn cX6_stateOn 6 (some .int)]
def wsX6_on_r2 : List Cond := [Cond.fieldLink RX6 53 "TavernBenchModel" "granted" "[I", Cond.constant RX6 126 (100000), Cond.methodLink RX6 142 yX6_endedFrom, Cond.instanceMethod yX6_endedFrom, Cond.selects RX6 yX6_endedFrom yX6_endedFrom, Cond.code yX6_endedFrom cX6_endedFrom 8 (some .int), Cond.methodLink RX6 146 yX6_lapsedFrom, Cond.instanceMethod yX6_lapsedFrom, Cond.selects RX6 yX6_lapsedFrom yX6_lapsedFrom, Cond.code yX6_lapsedFrom cX6_lapsedFrom 8 (some .int), Cond.methodLink RX6 149 yX6_surplusFrom, Cond.instanceMethod yX6_surplusFrom, Cond.selects RX6 yX6_surplusFrom yX6_surplusFrom, Cond.code yX6_surplusFrom cX6_surplusFrom 5 (some .int), Cond.methodLink RX6 155 yX6_condition, Cond.instanceMethod yX6_condition, Cond.selects RX6 yX6_condition yX6_condition, Cond.code yX6_condition cX6_condition 6 (some .int), Cond.methodLink RX6 158 yX6_worthOn, Cond.instanceMethod yX6_worthOn, Cond.selects RX6 yX6_worthOn yX6_worthOn, Cond.code yX6_worthOn cX6_worthOn 5 (some .int), Cond.fieldLink RX6 68 "TavernBenchModel" "worths" "[I", Cond.fieldLink RX6 71 "TavernBenchModel" "worthDay" "[I"]
def wsX6_on_r3 : List Cond := [Cond.fieldLink RX6 74 "TavernBenchModel" "worth" "[I"]
def wsX6_on : List Cond := .code yX6_on cX6_on 6 (some .int) :: ((wsX6_on_r1 ++ (wsX6_on_r2 ++ wsX6_on_r3)) ++ wsX60)
def wsX6_lawOf : List Cond := .code yX6_lawOf cX6_lawOf 7 (some .int) :: ([.fieldLink RX6 106 "TavernBenchModel" "laws" "I", .fieldLink RX6 16 "TavernBenchModel" "lawKind" "[I", .fieldLink RX6 19 "TavernBenchModel" "lawWeek" "[I", .fieldLink RX6 13 "TavernBenchModel" "lawDay" "[I", .methodLink RX6 103 yX6_isFeast, .instanceMethod yX6_isFeast, .selects RX6 yX6_isFeast yX6_isFeast, .initialized RX6, .code yX6_isFeast cX6_isFeast 4 (some .boolean), .fieldLink RX6 96 "TavernBenchModel" "feasts" "I", .fieldLink RX6 7 "TavernBenchModel" "feast" "[I"] ++ wsX60)
def wsX6_lawOn : List Cond := .code yX6_lawOn cX6_lawOn 5 (some .int) :: ([.fieldLink RX6 22 "TavernBenchModel" "lawFrom" "[I", .fieldLink RX6 25 "TavernBenchModel" "lawTo" "[I", .methodLink RX6 92 yX6_in, .static yX6_in, .initialized RX6, .code yX6_in cX6_in 3 (some .boolean), .methodLink RX6 99 yX6_isDay, .static yX6_isDay, .code yX6_isDay cX6_isDay 1 (some .boolean), .methodLink RX6 161 yX6_lawOf, .instanceMethod yX6_lawOf, .selects RX6 yX6_lawOf yX6_lawOf, .code yX6_lawOf cX6_lawOf 7 (some .int), .fieldLink RX6 106 "TavernBenchModel" "laws" "I", .fieldLink RX6 16 "TavernBenchModel" "lawKind" "[I", .fieldLink RX6 19 "TavernBenchModel" "lawWeek" "[I", .fieldLink RX6 13 "TavernBenchModel" "lawDay" "[I", .methodLink RX6 103 yX6_isFeast, .instanceMethod yX6_isFeast, .selects RX6 yX6_isFeast yX6_isFeast, .code yX6_isFeast cX6_isFeast 4 (some .boolean), .fieldLink RX6 96 "TavernBenchModel" "feasts" "I", .fieldLink RX6 7 "TavernBenchModel" "feast" "[I"] ++ wsX60)
def wsX6_isOpen : List Cond := .code yX6_isOpen cX6_isOpen 3 (some .boolean) :: ([.fieldLink RX6 22 "TavernBenchModel" "lawFrom" "[I", .fieldLink RX6 25 "TavernBenchModel" "lawTo" "[I"] ++ wsX60)
def wsX6_may : List Cond := .code yX6_may cX6_may 8 (some .boolean) :: ([.methodLink RX6 164 yX6_isOpen, .instanceMethod yX6_isOpen, .selects RX6 yX6_isOpen yX6_isOpen, .initialized RX6, .code yX6_isOpen cX6_isOpen 3 (some .boolean), .fieldLink RX6 22 "TavernBenchModel" "lawFrom" "[I", .fieldLink RX6 25 "TavernBenchModel" "lawTo" "[I"] ++ wsX60)
def wsX6_opens_r1 : List Cond := [Cond.fieldLink RX6 50 "TavernBenchModel" "kind" "[I", Cond.methodLink RX6 119 yX6_has, Cond.instanceMethod yX6_has, Cond.selects RX6 yX6_has yX6_has, Cond.initialized RX6, Cond.code yX6_has cX6_has 3 (some .boolean), Cond.methodLink RX6 152 yX6_stateOn, Cond.instanceMethod yX6_stateOn, Cond.selects RX6 yX6_stateOn yX6_stateOn, Cond.code yX6_stateOn cX6_stateOn 6 (some .int), Cond.fieldLink RX6 53 "TavernBenchModel" "granted" "[I", Cond.constant RX6 126 (100000), Cond.methodLink RX6 142 yX6_endedFrom, Cond.instanceMethod yX6_endedFrom, Cond.selects RX6 yX6_endedFrom yX6_endedFrom, Cond.code yX6_endedFrom cX6_endedFrom 8 (some .int), Cond.fieldLink RX6 56 "TavernBenchModel" "events" "[I", Cond.fieldLink RX6 59 "TavernBenchModel" "eventDay" "[I", Cond.methodLink RX6 139 yX6_counts, Cond.instanceMethod yX6_counts, Cond.selects RX6 yX6_counts yX6_counts, Cond.code yX6_counts cX6_counts 6 (some .boolean), Cond.fieldLink RX6 62 "TavernBenchModel" "eventKind" "[I", Cond.fieldLink RX6 65 "TavernBenchModel" "eventValue" "[I"]
def wsX6_opens_r2 : List Cond := [Cond.methodLink RX6 146 yX6_lapsedFrom, Cond.instanceMethod yX6_lapsedFrom, Cond.selects RX6 yX6_lapsedFrom yX6_lapsedFrom, Cond.code yX6_lapsedFrom cX6_lapsedFrom 8 (some .int), Cond.methodLink RX6 92 yX6_in, Cond.static yX6_in, Cond.code yX6_in cX6_in 3 (some .boolean), Cond.methodLink RX6 149 yX6_surplusFrom, Cond.instanceMethod yX6_surplusFrom, Cond.selects RX6 yX6_surplusFrom yX6_surplusFrom, Cond.code yX6_surplusFrom cX6_surplusFrom 5 (some .int), Cond.methodLink RX6 155 yX6_condition, Cond.instanceMethod yX6_condition, Cond.selects RX6 yX6_condition yX6_condition, Cond.code yX6_condition cX6_condition 6 (some .int), Cond.methodLink RX6 161 yX6_lawOf, Cond.instanceMethod yX6_lawOf, Cond.selects RX6 yX6_lawOf yX6_lawOf, Cond.code yX6_lawOf cX6_lawOf 7 (some .int), Cond.fieldLink RX6 106 "TavernBenchModel" "laws" "I", Cond.fieldLink RX6 16 "TavernBenchModel" "lawKind" "[I", Cond.fieldLink RX6 19 "TavernBenchModel" "lawWeek" "[I", Cond.fieldLink RX6 13 "TavernBenchModel" "lawDay" "[I", Cond.methodLink RX6 103 yX6_isFeast]
def wsX6_opens_r3 : List Cond := [Cond.instanceMethod yX6_isFeast, Cond.selects RX6 yX6_isFeast yX6_isFeast, Cond.code yX6_isFeast cX6_isFeast 4 (some .boolean), Cond.fieldLink RX6 96 "TavernBenchModel" "feasts" "I", Cond.fieldLink RX6 7 "TavernBenchModel" "feast" "[I", Cond.methodLink RX6 167 yX6_may, Cond.instanceMethod yX6_may, Cond.selects RX6 yX6_may yX6_may, Cond.code yX6_may cX6_may 8 (some .boolean), Cond.methodLink RX6 164 yX6_isOpen, Cond.instanceMethod yX6_isOpen, Cond.selects RX6 yX6_isOpen yX6_isOpen, Cond.code yX6_isOpen cX6_isOpen 3 (some .boolean), Cond.fieldLink RX6 22 "TavernBenchModel" "lawFrom" "[I", Cond.fieldLink RX6 25 "TavernBenchModel" "lawTo" "[I"]
def wsX6_opens : List Cond := .code yX6_opens cX6_opens 12 (some .int) :: ((wsX6_opens_r1 ++ (wsX6_opens_r2 ++ wsX6_opens_r3)) ++ wsX60)
def wsX6_open_r1 : List Cond := [Cond.methodLink RX6 133 yX6_isHouse, Cond.instanceMethod yX6_isHouse, Cond.selects RX6 yX6_isHouse yX6_isHouse, Cond.initialized RX6, Cond.code yX6_isHouse cX6_isHouse 2 (some .boolean), Cond.fieldLink RX6 116 "TavernBenchModel" "houses" "I", Cond.methodLink RX6 92 yX6_in, Cond.static yX6_in, Cond.code yX6_in cX6_in 3 (some .boolean), Cond.methodLink RX6 99 yX6_isDay, Cond.static yX6_isDay, Cond.code yX6_isDay cX6_isDay 1 (some .boolean), Cond.methodLink RX6 171 yX6_opens, Cond.instanceMethod yX6_opens, Cond.selects RX6 yX6_opens yX6_opens, Cond.code yX6_opens cX6_opens 12 (some .int), Cond.fieldLink RX6 50 "TavernBenchModel" "kind" "[I", Cond.methodLink RX6 119 yX6_has, Cond.instanceMethod yX6_has, Cond.selects RX6 yX6_has yX6_has, Cond.code yX6_has cX6_has 3 (some .boolean), Cond.methodLink RX6 152 yX6_stateOn, Cond.instanceMethod yX6_stateOn, Cond.selects RX6 yX6_stateOn yX6_stateOn]
def wsX6_open_r2 : List Cond := [Cond.code yX6_stateOn cX6_stateOn 6 (some .int), Cond.fieldLink RX6 53 "TavernBenchModel" "granted" "[I", Cond.constant RX6 126 (100000), Cond.methodLink RX6 142 yX6_endedFrom, Cond.instanceMethod yX6_endedFrom, Cond.selects RX6 yX6_endedFrom yX6_endedFrom, Cond.code yX6_endedFrom cX6_endedFrom 8 (some .int), Cond.fieldLink RX6 56 "TavernBenchModel" "events" "[I", Cond.fieldLink RX6 59 "TavernBenchModel" "eventDay" "[I", Cond.methodLink RX6 139 yX6_counts, Cond.instanceMethod yX6_counts, Cond.selects RX6 yX6_counts yX6_counts, Cond.code yX6_counts cX6_counts 6 (some .boolean), Cond.fieldLink RX6 62 "TavernBenchModel" "eventKind" "[I", Cond.fieldLink RX6 65 "TavernBenchModel" "eventValue" "[I", Cond.methodLink RX6 146 yX6_lapsedFrom, Cond.instanceMethod yX6_lapsedFrom, Cond.selects RX6 yX6_lapsedFrom yX6_lapsedFrom, Cond.code yX6_lapsedFrom cX6_lapsedFrom 8 (some .int), Cond.methodLink RX6 149 yX6_surplusFrom, Cond.instanceMethod yX6_surplusFrom, Cond.selects RX6 yX6_surplusFrom yX6_surplusFrom, Cond.code yX6_surplusFrom cX6_surplusFrom 5 (some .int), Cond.methodLink RX6 155 yX6_condition]
def wsX6_open_r3 : List Cond := [Cond.instanceMethod yX6_condition, Cond.selects RX6 yX6_condition yX6_condition, Cond.code yX6_condition cX6_condition 6 (some .int), Cond.methodLink RX6 161 yX6_lawOf, Cond.instanceMethod yX6_lawOf, Cond.selects RX6 yX6_lawOf yX6_lawOf, Cond.code yX6_lawOf cX6_lawOf 7 (some .int), Cond.fieldLink RX6 106 "TavernBenchModel" "laws" "I", Cond.fieldLink RX6 16 "TavernBenchModel" "lawKind" "[I", Cond.fieldLink RX6 19 "TavernBenchModel" "lawWeek" "[I", Cond.fieldLink RX6 13 "TavernBenchModel" "lawDay" "[I", Cond.methodLink RX6 103 yX6_isFeast, Cond.instanceMethod yX6_isFeast, Cond.selects RX6 yX6_isFeast yX6_isFeast, Cond.code yX6_isFeast cX6_isFeast 4 (some .boolean), Cond.fieldLink RX6 96 "TavernBenchModel" "feasts" "I", Cond.fieldLink RX6 7 "TavernBenchModel" "feast" "[I", Cond.methodLink RX6 167 yX6_may, Cond.instanceMethod yX6_may, Cond.selects RX6 yX6_may yX6_may, Cond.code yX6_may cX6_may 8 (some .boolean), Cond.methodLink RX6 164 yX6_isOpen, Cond.instanceMethod yX6_isOpen, Cond.selects RX6 yX6_isOpen yX6_isOpen]
def wsX6_open_r4 : List Cond := [Cond.code yX6_isOpen cX6_isOpen 3 (some .boolean), Cond.fieldLink RX6 22 "TavernBenchModel" "lawFrom" "[I", Cond.fieldLink RX6 25 "TavernBenchModel" "lawTo" "[I"]
def wsX6_open : List Cond := .code yX6_open cX6_open 4 (some .int) :: ((wsX6_open_r1 ++ (wsX6_open_r2 ++ (wsX6_open_r3 ++ wsX6_open_r4))) ++ wsX60)
def wsX6_minutes_r1 : List Cond := [Cond.methodLink RX6 133 yX6_isHouse, Cond.instanceMethod yX6_isHouse, Cond.selects RX6 yX6_isHouse yX6_isHouse, Cond.initialized RX6, Cond.code yX6_isHouse cX6_isHouse 2 (some .boolean), Cond.fieldLink RX6 116 "TavernBenchModel" "houses" "I", Cond.methodLink RX6 92 yX6_in, Cond.static yX6_in, Cond.code yX6_in cX6_in 3 (some .boolean), Cond.methodLink RX6 99 yX6_isDay, Cond.static yX6_isDay, Cond.code yX6_isDay cX6_isDay 1 (some .boolean), Cond.methodLink RX6 171 yX6_opens, Cond.instanceMethod yX6_opens, Cond.selects RX6 yX6_opens yX6_opens, Cond.code yX6_opens cX6_opens 12 (some .int), Cond.fieldLink RX6 50 "TavernBenchModel" "kind" "[I", Cond.methodLink RX6 119 yX6_has, Cond.instanceMethod yX6_has, Cond.selects RX6 yX6_has yX6_has, Cond.code yX6_has cX6_has 3 (some .boolean), Cond.methodLink RX6 152 yX6_stateOn, Cond.instanceMethod yX6_stateOn, Cond.selects RX6 yX6_stateOn yX6_stateOn]
def wsX6_minutes_r2 : List Cond := [Cond.code yX6_stateOn cX6_stateOn 6 (some .int), Cond.fieldLink RX6 53 "TavernBenchModel" "granted" "[I", Cond.constant RX6 126 (100000), Cond.methodLink RX6 142 yX6_endedFrom, Cond.instanceMethod yX6_endedFrom, Cond.selects RX6 yX6_endedFrom yX6_endedFrom, Cond.code yX6_endedFrom cX6_endedFrom 8 (some .int), Cond.fieldLink RX6 56 "TavernBenchModel" "events" "[I", Cond.fieldLink RX6 59 "TavernBenchModel" "eventDay" "[I", Cond.methodLink RX6 139 yX6_counts, Cond.instanceMethod yX6_counts, Cond.selects RX6 yX6_counts yX6_counts, Cond.code yX6_counts cX6_counts 6 (some .boolean), Cond.fieldLink RX6 62 "TavernBenchModel" "eventKind" "[I", Cond.fieldLink RX6 65 "TavernBenchModel" "eventValue" "[I", Cond.methodLink RX6 146 yX6_lapsedFrom, Cond.instanceMethod yX6_lapsedFrom, Cond.selects RX6 yX6_lapsedFrom yX6_lapsedFrom, Cond.code yX6_lapsedFrom cX6_lapsedFrom 8 (some .int), Cond.methodLink RX6 149 yX6_surplusFrom, Cond.instanceMethod yX6_surplusFrom, Cond.selects RX6 yX6_surplusFrom yX6_surplusFrom, Cond.code yX6_surplusFrom cX6_surplusFrom 5 (some .int), Cond.methodLink RX6 155 yX6_condition]
def wsX6_minutes_r3 : List Cond := [Cond.instanceMethod yX6_condition, Cond.selects RX6 yX6_condition yX6_condition, Cond.code yX6_condition cX6_condition 6 (some .int), Cond.methodLink RX6 161 yX6_lawOf, Cond.instanceMethod yX6_lawOf, Cond.selects RX6 yX6_lawOf yX6_lawOf, Cond.code yX6_lawOf cX6_lawOf 7 (some .int), Cond.fieldLink RX6 106 "TavernBenchModel" "laws" "I", Cond.fieldLink RX6 16 "TavernBenchModel" "lawKind" "[I", Cond.fieldLink RX6 19 "TavernBenchModel" "lawWeek" "[I", Cond.fieldLink RX6 13 "TavernBenchModel" "lawDay" "[I", Cond.methodLink RX6 103 yX6_isFeast, Cond.instanceMethod yX6_isFeast, Cond.selects RX6 yX6_isFeast yX6_isFeast, Cond.code yX6_isFeast cX6_isFeast 4 (some .boolean), Cond.fieldLink RX6 96 "TavernBenchModel" "feasts" "I", Cond.fieldLink RX6 7 "TavernBenchModel" "feast" "[I", Cond.methodLink RX6 167 yX6_may, Cond.instanceMethod yX6_may, Cond.selects RX6 yX6_may yX6_may, Cond.code yX6_may cX6_may 8 (some .boolean), Cond.methodLink RX6 164 yX6_isOpen, Cond.instanceMethod yX6_isOpen, Cond.selects RX6 yX6_isOpen yX6_isOpen]
def wsX6_minutes_r4 : List Cond := [Cond.code yX6_isOpen cX6_isOpen 3 (some .boolean), Cond.fieldLink RX6 22 "TavernBenchModel" "lawFrom" "[I", Cond.fieldLink RX6 25 "TavernBenchModel" "lawTo" "[I"]
def wsX6_minutes : List Cond := .code yX6_minutes cX6_minutes 3 (some .int) :: ((wsX6_minutes_r1 ++ (wsX6_minutes_r2 ++ (wsX6_minutes_r3 ++ wsX6_minutes_r4))) ++ wsX60)
def wsX6_owes_r1 : List Cond := [Cond.constant RX6 126 (100000), Cond.constantLong RX6 174 (3), Cond.fieldLink RX6 116 "TavernBenchModel" "houses" "I", Cond.fieldLink RX6 85 "TavernBenchModel" "part" "[J", Cond.fieldLink RX6 89 "TavernBenchModel" "rest" "[J", Cond.constantLong RX6 176 (-1), Cond.methodLink RX6 133 yX6_isHouse, Cond.instanceMethod yX6_isHouse, Cond.selects RX6 yX6_isHouse yX6_isHouse, Cond.initialized RX6, Cond.code yX6_isHouse cX6_isHouse 2 (some .boolean), Cond.methodLink RX6 92 yX6_in, Cond.static yX6_in, Cond.code yX6_in cX6_in 3 (some .boolean), Cond.methodLink RX6 149 yX6_surplusFrom, Cond.instanceMethod yX6_surplusFrom, Cond.selects RX6 yX6_surplusFrom yX6_surplusFrom, Cond.code yX6_surplusFrom cX6_surplusFrom 5 (some .int), Cond.fieldLink RX6 56 "TavernBenchModel" "events" "[I", Cond.fieldLink RX6 62 "TavernBenchModel" "eventKind" "[I", Cond.fieldLink RX6 59 "TavernBenchModel" "eventDay" "[I", Cond.methodLink RX6 158 yX6_worthOn, Cond.instanceMethod yX6_worthOn, Cond.selects RX6 yX6_worthOn yX6_worthOn]
def wsX6_owes_r2 : List Cond := [Cond.code yX6_worthOn cX6_worthOn 5 (some .int), Cond.fieldLink RX6 68 "TavernBenchModel" "worths" "[I", Cond.fieldLink RX6 71 "TavernBenchModel" "worthDay" "[I", Cond.fieldLink RX6 74 "TavernBenchModel" "worth" "[I", Cond.methodLink RX6 119 yX6_has, Cond.instanceMethod yX6_has, Cond.selects RX6 yX6_has yX6_has, Cond.code yX6_has cX6_has 3 (some .boolean), Cond.methodLink RX6 152 yX6_stateOn, Cond.instanceMethod yX6_stateOn, Cond.selects RX6 yX6_stateOn yX6_stateOn, Cond.code yX6_stateOn cX6_stateOn 6 (some .int), Cond.fieldLink RX6 53 "TavernBenchModel" "granted" "[I", Cond.methodLink RX6 142 yX6_endedFrom, Cond.instanceMethod yX6_endedFrom, Cond.selects RX6 yX6_endedFrom yX6_endedFrom, Cond.code yX6_endedFrom cX6_endedFrom 8 (some .int), Cond.methodLink RX6 139 yX6_counts, Cond.instanceMethod yX6_counts, Cond.selects RX6 yX6_counts yX6_counts, Cond.code yX6_counts cX6_counts 6 (some .boolean), Cond.fieldLink RX6 65 "TavernBenchModel" "eventValue" "[I", Cond.methodLink RX6 146 yX6_lapsedFrom, Cond.instanceMethod yX6_lapsedFrom]
def wsX6_owes_r3 : List Cond := [Cond.selects RX6 yX6_lapsedFrom yX6_lapsedFrom, Cond.code yX6_lapsedFrom cX6_lapsedFrom 8 (some .int)]
def wsX6_owes : List Cond := .code yX6_owes cX6_owes 12 (some .int) :: ((wsX6_owes_r1 ++ (wsX6_owes_r2 ++ wsX6_owes_r3)) ++ wsX60)
def wsX6_many_r1 : List Cond := [Cond.fieldLink RX6 116 "TavernBenchModel" "houses" "I", Cond.fieldLink RX6 77 "TavernBenchModel" "isVisited" "[Z", Cond.methodLink RX6 119 yX6_has, Cond.instanceMethod yX6_has, Cond.selects RX6 yX6_has yX6_has, Cond.initialized RX6, Cond.code yX6_has cX6_has 3 (some .boolean), Cond.methodLink RX6 152 yX6_stateOn, Cond.instanceMethod yX6_stateOn, Cond.selects RX6 yX6_stateOn yX6_stateOn, Cond.code yX6_stateOn cX6_stateOn 6 (some .int), Cond.fieldLink RX6 53 "TavernBenchModel" "granted" "[I", Cond.constant RX6 126 (100000), Cond.methodLink RX6 142 yX6_endedFrom, Cond.instanceMethod yX6_endedFrom, Cond.selects RX6 yX6_endedFrom yX6_endedFrom, Cond.code yX6_endedFrom cX6_endedFrom 8 (some .int), Cond.fieldLink RX6 56 "TavernBenchModel" "events" "[I", Cond.fieldLink RX6 59 "TavernBenchModel" "eventDay" "[I", Cond.methodLink RX6 139 yX6_counts, Cond.instanceMethod yX6_counts, Cond.selects RX6 yX6_counts yX6_counts, Cond.code yX6_counts cX6_counts 6 (some .boolean), Cond.fieldLink RX6 62 "TavernBenchModel" "eventKind" "[I"]
def wsX6_many_r2 : List Cond := [Cond.fieldLink RX6 65 "TavernBenchModel" "eventValue" "[I", Cond.methodLink RX6 146 yX6_lapsedFrom, Cond.instanceMethod yX6_lapsedFrom, Cond.selects RX6 yX6_lapsedFrom yX6_lapsedFrom, Cond.code yX6_lapsedFrom cX6_lapsedFrom 8 (some .int), Cond.methodLink RX6 92 yX6_in, Cond.static yX6_in, Cond.code yX6_in cX6_in 3 (some .boolean), Cond.methodLink RX6 149 yX6_surplusFrom, Cond.instanceMethod yX6_surplusFrom, Cond.selects RX6 yX6_surplusFrom yX6_surplusFrom, Cond.code yX6_surplusFrom cX6_surplusFrom 5 (some .int)]
def wsX6_many : List Cond := .code yX6_many cX6_many 5 (some .int) :: ((wsX6_many_r1 ++ wsX6_many_r2) ++ wsX60)
def wsX6_round : List Cond := .code yX6_round cX6_round 2 none :: ([.fieldLink RX6 77 "TavernBenchModel" "isVisited" "[Z", .fieldLink RX6 178 "TavernBenchModel" "visits" "I"] ++ wsX60)
def wsX6_visit_r1 : List Cond := [Cond.fieldLink RX6 81 "TavernBenchModel" "seed" "J", Cond.constantLong RX6 188 (16807), Cond.constantLong RX6 190 (2147483647), Cond.fieldLink RX6 116 "TavernBenchModel" "houses" "I", Cond.fieldLink RX6 77 "TavernBenchModel" "isVisited" "[Z", Cond.fieldLink RX6 178 "TavernBenchModel" "visits" "I", Cond.methodLink RX6 99 yX6_isDay, Cond.static yX6_isDay, Cond.initialized RX6, Cond.code yX6_isDay cX6_isDay 1 (some .boolean), Cond.methodLink RX6 92 yX6_in, Cond.static yX6_in, Cond.code yX6_in cX6_in 3 (some .boolean), Cond.methodLink RX6 181 yX6_many, Cond.instanceMethod yX6_many, Cond.selects RX6 yX6_many yX6_many, Cond.code yX6_many cX6_many 5 (some .int), Cond.methodLink RX6 119 yX6_has, Cond.instanceMethod yX6_has, Cond.selects RX6 yX6_has yX6_has, Cond.code yX6_has cX6_has 3 (some .boolean), Cond.methodLink RX6 152 yX6_stateOn, Cond.instanceMethod yX6_stateOn, Cond.selects RX6 yX6_stateOn yX6_stateOn]
def wsX6_visit_r2 : List Cond := [Cond.code yX6_stateOn cX6_stateOn 6 (some .int), Cond.fieldLink RX6 53 "TavernBenchModel" "granted" "[I", Cond.constant RX6 126 (100000), Cond.methodLink RX6 142 yX6_endedFrom, Cond.instanceMethod yX6_endedFrom, Cond.selects RX6 yX6_endedFrom yX6_endedFrom, Cond.code yX6_endedFrom cX6_endedFrom 8 (some .int), Cond.fieldLink RX6 56 "TavernBenchModel" "events" "[I", Cond.fieldLink RX6 59 "TavernBenchModel" "eventDay" "[I", Cond.methodLink RX6 139 yX6_counts, Cond.instanceMethod yX6_counts, Cond.selects RX6 yX6_counts yX6_counts, Cond.code yX6_counts cX6_counts 6 (some .boolean), Cond.fieldLink RX6 62 "TavernBenchModel" "eventKind" "[I", Cond.fieldLink RX6 65 "TavernBenchModel" "eventValue" "[I", Cond.methodLink RX6 146 yX6_lapsedFrom, Cond.instanceMethod yX6_lapsedFrom, Cond.selects RX6 yX6_lapsedFrom yX6_lapsedFrom, Cond.code yX6_lapsedFrom cX6_lapsedFrom 8 (some .int), Cond.methodLink RX6 149 yX6_surplusFrom, Cond.instanceMethod yX6_surplusFrom, Cond.selects RX6 yX6_surplusFrom yX6_surplusFrom, Cond.code yX6_surplusFrom cX6_surplusFrom 5 (some .int), Cond.methodLink RX6 185 yX6_round]
def wsX6_visit_r3 : List Cond := [Cond.instanceMethod yX6_round, Cond.selects RX6 yX6_round yX6_round, Cond.code yX6_round cX6_round 2 none]
def wsX6_visit : List Cond := .code yX6_visit cX6_visit 5 (some .int) :: ((wsX6_visit_r1 ++ (wsX6_visit_r2 ++ wsX6_visit_r3)) ++ wsX60)
def wsX6_seed : List Cond := .code yX6_seed cX6_seed 2 (some .int) :: ([.constant RX6 192 (2147483646), .fieldLink RX6 81 "TavernBenchModel" "seed" "J", .methodLink RX6 92 yX6_in, .static yX6_in, .initialized RX6, .code yX6_in cX6_in 3 (some .boolean), .methodLink RX6 185 yX6_round, .instanceMethod yX6_round, .selects RX6 yX6_round yX6_round, .code yX6_round cX6_round 2 none, .fieldLink RX6 77 "TavernBenchModel" "isVisited" "[Z", .fieldLink RX6 178 "TavernBenchModel" "visits" "I"] ++ wsX60)
def wsX6_count : List Cond := .code yX6_count cX6_count 2 (some .int) :: ([.fieldLink RX6 116 "TavernBenchModel" "houses" "I", .fieldLink RX6 106 "TavernBenchModel" "laws" "I", .fieldLink RX6 96 "TavernBenchModel" "feasts" "I", .fieldLink RX6 113 "TavernBenchModel" "objectors" "I", .fieldLink RX6 178 "TavernBenchModel" "visits" "I", .fieldLink RX6 130 "TavernBenchModel" "refused" "I"] ++ wsX60)
def wsJ9_max_7cf53 : List Cond := .code yJ9_max_7cf53 cJ9_max_7cf53 2 (some .int) :: ([])
def wsJ9_min_7cf53 : List Cond := .code yJ9_min_7cf53 cJ9_min_7cf53 2 (some .int) :: ([])
abbrev vwCl : List vw_C := [(RJx4a65c, TJx4a65c, 3), (RX0, TX0, 4), (RX1, TX1, 7), (RX2, TX2, 5), (RX3, TX3, 3), (RX4, TX4, 2), (RX5, TX5, 11), (RX6, TX6, 32)]
end
section
theorem dX0_init_0 : decode cX0_init 0 = .ok (.aload_n 0, 1) := by decide +kernel
theorem dX0_init_1 : decode cX0_init 1 = .ok (.invokespecial 3, 3) := by decide +kernel
theorem dX0_init_4 : decode cX0_init 4 = .ok (.aload_n 0, 1) := by decide +kernel
theorem dX0_init_5 : decode cX0_init 5 = .ok (.iload_n 1, 1) := by decide +kernel
theorem dX0_init_6 : decode cX0_init 6 = .ok (.putfield 9, 3) := by decide +kernel
theorem dX0_init_9 : decode cX0_init 9 = .ok (.aload_n 0, 1) := by decide +kernel
theorem dX0_init_10 : decode cX0_init 10 = .ok (.iload_n 2, 1) := by decide +kernel
theorem dX0_init_11 : decode cX0_init 11 = .ok (.putfield 15, 3) := by decide +kernel
theorem dX0_init_14 : decode cX0_init 14 = .ok (.aload_n 0, 1) := by decide +kernel
theorem dX0_init_15 : decode cX0_init 15 = .ok (.iload_n 3, 1) := by decide +kernel
theorem dX0_init_16 : decode cX0_init 16 = .ok (.putfield 18, 3) := by decide +kernel
theorem dX0_init_19 : decode cX0_init 19 = .ok (.aload_n 0, 1) := by decide +kernel
theorem dX0_init_20 : decode cX0_init 20 = .ok (.ldc 21, 2) := by decide +kernel
theorem dX0_init_22 : decode cX0_init 22 = .ok (.putfield 22, 3) := by decide +kernel
theorem dX0_init_25 : decode cX0_init 25 = .ok (.return_, 1) := by decide +kernel
set_option maxRecDepth 20000 in
theorem ggX1_init_Jx4a65c_init_da8c8 : GoodIn wsX1_init wsJx4a65c_init_da8c8 := goodIn_r _ [18, 19, 20, 21, 22, 23, 24, 25, 26, 27, 28, 29, 30, 2, 3, 97, 98, 99] (by decide +kernel) (by decide +kernel)
set_option maxRecDepth 20000 in
theorem gX1_init_Jx4a65c_init_da8c8 : GoodIn wsX1_init (wsJx4a65c_init_da8c8) := ggX1_init_Jx4a65c_init_da8c8
set_option maxRecDepth 20000 in
theorem ggX1_init_X4_init : GoodIn wsX1_init wsX4_init := goodIn_r _ [33, 34, 2, 3, 35, 36, 100, 101] (by decide +kernel) (by decide +kernel)
set_option maxRecDepth 20000 in
theorem gX1_init_X4_init : GoodIn wsX1_init (wsX4_init) := ggX1_init_X4_init
set_option maxRecDepth 20000 in
theorem ggX1_init_Jx4a65c_add_9ea2d : GoodIn wsX1_init wsJx4a65c_add_9ea2d := goodIn_r _ [40, 41, 42, 20, 43, 44, 45, 46, 10, 47, 48, 49, 50, 51, 52, 53, 54, 55, 19, 56, 57, 58, 59, 60, 61, 62, 63, 64, 65, 66, 67, 68, 69, 70, 71, 72, 73, 74, 75, 76, 77, 78, 79, 80, 81, 82, 83, 84, 85, 86, 87, 88, 89, 97, 98, 99] (by decide +kernel) (by decide +kernel)
set_option maxRecDepth 20000 in
theorem gX1_init_Jx4a65c_add_9ea2d : GoodIn wsX1_init (wsV RX1 39 RJx4a65c yJx4a65c_add_9ea2d wsJx4a65c_add_9ea2d) := goodIn_app (goodIn_of _ (by decide +kernel)) ggX1_init_Jx4a65c_add_9ea2d
theorem dX1_init_0 : decode cX1_init 0 = .ok (.aload_n 0, 1) := by decide +kernel
theorem dX1_init_1 : decode cX1_init 1 = .ok (.invokespecial 3, 3) := by decide +kernel
theorem dX1_init_4 : decode cX1_init 4 = .ok (.aload_n 0, 1) := by decide +kernel
theorem dX1_init_5 : decode cX1_init 5 = .ok (.iload_n 1, 1) := by decide +kernel
theorem dX1_init_6 : decode cX1_init 6 = .ok (.putfield 9, 3) := by decide +kernel
theorem dX1_init_9 : decode cX1_init 9 = .ok (.aload_n 0, 1) := by decide +kernel
theorem dX1_init_10 : decode cX1_init 10 = .ok (.iload_n 2, 1) := by decide +kernel
theorem dX1_init_11 : decode cX1_init 11 = .ok (.putfield 15, 3) := by decide +kernel
theorem dX1_init_14 : decode cX1_init 14 = .ok (.aload_n 0, 1) := by decide +kernel
theorem dX1_init_15 : decode cX1_init 15 = .ok (.iload_n 3, 1) := by decide +kernel
theorem dX1_init_16 : decode cX1_init 16 = .ok (.putfield 18, 3) := by decide +kernel
theorem dX1_init_19 : decode cX1_init 19 = .ok (.aload_n 0, 1) := by decide +kernel
theorem dX1_init_20 : decode cX1_init 20 = .ok (.iload 4, 2) := by decide +kernel
theorem dX1_init_22 : decode cX1_init 22 = .ok (.putfield 21, 3) := by decide +kernel
theorem dX1_init_25 : decode cX1_init 25 = .ok (.aload_n 0, 1) := by decide +kernel
theorem dX1_init_26 : decode cX1_init 26 = .ok (.new 24, 3) := by decide +kernel
theorem dX1_init_29 : decode cX1_init 29 = .ok (.dup, 1) := by decide +kernel
theorem dX1_init_30 : decode cX1_init 30 = .ok (.invokespecial 26, 3) := by decide +kernel
theorem dX1_init_33 : decode cX1_init 33 = .ok (.putfield 27, 3) := by decide +kernel
theorem dX1_init_36 : decode cX1_init 36 = .ok (.aload_n 0, 1) := by decide +kernel
theorem dX1_init_37 : decode cX1_init 37 = .ok (.new 24, 3) := by decide +kernel
theorem dX1_init_40 : decode cX1_init 40 = .ok (.dup, 1) := by decide +kernel
theorem dX1_init_41 : decode cX1_init 41 = .ok (.invokespecial 26, 3) := by decide +kernel
theorem dX1_init_44 : decode cX1_init 44 = .ok (.putfield 31, 3) := by decide +kernel
theorem dX1_init_47 : decode cX1_init 47 = .ok (.aload_n 0, 1) := by decide +kernel
theorem dX1_init_48 : decode cX1_init 48 = .ok (.getfield 31, 3) := by decide +kernel
theorem dX1_init_51 : decode cX1_init 51 = .ok (.new 34, 3) := by decide +kernel
theorem dX1_init_54 : decode cX1_init 54 = .ok (.dup, 1) := by decide +kernel
theorem dX1_init_55 : decode cX1_init 55 = .ok (.iload 4, 2) := by decide +kernel
theorem dX1_init_57 : decode cX1_init 57 = .ok (.iload 5, 2) := by decide +kernel
theorem dX1_init_59 : decode cX1_init 59 = .ok (.invokespecial 36, 3) := by decide +kernel
theorem dX1_init_62 : decode cX1_init 62 = .ok (.invokevirtual 39, 3) := by decide +kernel
theorem dX1_init_65 : decode cX1_init 65 = .ok (.pop, 1) := by decide +kernel
theorem dX1_init_66 : decode cX1_init 66 = .ok (.return_, 1) := by decide +kernel
set_option maxRecDepth 20000 in
theorem ggX1_mayBeTold_X1_offenceNumbered : GoodIn wsX1_mayBeTold wsX1_offenceNumbered := goodIn_r _ [5, 6, 7, 8, 9, 10, 11, 12, 13, 14, 15, 16, 17, 18, 19, 20, 21, 22, 23, 24, 25, 26, 27, 28, 29, 30, 31, 32, 33, 34, 35, 36, 37, 38, 39, 40, 41, 42, 43, 44, 45, 46] (by decide +kernel) (by decide +kernel)
set_option maxRecDepth 20000 in
theorem gX1_mayBeTold_X1_offenceNumbered : GoodIn wsX1_mayBeTold (wsV RX1 43 RX1 yX1_offenceNumbered wsX1_offenceNumbered) := goodIn_app (goodIn_of _ (by decide +kernel)) ggX1_mayBeTold_X1_offenceNumbered
theorem dX1_mayBeTold_0 : decode cX1_mayBeTold 0 = .ok (.iload_n 1, 1) := by decide +kernel
theorem dX1_mayBeTold_1 : decode cX1_mayBeTold 1 = .ok (.ifCond .ne 17, 3) := by decide +kernel
theorem dX1_mayBeTold_4 : decode cX1_mayBeTold 4 = .ok (.aload_n 0, 1) := by decide +kernel
theorem dX1_mayBeTold_5 : decode cX1_mayBeTold 5 = .ok (.iload_n 2, 1) := by decide +kernel
theorem dX1_mayBeTold_6 : decode cX1_mayBeTold 6 = .ok (.invokevirtual 43, 3) := by decide +kernel
theorem dX1_mayBeTold_9 : decode cX1_mayBeTold 9 = .ok (.ifnonnull 7, 3) := by decide +kernel
theorem dX1_mayBeTold_12 : decode cX1_mayBeTold 12 = .ok (.iconst 1, 1) := by decide +kernel
theorem dX1_mayBeTold_13 : decode cX1_mayBeTold 13 = .ok (.goto 4, 3) := by decide +kernel
theorem dX1_mayBeTold_16 : decode cX1_mayBeTold 16 = .ok (.iconst 0, 1) := by decide +kernel
theorem dX1_mayBeTold_17 : decode cX1_mayBeTold 17 = .ok (.ireturn, 1) := by decide +kernel
theorem dX1_mayBeTold_18 : decode cX1_mayBeTold 18 = .ok (.iload_n 1, 1) := by decide +kernel
theorem dX1_mayBeTold_19 : decode cX1_mayBeTold 19 = .ok (.iconst 1, 1) := by decide +kernel
theorem dX1_mayBeTold_20 : decode cX1_mayBeTold 20 = .ok (.if_icmp .ne 11, 3) := by decide +kernel
theorem dX1_mayBeTold_23 : decode cX1_mayBeTold 23 = .ok (.aload_n 0, 1) := by decide +kernel
theorem dX1_mayBeTold_24 : decode cX1_mayBeTold 24 = .ok (.iload_n 2, 1) := by decide +kernel
theorem dX1_mayBeTold_25 : decode cX1_mayBeTold 25 = .ok (.invokevirtual 43, 3) := by decide +kernel
theorem dX1_mayBeTold_28 : decode cX1_mayBeTold 28 = .ok (.ifnull 7, 3) := by decide +kernel
theorem dX1_mayBeTold_31 : decode cX1_mayBeTold 31 = .ok (.iconst 1, 1) := by decide +kernel
theorem dX1_mayBeTold_32 : decode cX1_mayBeTold 32 = .ok (.goto 4, 3) := by decide +kernel
theorem dX1_mayBeTold_35 : decode cX1_mayBeTold 35 = .ok (.iconst 0, 1) := by decide +kernel
theorem dX1_mayBeTold_36 : decode cX1_mayBeTold 36 = .ok (.ireturn, 1) := by decide +kernel
set_option maxRecDepth 20000 in
theorem ggX1_tell_X0_init : GoodIn wsX1_tell wsX0_init := goodIn_r _ [12, 13, 14, 15, 16, 17, 18, 19, 20, 109, 110, 111, 112] (by decide +kernel) (by decide +kernel)
set_option maxRecDepth 20000 in
theorem gX1_tell_X0_init : GoodIn wsX1_tell (wsX0_init) := ggX1_tell_X0_init
set_option maxRecDepth 20000 in
theorem ggX1_tell_Jx4a65c_add_9ea2d : GoodIn wsX1_tell wsJx4a65c_add_9ea2d := goodIn_r _ [25, 26, 27, 28, 29, 30, 31, 32, 24, 33, 34, 35, 36, 37, 38, 39, 40, 41, 42, 43, 44, 8, 45, 46, 47, 48, 49, 50, 51, 52, 53, 54, 55, 56, 57, 58, 59, 60, 61, 62, 63, 64, 65, 66, 67, 68, 69, 7, 9, 70, 71, 72, 73, 113, 114, 115] (by decide +kernel) (by decide +kernel)
set_option maxRecDepth 20000 in
theorem gX1_tell_Jx4a65c_add_9ea2d : GoodIn wsX1_tell (wsV RX1 39 RJx4a65c yJx4a65c_add_9ea2d wsJx4a65c_add_9ea2d) := goodIn_app (goodIn_of _ (by decide +kernel)) ggX1_tell_Jx4a65c_add_9ea2d
set_option maxRecDepth 20000 in
theorem ggX1_tell_X1_offenceNumbered : GoodIn wsX1_tell wsX1_offenceNumbered := goodIn_r _ [78, 1, 79, 80, 81, 82, 83, 84, 24, 85, 29, 86, 87, 88, 89, 90, 91, 92, 93, 94, 95, 96, 97, 98, 99, 100, 101, 28, 102, 103, 104, 105, 106, 107, 108, 109, 110, 111, 112, 113, 114, 115] (by decide +kernel) (by decide +kernel)
set_option maxRecDepth 20000 in
theorem gX1_tell_X1_offenceNumbered : GoodIn wsX1_tell (wsV RX1 43 RX1 yX1_offenceNumbered wsX1_offenceNumbered) := goodIn_app (goodIn_of _ (by decide +kernel)) ggX1_tell_X1_offenceNumbered
theorem dX1_tell_0 : decode cX1_tell 0 = .ok (.aload_n 0, 1) := by decide +kernel
theorem dX1_tell_1 : decode cX1_tell 1 = .ok (.getfield 27, 3) := by decide +kernel
theorem dX1_tell_4 : decode cX1_tell 4 = .ok (.new 47, 3) := by decide +kernel
theorem dX1_tell_7 : decode cX1_tell 7 = .ok (.dup, 1) := by decide +kernel
theorem dX1_tell_8 : decode cX1_tell 8 = .ok (.iload_n 1, 1) := by decide +kernel
theorem dX1_tell_9 : decode cX1_tell 9 = .ok (.iload_n 2, 1) := by decide +kernel
theorem dX1_tell_10 : decode cX1_tell 10 = .ok (.iload_n 3, 1) := by decide +kernel
theorem dX1_tell_11 : decode cX1_tell 11 = .ok (.invokespecial 49, 3) := by decide +kernel
theorem dX1_tell_14 : decode cX1_tell 14 = .ok (.invokevirtual 39, 3) := by decide +kernel
theorem dX1_tell_17 : decode cX1_tell 17 = .ok (.pop, 1) := by decide +kernel
theorem dX1_tell_18 : decode cX1_tell 18 = .ok (.iload_n 2, 1) := by decide +kernel
theorem dX1_tell_19 : decode cX1_tell 19 = .ok (.iconst 1, 1) := by decide +kernel
theorem dX1_tell_20 : decode cX1_tell 20 = .ok (.if_icmp .ne 11, 3) := by decide +kernel
theorem dX1_tell_23 : decode cX1_tell 23 = .ok (.aload_n 0, 1) := by decide +kernel
theorem dX1_tell_24 : decode cX1_tell 24 = .ok (.iload_n 3, 1) := by decide +kernel
theorem dX1_tell_25 : decode cX1_tell 25 = .ok (.invokevirtual 43, 3) := by decide +kernel
theorem dX1_tell_28 : decode cX1_tell 28 = .ok (.goto 4, 3) := by decide +kernel
theorem dX1_tell_31 : decode cX1_tell 31 = .ok (.aconst_null, 1) := by decide +kernel
theorem dX1_tell_32 : decode cX1_tell 32 = .ok (.astore 4, 2) := by decide +kernel
theorem dX1_tell_34 : decode cX1_tell 34 = .ok (.aload 4, 2) := by decide +kernel
theorem dX1_tell_36 : decode cX1_tell 36 = .ok (.ifnull 17, 3) := by decide +kernel
theorem dX1_tell_39 : decode cX1_tell 39 = .ok (.aload 4, 2) := by decide +kernel
theorem dX1_tell_41 : decode cX1_tell 41 = .ok (.aload 4, 2) := by decide +kernel
theorem dX1_tell_43 : decode cX1_tell 43 = .ok (.getfield 52, 3) := by decide +kernel
theorem dX1_tell_46 : decode cX1_tell 46 = .ok (.iload_n 1, 1) := by decide +kernel
theorem dX1_tell_47 : decode cX1_tell 47 = .ok (.invokestatic 55, 3) := by decide +kernel
theorem dX1_tell_50 : decode cX1_tell 50 = .ok (.putfield 52, 3) := by decide +kernel
theorem dX1_tell_53 : decode cX1_tell 53 = .ok (.return_, 1) := by decide +kernel
set_option maxRecDepth 20000 in
theorem ggX1_offenceNumbered_Jx4a65c_size_8abf5 : GoodIn wsX1_offenceNumbered wsJx4a65c_size_8abf5 := goodIn_r _ [9, 10, 39, 40, 41] (by decide +kernel) (by decide +kernel)
set_option maxRecDepth 20000 in
theorem gX1_offenceNumbered_Jx4a65c_size_8abf5 : GoodIn wsX1_offenceNumbered (wsV RX1 61 RJx4a65c yJx4a65c_size_8abf5 wsJx4a65c_size_8abf5) := goodIn_app (goodIn_of _ (by decide +kernel)) ggX1_offenceNumbered_Jx4a65c_size_8abf5
set_option maxRecDepth 20000 in
theorem ggX1_offenceNumbered_Jx4a65c_get_915e3 : GoodIn wsX1_offenceNumbered wsJx4a65c_get_915e3 := goodIn_r _ [14, 10, 15, 16, 17, 18, 19, 20, 21, 22, 23, 24, 25, 8, 26, 27, 39, 40, 41] (by decide +kernel) (by decide +kernel)
set_option maxRecDepth 20000 in
theorem gX1_offenceNumbered_Jx4a65c_get_915e3 : GoodIn wsX1_offenceNumbered (wsV RX1 65 RJx4a65c yJx4a65c_get_915e3 wsJx4a65c_get_915e3) := goodIn_app (goodIn_of _ (by decide +kernel)) ggX1_offenceNumbered_Jx4a65c_get_915e3
theorem dX1_offenceNumbered_0 : decode cX1_offenceNumbered 0 = .ok (.iconst 0, 1) := by decide +kernel
theorem dX1_offenceNumbered_1 : decode cX1_offenceNumbered 1 = .ok (.istore_n 2, 1) := by decide +kernel
theorem dX1_offenceNumbered_2 : decode cX1_offenceNumbered 2 = .ok (.iload_n 2, 1) := by decide +kernel
theorem dX1_offenceNumbered_3 : decode cX1_offenceNumbered 3 = .ok (.aload_n 0, 1) := by decide +kernel
theorem dX1_offenceNumbered_4 : decode cX1_offenceNumbered 4 = .ok (.getfield 27, 3) := by decide +kernel
theorem dX1_offenceNumbered_7 : decode cX1_offenceNumbered 7 = .ok (.invokevirtual 61, 3) := by decide +kernel
theorem dX1_offenceNumbered_10 : decode cX1_offenceNumbered 10 = .ok (.if_icmp .ge 38, 3) := by decide +kernel
theorem dX1_offenceNumbered_13 : decode cX1_offenceNumbered 13 = .ok (.aload_n 0, 1) := by decide +kernel
theorem dX1_offenceNumbered_14 : decode cX1_offenceNumbered 14 = .ok (.getfield 27, 3) := by decide +kernel
theorem dX1_offenceNumbered_17 : decode cX1_offenceNumbered 17 = .ok (.iload_n 2, 1) := by decide +kernel
theorem dX1_offenceNumbered_18 : decode cX1_offenceNumbered 18 = .ok (.invokevirtual 65, 3) := by decide +kernel
theorem dX1_offenceNumbered_21 : decode cX1_offenceNumbered 21 = .ok (.checkcast 47, 3) := by decide +kernel
theorem dX1_offenceNumbered_24 : decode cX1_offenceNumbered 24 = .ok (.astore_n 3, 1) := by decide +kernel
theorem dX1_offenceNumbered_25 : decode cX1_offenceNumbered 25 = .ok (.aload_n 3, 1) := by decide +kernel
theorem dX1_offenceNumbered_26 : decode cX1_offenceNumbered 26 = .ok (.getfield 69, 3) := by decide +kernel
theorem dX1_offenceNumbered_29 : decode cX1_offenceNumbered 29 = .ok (.ifCond .ne 13, 3) := by decide +kernel
theorem dX1_offenceNumbered_32 : decode cX1_offenceNumbered 32 = .ok (.aload_n 3, 1) := by decide +kernel
theorem dX1_offenceNumbered_33 : decode cX1_offenceNumbered 33 = .ok (.getfield 70, 3) := by decide +kernel
theorem dX1_offenceNumbered_36 : decode cX1_offenceNumbered 36 = .ok (.iload_n 1, 1) := by decide +kernel
theorem dX1_offenceNumbered_37 : decode cX1_offenceNumbered 37 = .ok (.if_icmp .ne 5, 3) := by decide +kernel
theorem dX1_offenceNumbered_40 : decode cX1_offenceNumbered 40 = .ok (.aload_n 3, 1) := by decide +kernel
theorem dX1_offenceNumbered_41 : decode cX1_offenceNumbered 41 = .ok (.areturn, 1) := by decide +kernel
theorem dX1_offenceNumbered_42 : decode cX1_offenceNumbered 42 = .ok (.iinc 2 1, 3) := by decide +kernel
theorem dX1_offenceNumbered_45 : decode cX1_offenceNumbered 45 = .ok (.goto (-43), 3) := by decide +kernel
theorem dX1_offenceNumbered_48 : decode cX1_offenceNumbered 48 = .ok (.aconst_null, 1) := by decide +kernel
theorem dX1_offenceNumbered_49 : decode cX1_offenceNumbered 49 = .ok (.areturn, 1) := by decide +kernel
set_option maxRecDepth 20000 in
theorem ggX1_hasLicence_X1_stateOn : GoodIn wsX1_hasLicence wsX1_stateOn := goodIn_r _ [5, 6, 7, 8, 9, 10, 11, 12, 13, 14, 4, 15, 16, 17, 18, 19, 20, 21, 22, 23, 24, 25, 26, 27, 28, 29, 30, 31, 32, 33, 34, 35, 36, 37, 38, 39, 40, 41, 42, 43, 44, 45, 46, 47, 48, 49, 50, 51, 52, 53, 54, 55, 56, 57, 58, 59, 60, 61, 62, 63, 64, 65, 66, 67, 68, 69, 70, 71, 72, 73, 74, 75, 76] (by decide +kernel) (by decide +kernel)
set_option maxRecDepth 20000 in
theorem gX1_hasLicence_X1_stateOn : GoodIn wsX1_hasLicence (wsV RX1 73 RX1 yX1_stateOn wsX1_stateOn) := goodIn_app (goodIn_of _ (by decide +kernel)) ggX1_hasLicence_X1_stateOn
theorem dX1_hasLicence_0 : decode cX1_hasLicence 0 = .ok (.aload_n 0, 1) := by decide +kernel
theorem dX1_hasLicence_1 : decode cX1_hasLicence 1 = .ok (.iload_n 1, 1) := by decide +kernel
theorem dX1_hasLicence_2 : decode cX1_hasLicence 2 = .ok (.invokevirtual 73, 3) := by decide +kernel
theorem dX1_hasLicence_5 : decode cX1_hasLicence 5 = .ok (.iconst 1, 1) := by decide +kernel
theorem dX1_hasLicence_6 : decode cX1_hasLicence 6 = .ok (.if_icmp .ne 7, 3) := by decide +kernel
theorem dX1_hasLicence_9 : decode cX1_hasLicence 9 = .ok (.iconst 1, 1) := by decide +kernel
theorem dX1_hasLicence_10 : decode cX1_hasLicence 10 = .ok (.goto 4, 3) := by decide +kernel
theorem dX1_hasLicence_13 : decode cX1_hasLicence 13 = .ok (.iconst 0, 1) := by decide +kernel
theorem dX1_hasLicence_14 : decode cX1_hasLicence 14 = .ok (.ireturn, 1) := by decide +kernel
set_option maxRecDepth 20000 in
theorem ggX1_stateOn_X1_endedFrom : GoodIn wsX1_stateOn wsX1_endedFrom := goodIn_r _ [11, 6, 12, 13, 14, 15, 16, 17, 18, 19, 20, 21, 22, 23, 24, 25, 26, 27, 28, 29, 30, 31, 32, 33, 34, 35, 36, 37, 38, 39, 40, 41, 10, 42, 43, 59, 60, 61, 62, 63, 64, 65, 66, 67, 68, 69, 70, 71, 72] (by decide +kernel) (by decide +kernel)
set_option maxRecDepth 20000 in
theorem gX1_stateOn_X1_endedFrom : GoodIn wsX1_stateOn (wsV RX1 77 RX1 yX1_endedFrom wsX1_endedFrom) := goodIn_app (goodIn_of _ (by decide +kernel)) ggX1_stateOn_X1_endedFrom
set_option maxRecDepth 20000 in
theorem ggX1_stateOn_X1_lapsedFrom : GoodIn wsX1_stateOn wsX1_lapsedFrom := goodIn_r _ [47, 6, 12, 13, 15, 14, 16, 17, 18, 19, 20, 21, 22, 23, 24, 25, 26, 27, 28, 29, 30, 31, 32, 33, 34, 35, 36, 37, 38, 48, 49, 50, 10, 51, 52, 53, 54, 59, 60, 61, 62, 63, 64, 65, 66, 67, 68, 69, 70, 71, 72] (by decide +kernel) (by decide +kernel)
set_option maxRecDepth 20000 in
theorem gX1_stateOn_X1_lapsedFrom : GoodIn wsX1_stateOn (wsV RX1 80 RX1 yX1_lapsedFrom wsX1_lapsedFrom) := goodIn_app (goodIn_of _ (by decide +kernel)) ggX1_stateOn_X1_lapsedFrom
set_option maxRecDepth 20000 in
theorem ggX1_stateOn_X1_surplusFrom : GoodIn wsX1_stateOn wsX1_surplusFrom := goodIn_r _ [58, 6, 12, 13, 14, 15, 2, 3, 4, 5, 16, 17, 18, 19, 20, 21, 22, 23, 24, 25, 26, 27, 28, 29, 30, 31, 32, 33, 34, 35, 36, 37, 38, 59, 60, 61, 62, 63, 64, 65, 66, 67, 68, 69, 70, 71, 72] (by decide +kernel) (by decide +kernel)
set_option maxRecDepth 20000 in
theorem gX1_stateOn_X1_surplusFrom : GoodIn wsX1_stateOn (wsV RX1 83 RX1 yX1_surplusFrom wsX1_surplusFrom) := goodIn_app (goodIn_of _ (by decide +kernel)) ggX1_stateOn_X1_surplusFrom
theorem dX1_stateOn_0 : decode cX1_stateOn 0 = .ok (.iload_n 1, 1) := by decide +kernel
theorem dX1_stateOn_1 : decode cX1_stateOn 1 = .ok (.aload_n 0, 1) := by decide +kernel
theorem dX1_stateOn_2 : decode cX1_stateOn 2 = .ok (.getfield 21, 3) := by decide +kernel
theorem dX1_stateOn_5 : decode cX1_stateOn 5 = .ok (.if_icmp .ge 5, 3) := by decide +kernel
theorem dX1_stateOn_8 : decode cX1_stateOn 8 = .ok (.iconst 0, 1) := by decide +kernel
theorem dX1_stateOn_9 : decode cX1_stateOn 9 = .ok (.ireturn, 1) := by decide +kernel
theorem dX1_stateOn_10 : decode cX1_stateOn 10 = .ok (.aload_n 0, 1) := by decide +kernel
theorem dX1_stateOn_11 : decode cX1_stateOn 11 = .ok (.iload_n 1, 1) := by decide +kernel
theorem dX1_stateOn_12 : decode cX1_stateOn 12 = .ok (.invokevirtual 77, 3) := by decide +kernel
theorem dX1_stateOn_15 : decode cX1_stateOn 15 = .ok (.istore_n 2, 1) := by decide +kernel
theorem dX1_stateOn_16 : decode cX1_stateOn 16 = .ok (.aload_n 0, 1) := by decide +kernel
theorem dX1_stateOn_17 : decode cX1_stateOn 17 = .ok (.iload_n 1, 1) := by decide +kernel
theorem dX1_stateOn_18 : decode cX1_stateOn 18 = .ok (.invokevirtual 80, 3) := by decide +kernel
theorem dX1_stateOn_21 : decode cX1_stateOn 21 = .ok (.istore_n 3, 1) := by decide +kernel
theorem dX1_stateOn_22 : decode cX1_stateOn 22 = .ok (.aload_n 0, 1) := by decide +kernel
theorem dX1_stateOn_23 : decode cX1_stateOn 23 = .ok (.iload_n 1, 1) := by decide +kernel
theorem dX1_stateOn_24 : decode cX1_stateOn 24 = .ok (.invokevirtual 83, 3) := by decide +kernel
theorem dX1_stateOn_27 : decode cX1_stateOn 27 = .ok (.istore 4, 2) := by decide +kernel
theorem dX1_stateOn_29 : decode cX1_stateOn 29 = .ok (.iload_n 2, 1) := by decide +kernel
theorem dX1_stateOn_30 : decode cX1_stateOn 30 = .ok (.iload_n 3, 1) := by decide +kernel
theorem dX1_stateOn_31 : decode cX1_stateOn 31 = .ok (.iload 4, 2) := by decide +kernel
theorem dX1_stateOn_33 : decode cX1_stateOn 33 = .ok (.invokestatic 55, 3) := by decide +kernel
theorem dX1_stateOn_36 : decode cX1_stateOn 36 = .ok (.invokestatic 55, 3) := by decide +kernel
theorem dX1_stateOn_39 : decode cX1_stateOn 39 = .ok (.istore 5, 2) := by decide +kernel
theorem dX1_stateOn_41 : decode cX1_stateOn 41 = .ok (.iload 5, 2) := by decide +kernel
theorem dX1_stateOn_43 : decode cX1_stateOn 43 = .ok (.ldc 86, 2) := by decide +kernel
theorem dX1_stateOn_45 : decode cX1_stateOn 45 = .ok (.if_icmp .ne 5, 3) := by decide +kernel
theorem dX1_stateOn_48 : decode cX1_stateOn 48 = .ok (.iconst 1, 1) := by decide +kernel
theorem dX1_stateOn_49 : decode cX1_stateOn 49 = .ok (.ireturn, 1) := by decide +kernel
theorem dX1_stateOn_50 : decode cX1_stateOn 50 = .ok (.iload_n 2, 1) := by decide +kernel
theorem dX1_stateOn_51 : decode cX1_stateOn 51 = .ok (.iload 5, 2) := by decide +kernel
theorem dX1_stateOn_53 : decode cX1_stateOn 53 = .ok (.if_icmp .ne 5, 3) := by decide +kernel
theorem dX1_stateOn_56 : decode cX1_stateOn 56 = .ok (.iconst 2, 1) := by decide +kernel
theorem dX1_stateOn_57 : decode cX1_stateOn 57 = .ok (.ireturn, 1) := by decide +kernel
theorem dX1_stateOn_58 : decode cX1_stateOn 58 = .ok (.iload_n 3, 1) := by decide +kernel
theorem dX1_stateOn_59 : decode cX1_stateOn 59 = .ok (.iload 5, 2) := by decide +kernel
theorem dX1_stateOn_61 : decode cX1_stateOn 61 = .ok (.if_icmp .ne 7, 3) := by decide +kernel
theorem dX1_stateOn_64 : decode cX1_stateOn 64 = .ok (.iconst 3, 1) := by decide +kernel
theorem dX1_stateOn_65 : decode cX1_stateOn 65 = .ok (.goto 4, 3) := by decide +kernel
theorem dX1_stateOn_68 : decode cX1_stateOn 68 = .ok (.iconst 4, 1) := by decide +kernel
theorem dX1_stateOn_69 : decode cX1_stateOn 69 = .ok (.ireturn, 1) := by decide +kernel
set_option maxRecDepth 20000 in
theorem ggX1_endedFrom_Jx4a65c_size_8abf5 : GoodIn wsX1_endedFrom wsJx4a65c_size_8abf5 := goodIn_r _ [10, 11, 46, 47, 48] (by decide +kernel) (by decide +kernel)
set_option maxRecDepth 20000 in
theorem gX1_endedFrom_Jx4a65c_size_8abf5 : GoodIn wsX1_endedFrom (wsV RX1 61 RJx4a65c yJx4a65c_size_8abf5 wsJx4a65c_size_8abf5) := goodIn_app (goodIn_of _ (by decide +kernel)) ggX1_endedFrom_Jx4a65c_size_8abf5
set_option maxRecDepth 20000 in
theorem ggX1_endedFrom_Jx4a65c_get_915e3 : GoodIn wsX1_endedFrom wsJx4a65c_get_915e3 := goodIn_r _ [15, 11, 16, 17, 18, 19, 20, 21, 22, 23, 24, 25, 26, 9, 27, 28, 46, 47, 48] (by decide +kernel) (by decide +kernel)
set_option maxRecDepth 20000 in
theorem gX1_endedFrom_Jx4a65c_get_915e3 : GoodIn wsX1_endedFrom (wsV RX1 65 RJx4a65c yJx4a65c_get_915e3 wsJx4a65c_get_915e3) := goodIn_app (goodIn_of _ (by decide +kernel)) ggX1_endedFrom_Jx4a65c_get_915e3
set_option maxRecDepth 20000 in
theorem ggX1_endedFrom_X1_offencesCounted : GoodIn wsX1_endedFrom wsX1_offencesCounted := goodIn_r _ [33, 2, 3, 5, 4, 34, 6, 7, 8, 9, 10, 11, 12, 13, 14, 15, 16, 17, 18, 19, 20, 21, 22, 23, 24, 25, 26, 27, 28, 35, 36, 37, 38, 39, 40, 41, 42, 43, 44, 45, 46, 47, 48] (by decide +kernel) (by decide +kernel)
set_option maxRecDepth 20000 in
theorem gX1_endedFrom_X1_offencesCounted : GoodIn wsX1_endedFrom (wsV RX1 90 RX1 yX1_offencesCounted wsX1_offencesCounted) := goodIn_app (goodIn_of _ (by decide +kernel)) ggX1_endedFrom_X1_offencesCounted
theorem dX1_endedFrom_0 : decode cX1_endedFrom 0 = .ok (.ldc 86, 2) := by decide +kernel
theorem dX1_endedFrom_2 : decode cX1_endedFrom 2 = .ok (.istore_n 2, 1) := by decide +kernel
theorem dX1_endedFrom_3 : decode cX1_endedFrom 3 = .ok (.iconst 0, 1) := by decide +kernel
theorem dX1_endedFrom_4 : decode cX1_endedFrom 4 = .ok (.istore_n 3, 1) := by decide +kernel
theorem dX1_endedFrom_5 : decode cX1_endedFrom 5 = .ok (.iload_n 3, 1) := by decide +kernel
theorem dX1_endedFrom_6 : decode cX1_endedFrom 6 = .ok (.aload_n 0, 1) := by decide +kernel
theorem dX1_endedFrom_7 : decode cX1_endedFrom 7 = .ok (.getfield 27, 3) := by decide +kernel
theorem dX1_endedFrom_10 : decode cX1_endedFrom 10 = .ok (.invokevirtual 61, 3) := by decide +kernel
theorem dX1_endedFrom_13 : decode cX1_endedFrom 13 = .ok (.if_icmp .ge 80, 3) := by decide +kernel
theorem dX1_endedFrom_16 : decode cX1_endedFrom 16 = .ok (.aload_n 0, 1) := by decide +kernel
theorem dX1_endedFrom_17 : decode cX1_endedFrom 17 = .ok (.getfield 27, 3) := by decide +kernel
theorem dX1_endedFrom_20 : decode cX1_endedFrom 20 = .ok (.iload_n 3, 1) := by decide +kernel
theorem dX1_endedFrom_21 : decode cX1_endedFrom 21 = .ok (.invokevirtual 65, 3) := by decide +kernel
theorem dX1_endedFrom_24 : decode cX1_endedFrom 24 = .ok (.checkcast 47, 3) := by decide +kernel
theorem dX1_endedFrom_27 : decode cX1_endedFrom 27 = .ok (.astore 4, 2) := by decide +kernel
theorem dX1_endedFrom_29 : decode cX1_endedFrom 29 = .ok (.aload 4, 2) := by decide +kernel
theorem dX1_endedFrom_31 : decode cX1_endedFrom 31 = .ok (.getfield 69, 3) := by decide +kernel
theorem dX1_endedFrom_34 : decode cX1_endedFrom 34 = .ok (.ifCond .ne 25, 3) := by decide +kernel
theorem dX1_endedFrom_37 : decode cX1_endedFrom 37 = .ok (.aload 4, 2) := by decide +kernel
theorem dX1_endedFrom_39 : decode cX1_endedFrom 39 = .ok (.getfield 87, 3) := by decide +kernel
theorem dX1_endedFrom_42 : decode cX1_endedFrom 42 = .ok (.iload_n 1, 1) := by decide +kernel
theorem dX1_endedFrom_43 : decode cX1_endedFrom 43 = .ok (.if_icmp .gt 16, 3) := by decide +kernel
theorem dX1_endedFrom_46 : decode cX1_endedFrom 46 = .ok (.aload 4, 2) := by decide +kernel
theorem dX1_endedFrom_48 : decode cX1_endedFrom 48 = .ok (.getfield 87, 3) := by decide +kernel
theorem dX1_endedFrom_51 : decode cX1_endedFrom 51 = .ok (.iload_n 2, 1) := by decide +kernel
theorem dX1_endedFrom_52 : decode cX1_endedFrom 52 = .ok (.if_icmp .ge 7, 3) := by decide +kernel
theorem dX1_endedFrom_55 : decode cX1_endedFrom 55 = .ok (.iconst 1, 1) := by decide +kernel
theorem dX1_endedFrom_56 : decode cX1_endedFrom 56 = .ok (.goto 4, 3) := by decide +kernel
theorem dX1_endedFrom_59 : decode cX1_endedFrom 59 = .ok (.iconst 0, 1) := by decide +kernel
theorem dX1_endedFrom_60 : decode cX1_endedFrom 60 = .ok (.istore 5, 2) := by decide +kernel
theorem dX1_endedFrom_62 : decode cX1_endedFrom 62 = .ok (.iload 5, 2) := by decide +kernel
theorem dX1_endedFrom_64 : decode cX1_endedFrom 64 = .ok (.ifCond .eq 23, 3) := by decide +kernel
theorem dX1_endedFrom_67 : decode cX1_endedFrom 67 = .ok (.aload_n 0, 1) := by decide +kernel
theorem dX1_endedFrom_68 : decode cX1_endedFrom 68 = .ok (.aload 4, 2) := by decide +kernel
theorem dX1_endedFrom_70 : decode cX1_endedFrom 70 = .ok (.getfield 87, 3) := by decide +kernel
theorem dX1_endedFrom_73 : decode cX1_endedFrom 73 = .ok (.iload_n 1, 1) := by decide +kernel
theorem dX1_endedFrom_74 : decode cX1_endedFrom 74 = .ok (.invokevirtual 90, 3) := by decide +kernel
theorem dX1_endedFrom_77 : decode cX1_endedFrom 77 = .ok (.iconst 3, 1) := by decide +kernel
theorem dX1_endedFrom_78 : decode cX1_endedFrom 78 = .ok (.if_icmp .lt 9, 3) := by decide +kernel
theorem dX1_endedFrom_81 : decode cX1_endedFrom 81 = .ok (.aload 4, 2) := by decide +kernel
theorem dX1_endedFrom_83 : decode cX1_endedFrom 83 = .ok (.getfield 87, 3) := by decide +kernel
theorem dX1_endedFrom_86 : decode cX1_endedFrom 86 = .ok (.istore_n 2, 1) := by decide +kernel
theorem dX1_endedFrom_87 : decode cX1_endedFrom 87 = .ok (.iinc 3 1, 3) := by decide +kernel
theorem dX1_endedFrom_90 : decode cX1_endedFrom 90 = .ok (.goto (-85), 3) := by decide +kernel
theorem dX1_endedFrom_93 : decode cX1_endedFrom 93 = .ok (.iload_n 2, 1) := by decide +kernel
theorem dX1_endedFrom_94 : decode cX1_endedFrom 94 = .ok (.ireturn, 1) := by decide +kernel
set_option maxRecDepth 20000 in
theorem ggX1_offencesCounted_Jx4a65c_size_8abf5 : GoodIn wsX1_offencesCounted wsJx4a65c_size_8abf5 := goodIn_r _ [10, 11, 40, 41, 42] (by decide +kernel) (by decide +kernel)
set_option maxRecDepth 20000 in
theorem gX1_offencesCounted_Jx4a65c_size_8abf5 : GoodIn wsX1_offencesCounted (wsV RX1 61 RJx4a65c yJx4a65c_size_8abf5 wsJx4a65c_size_8abf5) := goodIn_app (goodIn_of _ (by decide +kernel)) ggX1_offencesCounted_Jx4a65c_size_8abf5
set_option maxRecDepth 20000 in
theorem ggX1_offencesCounted_Jx4a65c_get_915e3 : GoodIn wsX1_offencesCounted wsJx4a65c_get_915e3 := goodIn_r _ [15, 11, 16, 17, 18, 19, 20, 21, 22, 23, 24, 25, 26, 9, 27, 28, 40, 41, 42] (by decide +kernel) (by decide +kernel)
set_option maxRecDepth 20000 in
theorem gX1_offencesCounted_Jx4a65c_get_915e3 : GoodIn wsX1_offencesCounted (wsV RX1 65 RJx4a65c yJx4a65c_get_915e3 wsJx4a65c_get_915e3) := goodIn_app (goodIn_of _ (by decide +kernel)) ggX1_offencesCounted_Jx4a65c_get_915e3
theorem dX1_offencesCounted_0 : decode cX1_offencesCounted 0 = .ok (.iconst 0, 1) := by decide +kernel
theorem dX1_offencesCounted_1 : decode cX1_offencesCounted 1 = .ok (.istore_n 3, 1) := by decide +kernel
theorem dX1_offencesCounted_2 : decode cX1_offencesCounted 2 = .ok (.iconst 0, 1) := by decide +kernel
theorem dX1_offencesCounted_3 : decode cX1_offencesCounted 3 = .ok (.istore 4, 2) := by decide +kernel
theorem dX1_offencesCounted_5 : decode cX1_offencesCounted 5 = .ok (.iload 4, 2) := by decide +kernel
theorem dX1_offencesCounted_7 : decode cX1_offencesCounted 7 = .ok (.aload_n 0, 1) := by decide +kernel
theorem dX1_offencesCounted_8 : decode cX1_offencesCounted 8 = .ok (.getfield 27, 3) := by decide +kernel
theorem dX1_offencesCounted_11 : decode cX1_offencesCounted 11 = .ok (.invokevirtual 61, 3) := by decide +kernel
theorem dX1_offencesCounted_14 : decode cX1_offencesCounted 14 = .ok (.if_icmp .ge 77, 3) := by decide +kernel
theorem dX1_offencesCounted_17 : decode cX1_offencesCounted 17 = .ok (.aload_n 0, 1) := by decide +kernel
theorem dX1_offencesCounted_18 : decode cX1_offencesCounted 18 = .ok (.getfield 27, 3) := by decide +kernel
theorem dX1_offencesCounted_21 : decode cX1_offencesCounted 21 = .ok (.iload 4, 2) := by decide +kernel
theorem dX1_offencesCounted_23 : decode cX1_offencesCounted 23 = .ok (.invokevirtual 65, 3) := by decide +kernel
theorem dX1_offencesCounted_26 : decode cX1_offencesCounted 26 = .ok (.checkcast 47, 3) := by decide +kernel
theorem dX1_offencesCounted_29 : decode cX1_offencesCounted 29 = .ok (.astore 5, 2) := by decide +kernel
theorem dX1_offencesCounted_31 : decode cX1_offencesCounted 31 = .ok (.aload 5, 2) := by decide +kernel
theorem dX1_offencesCounted_33 : decode cX1_offencesCounted 33 = .ok (.getfield 87, 3) := by decide +kernel
theorem dX1_offencesCounted_36 : decode cX1_offencesCounted 36 = .ok (.iload_n 1, 1) := by decide +kernel
theorem dX1_offencesCounted_37 : decode cX1_offencesCounted 37 = .ok (.sipush 1825, 3) := by decide +kernel
theorem dX1_offencesCounted_40 : decode cX1_offencesCounted 40 = .ok (.isub, 1) := by decide +kernel
theorem dX1_offencesCounted_41 : decode cX1_offencesCounted 41 = .ok (.if_icmp .lt 16, 3) := by decide +kernel
theorem dX1_offencesCounted_44 : decode cX1_offencesCounted 44 = .ok (.aload 5, 2) := by decide +kernel
theorem dX1_offencesCounted_46 : decode cX1_offencesCounted 46 = .ok (.getfield 87, 3) := by decide +kernel
theorem dX1_offencesCounted_49 : decode cX1_offencesCounted 49 = .ok (.iload_n 1, 1) := by decide +kernel
theorem dX1_offencesCounted_50 : decode cX1_offencesCounted 50 = .ok (.if_icmp .gt 7, 3) := by decide +kernel
theorem dX1_offencesCounted_53 : decode cX1_offencesCounted 53 = .ok (.iconst 1, 1) := by decide +kernel
theorem dX1_offencesCounted_54 : decode cX1_offencesCounted 54 = .ok (.goto 4, 3) := by decide +kernel
theorem dX1_offencesCounted_57 : decode cX1_offencesCounted 57 = .ok (.iconst 0, 1) := by decide +kernel
theorem dX1_offencesCounted_58 : decode cX1_offencesCounted 58 = .ok (.istore 6, 2) := by decide +kernel
theorem dX1_offencesCounted_60 : decode cX1_offencesCounted 60 = .ok (.iload 6, 2) := by decide +kernel
theorem dX1_offencesCounted_62 : decode cX1_offencesCounted 62 = .ok (.ifCond .eq 23, 3) := by decide +kernel
theorem dX1_offencesCounted_65 : decode cX1_offencesCounted 65 = .ok (.aload 5, 2) := by decide +kernel
theorem dX1_offencesCounted_67 : decode cX1_offencesCounted 67 = .ok (.getfield 69, 3) := by decide +kernel
theorem dX1_offencesCounted_70 : decode cX1_offencesCounted 70 = .ok (.ifCond .ne 15, 3) := by decide +kernel
theorem dX1_offencesCounted_73 : decode cX1_offencesCounted 73 = .ok (.aload 5, 2) := by decide +kernel
theorem dX1_offencesCounted_75 : decode cX1_offencesCounted 75 = .ok (.getfield 52, 3) := by decide +kernel
theorem dX1_offencesCounted_78 : decode cX1_offencesCounted 78 = .ok (.iload_n 2, 1) := by decide +kernel
theorem dX1_offencesCounted_79 : decode cX1_offencesCounted 79 = .ok (.if_icmp .le 6, 3) := by decide +kernel
theorem dX1_offencesCounted_82 : decode cX1_offencesCounted 82 = .ok (.iinc 3 1, 3) := by decide +kernel
theorem dX1_offencesCounted_85 : decode cX1_offencesCounted 85 = .ok (.iinc 4 1, 3) := by decide +kernel
theorem dX1_offencesCounted_88 : decode cX1_offencesCounted 88 = .ok (.goto (-83), 3) := by decide +kernel
theorem dX1_offencesCounted_91 : decode cX1_offencesCounted 91 = .ok (.iload_n 3, 1) := by decide +kernel
theorem dX1_offencesCounted_92 : decode cX1_offencesCounted 92 = .ok (.ireturn, 1) := by decide +kernel
set_option maxRecDepth 20000 in
theorem ggX1_lapsedFrom_Jx4a65c_size_8abf5 : GoodIn wsX1_lapsedFrom wsJx4a65c_size_8abf5 := goodIn_r _ [10, 11, 48, 49, 50] (by decide +kernel) (by decide +kernel)
set_option maxRecDepth 20000 in
theorem gX1_lapsedFrom_Jx4a65c_size_8abf5 : GoodIn wsX1_lapsedFrom (wsV RX1 61 RJx4a65c yJx4a65c_size_8abf5 wsJx4a65c_size_8abf5) := goodIn_app (goodIn_of _ (by decide +kernel)) ggX1_lapsedFrom_Jx4a65c_size_8abf5
set_option maxRecDepth 20000 in
theorem ggX1_lapsedFrom_Jx4a65c_get_915e3 : GoodIn wsX1_lapsedFrom wsJx4a65c_get_915e3 := goodIn_r _ [15, 11, 16, 17, 18, 19, 20, 21, 22, 23, 24, 25, 26, 9, 27, 28, 48, 49, 50] (by decide +kernel) (by decide +kernel)
set_option maxRecDepth 20000 in
theorem gX1_lapsedFrom_Jx4a65c_get_915e3 : GoodIn wsX1_lapsedFrom (wsV RX1 65 RJx4a65c yJx4a65c_get_915e3 wsJx4a65c_get_915e3) := goodIn_app (goodIn_of _ (by decide +kernel)) ggX1_lapsedFrom_Jx4a65c_get_915e3
set_option maxRecDepth 20000 in
theorem ggX1_lapsedFrom_X1_isTransferred : GoodIn wsX1_lapsedFrom wsX1_isTransferred := goodIn_r _ [33, 2, 3, 5, 4, 6, 7, 8, 9, 10, 11, 12, 13, 14, 15, 16, 17, 18, 19, 20, 21, 22, 23, 24, 25, 26, 27, 28, 34, 35, 36, 37, 38, 39, 40, 41, 42, 43, 44, 45, 46, 47, 48, 49, 50] (by decide +kernel) (by decide +kernel)
set_option maxRecDepth 20000 in
theorem gX1_lapsedFrom_X1_isTransferred : GoodIn wsX1_lapsedFrom (wsV RX1 93 RX1 yX1_isTransferred wsX1_isTransferred) := goodIn_app (goodIn_of _ (by decide +kernel)) ggX1_lapsedFrom_X1_isTransferred
theorem dX1_lapsedFrom_0 : decode cX1_lapsedFrom 0 = .ok (.ldc 86, 2) := by decide +kernel
theorem dX1_lapsedFrom_2 : decode cX1_lapsedFrom 2 = .ok (.istore_n 2, 1) := by decide +kernel
theorem dX1_lapsedFrom_3 : decode cX1_lapsedFrom 3 = .ok (.iconst 0, 1) := by decide +kernel
theorem dX1_lapsedFrom_4 : decode cX1_lapsedFrom 4 = .ok (.istore_n 3, 1) := by decide +kernel
theorem dX1_lapsedFrom_5 : decode cX1_lapsedFrom 5 = .ok (.iload_n 3, 1) := by decide +kernel
theorem dX1_lapsedFrom_6 : decode cX1_lapsedFrom 6 = .ok (.aload_n 0, 1) := by decide +kernel
theorem dX1_lapsedFrom_7 : decode cX1_lapsedFrom 7 = .ok (.getfield 27, 3) := by decide +kernel
theorem dX1_lapsedFrom_10 : decode cX1_lapsedFrom 10 = .ok (.invokevirtual 61, 3) := by decide +kernel
theorem dX1_lapsedFrom_13 : decode cX1_lapsedFrom 13 = .ok (.if_icmp .ge 84, 3) := by decide +kernel
theorem dX1_lapsedFrom_16 : decode cX1_lapsedFrom 16 = .ok (.aload_n 0, 1) := by decide +kernel
theorem dX1_lapsedFrom_17 : decode cX1_lapsedFrom 17 = .ok (.getfield 27, 3) := by decide +kernel
theorem dX1_lapsedFrom_20 : decode cX1_lapsedFrom 20 = .ok (.iload_n 3, 1) := by decide +kernel
theorem dX1_lapsedFrom_21 : decode cX1_lapsedFrom 21 = .ok (.invokevirtual 65, 3) := by decide +kernel
theorem dX1_lapsedFrom_24 : decode cX1_lapsedFrom 24 = .ok (.checkcast 47, 3) := by decide +kernel
theorem dX1_lapsedFrom_27 : decode cX1_lapsedFrom 27 = .ok (.astore 4, 2) := by decide +kernel
theorem dX1_lapsedFrom_29 : decode cX1_lapsedFrom 29 = .ok (.aload 4, 2) := by decide +kernel
theorem dX1_lapsedFrom_31 : decode cX1_lapsedFrom 31 = .ok (.getfield 87, 3) := by decide +kernel
theorem dX1_lapsedFrom_34 : decode cX1_lapsedFrom 34 = .ok (.bipush 28, 2) := by decide +kernel
theorem dX1_lapsedFrom_36 : decode cX1_lapsedFrom 36 = .ok (.iadd, 1) := by decide +kernel
theorem dX1_lapsedFrom_37 : decode cX1_lapsedFrom 37 = .ok (.istore 5, 2) := by decide +kernel
theorem dX1_lapsedFrom_39 : decode cX1_lapsedFrom 39 = .ok (.aload 4, 2) := by decide +kernel
theorem dX1_lapsedFrom_41 : decode cX1_lapsedFrom 41 = .ok (.getfield 69, 3) := by decide +kernel
theorem dX1_lapsedFrom_44 : decode cX1_lapsedFrom 44 = .ok (.iconst 2, 1) := by decide +kernel
theorem dX1_lapsedFrom_45 : decode cX1_lapsedFrom 45 = .ok (.if_icmp .ne 13, 3) := by decide +kernel
theorem dX1_lapsedFrom_48 : decode cX1_lapsedFrom 48 = .ok (.iload 5, 2) := by decide +kernel
theorem dX1_lapsedFrom_50 : decode cX1_lapsedFrom 50 = .ok (.iload_n 1, 1) := by decide +kernel
theorem dX1_lapsedFrom_51 : decode cX1_lapsedFrom 51 = .ok (.if_icmp .gt 7, 3) := by decide +kernel
theorem dX1_lapsedFrom_54 : decode cX1_lapsedFrom 54 = .ok (.iconst 1, 1) := by decide +kernel
theorem dX1_lapsedFrom_55 : decode cX1_lapsedFrom 55 = .ok (.goto 4, 3) := by decide +kernel
theorem dX1_lapsedFrom_58 : decode cX1_lapsedFrom 58 = .ok (.iconst 0, 1) := by decide +kernel
theorem dX1_lapsedFrom_59 : decode cX1_lapsedFrom 59 = .ok (.istore 6, 2) := by decide +kernel
theorem dX1_lapsedFrom_61 : decode cX1_lapsedFrom 61 = .ok (.iload 6, 2) := by decide +kernel
theorem dX1_lapsedFrom_63 : decode cX1_lapsedFrom 63 = .ok (.ifCond .eq 28, 3) := by decide +kernel
theorem dX1_lapsedFrom_66 : decode cX1_lapsedFrom 66 = .ok (.iload 5, 2) := by decide +kernel
theorem dX1_lapsedFrom_68 : decode cX1_lapsedFrom 68 = .ok (.iload_n 2, 1) := by decide +kernel
theorem dX1_lapsedFrom_69 : decode cX1_lapsedFrom 69 = .ok (.if_icmp .ge 22, 3) := by decide +kernel
theorem dX1_lapsedFrom_72 : decode cX1_lapsedFrom 72 = .ok (.aload_n 0, 1) := by decide +kernel
theorem dX1_lapsedFrom_73 : decode cX1_lapsedFrom 73 = .ok (.aload 4, 2) := by decide +kernel
theorem dX1_lapsedFrom_75 : decode cX1_lapsedFrom 75 = .ok (.getfield 87, 3) := by decide +kernel
theorem dX1_lapsedFrom_78 : decode cX1_lapsedFrom 78 = .ok (.iload 5, 2) := by decide +kernel
theorem dX1_lapsedFrom_80 : decode cX1_lapsedFrom 80 = .ok (.iconst 1, 1) := by decide +kernel
theorem dX1_lapsedFrom_81 : decode cX1_lapsedFrom 81 = .ok (.isub, 1) := by decide +kernel
theorem dX1_lapsedFrom_82 : decode cX1_lapsedFrom 82 = .ok (.invokevirtual 93, 3) := by decide +kernel
theorem dX1_lapsedFrom_85 : decode cX1_lapsedFrom 85 = .ok (.ifCond .ne 6, 3) := by decide +kernel
theorem dX1_lapsedFrom_88 : decode cX1_lapsedFrom 88 = .ok (.iload 5, 2) := by decide +kernel
theorem dX1_lapsedFrom_90 : decode cX1_lapsedFrom 90 = .ok (.istore_n 2, 1) := by decide +kernel
theorem dX1_lapsedFrom_91 : decode cX1_lapsedFrom 91 = .ok (.iinc 3 1, 3) := by decide +kernel
theorem dX1_lapsedFrom_94 : decode cX1_lapsedFrom 94 = .ok (.goto (-89), 3) := by decide +kernel
theorem dX1_lapsedFrom_97 : decode cX1_lapsedFrom 97 = .ok (.iload_n 2, 1) := by decide +kernel
theorem dX1_lapsedFrom_98 : decode cX1_lapsedFrom 98 = .ok (.ireturn, 1) := by decide +kernel
set_option maxRecDepth 20000 in
theorem ggX1_isTransferred_Jx4a65c_size_8abf5 : GoodIn wsX1_isTransferred wsJx4a65c_size_8abf5 := goodIn_r _ [9, 10, 42, 43, 44] (by decide +kernel) (by decide +kernel)
set_option maxRecDepth 20000 in
theorem gX1_isTransferred_Jx4a65c_size_8abf5 : GoodIn wsX1_isTransferred (wsV RX1 61 RJx4a65c yJx4a65c_size_8abf5 wsJx4a65c_size_8abf5) := goodIn_app (goodIn_of _ (by decide +kernel)) ggX1_isTransferred_Jx4a65c_size_8abf5
set_option maxRecDepth 20000 in
theorem ggX1_isTransferred_Jx4a65c_get_915e3 : GoodIn wsX1_isTransferred wsJx4a65c_get_915e3 := goodIn_r _ [14, 10, 15, 16, 17, 18, 19, 20, 21, 22, 23, 24, 25, 8, 26, 27, 42, 43, 44] (by decide +kernel) (by decide +kernel)
set_option maxRecDepth 20000 in
theorem gX1_isTransferred_Jx4a65c_get_915e3 : GoodIn wsX1_isTransferred (wsV RX1 65 RJx4a65c yJx4a65c_get_915e3 wsJx4a65c_get_915e3) := goodIn_app (goodIn_of _ (by decide +kernel)) ggX1_isTransferred_Jx4a65c_get_915e3
set_option maxRecDepth 20000 in
theorem ggX1_isTransferred_X5_isIn : GoodIn wsX1_isTransferred wsX5_isIn := goodIn_r _ [30] (by decide +kernel) (by decide +kernel)
set_option maxRecDepth 20000 in
theorem gX1_isTransferred_X5_isIn_n97 : GoodIn wsX1_isTransferred (wsX5_isIn) := ggX1_isTransferred_X5_isIn
theorem dX1_isTransferred_0 : decode cX1_isTransferred 0 = .ok (.iconst 0, 1) := by decide +kernel
theorem dX1_isTransferred_1 : decode cX1_isTransferred 1 = .ok (.istore_n 3, 1) := by decide +kernel
theorem dX1_isTransferred_2 : decode cX1_isTransferred 2 = .ok (.iload_n 3, 1) := by decide +kernel
theorem dX1_isTransferred_3 : decode cX1_isTransferred 3 = .ok (.aload_n 0, 1) := by decide +kernel
theorem dX1_isTransferred_4 : decode cX1_isTransferred 4 = .ok (.getfield 27, 3) := by decide +kernel
theorem dX1_isTransferred_7 : decode cX1_isTransferred 7 = .ok (.invokevirtual 61, 3) := by decide +kernel
theorem dX1_isTransferred_10 : decode cX1_isTransferred 10 = .ok (.if_icmp .ge 46, 3) := by decide +kernel
theorem dX1_isTransferred_13 : decode cX1_isTransferred 13 = .ok (.aload_n 0, 1) := by decide +kernel
theorem dX1_isTransferred_14 : decode cX1_isTransferred 14 = .ok (.getfield 27, 3) := by decide +kernel
theorem dX1_isTransferred_17 : decode cX1_isTransferred 17 = .ok (.iload_n 3, 1) := by decide +kernel
theorem dX1_isTransferred_18 : decode cX1_isTransferred 18 = .ok (.invokevirtual 65, 3) := by decide +kernel
theorem dX1_isTransferred_21 : decode cX1_isTransferred 21 = .ok (.checkcast 47, 3) := by decide +kernel
theorem dX1_isTransferred_24 : decode cX1_isTransferred 24 = .ok (.astore 4, 2) := by decide +kernel
theorem dX1_isTransferred_26 : decode cX1_isTransferred 26 = .ok (.aload 4, 2) := by decide +kernel
theorem dX1_isTransferred_28 : decode cX1_isTransferred 28 = .ok (.getfield 69, 3) := by decide +kernel
theorem dX1_isTransferred_31 : decode cX1_isTransferred 31 = .ok (.iconst 3, 1) := by decide +kernel
theorem dX1_isTransferred_32 : decode cX1_isTransferred 32 = .ok (.if_icmp .ne 18, 3) := by decide +kernel
theorem dX1_isTransferred_35 : decode cX1_isTransferred 35 = .ok (.aload 4, 2) := by decide +kernel
theorem dX1_isTransferred_37 : decode cX1_isTransferred 37 = .ok (.getfield 87, 3) := by decide +kernel
theorem dX1_isTransferred_40 : decode cX1_isTransferred 40 = .ok (.iload_n 1, 1) := by decide +kernel
theorem dX1_isTransferred_41 : decode cX1_isTransferred 41 = .ok (.iload_n 2, 1) := by decide +kernel
theorem dX1_isTransferred_42 : decode cX1_isTransferred 42 = .ok (.invokestatic 97, 3) := by decide +kernel
theorem dX1_isTransferred_45 : decode cX1_isTransferred 45 = .ok (.ifCond .eq 5, 3) := by decide +kernel
theorem dX1_isTransferred_48 : decode cX1_isTransferred 48 = .ok (.iconst 1, 1) := by decide +kernel
theorem dX1_isTransferred_49 : decode cX1_isTransferred 49 = .ok (.ireturn, 1) := by decide +kernel
theorem dX1_isTransferred_50 : decode cX1_isTransferred 50 = .ok (.iinc 3 1, 3) := by decide +kernel
theorem dX1_isTransferred_53 : decode cX1_isTransferred 53 = .ok (.goto (-51), 3) := by decide +kernel
theorem dX1_isTransferred_56 : decode cX1_isTransferred 56 = .ok (.iconst 0, 1) := by decide +kernel
theorem dX1_isTransferred_57 : decode cX1_isTransferred 57 = .ok (.ireturn, 1) := by decide +kernel
set_option maxRecDepth 20000 in
theorem ggX1_surplusFrom_Jx4a65c_size_8abf5 : GoodIn wsX1_surplusFrom wsJx4a65c_size_8abf5 := goodIn_r _ [14, 15, 44, 45, 46] (by decide +kernel) (by decide +kernel)
set_option maxRecDepth 20000 in
theorem gX1_surplusFrom_Jx4a65c_size_8abf5 : GoodIn wsX1_surplusFrom (wsV RX1 61 RJx4a65c yJx4a65c_size_8abf5 wsJx4a65c_size_8abf5) := goodIn_app (goodIn_of _ (by decide +kernel)) ggX1_surplusFrom_Jx4a65c_size_8abf5
set_option maxRecDepth 20000 in
theorem ggX1_surplusFrom_Jx4a65c_get_915e3 : GoodIn wsX1_surplusFrom wsJx4a65c_get_915e3 := goodIn_r _ [19, 15, 20, 21, 22, 23, 24, 25, 26, 27, 28, 29, 30, 13, 31, 32, 44, 45, 46] (by decide +kernel) (by decide +kernel)
set_option maxRecDepth 20000 in
theorem gX1_surplusFrom_Jx4a65c_get_915e3 : GoodIn wsX1_surplusFrom (wsV RX1 65 RJx4a65c yJx4a65c_get_915e3 wsJx4a65c_get_915e3) := goodIn_app (goodIn_of _ (by decide +kernel)) ggX1_surplusFrom_Jx4a65c_get_915e3
theorem dX1_surplusFrom_0 : decode cX1_surplusFrom 0 = .ok (.ldc 86, 2) := by decide +kernel
theorem dX1_surplusFrom_2 : decode cX1_surplusFrom 2 = .ok (.istore_n 2, 1) := by decide +kernel
theorem dX1_surplusFrom_3 : decode cX1_surplusFrom 3 = .ok (.iconst 0, 1) := by decide +kernel
theorem dX1_surplusFrom_4 : decode cX1_surplusFrom 4 = .ok (.istore_n 3, 1) := by decide +kernel
theorem dX1_surplusFrom_5 : decode cX1_surplusFrom 5 = .ok (.iload_n 3, 1) := by decide +kernel
theorem dX1_surplusFrom_6 : decode cX1_surplusFrom 6 = .ok (.aload_n 0, 1) := by decide +kernel
theorem dX1_surplusFrom_7 : decode cX1_surplusFrom 7 = .ok (.getfield 27, 3) := by decide +kernel
theorem dX1_surplusFrom_10 : decode cX1_surplusFrom 10 = .ok (.invokevirtual 61, 3) := by decide +kernel
theorem dX1_surplusFrom_13 : decode cX1_surplusFrom 13 = .ok (.if_icmp .ge 51, 3) := by decide +kernel
theorem dX1_surplusFrom_16 : decode cX1_surplusFrom 16 = .ok (.aload_n 0, 1) := by decide +kernel
theorem dX1_surplusFrom_17 : decode cX1_surplusFrom 17 = .ok (.getfield 27, 3) := by decide +kernel
theorem dX1_surplusFrom_20 : decode cX1_surplusFrom 20 = .ok (.iload_n 3, 1) := by decide +kernel
theorem dX1_surplusFrom_21 : decode cX1_surplusFrom 21 = .ok (.invokevirtual 65, 3) := by decide +kernel
theorem dX1_surplusFrom_24 : decode cX1_surplusFrom 24 = .ok (.checkcast 47, 3) := by decide +kernel
theorem dX1_surplusFrom_27 : decode cX1_surplusFrom 27 = .ok (.astore 4, 2) := by decide +kernel
theorem dX1_surplusFrom_29 : decode cX1_surplusFrom 29 = .ok (.aload 4, 2) := by decide +kernel
theorem dX1_surplusFrom_31 : decode cX1_surplusFrom 31 = .ok (.getfield 69, 3) := by decide +kernel
theorem dX1_surplusFrom_34 : decode cX1_surplusFrom 34 = .ok (.bipush 6, 2) := by decide +kernel
theorem dX1_surplusFrom_36 : decode cX1_surplusFrom 36 = .ok (.if_icmp .ne 22, 3) := by decide +kernel
theorem dX1_surplusFrom_39 : decode cX1_surplusFrom 39 = .ok (.aload 4, 2) := by decide +kernel
theorem dX1_surplusFrom_41 : decode cX1_surplusFrom 41 = .ok (.getfield 87, 3) := by decide +kernel
theorem dX1_surplusFrom_44 : decode cX1_surplusFrom 44 = .ok (.iload_n 1, 1) := by decide +kernel
theorem dX1_surplusFrom_45 : decode cX1_surplusFrom 45 = .ok (.if_icmp .gt 13, 3) := by decide +kernel
theorem dX1_surplusFrom_48 : decode cX1_surplusFrom 48 = .ok (.iload_n 2, 1) := by decide +kernel
theorem dX1_surplusFrom_49 : decode cX1_surplusFrom 49 = .ok (.aload 4, 2) := by decide +kernel
theorem dX1_surplusFrom_51 : decode cX1_surplusFrom 51 = .ok (.getfield 87, 3) := by decide +kernel
theorem dX1_surplusFrom_54 : decode cX1_surplusFrom 54 = .ok (.invokestatic 55, 3) := by decide +kernel
theorem dX1_surplusFrom_57 : decode cX1_surplusFrom 57 = .ok (.istore_n 2, 1) := by decide +kernel
theorem dX1_surplusFrom_58 : decode cX1_surplusFrom 58 = .ok (.iinc 3 1, 3) := by decide +kernel
theorem dX1_surplusFrom_61 : decode cX1_surplusFrom 61 = .ok (.goto (-56), 3) := by decide +kernel
theorem dX1_surplusFrom_64 : decode cX1_surplusFrom 64 = .ok (.iload_n 2, 1) := by decide +kernel
theorem dX1_surplusFrom_65 : decode cX1_surplusFrom 65 = .ok (.ireturn, 1) := by decide +kernel
set_option maxRecDepth 20000 in
theorem ggX1_conditionOn_Jx4a65c_size_8abf5 : GoodIn wsX1_conditionOn wsJx4a65c_size_8abf5 := goodIn_r _ [10, 11, 43, 44, 45] (by decide +kernel) (by decide +kernel)
set_option maxRecDepth 20000 in
theorem gX1_conditionOn_Jx4a65c_size_8abf5 : GoodIn wsX1_conditionOn (wsV RX1 61 RJx4a65c yJx4a65c_size_8abf5 wsJx4a65c_size_8abf5) := goodIn_app (goodIn_of _ (by decide +kernel)) ggX1_conditionOn_Jx4a65c_size_8abf5
set_option maxRecDepth 20000 in
theorem ggX1_conditionOn_Jx4a65c_get_915e3 : GoodIn wsX1_conditionOn wsJx4a65c_get_915e3 := goodIn_r _ [15, 11, 16, 17, 18, 19, 20, 21, 22, 23, 24, 25, 26, 9, 27, 28, 43, 44, 45] (by decide +kernel) (by decide +kernel)
set_option maxRecDepth 20000 in
theorem gX1_conditionOn_Jx4a65c_get_915e3 : GoodIn wsX1_conditionOn (wsV RX1 65 RJx4a65c yJx4a65c_get_915e3 wsJx4a65c_get_915e3) := goodIn_app (goodIn_of _ (by decide +kernel)) ggX1_conditionOn_Jx4a65c_get_915e3
set_option maxRecDepth 20000 in
theorem ggX1_conditionOn_X5_isIn : GoodIn wsX1_conditionOn wsX5_isIn := goodIn_r _ [31] (by decide +kernel) (by decide +kernel)
set_option maxRecDepth 20000 in
theorem gX1_conditionOn_X5_isIn_n97 : GoodIn wsX1_conditionOn (wsX5_isIn) := ggX1_conditionOn_X5_isIn
theorem dX1_conditionOn_0 : decode cX1_conditionOn 0 = .ok (.iconst 0, 1) := by decide +kernel
theorem dX1_conditionOn_1 : decode cX1_conditionOn 1 = .ok (.istore_n 2, 1) := by decide +kernel
theorem dX1_conditionOn_2 : decode cX1_conditionOn 2 = .ok (.bipush (-4), 2) := by decide +kernel
theorem dX1_conditionOn_4 : decode cX1_conditionOn 4 = .ok (.istore_n 3, 1) := by decide +kernel
theorem dX1_conditionOn_5 : decode cX1_conditionOn 5 = .ok (.iconst 0, 1) := by decide +kernel
theorem dX1_conditionOn_6 : decode cX1_conditionOn 6 = .ok (.istore 4, 2) := by decide +kernel
theorem dX1_conditionOn_8 : decode cX1_conditionOn 8 = .ok (.iload 4, 2) := by decide +kernel
theorem dX1_conditionOn_10 : decode cX1_conditionOn 10 = .ok (.aload_n 0, 1) := by decide +kernel
theorem dX1_conditionOn_11 : decode cX1_conditionOn 11 = .ok (.getfield 27, 3) := by decide +kernel
theorem dX1_conditionOn_14 : decode cX1_conditionOn 14 = .ok (.invokevirtual 61, 3) := by decide +kernel
theorem dX1_conditionOn_17 : decode cX1_conditionOn 17 = .ok (.if_icmp .ge 92, 3) := by decide +kernel
theorem dX1_conditionOn_20 : decode cX1_conditionOn 20 = .ok (.aload_n 0, 1) := by decide +kernel
theorem dX1_conditionOn_21 : decode cX1_conditionOn 21 = .ok (.getfield 27, 3) := by decide +kernel
theorem dX1_conditionOn_24 : decode cX1_conditionOn 24 = .ok (.iload 4, 2) := by decide +kernel
theorem dX1_conditionOn_26 : decode cX1_conditionOn 26 = .ok (.invokevirtual 65, 3) := by decide +kernel
theorem dX1_conditionOn_29 : decode cX1_conditionOn 29 = .ok (.checkcast 47, 3) := by decide +kernel
theorem dX1_conditionOn_32 : decode cX1_conditionOn 32 = .ok (.astore 5, 2) := by decide +kernel
theorem dX1_conditionOn_34 : decode cX1_conditionOn 34 = .ok (.aload 5, 2) := by decide +kernel
theorem dX1_conditionOn_36 : decode cX1_conditionOn 36 = .ok (.getfield 69, 3) := by decide +kernel
theorem dX1_conditionOn_39 : decode cX1_conditionOn 39 = .ok (.iconst 4, 1) := by decide +kernel
theorem dX1_conditionOn_40 : decode cX1_conditionOn 40 = .ok (.if_icmp .eq 12, 3) := by decide +kernel
theorem dX1_conditionOn_43 : decode cX1_conditionOn 43 = .ok (.aload 5, 2) := by decide +kernel
theorem dX1_conditionOn_45 : decode cX1_conditionOn 45 = .ok (.getfield 69, 3) := by decide +kernel
theorem dX1_conditionOn_48 : decode cX1_conditionOn 48 = .ok (.iconst 5, 1) := by decide +kernel
theorem dX1_conditionOn_49 : decode cX1_conditionOn 49 = .ok (.if_icmp .ne 7, 3) := by decide +kernel
theorem dX1_conditionOn_52 : decode cX1_conditionOn 52 = .ok (.iconst 1, 1) := by decide +kernel
theorem dX1_conditionOn_53 : decode cX1_conditionOn 53 = .ok (.goto 4, 3) := by decide +kernel
theorem dX1_conditionOn_56 : decode cX1_conditionOn 56 = .ok (.iconst 0, 1) := by decide +kernel
theorem dX1_conditionOn_57 : decode cX1_conditionOn 57 = .ok (.istore 6, 2) := by decide +kernel
theorem dX1_conditionOn_59 : decode cX1_conditionOn 59 = .ok (.iload 6, 2) := by decide +kernel
theorem dX1_conditionOn_61 : decode cX1_conditionOn 61 = .ok (.ifCond .eq 42, 3) := by decide +kernel
theorem dX1_conditionOn_64 : decode cX1_conditionOn 64 = .ok (.aload 5, 2) := by decide +kernel
theorem dX1_conditionOn_66 : decode cX1_conditionOn 66 = .ok (.getfield 87, 3) := by decide +kernel
theorem dX1_conditionOn_69 : decode cX1_conditionOn 69 = .ok (.iload_n 2, 1) := by decide +kernel
theorem dX1_conditionOn_70 : decode cX1_conditionOn 70 = .ok (.iload_n 1, 1) := by decide +kernel
theorem dX1_conditionOn_71 : decode cX1_conditionOn 71 = .ok (.invokestatic 97, 3) := by decide +kernel
theorem dX1_conditionOn_74 : decode cX1_conditionOn 74 = .ok (.ifCond .eq 29, 3) := by decide +kernel
theorem dX1_conditionOn_77 : decode cX1_conditionOn 77 = .ok (.aload 5, 2) := by decide +kernel
theorem dX1_conditionOn_79 : decode cX1_conditionOn 79 = .ok (.getfield 87, 3) := by decide +kernel
theorem dX1_conditionOn_82 : decode cX1_conditionOn 82 = .ok (.istore_n 2, 1) := by decide +kernel
theorem dX1_conditionOn_83 : decode cX1_conditionOn 83 = .ok (.aload 5, 2) := by decide +kernel
theorem dX1_conditionOn_85 : decode cX1_conditionOn 85 = .ok (.getfield 69, 3) := by decide +kernel
theorem dX1_conditionOn_88 : decode cX1_conditionOn 88 = .ok (.iconst 4, 1) := by decide +kernel
theorem dX1_conditionOn_89 : decode cX1_conditionOn 89 = .ok (.if_icmp .ne 11, 3) := by decide +kernel
theorem dX1_conditionOn_92 : decode cX1_conditionOn 92 = .ok (.aload 5, 2) := by decide +kernel
theorem dX1_conditionOn_94 : decode cX1_conditionOn 94 = .ok (.getfield 70, 3) := by decide +kernel
theorem dX1_conditionOn_97 : decode cX1_conditionOn 97 = .ok (.goto 5, 3) := by decide +kernel
theorem dX1_conditionOn_100 : decode cX1_conditionOn 100 = .ok (.bipush (-4), 2) := by decide +kernel
theorem dX1_conditionOn_102 : decode cX1_conditionOn 102 = .ok (.istore_n 3, 1) := by decide +kernel
theorem dX1_conditionOn_103 : decode cX1_conditionOn 103 = .ok (.iinc 4 1, 3) := by decide +kernel
theorem dX1_conditionOn_106 : decode cX1_conditionOn 106 = .ok (.goto (-98), 3) := by decide +kernel
theorem dX1_conditionOn_109 : decode cX1_conditionOn 109 = .ok (.iload_n 3, 1) := by decide +kernel
theorem dX1_conditionOn_110 : decode cX1_conditionOn 110 = .ok (.ireturn, 1) := by decide +kernel
set_option maxRecDepth 20000 in
theorem ggX1_worthOn_Jx4a65c_isEmpty_aae02 : GoodIn wsX1_worthOn wsJx4a65c_isEmpty_aae02 := goodIn_r _ [9, 10, 44, 45, 46] (by decide +kernel) (by decide +kernel)
set_option maxRecDepth 20000 in
theorem gX1_worthOn_Jx4a65c_isEmpty_aae02 : GoodIn wsX1_worthOn (wsV RX1 101 RJx4a65c yJx4a65c_isEmpty_aae02 wsJx4a65c_isEmpty_aae02) := goodIn_app (goodIn_of _ (by decide +kernel)) ggX1_worthOn_Jx4a65c_isEmpty_aae02
set_option maxRecDepth 20000 in
theorem ggX1_worthOn_Jx4a65c_get_915e3 : GoodIn wsX1_worthOn wsJx4a65c_get_915e3 := goodIn_r _ [14, 10, 15, 16, 17, 18, 19, 20, 21, 22, 23, 24, 25, 8, 26, 27, 44, 45, 46] (by decide +kernel) (by decide +kernel)
set_option maxRecDepth 20000 in
theorem gX1_worthOn_Jx4a65c_get_915e3 : GoodIn wsX1_worthOn (wsV RX1 65 RJx4a65c yJx4a65c_get_915e3 wsJx4a65c_get_915e3) := goodIn_app (goodIn_of _ (by decide +kernel)) ggX1_worthOn_Jx4a65c_get_915e3
set_option maxRecDepth 20000 in
theorem ggX1_worthOn_Jx4a65c_size_8abf5 : GoodIn wsX1_worthOn wsJx4a65c_size_8abf5 := goodIn_r _ [31, 10, 44, 45, 46] (by decide +kernel) (by decide +kernel)
set_option maxRecDepth 20000 in
theorem gX1_worthOn_Jx4a65c_size_8abf5 : GoodIn wsX1_worthOn (wsV RX1 61 RJx4a65c yJx4a65c_size_8abf5 wsJx4a65c_size_8abf5) := goodIn_app (goodIn_of _ (by decide +kernel)) ggX1_worthOn_Jx4a65c_size_8abf5
set_option maxRecDepth 20000 in
theorem ggX1_worthOn_X5_isIn : GoodIn wsX1_worthOn wsX5_isIn := goodIn_r _ [34] (by decide +kernel) (by decide +kernel)
set_option maxRecDepth 20000 in
theorem gX1_worthOn_X5_isIn_n97 : GoodIn wsX1_worthOn (wsX5_isIn) := ggX1_worthOn_X5_isIn
theorem dX1_worthOn_0 : decode cX1_worthOn 0 = .ok (.iconst 0, 1) := by decide +kernel
theorem dX1_worthOn_1 : decode cX1_worthOn 1 = .ok (.istore_n 2, 1) := by decide +kernel
theorem dX1_worthOn_2 : decode cX1_worthOn 2 = .ok (.aload_n 0, 1) := by decide +kernel
theorem dX1_worthOn_3 : decode cX1_worthOn 3 = .ok (.getfield 31, 3) := by decide +kernel
theorem dX1_worthOn_6 : decode cX1_worthOn 6 = .ok (.invokevirtual 101, 3) := by decide +kernel
theorem dX1_worthOn_9 : decode cX1_worthOn 9 = .ok (.ifCond .eq 7, 3) := by decide +kernel
theorem dX1_worthOn_12 : decode cX1_worthOn 12 = .ok (.iconst 0, 1) := by decide +kernel
theorem dX1_worthOn_13 : decode cX1_worthOn 13 = .ok (.goto 17, 3) := by decide +kernel
theorem dX1_worthOn_16 : decode cX1_worthOn 16 = .ok (.aload_n 0, 1) := by decide +kernel
theorem dX1_worthOn_17 : decode cX1_worthOn 17 = .ok (.getfield 31, 3) := by decide +kernel
theorem dX1_worthOn_20 : decode cX1_worthOn 20 = .ok (.iconst 0, 1) := by decide +kernel
theorem dX1_worthOn_21 : decode cX1_worthOn 21 = .ok (.invokevirtual 65, 3) := by decide +kernel
theorem dX1_worthOn_24 : decode cX1_worthOn 24 = .ok (.checkcast 34, 3) := by decide +kernel
theorem dX1_worthOn_27 : decode cX1_worthOn 27 = .ok (.getfield 105, 3) := by decide +kernel
theorem dX1_worthOn_30 : decode cX1_worthOn 30 = .ok (.istore_n 3, 1) := by decide +kernel
theorem dX1_worthOn_31 : decode cX1_worthOn 31 = .ok (.iconst 0, 1) := by decide +kernel
theorem dX1_worthOn_32 : decode cX1_worthOn 32 = .ok (.istore 4, 2) := by decide +kernel
theorem dX1_worthOn_34 : decode cX1_worthOn 34 = .ok (.iload 4, 2) := by decide +kernel
theorem dX1_worthOn_36 : decode cX1_worthOn 36 = .ok (.aload_n 0, 1) := by decide +kernel
theorem dX1_worthOn_37 : decode cX1_worthOn 37 = .ok (.getfield 31, 3) := by decide +kernel
theorem dX1_worthOn_40 : decode cX1_worthOn 40 = .ok (.invokevirtual 61, 3) := by decide +kernel
theorem dX1_worthOn_43 : decode cX1_worthOn 43 = .ok (.if_icmp .ge 48, 3) := by decide +kernel
theorem dX1_worthOn_46 : decode cX1_worthOn 46 = .ok (.aload_n 0, 1) := by decide +kernel
theorem dX1_worthOn_47 : decode cX1_worthOn 47 = .ok (.getfield 31, 3) := by decide +kernel
theorem dX1_worthOn_50 : decode cX1_worthOn 50 = .ok (.iload 4, 2) := by decide +kernel
theorem dX1_worthOn_52 : decode cX1_worthOn 52 = .ok (.invokevirtual 65, 3) := by decide +kernel
theorem dX1_worthOn_55 : decode cX1_worthOn 55 = .ok (.checkcast 34, 3) := by decide +kernel
theorem dX1_worthOn_58 : decode cX1_worthOn 58 = .ok (.astore 5, 2) := by decide +kernel
theorem dX1_worthOn_60 : decode cX1_worthOn 60 = .ok (.aload 5, 2) := by decide +kernel
theorem dX1_worthOn_62 : decode cX1_worthOn 62 = .ok (.getfield 108, 3) := by decide +kernel
theorem dX1_worthOn_65 : decode cX1_worthOn 65 = .ok (.iload_n 2, 1) := by decide +kernel
theorem dX1_worthOn_66 : decode cX1_worthOn 66 = .ok (.iload_n 1, 1) := by decide +kernel
theorem dX1_worthOn_67 : decode cX1_worthOn 67 = .ok (.invokestatic 97, 3) := by decide +kernel
theorem dX1_worthOn_70 : decode cX1_worthOn 70 = .ok (.ifCond .eq 15, 3) := by decide +kernel
theorem dX1_worthOn_73 : decode cX1_worthOn 73 = .ok (.aload 5, 2) := by decide +kernel
theorem dX1_worthOn_75 : decode cX1_worthOn 75 = .ok (.getfield 108, 3) := by decide +kernel
theorem dX1_worthOn_78 : decode cX1_worthOn 78 = .ok (.istore_n 2, 1) := by decide +kernel
theorem dX1_worthOn_79 : decode cX1_worthOn 79 = .ok (.aload 5, 2) := by decide +kernel
theorem dX1_worthOn_81 : decode cX1_worthOn 81 = .ok (.getfield 105, 3) := by decide +kernel
theorem dX1_worthOn_84 : decode cX1_worthOn 84 = .ok (.istore_n 3, 1) := by decide +kernel
theorem dX1_worthOn_85 : decode cX1_worthOn 85 = .ok (.iinc 4 1, 3) := by decide +kernel
theorem dX1_worthOn_88 : decode cX1_worthOn 88 = .ok (.goto (-54), 3) := by decide +kernel
theorem dX1_worthOn_91 : decode cX1_worthOn 91 = .ok (.iload_n 3, 1) := by decide +kernel
theorem dX1_worthOn_92 : decode cX1_worthOn 92 = .ok (.ireturn, 1) := by decide +kernel
theorem dX2_init_0 : decode cX2_init 0 = .ok (.aload_n 0, 1) := by decide +kernel
theorem dX2_init_1 : decode cX2_init 1 = .ok (.invokespecial 1, 3) := by decide +kernel
theorem dX2_init_4 : decode cX2_init 4 = .ok (.aload_n 0, 1) := by decide +kernel
theorem dX2_init_5 : decode cX2_init 5 = .ok (.iload_n 1, 1) := by decide +kernel
theorem dX2_init_6 : decode cX2_init 6 = .ok (.putfield 7, 3) := by decide +kernel
theorem dX2_init_9 : decode cX2_init 9 = .ok (.aload_n 0, 1) := by decide +kernel
theorem dX2_init_10 : decode cX2_init 10 = .ok (.iload_n 2, 1) := by decide +kernel
theorem dX2_init_11 : decode cX2_init 11 = .ok (.putfield 13, 3) := by decide +kernel
theorem dX2_init_14 : decode cX2_init 14 = .ok (.aload_n 0, 1) := by decide +kernel
theorem dX2_init_15 : decode cX2_init 15 = .ok (.iload_n 3, 1) := by decide +kernel
theorem dX2_init_16 : decode cX2_init 16 = .ok (.putfield 16, 3) := by decide +kernel
theorem dX2_init_19 : decode cX2_init 19 = .ok (.aload_n 0, 1) := by decide +kernel
theorem dX2_init_20 : decode cX2_init 20 = .ok (.iload 4, 2) := by decide +kernel
theorem dX2_init_22 : decode cX2_init 22 = .ok (.putfield 19, 3) := by decide +kernel
theorem dX2_init_25 : decode cX2_init 25 = .ok (.aload_n 0, 1) := by decide +kernel
theorem dX2_init_26 : decode cX2_init 26 = .ok (.iload 5, 2) := by decide +kernel
theorem dX2_init_28 : decode cX2_init 28 = .ok (.putfield 22, 3) := by decide +kernel
theorem dX2_init_31 : decode cX2_init 31 = .ok (.return_, 1) := by decide +kernel
theorem dX3_init_0 : decode cX3_init 0 = .ok (.aload_n 0, 1) := by decide +kernel
theorem dX3_init_1 : decode cX3_init 1 = .ok (.invokespecial 1, 3) := by decide +kernel
theorem dX3_init_4 : decode cX3_init 4 = .ok (.aload_n 0, 1) := by decide +kernel
theorem dX3_init_5 : decode cX3_init 5 = .ok (.iload_n 1, 1) := by decide +kernel
theorem dX3_init_6 : decode cX3_init 6 = .ok (.putfield 7, 3) := by decide +kernel
theorem dX3_init_9 : decode cX3_init 9 = .ok (.aload_n 0, 1) := by decide +kernel
theorem dX3_init_10 : decode cX3_init 10 = .ok (.iload_n 2, 1) := by decide +kernel
theorem dX3_init_11 : decode cX3_init 11 = .ok (.putfield 13, 3) := by decide +kernel
theorem dX3_init_14 : decode cX3_init 14 = .ok (.aload_n 0, 1) := by decide +kernel
theorem dX3_init_15 : decode cX3_init 15 = .ok (.iload_n 3, 1) := by decide +kernel
theorem dX3_init_16 : decode cX3_init 16 = .ok (.putfield 16, 3) := by decide +kernel
theorem dX3_init_19 : decode cX3_init 19 = .ok (.return_, 1) := by decide +kernel
theorem dX4_init_0 : decode cX4_init 0 = .ok (.aload_n 0, 1) := by decide +kernel
theorem dX4_init_1 : decode cX4_init 1 = .ok (.invokespecial 1, 3) := by decide +kernel
theorem dX4_init_4 : decode cX4_init 4 = .ok (.aload_n 0, 1) := by decide +kernel
theorem dX4_init_5 : decode cX4_init 5 = .ok (.iload_n 1, 1) := by decide +kernel
theorem dX4_init_6 : decode cX4_init 6 = .ok (.putfield 7, 3) := by decide +kernel
theorem dX4_init_9 : decode cX4_init 9 = .ok (.aload_n 0, 1) := by decide +kernel
theorem dX4_init_10 : decode cX4_init 10 = .ok (.iload_n 2, 1) := by decide +kernel
theorem dX4_init_11 : decode cX4_init 11 = .ok (.putfield 13, 3) := by decide +kernel
theorem dX4_init_14 : decode cX4_init 14 = .ok (.return_, 1) := by decide +kernel
set_option maxRecDepth 20000 in
theorem ggX5_init_Jx4a65c_init_da8c8 : GoodIn wsX5_init wsJx4a65c_init_da8c8 := goodIn_r _ [21, 22, 23, 24, 25, 26, 27, 28, 29, 30, 31, 32, 33, 2, 3, 43, 44, 45] (by decide +kernel) (by decide +kernel)
set_option maxRecDepth 20000 in
theorem gX5_init_Jx4a65c_init_da8c8 : GoodIn wsX5_init (wsJx4a65c_init_da8c8) := ggX5_init_Jx4a65c_init_da8c8
set_option maxRecDepth 20000 in
theorem ggX5_init_X2_init : GoodIn wsX5_init wsX2_init := goodIn_r _ [36, 37, 2, 3, 38, 39, 40, 41, 42, 57, 58, 59, 60, 61] (by decide +kernel) (by decide +kernel)
set_option maxRecDepth 20000 in
theorem gX5_init_X2_init : GoodIn wsX5_init (wsX2_init) := ggX5_init_X2_init
theorem dX5_init_0 : decode cX5_init 0 = .ok (.aload_n 0, 1) := by decide +kernel
theorem dX5_init_1 : decode cX5_init 1 = .ok (.invokespecial 1, 3) := by decide +kernel
theorem dX5_init_4 : decode cX5_init 4 = .ok (.aload_n 0, 1) := by decide +kernel
theorem dX5_init_5 : decode cX5_init 5 = .ok (.new 7, 3) := by decide +kernel
theorem dX5_init_8 : decode cX5_init 8 = .ok (.dup, 1) := by decide +kernel
theorem dX5_init_9 : decode cX5_init 9 = .ok (.invokespecial 9, 3) := by decide +kernel
theorem dX5_init_12 : decode cX5_init 12 = .ok (.putfield 10, 3) := by decide +kernel
theorem dX5_init_15 : decode cX5_init 15 = .ok (.aload_n 0, 1) := by decide +kernel
theorem dX5_init_16 : decode cX5_init 16 = .ok (.new 7, 3) := by decide +kernel
theorem dX5_init_19 : decode cX5_init 19 = .ok (.dup, 1) := by decide +kernel
theorem dX5_init_20 : decode cX5_init 20 = .ok (.invokespecial 9, 3) := by decide +kernel
theorem dX5_init_23 : decode cX5_init 23 = .ok (.putfield 16, 3) := by decide +kernel
theorem dX5_init_26 : decode cX5_init 26 = .ok (.aload_n 0, 1) := by decide +kernel
theorem dX5_init_27 : decode cX5_init 27 = .ok (.new 7, 3) := by decide +kernel
theorem dX5_init_30 : decode cX5_init 30 = .ok (.dup, 1) := by decide +kernel
theorem dX5_init_31 : decode cX5_init 31 = .ok (.invokespecial 9, 3) := by decide +kernel
theorem dX5_init_34 : decode cX5_init 34 = .ok (.putfield 19, 3) := by decide +kernel
theorem dX5_init_37 : decode cX5_init 37 = .ok (.aload_n 0, 1) := by decide +kernel
theorem dX5_init_38 : decode cX5_init 38 = .ok (.bipush 20, 2) := by decide +kernel
theorem dX5_init_40 : decode cX5_init 40 = .ok (.newarray .int, 2) := by decide +kernel
theorem dX5_init_42 : decode cX5_init 42 = .ok (.putfield 22, 3) := by decide +kernel
theorem dX5_init_45 : decode cX5_init 45 = .ok (.aload_n 0, 1) := by decide +kernel
theorem dX5_init_46 : decode cX5_init 46 = .ok (.new 26, 3) := by decide +kernel
theorem dX5_init_49 : decode cX5_init 49 = .ok (.dup, 1) := by decide +kernel
theorem dX5_init_50 : decode cX5_init 50 = .ok (.iconst 0, 1) := by decide +kernel
theorem dX5_init_51 : decode cX5_init 51 = .ok (.iconst 0, 1) := by decide +kernel
theorem dX5_init_52 : decode cX5_init 52 = .ok (.iconst 0, 1) := by decide +kernel
theorem dX5_init_53 : decode cX5_init 53 = .ok (.iconst 0, 1) := by decide +kernel
theorem dX5_init_54 : decode cX5_init 54 = .ok (.iconst 0, 1) := by decide +kernel
theorem dX5_init_55 : decode cX5_init 55 = .ok (.invokespecial 28, 3) := by decide +kernel
theorem dX5_init_58 : decode cX5_init 58 = .ok (.putfield 31, 3) := by decide +kernel
theorem dX5_init_61 : decode cX5_init 61 = .ok (.aload_n 0, 1) := by decide +kernel
theorem dX5_init_62 : decode cX5_init 62 = .ok (.bipush 20, 2) := by decide +kernel
theorem dX5_init_64 : decode cX5_init 64 = .ok (.putfield 35, 3) := by decide +kernel
theorem dX5_init_67 : decode cX5_init 67 = .ok (.aload_n 0, 1) := by decide +kernel
theorem dX5_init_68 : decode cX5_init 68 = .ok (.bipush 100, 2) := by decide +kernel
theorem dX5_init_70 : decode cX5_init 70 = .ok (.putfield 39, 3) := by decide +kernel
theorem dX5_init_73 : decode cX5_init 73 = .ok (.aload_n 0, 1) := by decide +kernel
theorem dX5_init_74 : decode cX5_init 74 = .ok (.lconst 1, 1) := by decide +kernel
theorem dX5_init_75 : decode cX5_init 75 = .ok (.putfield 42, 3) := by decide +kernel
theorem dX5_init_78 : decode cX5_init 78 = .ok (.return_, 1) := by decide +kernel
set_option maxRecDepth 20000 in
theorem ggX5_feast_X5_isDay : GoodIn wsX5_feast wsX5_isDay := goodIn_r _ [6, 7, 8, 5, 9] (by decide +kernel) (by decide +kernel)
set_option maxRecDepth 20000 in
theorem gX5_feast_X5_isDay : GoodIn wsX5_feast (va_wsS RX5 46 yX5_isDay wsX5_isDay) := goodIn_app (goodIn_of _ (by decide +kernel)) ggX5_feast_X5_isDay
set_option maxRecDepth 20000 in
theorem ggX5_feast_X5_isFeast : GoodIn wsX5_feast wsX5_isFeast := goodIn_r _ [13, 1, 2, 14, 15, 16, 17, 18, 19, 20, 21, 22, 23, 24] (by decide +kernel) (by decide +kernel)
set_option maxRecDepth 20000 in
theorem gX5_feast_X5_isFeast : GoodIn wsX5_feast (wsV RX5 50 RX5 yX5_isFeast wsX5_isFeast) := goodIn_app (goodIn_of _ (by decide +kernel)) ggX5_feast_X5_isFeast
theorem dX5_feast_0 : decode cX5_feast 0 = .ok (.iload_n 1, 1) := by decide +kernel
theorem dX5_feast_1 : decode cX5_feast 1 = .ok (.invokestatic 46, 3) := by decide +kernel
theorem dX5_feast_4 : decode cX5_feast 4 = .ok (.ifCond .ne 5, 3) := by decide +kernel
theorem dX5_feast_7 : decode cX5_feast 7 = .ok (.iconst (-1), 1) := by decide +kernel
theorem dX5_feast_8 : decode cX5_feast 8 = .ok (.ireturn, 1) := by decide +kernel
theorem dX5_feast_9 : decode cX5_feast 9 = .ok (.aload_n 0, 1) := by decide +kernel
theorem dX5_feast_10 : decode cX5_feast 10 = .ok (.iload_n 1, 1) := by decide +kernel
theorem dX5_feast_11 : decode cX5_feast 11 = .ok (.invokevirtual 50, 3) := by decide +kernel
theorem dX5_feast_14 : decode cX5_feast 14 = .ok (.ifCond .eq 6, 3) := by decide +kernel
theorem dX5_feast_17 : decode cX5_feast 17 = .ok (.bipush (-2), 2) := by decide +kernel
theorem dX5_feast_19 : decode cX5_feast 19 = .ok (.ireturn, 1) := by decide +kernel
theorem dX5_feast_20 : decode cX5_feast 20 = .ok (.aload_n 0, 1) := by decide +kernel
theorem dX5_feast_21 : decode cX5_feast 21 = .ok (.getfield 53, 3) := by decide +kernel
theorem dX5_feast_24 : decode cX5_feast 24 = .ok (.aload_n 0, 1) := by decide +kernel
theorem dX5_feast_25 : decode cX5_feast 25 = .ok (.getfield 22, 3) := by decide +kernel
theorem dX5_feast_28 : decode cX5_feast 28 = .ok (.arraylength, 1) := by decide +kernel
theorem dX5_feast_29 : decode cX5_feast 29 = .ok (.if_icmp .lt 6, 3) := by decide +kernel
theorem dX5_feast_32 : decode cX5_feast 32 = .ok (.bipush (-3), 2) := by decide +kernel
theorem dX5_feast_34 : decode cX5_feast 34 = .ok (.ireturn, 1) := by decide +kernel
theorem dX5_feast_35 : decode cX5_feast 35 = .ok (.aload_n 0, 1) := by decide +kernel
theorem dX5_feast_36 : decode cX5_feast 36 = .ok (.getfield 22, 3) := by decide +kernel
theorem dX5_feast_39 : decode cX5_feast 39 = .ok (.aload_n 0, 1) := by decide +kernel
theorem dX5_feast_40 : decode cX5_feast 40 = .ok (.getfield 53, 3) := by decide +kernel
theorem dX5_feast_43 : decode cX5_feast 43 = .ok (.iload_n 1, 1) := by decide +kernel
theorem dX5_feast_44 : decode cX5_feast 44 = .ok (.iastore, 1) := by decide +kernel
theorem dX5_feast_45 : decode cX5_feast 45 = .ok (.aload_n 0, 1) := by decide +kernel
theorem dX5_feast_46 : decode cX5_feast 46 = .ok (.dup, 1) := by decide +kernel
theorem dX5_feast_47 : decode cX5_feast 47 = .ok (.getfield 53, 3) := by decide +kernel
theorem dX5_feast_50 : decode cX5_feast 50 = .ok (.iconst 1, 1) := by decide +kernel
theorem dX5_feast_51 : decode cX5_feast 51 = .ok (.iadd, 1) := by decide +kernel
theorem dX5_feast_52 : decode cX5_feast 52 = .ok (.putfield 53, 3) := by decide +kernel
theorem dX5_feast_55 : decode cX5_feast 55 = .ok (.aload_n 0, 1) := by decide +kernel
theorem dX5_feast_56 : decode cX5_feast 56 = .ok (.getfield 53, 3) := by decide +kernel
theorem dX5_feast_59 : decode cX5_feast 59 = .ok (.ireturn, 1) := by decide +kernel
set_option maxRecDepth 20000 in
theorem ggX5_law_X5_isDay : GoodIn wsX5_law wsX5_isDay := goodIn_r _ [8, 9, 10, 7, 11] (by decide +kernel) (by decide +kernel)
set_option maxRecDepth 20000 in
theorem gX5_law_X5_isDay : GoodIn wsX5_law (va_wsS RX5 46 yX5_isDay wsX5_isDay) := goodIn_app (goodIn_of _ (by decide +kernel)) ggX5_law_X5_isDay
set_option maxRecDepth 20000 in
theorem ggX5_law_X5_isKind : GoodIn wsX5_law wsX5_isKind := goodIn_r _ [14, 9, 10, 7, 11] (by decide +kernel) (by decide +kernel)
set_option maxRecDepth 20000 in
theorem gX5_law_X5_isKind : GoodIn wsX5_law (va_wsS RX5 56 yX5_isKind wsX5_isKind) := goodIn_app (goodIn_of _ (by decide +kernel)) ggX5_law_X5_isKind
set_option maxRecDepth 20000 in
theorem ggX5_law_X5_isIn : GoodIn wsX5_law wsX5_isIn := goodIn_r _ [11] (by decide +kernel) (by decide +kernel)
set_option maxRecDepth 20000 in
theorem gX5_law_X5_isIn : GoodIn wsX5_law (va_wsS RX5 59 yX5_isIn wsX5_isIn) := goodIn_app (goodIn_of _ (by decide +kernel)) ggX5_law_X5_isIn
set_option maxRecDepth 20000 in
theorem ggX5_law_X5_areHours : GoodIn wsX5_law wsX5_areHours := goodIn_r _ [17, 9, 10, 7, 11] (by decide +kernel) (by decide +kernel)
set_option maxRecDepth 20000 in
theorem gX5_law_X5_areHours : GoodIn wsX5_law (va_wsS RX5 63 yX5_areHours wsX5_areHours) := goodIn_app (goodIn_of _ (by decide +kernel)) ggX5_law_X5_areHours
set_option maxRecDepth 20000 in
theorem ggX5_law_Jx4a65c_size_8abf5 : GoodIn wsX5_law wsJx4a65c_size_8abf5 := goodIn_r _ [22, 23, 105, 106, 107] (by decide +kernel) (by decide +kernel)
set_option maxRecDepth 20000 in
theorem gX5_law_Jx4a65c_size_8abf5 : GoodIn wsX5_law (wsV RX5 67 RJx4a65c yJx4a65c_size_8abf5 wsJx4a65c_size_8abf5) := goodIn_app (goodIn_of _ (by decide +kernel)) ggX5_law_Jx4a65c_size_8abf5
set_option maxRecDepth 20000 in
theorem ggX5_law_X2_init : GoodIn wsX5_law wsX2_init := goodIn_r _ [26, 27, 28, 29, 30, 31, 32, 33, 34, 100, 101, 102, 103, 104] (by decide +kernel) (by decide +kernel)
set_option maxRecDepth 20000 in
theorem gX5_law_X2_init : GoodIn wsX5_law (wsX2_init) := ggX5_law_X2_init
set_option maxRecDepth 20000 in
theorem ggX5_law_Jx4a65c_add_9ea2d : GoodIn wsX5_law wsJx4a65c_add_9ea2d := goodIn_r _ [38, 39, 40, 41, 23, 42, 43, 44, 21, 45, 46, 47, 48, 49, 50, 51, 52, 53, 54, 55, 56, 57, 58, 59, 60, 61, 62, 63, 64, 65, 66, 67, 68, 69, 70, 71, 72, 73, 74, 75, 76, 77, 78, 79, 80, 81, 82, 83, 84, 85, 86, 87, 88, 105, 106, 107] (by decide +kernel) (by decide +kernel)
set_option maxRecDepth 20000 in
theorem gX5_law_Jx4a65c_add_9ea2d : GoodIn wsX5_law (wsV RX5 71 RJx4a65c yJx4a65c_add_9ea2d wsJx4a65c_add_9ea2d) := goodIn_app (goodIn_of _ (by decide +kernel)) ggX5_law_Jx4a65c_add_9ea2d
theorem dX5_law_0 : decode cX5_law 0 = .ok (.iload_n 1, 1) := by decide +kernel
theorem dX5_law_1 : decode cX5_law 1 = .ok (.invokestatic 46, 3) := by decide +kernel
theorem dX5_law_4 : decode cX5_law 4 = .ok (.ifCond .eq 30, 3) := by decide +kernel
theorem dX5_law_7 : decode cX5_law 7 = .ok (.iload_n 2, 1) := by decide +kernel
theorem dX5_law_8 : decode cX5_law 8 = .ok (.invokestatic 56, 3) := by decide +kernel
theorem dX5_law_11 : decode cX5_law 11 = .ok (.ifCond .eq 23, 3) := by decide +kernel
theorem dX5_law_14 : decode cX5_law 14 = .ok (.iload_n 3, 1) := by decide +kernel
theorem dX5_law_15 : decode cX5_law 15 = .ok (.iconst 0, 1) := by decide +kernel
theorem dX5_law_16 : decode cX5_law 16 = .ok (.bipush 7, 2) := by decide +kernel
theorem dX5_law_18 : decode cX5_law 18 = .ok (.invokestatic 59, 3) := by decide +kernel
theorem dX5_law_21 : decode cX5_law 21 = .ok (.ifCond .eq 13, 3) := by decide +kernel
theorem dX5_law_24 : decode cX5_law 24 = .ok (.iload 4, 2) := by decide +kernel
theorem dX5_law_26 : decode cX5_law 26 = .ok (.iload 5, 2) := by decide +kernel
theorem dX5_law_28 : decode cX5_law 28 = .ok (.invokestatic 63, 3) := by decide +kernel
theorem dX5_law_31 : decode cX5_law 31 = .ok (.ifCond .ne 5, 3) := by decide +kernel
theorem dX5_law_34 : decode cX5_law 34 = .ok (.iconst (-1), 1) := by decide +kernel
theorem dX5_law_35 : decode cX5_law 35 = .ok (.ireturn, 1) := by decide +kernel
theorem dX5_law_36 : decode cX5_law 36 = .ok (.aload_n 0, 1) := by decide +kernel
theorem dX5_law_37 : decode cX5_law 37 = .ok (.getfield 10, 3) := by decide +kernel
theorem dX5_law_40 : decode cX5_law 40 = .ok (.invokevirtual 67, 3) := by decide +kernel
theorem dX5_law_43 : decode cX5_law 43 = .ok (.bipush 40, 2) := by decide +kernel
theorem dX5_law_45 : decode cX5_law 45 = .ok (.if_icmp .lt 6, 3) := by decide +kernel
theorem dX5_law_48 : decode cX5_law 48 = .ok (.bipush (-3), 2) := by decide +kernel
theorem dX5_law_50 : decode cX5_law 50 = .ok (.ireturn, 1) := by decide +kernel
theorem dX5_law_51 : decode cX5_law 51 = .ok (.aload_n 0, 1) := by decide +kernel
theorem dX5_law_52 : decode cX5_law 52 = .ok (.getfield 10, 3) := by decide +kernel
theorem dX5_law_55 : decode cX5_law 55 = .ok (.new 26, 3) := by decide +kernel
theorem dX5_law_58 : decode cX5_law 58 = .ok (.dup, 1) := by decide +kernel
theorem dX5_law_59 : decode cX5_law 59 = .ok (.iload_n 1, 1) := by decide +kernel
theorem dX5_law_60 : decode cX5_law 60 = .ok (.iload_n 2, 1) := by decide +kernel
theorem dX5_law_61 : decode cX5_law 61 = .ok (.iload_n 3, 1) := by decide +kernel
theorem dX5_law_62 : decode cX5_law 62 = .ok (.iload 4, 2) := by decide +kernel
theorem dX5_law_64 : decode cX5_law 64 = .ok (.iload 5, 2) := by decide +kernel
theorem dX5_law_66 : decode cX5_law 66 = .ok (.invokespecial 28, 3) := by decide +kernel
theorem dX5_law_69 : decode cX5_law 69 = .ok (.invokevirtual 71, 3) := by decide +kernel
theorem dX5_law_72 : decode cX5_law 72 = .ok (.pop, 1) := by decide +kernel
theorem dX5_law_73 : decode cX5_law 73 = .ok (.aload_n 0, 1) := by decide +kernel
theorem dX5_law_74 : decode cX5_law 74 = .ok (.getfield 10, 3) := by decide +kernel
theorem dX5_law_77 : decode cX5_law 77 = .ok (.invokevirtual 67, 3) := by decide +kernel
theorem dX5_law_80 : decode cX5_law 80 = .ok (.ireturn, 1) := by decide +kernel
set_option maxRecDepth 20000 in
theorem ggX5_rule_X5_isIn : GoodIn wsX5_rule wsX5_isIn := goodIn_r _ [6] (by decide +kernel) (by decide +kernel)
set_option maxRecDepth 20000 in
theorem gX5_rule_X5_isIn : GoodIn wsX5_rule (va_wsS RX5 59 yX5_isIn wsX5_isIn) := goodIn_app (goodIn_of _ (by decide +kernel)) ggX5_rule_X5_isIn
theorem dX5_rule_0 : decode cX5_rule 0 = .ok (.iload_n 1, 1) := by decide +kernel
theorem dX5_rule_1 : decode cX5_rule 1 = .ok (.ifCond .ne 26, 3) := by decide +kernel
theorem dX5_rule_4 : decode cX5_rule 4 = .ok (.iload_n 2, 1) := by decide +kernel
theorem dX5_rule_5 : decode cX5_rule 5 = .ok (.iconst 0, 1) := by decide +kernel
theorem dX5_rule_6 : decode cX5_rule 6 = .ok (.sipush 200, 3) := by decide +kernel
theorem dX5_rule_9 : decode cX5_rule 9 = .ok (.invokestatic 59, 3) := by decide +kernel
theorem dX5_rule_12 : decode cX5_rule 12 = .ok (.ifCond .eq 15, 3) := by decide +kernel
theorem dX5_rule_15 : decode cX5_rule 15 = .ok (.aload_n 0, 1) := by decide +kernel
theorem dX5_rule_16 : decode cX5_rule 16 = .ok (.getfield 35, 3) := by decide +kernel
theorem dX5_rule_19 : decode cX5_rule 19 = .ok (.istore_n 3, 1) := by decide +kernel
theorem dX5_rule_20 : decode cX5_rule 20 = .ok (.aload_n 0, 1) := by decide +kernel
theorem dX5_rule_21 : decode cX5_rule 21 = .ok (.iload_n 2, 1) := by decide +kernel
theorem dX5_rule_22 : decode cX5_rule 22 = .ok (.putfield 35, 3) := by decide +kernel
theorem dX5_rule_25 : decode cX5_rule 25 = .ok (.iload_n 3, 1) := by decide +kernel
theorem dX5_rule_26 : decode cX5_rule 26 = .ok (.ireturn, 1) := by decide +kernel
theorem dX5_rule_27 : decode cX5_rule 27 = .ok (.iload_n 1, 1) := by decide +kernel
theorem dX5_rule_28 : decode cX5_rule 28 = .ok (.iconst 1, 1) := by decide +kernel
theorem dX5_rule_29 : decode cX5_rule 29 = .ok (.if_icmp .ne 26, 3) := by decide +kernel
theorem dX5_rule_32 : decode cX5_rule 32 = .ok (.iload_n 2, 1) := by decide +kernel
theorem dX5_rule_33 : decode cX5_rule 33 = .ok (.iconst 0, 1) := by decide +kernel
theorem dX5_rule_34 : decode cX5_rule 34 = .ok (.sipush 500, 3) := by decide +kernel
theorem dX5_rule_37 : decode cX5_rule 37 = .ok (.invokestatic 59, 3) := by decide +kernel
theorem dX5_rule_40 : decode cX5_rule 40 = .ok (.ifCond .eq 15, 3) := by decide +kernel
theorem dX5_rule_43 : decode cX5_rule 43 = .ok (.aload_n 0, 1) := by decide +kernel
theorem dX5_rule_44 : decode cX5_rule 44 = .ok (.getfield 39, 3) := by decide +kernel
theorem dX5_rule_47 : decode cX5_rule 47 = .ok (.istore_n 3, 1) := by decide +kernel
theorem dX5_rule_48 : decode cX5_rule 48 = .ok (.aload_n 0, 1) := by decide +kernel
theorem dX5_rule_49 : decode cX5_rule 49 = .ok (.iload_n 2, 1) := by decide +kernel
theorem dX5_rule_50 : decode cX5_rule 50 = .ok (.putfield 39, 3) := by decide +kernel
theorem dX5_rule_53 : decode cX5_rule 53 = .ok (.iload_n 3, 1) := by decide +kernel
theorem dX5_rule_54 : decode cX5_rule 54 = .ok (.ireturn, 1) := by decide +kernel
theorem dX5_rule_55 : decode cX5_rule 55 = .ok (.iconst (-1), 1) := by decide +kernel
theorem dX5_rule_56 : decode cX5_rule 56 = .ok (.ireturn, 1) := by decide +kernel
set_option maxRecDepth 20000 in
theorem ggX5_objector_X5_isPlace : GoodIn wsX5_objector wsX5_isPlace := goodIn_r _ [8, 9, 10, 7, 11] (by decide +kernel) (by decide +kernel)
set_option maxRecDepth 20000 in
theorem gX5_objector_X5_isPlace : GoodIn wsX5_objector (va_wsS RX5 75 yX5_isPlace wsX5_isPlace) := goodIn_app (goodIn_of _ (by decide +kernel)) ggX5_objector_X5_isPlace
set_option maxRecDepth 20000 in
theorem ggX5_objector_X5_isIn : GoodIn wsX5_objector wsX5_isIn := goodIn_r _ [11] (by decide +kernel) (by decide +kernel)
set_option maxRecDepth 20000 in
theorem gX5_objector_X5_isIn : GoodIn wsX5_objector (va_wsS RX5 59 yX5_isIn wsX5_isIn) := goodIn_app (goodIn_of _ (by decide +kernel)) ggX5_objector_X5_isIn
set_option maxRecDepth 20000 in
theorem ggX5_objector_Jx4a65c_size_8abf5 : GoodIn wsX5_objector wsJx4a65c_size_8abf5 := goodIn_r _ [16, 17, 95, 96, 97] (by decide +kernel) (by decide +kernel)
set_option maxRecDepth 20000 in
theorem gX5_objector_Jx4a65c_size_8abf5 : GoodIn wsX5_objector (wsV RX5 67 RJx4a65c yJx4a65c_size_8abf5 wsJx4a65c_size_8abf5) := goodIn_app (goodIn_of _ (by decide +kernel)) ggX5_objector_Jx4a65c_size_8abf5
set_option maxRecDepth 20000 in
theorem ggX5_objector_X3_init : GoodIn wsX5_objector wsX3_init := goodIn_r _ [20, 21, 22, 23, 24, 25, 26, 92, 93, 94] (by decide +kernel) (by decide +kernel)
set_option maxRecDepth 20000 in
theorem gX5_objector_X3_init : GoodIn wsX5_objector (wsX3_init) := ggX5_objector_X3_init
set_option maxRecDepth 20000 in
theorem ggX5_objector_Jx4a65c_add_9ea2d : GoodIn wsX5_objector wsJx4a65c_add_9ea2d := goodIn_r _ [30, 31, 32, 33, 17, 34, 35, 36, 15, 37, 38, 39, 40, 41, 42, 43, 44, 45, 46, 47, 48, 49, 50, 51, 52, 53, 54, 55, 56, 57, 58, 59, 60, 61, 62, 63, 64, 65, 66, 67, 68, 69, 70, 71, 72, 73, 74, 75, 76, 77, 78, 79, 80, 95, 96, 97] (by decide +kernel) (by decide +kernel)
set_option maxRecDepth 20000 in
theorem gX5_objector_Jx4a65c_add_9ea2d : GoodIn wsX5_objector (wsV RX5 71 RJx4a65c yJx4a65c_add_9ea2d wsJx4a65c_add_9ea2d) := goodIn_app (goodIn_of _ (by decide +kernel)) ggX5_objector_Jx4a65c_add_9ea2d
theorem dX5_objector_0 : decode cX5_objector 0 = .ok (.iload_n 1, 1) := by decide +kernel
theorem dX5_objector_1 : decode cX5_objector 1 = .ok (.iload_n 2, 1) := by decide +kernel
theorem dX5_objector_2 : decode cX5_objector 2 = .ok (.invokestatic 75, 3) := by decide +kernel
theorem dX5_objector_5 : decode cX5_objector 5 = .ok (.ifCond .eq 13, 3) := by decide +kernel
theorem dX5_objector_8 : decode cX5_objector 8 = .ok (.iload_n 3, 1) := by decide +kernel
theorem dX5_objector_9 : decode cX5_objector 9 = .ok (.iconst 1, 1) := by decide +kernel
theorem dX5_objector_10 : decode cX5_objector 10 = .ok (.bipush 10, 2) := by decide +kernel
theorem dX5_objector_12 : decode cX5_objector 12 = .ok (.invokestatic 59, 3) := by decide +kernel
theorem dX5_objector_15 : decode cX5_objector 15 = .ok (.ifCond .ne 5, 3) := by decide +kernel
theorem dX5_objector_18 : decode cX5_objector 18 = .ok (.iconst (-1), 1) := by decide +kernel
theorem dX5_objector_19 : decode cX5_objector 19 = .ok (.ireturn, 1) := by decide +kernel
theorem dX5_objector_20 : decode cX5_objector 20 = .ok (.aload_n 0, 1) := by decide +kernel
theorem dX5_objector_21 : decode cX5_objector 21 = .ok (.getfield 16, 3) := by decide +kernel
theorem dX5_objector_24 : decode cX5_objector 24 = .ok (.invokevirtual 67, 3) := by decide +kernel
theorem dX5_objector_27 : decode cX5_objector 27 = .ok (.bipush 20, 2) := by decide +kernel
theorem dX5_objector_29 : decode cX5_objector 29 = .ok (.if_icmp .lt 6, 3) := by decide +kernel
theorem dX5_objector_32 : decode cX5_objector 32 = .ok (.bipush (-3), 2) := by decide +kernel
theorem dX5_objector_34 : decode cX5_objector 34 = .ok (.ireturn, 1) := by decide +kernel
theorem dX5_objector_35 : decode cX5_objector 35 = .ok (.aload_n 0, 1) := by decide +kernel
theorem dX5_objector_36 : decode cX5_objector 36 = .ok (.getfield 16, 3) := by decide +kernel
theorem dX5_objector_39 : decode cX5_objector 39 = .ok (.new 78, 3) := by decide +kernel
theorem dX5_objector_42 : decode cX5_objector 42 = .ok (.dup, 1) := by decide +kernel
theorem dX5_objector_43 : decode cX5_objector 43 = .ok (.iload_n 1, 1) := by decide +kernel
theorem dX5_objector_44 : decode cX5_objector 44 = .ok (.iload_n 2, 1) := by decide +kernel
theorem dX5_objector_45 : decode cX5_objector 45 = .ok (.iload_n 3, 1) := by decide +kernel
theorem dX5_objector_46 : decode cX5_objector 46 = .ok (.invokespecial 80, 3) := by decide +kernel
theorem dX5_objector_49 : decode cX5_objector 49 = .ok (.invokevirtual 71, 3) := by decide +kernel
theorem dX5_objector_52 : decode cX5_objector 52 = .ok (.pop, 1) := by decide +kernel
theorem dX5_objector_53 : decode cX5_objector 53 = .ok (.aload_n 0, 1) := by decide +kernel
theorem dX5_objector_54 : decode cX5_objector 54 = .ok (.getfield 16, 3) := by decide +kernel
theorem dX5_objector_57 : decode cX5_objector 57 = .ok (.invokevirtual 67, 3) := by decide +kernel
theorem dX5_objector_60 : decode cX5_objector 60 = .ok (.ireturn, 1) := by decide +kernel
set_option maxRecDepth 20000 in
theorem ggX5_ask_X5_isPlace : GoodIn wsX5_ask wsX5_isPlace := goodIn_r _ [9, 10, 11, 8, 12] (by decide +kernel) (by decide +kernel)
set_option maxRecDepth 20000 in
theorem gX5_ask_X5_isPlace : GoodIn wsX5_ask (va_wsS RX5 75 yX5_isPlace wsX5_isPlace) := goodIn_app (goodIn_of _ (by decide +kernel)) ggX5_ask_X5_isPlace
set_option maxRecDepth 20000 in
theorem ggX5_ask_X5_isKind : GoodIn wsX5_ask wsX5_isKind := goodIn_r _ [15, 10, 11, 8, 12] (by decide +kernel) (by decide +kernel)
set_option maxRecDepth 20000 in
theorem gX5_ask_X5_isKind : GoodIn wsX5_ask (va_wsS RX5 56 yX5_isKind wsX5_isKind) := goodIn_app (goodIn_of _ (by decide +kernel)) ggX5_ask_X5_isKind
set_option maxRecDepth 20000 in
theorem ggX5_ask_X5_isWorth : GoodIn wsX5_ask wsX5_isWorth := goodIn_r _ [18, 19, 10, 11, 8, 12] (by decide +kernel) (by decide +kernel)
set_option maxRecDepth 20000 in
theorem gX5_ask_X5_isWorth : GoodIn wsX5_ask (va_wsS RX5 83 yX5_isWorth wsX5_isWorth) := goodIn_app (goodIn_of _ (by decide +kernel)) ggX5_ask_X5_isWorth
set_option maxRecDepth 20000 in
theorem ggX5_ask_X5_isDay : GoodIn wsX5_ask wsX5_isDay := goodIn_r _ [22, 10, 11, 8, 12] (by decide +kernel) (by decide +kernel)
set_option maxRecDepth 20000 in
theorem gX5_ask_X5_isDay : GoodIn wsX5_ask (va_wsS RX5 46 yX5_isDay wsX5_isDay) := goodIn_app (goodIn_of _ (by decide +kernel)) ggX5_ask_X5_isDay
set_option maxRecDepth 20000 in
theorem ggX5_ask_Jx4a65c_size_8abf5 : GoodIn wsX5_ask wsJx4a65c_size_8abf5 := goodIn_r _ [27, 28, 215, 216, 217] (by decide +kernel) (by decide +kernel)
set_option maxRecDepth 20000 in
theorem gX5_ask_Jx4a65c_size_8abf5 : GoodIn wsX5_ask (wsV RX5 67 RJx4a65c yJx4a65c_size_8abf5 wsJx4a65c_size_8abf5) := goodIn_app (goodIn_of _ (by decide +kernel)) ggX5_ask_Jx4a65c_size_8abf5
set_option maxRecDepth 20000 in
theorem ggX5_ask_X5_judge : GoodIn wsX5_ask wsX5_judge := goodIn_r _ [32, 33, 34, 35, 8, 36, 1, 37, 38, 39, 40, 23, 24, 25, 26, 27, 28, 41, 42, 43, 44, 45, 46, 47, 48, 49, 50, 51, 52, 53, 54, 55, 56, 57, 58, 59, 60, 61, 62, 63, 5, 64, 65, 66, 67, 68, 69, 70, 71, 72, 73, 74, 75, 76, 77, 78, 79, 80, 81, 82, 83, 84, 85, 86, 87, 88, 89, 90, 91, 92, 93, 94, 95, 96, 97, 11, 12, 98, 99, 100, 101, 102, 103, 104, 105, 106, 107, 108, 109, 110, 111, 197, 198, 199, 200, 201, 202, 203, 204, 205, 206, 207, 208, 209, 210, 211, 212, 213, 214, 215, 216, 217, 218, 219, 220, 221, 222, 223, 224] (by decide +kernel) (by decide +kernel)
set_option maxRecDepth 20000 in
theorem gX5_ask_X5_judge : GoodIn wsX5_ask (wsV RX5 86 RX5 yX5_judge wsX5_judge) := goodIn_app (goodIn_of _ (by decide +kernel)) ggX5_ask_X5_judge
set_option maxRecDepth 20000 in
theorem ggX5_ask_X1_init : GoodIn wsX5_ask wsX1_init := goodIn_r _ [114, 115, 116, 117, 118, 119, 120, 69, 121, 122, 26, 79, 123, 124, 125, 126, 127, 128, 129, 130, 57, 131, 132, 133, 134, 135, 136, 137, 138, 139, 140, 141, 142, 143, 144, 145, 146, 147, 148, 149, 150, 151, 152, 28, 153, 154, 155, 156, 157, 158, 159, 160, 161, 162, 163, 164, 165, 166, 72, 167, 168, 169, 170, 171, 172, 173, 174, 175, 176, 177, 178, 179, 180, 181, 182, 183, 184, 185, 186, 187, 188, 189, 190, 191, 71, 73, 192, 193, 194, 195, 208, 209, 210, 211, 212, 213, 214, 215, 216, 217, 225, 226] (by decide +kernel) (by decide +kernel)
set_option maxRecDepth 20000 in
theorem gX5_ask_X1_init : GoodIn wsX5_ask (wsX1_init) := ggX5_ask_X1_init
set_option maxRecDepth 20000 in
theorem ggX5_ask_Jx4a65c_add_9ea2d : GoodIn wsX5_ask wsJx4a65c_add_9ea2d := goodIn_r _ [150, 151, 152, 57, 28, 153, 154, 155, 26, 156, 157, 158, 159, 160, 161, 162, 163, 164, 130, 165, 166, 72, 167, 168, 169, 170, 171, 172, 173, 174, 175, 176, 177, 178, 179, 180, 181, 182, 183, 184, 185, 186, 187, 188, 189, 190, 191, 71, 73, 192, 193, 194, 195, 215, 216, 217] (by decide +kernel) (by decide +kernel)
set_option maxRecDepth 20000 in
theorem gX5_ask_Jx4a65c_add_9ea2d : GoodIn wsX5_ask (wsV RX5 71 RJx4a65c yJx4a65c_add_9ea2d wsJx4a65c_add_9ea2d) := goodIn_app (goodIn_of _ (by decide +kernel)) ggX5_ask_Jx4a65c_add_9ea2d
theorem dX5_ask_0 : decode cX5_ask 0 = .ok (.iload_n 1, 1) := by decide +kernel
theorem dX5_ask_1 : decode cX5_ask 1 = .ok (.iload_n 2, 1) := by decide +kernel
theorem dX5_ask_2 : decode cX5_ask 2 = .ok (.invokestatic 75, 3) := by decide +kernel
theorem dX5_ask_5 : decode cX5_ask 5 = .ok (.ifCond .eq 18, 3) := by decide +kernel
theorem dX5_ask_8 : decode cX5_ask 8 = .ok (.iload_n 3, 1) := by decide +kernel
theorem dX5_ask_9 : decode cX5_ask 9 = .ok (.invokestatic 56, 3) := by decide +kernel
theorem dX5_ask_12 : decode cX5_ask 12 = .ok (.ifCond .eq 11, 3) := by decide +kernel
theorem dX5_ask_15 : decode cX5_ask 15 = .ok (.iload 4, 2) := by decide +kernel
theorem dX5_ask_17 : decode cX5_ask 17 = .ok (.invokestatic 83, 3) := by decide +kernel
theorem dX5_ask_20 : decode cX5_ask 20 = .ok (.ifCond .ne 5, 3) := by decide +kernel
theorem dX5_ask_23 : decode cX5_ask 23 = .ok (.iconst (-1), 1) := by decide +kernel
theorem dX5_ask_24 : decode cX5_ask 24 = .ok (.ireturn, 1) := by decide +kernel
theorem dX5_ask_25 : decode cX5_ask 25 = .ok (.iload 5, 2) := by decide +kernel
theorem dX5_ask_27 : decode cX5_ask 27 = .ok (.invokestatic 46, 3) := by decide +kernel
theorem dX5_ask_30 : decode cX5_ask 30 = .ok (.ifCond .eq 18, 3) := by decide +kernel
theorem dX5_ask_33 : decode cX5_ask 33 = .ok (.iload 6, 2) := by decide +kernel
theorem dX5_ask_35 : decode cX5_ask 35 = .ok (.invokestatic 46, 3) := by decide +kernel
theorem dX5_ask_38 : decode cX5_ask 38 = .ok (.ifCond .eq 10, 3) := by decide +kernel
theorem dX5_ask_41 : decode cX5_ask 41 = .ok (.iload 5, 2) := by decide +kernel
theorem dX5_ask_43 : decode cX5_ask 43 = .ok (.iload 6, 2) := by decide +kernel
theorem dX5_ask_45 : decode cX5_ask 45 = .ok (.if_icmp .le 5, 3) := by decide +kernel
theorem dX5_ask_48 : decode cX5_ask 48 = .ok (.iconst (-1), 1) := by decide +kernel
theorem dX5_ask_49 : decode cX5_ask 49 = .ok (.ireturn, 1) := by decide +kernel
theorem dX5_ask_50 : decode cX5_ask 50 = .ok (.aload_n 0, 1) := by decide +kernel
theorem dX5_ask_51 : decode cX5_ask 51 = .ok (.getfield 19, 3) := by decide +kernel
theorem dX5_ask_54 : decode cX5_ask 54 = .ok (.invokevirtual 67, 3) := by decide +kernel
theorem dX5_ask_57 : decode cX5_ask 57 = .ok (.bipush 30, 2) := by decide +kernel
theorem dX5_ask_59 : decode cX5_ask 59 = .ok (.if_icmp .lt 6, 3) := by decide +kernel
theorem dX5_ask_62 : decode cX5_ask 62 = .ok (.bipush (-3), 2) := by decide +kernel
theorem dX5_ask_64 : decode cX5_ask 64 = .ok (.ireturn, 1) := by decide +kernel
theorem dX5_ask_65 : decode cX5_ask 65 = .ok (.aload_n 0, 1) := by decide +kernel
theorem dX5_ask_66 : decode cX5_ask 66 = .ok (.iload_n 1, 1) := by decide +kernel
theorem dX5_ask_67 : decode cX5_ask 67 = .ok (.iload_n 2, 1) := by decide +kernel
theorem dX5_ask_68 : decode cX5_ask 68 = .ok (.iload 5, 2) := by decide +kernel
theorem dX5_ask_70 : decode cX5_ask 70 = .ok (.iload 6, 2) := by decide +kernel
theorem dX5_ask_72 : decode cX5_ask 72 = .ok (.invokevirtual 86, 3) := by decide +kernel
theorem dX5_ask_75 : decode cX5_ask 75 = .ok (.istore 7, 2) := by decide +kernel
theorem dX5_ask_77 : decode cX5_ask 77 = .ok (.iload 7, 2) := by decide +kernel
theorem dX5_ask_79 : decode cX5_ask 79 = .ok (.ifCond .eq 19, 3) := by decide +kernel
theorem dX5_ask_82 : decode cX5_ask 82 = .ok (.aload_n 0, 1) := by decide +kernel
theorem dX5_ask_83 : decode cX5_ask 83 = .ok (.dup, 1) := by decide +kernel
theorem dX5_ask_84 : decode cX5_ask 84 = .ok (.getfield 90, 3) := by decide +kernel
theorem dX5_ask_87 : decode cX5_ask 87 = .ok (.iconst 1, 1) := by decide +kernel
theorem dX5_ask_88 : decode cX5_ask 88 = .ok (.iadd, 1) := by decide +kernel
theorem dX5_ask_89 : decode cX5_ask 89 = .ok (.putfield 90, 3) := by decide +kernel
theorem dX5_ask_92 : decode cX5_ask 92 = .ok (.bipush (-10), 2) := by decide +kernel
theorem dX5_ask_94 : decode cX5_ask 94 = .ok (.iload 7, 2) := by decide +kernel
theorem dX5_ask_96 : decode cX5_ask 96 = .ok (.isub, 1) := by decide +kernel
theorem dX5_ask_97 : decode cX5_ask 97 = .ok (.ireturn, 1) := by decide +kernel
theorem dX5_ask_98 : decode cX5_ask 98 = .ok (.aload_n 0, 1) := by decide +kernel
theorem dX5_ask_99 : decode cX5_ask 99 = .ok (.getfield 19, 3) := by decide +kernel
theorem dX5_ask_102 : decode cX5_ask 102 = .ok (.new 93, 3) := by decide +kernel
theorem dX5_ask_105 : decode cX5_ask 105 = .ok (.dup, 1) := by decide +kernel
theorem dX5_ask_106 : decode cX5_ask 106 = .ok (.iload_n 1, 1) := by decide +kernel
theorem dX5_ask_107 : decode cX5_ask 107 = .ok (.iload_n 2, 1) := by decide +kernel
theorem dX5_ask_108 : decode cX5_ask 108 = .ok (.iload_n 3, 1) := by decide +kernel
theorem dX5_ask_109 : decode cX5_ask 109 = .ok (.iload 6, 2) := by decide +kernel
theorem dX5_ask_111 : decode cX5_ask 111 = .ok (.iload 4, 2) := by decide +kernel
theorem dX5_ask_113 : decode cX5_ask 113 = .ok (.invokespecial 95, 3) := by decide +kernel
theorem dX5_ask_116 : decode cX5_ask 116 = .ok (.invokevirtual 71, 3) := by decide +kernel
theorem dX5_ask_119 : decode cX5_ask 119 = .ok (.pop, 1) := by decide +kernel
theorem dX5_ask_120 : decode cX5_ask 120 = .ok (.aload_n 0, 1) := by decide +kernel
theorem dX5_ask_121 : decode cX5_ask 121 = .ok (.getfield 19, 3) := by decide +kernel
theorem dX5_ask_124 : decode cX5_ask 124 = .ok (.invokevirtual 67, 3) := by decide +kernel
theorem dX5_ask_127 : decode cX5_ask 127 = .ok (.iconst 1, 1) := by decide +kernel
theorem dX5_ask_128 : decode cX5_ask 128 = .ok (.isub, 1) := by decide +kernel
theorem dX5_ask_129 : decode cX5_ask 129 = .ok (.ireturn, 1) := by decide +kernel
set_option maxRecDepth 20000 in
theorem ggX5_event_X5_houseAt : GoodIn wsX5_event wsX5_houseAt := goodIn_r _ [7, 8, 9, 10, 11, 12, 13, 14, 15, 16, 17, 18, 19, 20, 21, 22, 23, 24, 25, 26, 27, 28, 29, 30, 31, 32, 137, 138, 139, 140, 141, 142, 143, 144, 145, 146, 147, 148, 149, 150] (by decide +kernel) (by decide +kernel)
set_option maxRecDepth 20000 in
theorem gX5_event_X5_houseAt : GoodIn wsX5_event (wsV RX5 96 RX5 yX5_houseAt wsX5_houseAt) := goodIn_app (goodIn_of _ (by decide +kernel)) ggX5_event_X5_houseAt
set_option maxRecDepth 20000 in
theorem ggX5_event_X5_isDay : GoodIn wsX5_event wsX5_isDay := goodIn_r _ [35, 36, 37, 6, 38] (by decide +kernel) (by decide +kernel)
set_option maxRecDepth 20000 in
theorem gX5_event_X5_isDay : GoodIn wsX5_event (va_wsS RX5 46 yX5_isDay wsX5_isDay) := goodIn_app (goodIn_of _ (by decide +kernel)) ggX5_event_X5_isDay
set_option maxRecDepth 20000 in
theorem ggX5_event_X5_isEvent : GoodIn wsX5_event wsX5_isEvent := goodIn_r _ [41, 36, 37, 6, 38] (by decide +kernel) (by decide +kernel)
set_option maxRecDepth 20000 in
theorem gX5_event_X5_isEvent : GoodIn wsX5_event (va_wsS RX5 100 yX5_isEvent wsX5_isEvent) := goodIn_app (goodIn_of _ (by decide +kernel)) ggX5_event_X5_isEvent
set_option maxRecDepth 20000 in
theorem ggX5_event_X1_mayBeTold : GoodIn wsX5_event wsX1_mayBeTold := goodIn_r _ [46, 47, 48, 49, 45, 50, 51, 52, 53, 54, 55, 11, 12, 13, 14, 15, 56, 17, 18, 19, 20, 21, 22, 23, 24, 25, 26, 27, 28, 29, 30, 31, 32, 130, 131, 132, 133, 134, 135, 136, 151, 152, 153, 154, 148, 149, 150] (by decide +kernel) (by decide +kernel)
set_option maxRecDepth 20000 in
theorem gX5_event_X1_mayBeTold : GoodIn wsX5_event (wsV RX5 106 RX1 yX1_mayBeTold wsX1_mayBeTold) := goodIn_app (goodIn_of _ (by decide +kernel)) ggX5_event_X1_mayBeTold
set_option maxRecDepth 20000 in
theorem ggX5_event_Jx4a65c_size_8abf5 : GoodIn wsX5_event wsJx4a65c_size_8abf5 := goodIn_r _ [14, 15, 148, 149, 150] (by decide +kernel) (by decide +kernel)
set_option maxRecDepth 20000 in
theorem gX5_event_Jx4a65c_size_8abf5 : GoodIn wsX5_event (wsV RX5 67 RJx4a65c yJx4a65c_size_8abf5 wsJx4a65c_size_8abf5) := goodIn_app (goodIn_of _ (by decide +kernel)) ggX5_event_Jx4a65c_size_8abf5
set_option maxRecDepth 20000 in
theorem ggX5_event_X1_tell : GoodIn wsX5_event wsX1_tell := goodIn_r _ [60, 51, 61, 62, 63, 64, 65, 66, 67, 68, 69, 70, 71, 72, 73, 74, 75, 76, 77, 78, 79, 80, 81, 82, 13, 83, 84, 85, 32, 15, 86, 87, 88, 89, 90, 91, 92, 93, 94, 95, 96, 97, 98, 99, 100, 101, 102, 103, 104, 105, 106, 107, 108, 109, 110, 111, 112, 113, 114, 115, 116, 117, 118, 119, 120, 121, 122, 123, 124, 125, 126, 127, 128, 129, 47, 48, 49, 45, 50, 52, 53, 54, 55, 11, 12, 14, 56, 17, 18, 19, 20, 21, 22, 23, 24, 25, 26, 27, 28, 29, 30, 31, 130, 131, 132, 133, 134, 135, 136, 151, 152, 153, 154, 148, 149, 150] (by decide +kernel) (by decide +kernel)
set_option maxRecDepth 20000 in
theorem gX5_event_X1_tell : GoodIn wsX5_event (wsV RX5 112 RX1 yX1_tell wsX1_tell) := goodIn_app (goodIn_of _ (by decide +kernel)) ggX5_event_X1_tell
theorem dX5_event_0 : decode cX5_event 0 = .ok (.aload_n 0, 1) := by decide +kernel
theorem dX5_event_1 : decode cX5_event 1 = .ok (.iload_n 1, 1) := by decide +kernel
theorem dX5_event_2 : decode cX5_event 2 = .ok (.invokevirtual 96, 3) := by decide +kernel
theorem dX5_event_5 : decode cX5_event 5 = .ok (.astore 5, 2) := by decide +kernel
theorem dX5_event_7 : decode cX5_event 7 = .ok (.aload 5, 2) := by decide +kernel
theorem dX5_event_9 : decode cX5_event 9 = .ok (.ifnull 19, 3) := by decide +kernel
theorem dX5_event_12 : decode cX5_event 12 = .ok (.iload_n 2, 1) := by decide +kernel
theorem dX5_event_13 : decode cX5_event 13 = .ok (.invokestatic 46, 3) := by decide +kernel
theorem dX5_event_16 : decode cX5_event 16 = .ok (.ifCond .eq 12, 3) := by decide +kernel
theorem dX5_event_19 : decode cX5_event 19 = .ok (.iload_n 3, 1) := by decide +kernel
theorem dX5_event_20 : decode cX5_event 20 = .ok (.iload 4, 2) := by decide +kernel
theorem dX5_event_22 : decode cX5_event 22 = .ok (.invokestatic 100, 3) := by decide +kernel
theorem dX5_event_25 : decode cX5_event 25 = .ok (.ifCond .ne 5, 3) := by decide +kernel
theorem dX5_event_28 : decode cX5_event 28 = .ok (.iconst (-1), 1) := by decide +kernel
theorem dX5_event_29 : decode cX5_event 29 = .ok (.ireturn, 1) := by decide +kernel
end
section
theorem dX5_event_30 : decode cX5_event 30 = .ok (.iload_n 2, 1) := by decide +kernel
theorem dX5_event_31 : decode cX5_event 31 = .ok (.aload 5, 2) := by decide +kernel
theorem dX5_event_33 : decode cX5_event 33 = .ok (.getfield 103, 3) := by decide +kernel
theorem dX5_event_36 : decode cX5_event 36 = .ok (.if_icmp .lt 14, 3) := by decide +kernel
theorem dX5_event_39 : decode cX5_event 39 = .ok (.aload 5, 2) := by decide +kernel
theorem dX5_event_41 : decode cX5_event 41 = .ok (.iload_n 3, 1) := by decide +kernel
theorem dX5_event_42 : decode cX5_event 42 = .ok (.iload 4, 2) := by decide +kernel
theorem dX5_event_44 : decode cX5_event 44 = .ok (.invokevirtual 106, 3) := by decide +kernel
theorem dX5_event_47 : decode cX5_event 47 = .ok (.ifCond .ne 6, 3) := by decide +kernel
theorem dX5_event_50 : decode cX5_event 50 = .ok (.bipush (-2), 2) := by decide +kernel
theorem dX5_event_52 : decode cX5_event 52 = .ok (.ireturn, 1) := by decide +kernel
theorem dX5_event_53 : decode cX5_event 53 = .ok (.aload 5, 2) := by decide +kernel
theorem dX5_event_55 : decode cX5_event 55 = .ok (.getfield 109, 3) := by decide +kernel
theorem dX5_event_58 : decode cX5_event 58 = .ok (.invokevirtual 67, 3) := by decide +kernel
theorem dX5_event_61 : decode cX5_event 61 = .ok (.bipush 16, 2) := by decide +kernel
theorem dX5_event_63 : decode cX5_event 63 = .ok (.if_icmp .lt 6, 3) := by decide +kernel
theorem dX5_event_66 : decode cX5_event 66 = .ok (.bipush (-3), 2) := by decide +kernel
theorem dX5_event_68 : decode cX5_event 68 = .ok (.ireturn, 1) := by decide +kernel
theorem dX5_event_69 : decode cX5_event 69 = .ok (.aload 5, 2) := by decide +kernel
theorem dX5_event_71 : decode cX5_event 71 = .ok (.iload_n 2, 1) := by decide +kernel
theorem dX5_event_72 : decode cX5_event 72 = .ok (.iload_n 3, 1) := by decide +kernel
theorem dX5_event_73 : decode cX5_event 73 = .ok (.iload 4, 2) := by decide +kernel
theorem dX5_event_75 : decode cX5_event 75 = .ok (.invokevirtual 112, 3) := by decide +kernel
theorem dX5_event_78 : decode cX5_event 78 = .ok (.aload 5, 2) := by decide +kernel
theorem dX5_event_80 : decode cX5_event 80 = .ok (.getfield 109, 3) := by decide +kernel
theorem dX5_event_83 : decode cX5_event 83 = .ok (.invokevirtual 67, 3) := by decide +kernel
theorem dX5_event_86 : decode cX5_event 86 = .ok (.ireturn, 1) := by decide +kernel
set_option maxRecDepth 20000 in
theorem ggX5_worth_X5_houseAt : GoodIn wsX5_worth wsX5_houseAt := goodIn_r _ [14, 15, 16, 17, 18, 19, 20, 21, 22, 23, 24, 25, 26, 27, 28, 29, 30, 31, 32, 33, 34, 35, 36, 37, 38, 39, 117, 118, 119, 120, 121, 122, 123, 124, 125, 126, 127, 128, 129, 130] (by decide +kernel) (by decide +kernel)
set_option maxRecDepth 20000 in
theorem gX5_worth_X5_houseAt : GoodIn wsX5_worth (wsV RX5 96 RX5 yX5_houseAt wsX5_houseAt) := goodIn_app (goodIn_of _ (by decide +kernel)) ggX5_worth_X5_houseAt
set_option maxRecDepth 20000 in
theorem ggX5_worth_X5_isDay : GoodIn wsX5_worth wsX5_isDay := goodIn_r _ [42, 43, 44, 13, 45] (by decide +kernel) (by decide +kernel)
set_option maxRecDepth 20000 in
theorem gX5_worth_X5_isDay : GoodIn wsX5_worth (va_wsS RX5 46 yX5_isDay wsX5_isDay) := goodIn_app (goodIn_of _ (by decide +kernel)) ggX5_worth_X5_isDay
set_option maxRecDepth 20000 in
theorem ggX5_worth_X5_isWorth : GoodIn wsX5_worth wsX5_isWorth := goodIn_r _ [48, 49, 43, 44, 13, 45] (by decide +kernel) (by decide +kernel)
set_option maxRecDepth 20000 in
theorem gX5_worth_X5_isWorth : GoodIn wsX5_worth (va_wsS RX5 83 yX5_isWorth wsX5_isWorth) := goodIn_app (goodIn_of _ (by decide +kernel)) ggX5_worth_X5_isWorth
set_option maxRecDepth 20000 in
theorem ggX5_worth_Jx4a65c_size_8abf5 : GoodIn wsX5_worth wsJx4a65c_size_8abf5 := goodIn_r _ [21, 22, 128, 129, 130] (by decide +kernel) (by decide +kernel)
set_option maxRecDepth 20000 in
theorem gX5_worth_Jx4a65c_size_8abf5 : GoodIn wsX5_worth (wsV RX5 67 RJx4a65c yJx4a65c_size_8abf5 wsJx4a65c_size_8abf5) := goodIn_app (goodIn_of _ (by decide +kernel)) ggX5_worth_Jx4a65c_size_8abf5
set_option maxRecDepth 20000 in
theorem ggX5_worth_X4_init : GoodIn wsX5_worth wsX4_init := goodIn_r _ [52, 53, 54, 55, 56, 57, 115, 116] (by decide +kernel) (by decide +kernel)
set_option maxRecDepth 20000 in
theorem gX5_worth_X4_init : GoodIn wsX5_worth (wsX4_init) := ggX5_worth_X4_init
set_option maxRecDepth 20000 in
theorem ggX5_worth_Jx4a65c_add_9ea2d : GoodIn wsX5_worth wsJx4a65c_add_9ea2d := goodIn_r _ [61, 62, 63, 39, 22, 64, 65, 66, 20, 67, 68, 69, 70, 71, 72, 73, 74, 75, 76, 77, 7, 8, 9, 78, 79, 80, 81, 82, 83, 84, 85, 86, 87, 88, 89, 90, 91, 92, 93, 94, 95, 96, 97, 98, 99, 100, 101, 102, 103, 104, 105, 106, 107, 128, 129, 130] (by decide +kernel) (by decide +kernel)
set_option maxRecDepth 20000 in
theorem gX5_worth_Jx4a65c_add_9ea2d : GoodIn wsX5_worth (wsV RX5 71 RJx4a65c yJx4a65c_add_9ea2d wsJx4a65c_add_9ea2d) := goodIn_app (goodIn_of _ (by decide +kernel)) ggX5_worth_Jx4a65c_add_9ea2d
theorem dX5_worth_0 : decode cX5_worth 0 = .ok (.aload_n 0, 1) := by decide +kernel
theorem dX5_worth_1 : decode cX5_worth 1 = .ok (.iload_n 1, 1) := by decide +kernel
theorem dX5_worth_2 : decode cX5_worth 2 = .ok (.invokevirtual 96, 3) := by decide +kernel
theorem dX5_worth_5 : decode cX5_worth 5 = .ok (.astore 4, 2) := by decide +kernel
theorem dX5_worth_7 : decode cX5_worth 7 = .ok (.aload 4, 2) := by decide +kernel
theorem dX5_worth_9 : decode cX5_worth 9 = .ok (.ifnull 17, 3) := by decide +kernel
theorem dX5_worth_12 : decode cX5_worth 12 = .ok (.iload_n 2, 1) := by decide +kernel
theorem dX5_worth_13 : decode cX5_worth 13 = .ok (.invokestatic 46, 3) := by decide +kernel
theorem dX5_worth_16 : decode cX5_worth 16 = .ok (.ifCond .eq 10, 3) := by decide +kernel
theorem dX5_worth_19 : decode cX5_worth 19 = .ok (.iload_n 3, 1) := by decide +kernel
theorem dX5_worth_20 : decode cX5_worth 20 = .ok (.invokestatic 83, 3) := by decide +kernel
theorem dX5_worth_23 : decode cX5_worth 23 = .ok (.ifCond .ne 5, 3) := by decide +kernel
theorem dX5_worth_26 : decode cX5_worth 26 = .ok (.iconst (-1), 1) := by decide +kernel
theorem dX5_worth_27 : decode cX5_worth 27 = .ok (.ireturn, 1) := by decide +kernel
theorem dX5_worth_28 : decode cX5_worth 28 = .ok (.aload 4, 2) := by decide +kernel
theorem dX5_worth_30 : decode cX5_worth 30 = .ok (.getfield 115, 3) := by decide +kernel
theorem dX5_worth_33 : decode cX5_worth 33 = .ok (.invokevirtual 67, 3) := by decide +kernel
theorem dX5_worth_36 : decode cX5_worth 36 = .ok (.bipush 8, 2) := by decide +kernel
theorem dX5_worth_38 : decode cX5_worth 38 = .ok (.if_icmp .lt 6, 3) := by decide +kernel
theorem dX5_worth_41 : decode cX5_worth 41 = .ok (.bipush (-3), 2) := by decide +kernel
theorem dX5_worth_43 : decode cX5_worth 43 = .ok (.ireturn, 1) := by decide +kernel
theorem dX5_worth_44 : decode cX5_worth 44 = .ok (.aload 4, 2) := by decide +kernel
theorem dX5_worth_46 : decode cX5_worth 46 = .ok (.getfield 115, 3) := by decide +kernel
theorem dX5_worth_49 : decode cX5_worth 49 = .ok (.new 118, 3) := by decide +kernel
theorem dX5_worth_52 : decode cX5_worth 52 = .ok (.dup, 1) := by decide +kernel
theorem dX5_worth_53 : decode cX5_worth 53 = .ok (.iload_n 2, 1) := by decide +kernel
theorem dX5_worth_54 : decode cX5_worth 54 = .ok (.aload 4, 2) := by decide +kernel
theorem dX5_worth_56 : decode cX5_worth 56 = .ok (.getfield 103, 3) := by decide +kernel
theorem dX5_worth_59 : decode cX5_worth 59 = .ok (.invokestatic 120, 3) := by decide +kernel
theorem dX5_worth_62 : decode cX5_worth 62 = .ok (.iload_n 3, 1) := by decide +kernel
theorem dX5_worth_63 : decode cX5_worth 63 = .ok (.invokespecial 126, 3) := by decide +kernel
theorem dX5_worth_66 : decode cX5_worth 66 = .ok (.invokevirtual 71, 3) := by decide +kernel
theorem dX5_worth_69 : decode cX5_worth 69 = .ok (.pop, 1) := by decide +kernel
theorem dX5_worth_70 : decode cX5_worth 70 = .ok (.aload 4, 2) := by decide +kernel
theorem dX5_worth_72 : decode cX5_worth 72 = .ok (.getfield 115, 3) := by decide +kernel
theorem dX5_worth_75 : decode cX5_worth 75 = .ok (.invokevirtual 67, 3) := by decide +kernel
theorem dX5_worth_78 : decode cX5_worth 78 = .ok (.ireturn, 1) := by decide +kernel
set_option maxRecDepth 20000 in
theorem ggX5_on_X5_houseAt : GoodIn wsX5_on wsX5_houseAt := goodIn_r _ [5, 6, 7, 8, 9, 10, 11, 12, 13, 14, 15, 16, 17, 18, 19, 20, 21, 22, 23, 24, 25, 26, 27, 28, 29, 30, 93, 94, 95, 96, 97, 98, 99, 100, 101, 102, 103, 104, 105, 106] (by decide +kernel) (by decide +kernel)
set_option maxRecDepth 20000 in
theorem gX5_on_X5_houseAt : GoodIn wsX5_on (wsV RX5 96 RX5 yX5_houseAt wsX5_houseAt) := goodIn_app (goodIn_of _ (by decide +kernel)) ggX5_on_X5_houseAt
set_option maxRecDepth 20000 in
theorem ggX5_on_X5_isDay : GoodIn wsX5_on wsX5_isDay := goodIn_r _ [33, 34, 35, 4, 36] (by decide +kernel) (by decide +kernel)
set_option maxRecDepth 20000 in
theorem gX5_on_X5_isDay : GoodIn wsX5_on (va_wsS RX5 46 yX5_isDay wsX5_isDay) := goodIn_app (goodIn_of _ (by decide +kernel)) ggX5_on_X5_isDay
set_option maxRecDepth 20000 in
theorem ggX5_on_X1_stateOn : GoodIn wsX5_on wsX1_stateOn := goodIn_r _ [41, 42, 43, 44, 45, 46, 47, 48, 49, 50, 40, 51, 52, 53, 54, 55, 56, 9, 10, 11, 12, 13, 57, 15, 16, 17, 18, 19, 20, 21, 22, 23, 24, 25, 26, 27, 28, 29, 30, 58, 59, 60, 61, 62, 63, 64, 65, 66, 67, 68, 69, 70, 35, 4, 36, 71, 72, 73, 74, 107, 108, 109, 110, 111, 112, 113, 114, 115, 116, 117, 104, 105, 106] (by decide +kernel) (by decide +kernel)
set_option maxRecDepth 20000 in
theorem gX5_on_X1_stateOn : GoodIn wsX5_on (wsV RX5 129 RX1 yX1_stateOn wsX1_stateOn) := goodIn_app (goodIn_of _ (by decide +kernel)) ggX5_on_X1_stateOn
set_option maxRecDepth 20000 in
theorem ggX5_on_X1_offencesCounted : GoodIn wsX5_on wsX1_offencesCounted := goodIn_r _ [61, 52, 53, 55, 54, 62, 56, 9, 10, 11, 12, 13, 57, 15, 16, 17, 18, 19, 20, 21, 22, 23, 24, 25, 26, 27, 28, 29, 30, 107, 108, 109, 110, 111, 112, 113, 114, 115, 116, 117, 104, 105, 106] (by decide +kernel) (by decide +kernel)
set_option maxRecDepth 20000 in
theorem gX5_on_X1_offencesCounted : GoodIn wsX5_on (wsV RX5 133 RX1 yX1_offencesCounted wsX1_offencesCounted) := goodIn_app (goodIn_of _ (by decide +kernel)) ggX5_on_X1_offencesCounted
set_option maxRecDepth 20000 in
theorem ggX5_on_X1_conditionOn : GoodIn wsX5_on wsX1_conditionOn := goodIn_r _ [79, 52, 53, 54, 55, 80, 56, 9, 10, 11, 12, 13, 57, 15, 16, 17, 18, 19, 20, 21, 22, 23, 24, 25, 26, 27, 28, 29, 30, 35, 4, 36, 107, 108, 109, 110, 111, 112, 113, 114, 115, 116, 117, 104, 105, 106] (by decide +kernel) (by decide +kernel)
set_option maxRecDepth 20000 in
theorem gX5_on_X1_conditionOn : GoodIn wsX5_on (wsV RX5 136 RX1 yX1_conditionOn wsX1_conditionOn) := goodIn_app (goodIn_of _ (by decide +kernel)) ggX5_on_X1_conditionOn
set_option maxRecDepth 20000 in
theorem ggX5_on_X1_worthOn : GoodIn wsX5_on wsX1_worthOn := goodIn_r _ [84, 85, 86, 87, 88, 89, 90, 91, 11, 92, 13, 57, 15, 16, 17, 18, 19, 20, 21, 22, 23, 24, 25, 26, 27, 28, 29, 30, 56, 9, 10, 12, 35, 4, 36, 107, 108, 109, 110, 111, 112, 113, 118, 119, 104, 105, 106] (by decide +kernel) (by decide +kernel)
set_option maxRecDepth 20000 in
theorem gX5_on_X1_worthOn : GoodIn wsX5_on (wsV RX5 139 RX1 yX1_worthOn wsX1_worthOn) := goodIn_app (goodIn_of _ (by decide +kernel)) ggX5_on_X1_worthOn
theorem dX5_on_0 : decode cX5_on 0 = .ok (.aload_n 0, 1) := by decide +kernel
theorem dX5_on_1 : decode cX5_on 1 = .ok (.iload_n 1, 1) := by decide +kernel
theorem dX5_on_2 : decode cX5_on 2 = .ok (.invokevirtual 96, 3) := by decide +kernel
theorem dX5_on_5 : decode cX5_on 5 = .ok (.astore 4, 2) := by decide +kernel
theorem dX5_on_7 : decode cX5_on 7 = .ok (.aload 4, 2) := by decide +kernel
theorem dX5_on_9 : decode cX5_on 9 = .ok (.ifnull 10, 3) := by decide +kernel
theorem dX5_on_12 : decode cX5_on 12 = .ok (.iload_n 2, 1) := by decide +kernel
theorem dX5_on_13 : decode cX5_on 13 = .ok (.invokestatic 46, 3) := by decide +kernel
theorem dX5_on_16 : decode cX5_on 16 = .ok (.ifCond .ne 5, 3) := by decide +kernel
theorem dX5_on_19 : decode cX5_on 19 = .ok (.iconst (-1), 1) := by decide +kernel
theorem dX5_on_20 : decode cX5_on 20 = .ok (.ireturn, 1) := by decide +kernel
theorem dX5_on_21 : decode cX5_on 21 = .ok (.iload_n 3, 1) := by decide +kernel
theorem dX5_on_22 : decode cX5_on 22 = .ok (.tableswitch 59 0 3 #[30, 37, 45, 52], 30) := by decide +kernel
theorem dX5_on_52 : decode cX5_on 52 = .ok (.aload 4, 2) := by decide +kernel
theorem dX5_on_54 : decode cX5_on 54 = .ok (.iload_n 2, 1) := by decide +kernel
theorem dX5_on_55 : decode cX5_on 55 = .ok (.invokevirtual 129, 3) := by decide +kernel
theorem dX5_on_58 : decode cX5_on 58 = .ok (.ireturn, 1) := by decide +kernel
theorem dX5_on_59 : decode cX5_on 59 = .ok (.aload 4, 2) := by decide +kernel
theorem dX5_on_61 : decode cX5_on 61 = .ok (.iload_n 2, 1) := by decide +kernel
theorem dX5_on_62 : decode cX5_on 62 = .ok (.iload_n 2, 1) := by decide +kernel
theorem dX5_on_63 : decode cX5_on 63 = .ok (.invokevirtual 133, 3) := by decide +kernel
theorem dX5_on_66 : decode cX5_on 66 = .ok (.ireturn, 1) := by decide +kernel
theorem dX5_on_67 : decode cX5_on 67 = .ok (.aload 4, 2) := by decide +kernel
theorem dX5_on_69 : decode cX5_on 69 = .ok (.iload_n 2, 1) := by decide +kernel
theorem dX5_on_70 : decode cX5_on 70 = .ok (.invokevirtual 136, 3) := by decide +kernel
theorem dX5_on_73 : decode cX5_on 73 = .ok (.ireturn, 1) := by decide +kernel
theorem dX5_on_74 : decode cX5_on 74 = .ok (.aload 4, 2) := by decide +kernel
theorem dX5_on_76 : decode cX5_on 76 = .ok (.iload_n 2, 1) := by decide +kernel
theorem dX5_on_77 : decode cX5_on 77 = .ok (.invokevirtual 139, 3) := by decide +kernel
theorem dX5_on_80 : decode cX5_on 80 = .ok (.ireturn, 1) := by decide +kernel
theorem dX5_on_81 : decode cX5_on 81 = .ok (.iconst (-1), 1) := by decide +kernel
theorem dX5_on_82 : decode cX5_on 82 = .ok (.ireturn, 1) := by decide +kernel
set_option maxRecDepth 20000 in
theorem ggX5_open_X5_houseAt : GoodIn wsX5_open wsX5_houseAt := goodIn_r _ [7, 8, 9, 10, 11, 12, 13, 14, 15, 16, 17, 18, 19, 20, 21, 22, 23, 24, 25, 26, 27, 28, 29, 30, 31, 32, 127, 128, 129, 130, 131, 132, 133, 134, 135, 136, 137, 138, 139, 140] (by decide +kernel) (by decide +kernel)
set_option maxRecDepth 20000 in
theorem gX5_open_X5_houseAt : GoodIn wsX5_open (wsV RX5 96 RX5 yX5_houseAt wsX5_houseAt) := goodIn_app (goodIn_of _ (by decide +kernel)) ggX5_open_X5_houseAt
set_option maxRecDepth 20000 in
theorem ggX5_open_X5_isDay : GoodIn wsX5_open wsX5_isDay := goodIn_r _ [35, 36, 37, 6, 38] (by decide +kernel) (by decide +kernel)
set_option maxRecDepth 20000 in
theorem gX5_open_X5_isDay : GoodIn wsX5_open (va_wsS RX5 46 yX5_isDay wsX5_isDay) := goodIn_app (goodIn_of _ (by decide +kernel)) ggX5_open_X5_isDay
set_option maxRecDepth 20000 in
theorem ggX5_open_X5_isIn : GoodIn wsX5_open wsX5_isIn := goodIn_r _ [38] (by decide +kernel) (by decide +kernel)
set_option maxRecDepth 20000 in
theorem gX5_open_X5_isIn : GoodIn wsX5_open (va_wsS RX5 59 yX5_isIn wsX5_isIn) := goodIn_app (goodIn_of _ (by decide +kernel)) ggX5_open_X5_isIn
set_option maxRecDepth 20000 in
theorem ggX5_open_X5_openOverMidnightUntil : GoodIn wsX5_open wsX5_openOverMidnightUntil := goodIn_r _ [42, 1, 43, 44, 45, 46, 47, 48, 49, 50, 51, 52, 53, 54, 55, 56, 57, 58, 11, 12, 13, 14, 15, 59, 17, 18, 19, 20, 21, 22, 23, 24, 25, 26, 27, 28, 29, 30, 31, 32, 37, 6, 38, 60, 61, 62, 63, 64, 65, 66, 67, 68, 69, 70, 71, 72, 73, 74, 75, 76, 77, 78, 79, 80, 81, 82, 83, 84, 85, 86, 87, 88, 89, 90, 91, 92, 93, 94, 95, 96, 97, 98, 99, 100, 101, 102, 103, 104, 105, 106, 107, 108, 109, 10, 16, 115, 116, 117, 118, 119, 120, 121, 122, 123, 124, 125, 126, 141, 142, 143, 144, 138, 139, 140, 127, 128, 129, 130, 131, 132, 133, 134, 135, 136, 137] (by decide +kernel) (by decide +kernel)
set_option maxRecDepth 20000 in
theorem gX5_open_X5_openOverMidnightUntil : GoodIn wsX5_open (wsV RX5 142 RX5 yX5_openOverMidnightUntil wsX5_openOverMidnightUntil) := goodIn_app (goodIn_of _ (by decide +kernel)) ggX5_open_X5_openOverMidnightUntil
set_option maxRecDepth 20000 in
theorem ggX5_open_X5_lawOf : GoodIn wsX5_open wsX5_lawOf := goodIn_r _ [97, 98, 99, 100, 101, 102, 103, 104, 105, 106, 6, 107, 108, 109, 10, 11, 12, 13, 14, 15, 16, 17, 18, 19, 20, 21, 22, 23, 24, 25, 26, 27, 28, 29, 30, 31, 32, 127, 128, 129, 130, 131, 132, 133, 134, 135, 136, 137, 122, 123, 124, 125, 126, 138, 139, 140] (by decide +kernel) (by decide +kernel)
set_option maxRecDepth 20000 in
theorem gX5_open_X5_lawOf : GoodIn wsX5_open (wsV RX5 149 RX5 yX5_lawOf wsX5_lawOf) := goodIn_app (goodIn_of _ (by decide +kernel)) ggX5_open_X5_lawOf
set_option maxRecDepth 20000 in
theorem ggX5_open_X5_openTodayUntil : GoodIn wsX5_open wsX5_openTodayUntil := goodIn_r _ [113, 1, 43, 114, 70, 46, 71, 60, 61, 62, 51, 63, 64, 65, 66, 67, 68, 69, 72, 73, 74, 75, 76, 53, 54, 55, 56, 58, 11, 12, 13, 14, 15, 59, 17, 18, 19, 20, 21, 22, 23, 24, 25, 26, 27, 28, 29, 30, 31, 32, 77, 78, 79, 80, 81, 82, 83, 84, 85, 86, 87, 88, 89, 37, 6, 38, 90, 91, 92, 93, 48, 49, 50, 52, 57, 94, 95, 96, 97, 98, 99, 100, 101, 102, 103, 104, 105, 106, 107, 108, 109, 10, 16, 115, 116, 117, 118, 119, 120, 121, 122, 123, 124, 125, 126, 141, 142, 143, 144, 138, 139, 140, 127, 128, 129, 130, 131, 132, 133, 134, 135, 136, 137] (by decide +kernel) (by decide +kernel)
set_option maxRecDepth 20000 in
theorem gX5_open_X5_openTodayUntil : GoodIn wsX5_open (wsV RX5 156 RX5 yX5_openTodayUntil wsX5_openTodayUntil) := goodIn_app (goodIn_of _ (by decide +kernel)) ggX5_open_X5_openTodayUntil
theorem dX5_open_0 : decode cX5_open 0 = .ok (.aload_n 0, 1) := by decide +kernel
theorem dX5_open_1 : decode cX5_open 1 = .ok (.iload_n 1, 1) := by decide +kernel
theorem dX5_open_2 : decode cX5_open 2 = .ok (.invokevirtual 96, 3) := by decide +kernel
theorem dX5_open_5 : decode cX5_open 5 = .ok (.astore 4, 2) := by decide +kernel
theorem dX5_open_7 : decode cX5_open 7 = .ok (.aload 4, 2) := by decide +kernel
theorem dX5_open_9 : decode cX5_open 9 = .ok (.ifnull 21, 3) := by decide +kernel
theorem dX5_open_12 : decode cX5_open 12 = .ok (.iload_n 2, 1) := by decide +kernel
theorem dX5_open_13 : decode cX5_open 13 = .ok (.invokestatic 46, 3) := by decide +kernel
theorem dX5_open_16 : decode cX5_open 16 = .ok (.ifCond .eq 14, 3) := by decide +kernel
theorem dX5_open_19 : decode cX5_open 19 = .ok (.iload_n 3, 1) := by decide +kernel
theorem dX5_open_20 : decode cX5_open 20 = .ok (.iconst 0, 1) := by decide +kernel
theorem dX5_open_21 : decode cX5_open 21 = .ok (.sipush 1439, 3) := by decide +kernel
theorem dX5_open_24 : decode cX5_open 24 = .ok (.invokestatic 59, 3) := by decide +kernel
theorem dX5_open_27 : decode cX5_open 27 = .ok (.ifCond .ne 5, 3) := by decide +kernel
theorem dX5_open_30 : decode cX5_open 30 = .ok (.iconst (-1), 1) := by decide +kernel
theorem dX5_open_31 : decode cX5_open 31 = .ok (.ireturn, 1) := by decide +kernel
theorem dX5_open_32 : decode cX5_open 32 = .ok (.iload_n 3, 1) := by decide +kernel
theorem dX5_open_33 : decode cX5_open 33 = .ok (.aload_n 0, 1) := by decide +kernel
theorem dX5_open_34 : decode cX5_open 34 = .ok (.aload 4, 2) := by decide +kernel
theorem dX5_open_36 : decode cX5_open 36 = .ok (.iload_n 2, 1) := by decide +kernel
theorem dX5_open_37 : decode cX5_open 37 = .ok (.invokevirtual 142, 3) := by decide +kernel
theorem dX5_open_40 : decode cX5_open 40 = .ok (.if_icmp .ge 5, 3) := by decide +kernel
theorem dX5_open_43 : decode cX5_open 43 = .ok (.iconst 1, 1) := by decide +kernel
theorem dX5_open_44 : decode cX5_open 44 = .ok (.ireturn, 1) := by decide +kernel
theorem dX5_open_45 : decode cX5_open 45 = .ok (.iload_n 3, 1) := by decide +kernel
theorem dX5_open_46 : decode cX5_open 46 = .ok (.aload_n 0, 1) := by decide +kernel
theorem dX5_open_47 : decode cX5_open 47 = .ok (.aload 4, 2) := by decide +kernel
theorem dX5_open_49 : decode cX5_open 49 = .ok (.getfield 146, 3) := by decide +kernel
theorem dX5_open_52 : decode cX5_open 52 = .ok (.iload_n 2, 1) := by decide +kernel
theorem dX5_open_53 : decode cX5_open 53 = .ok (.invokevirtual 149, 3) := by decide +kernel
theorem dX5_open_56 : decode cX5_open 56 = .ok (.getfield 153, 3) := by decide +kernel
theorem dX5_open_59 : decode cX5_open 59 = .ok (.if_icmp .lt 18, 3) := by decide +kernel
theorem dX5_open_62 : decode cX5_open 62 = .ok (.iload_n 3, 1) := by decide +kernel
theorem dX5_open_63 : decode cX5_open 63 = .ok (.aload_n 0, 1) := by decide +kernel
theorem dX5_open_64 : decode cX5_open 64 = .ok (.aload 4, 2) := by decide +kernel
theorem dX5_open_66 : decode cX5_open 66 = .ok (.iload_n 2, 1) := by decide +kernel
theorem dX5_open_67 : decode cX5_open 67 = .ok (.invokevirtual 156, 3) := by decide +kernel
theorem dX5_open_70 : decode cX5_open 70 = .ok (.if_icmp .ge 7, 3) := by decide +kernel
theorem dX5_open_73 : decode cX5_open 73 = .ok (.iconst 1, 1) := by decide +kernel
theorem dX5_open_74 : decode cX5_open 74 = .ok (.goto 4, 3) := by decide +kernel
theorem dX5_open_77 : decode cX5_open 77 = .ok (.iconst 0, 1) := by decide +kernel
theorem dX5_open_78 : decode cX5_open 78 = .ok (.ireturn, 1) := by decide +kernel
set_option maxRecDepth 20000 in
theorem ggX5_minutes_X5_houseAt : GoodIn wsX5_minutes wsX5_houseAt := goodIn_r _ [11, 12, 13, 14, 15, 16, 17, 18, 19, 20, 21, 22, 23, 24, 25, 26, 27, 28, 29, 30, 31, 32, 33, 34, 35, 36, 127, 128, 129, 130, 131, 132, 133, 134, 135, 136, 137, 138, 139, 140] (by decide +kernel) (by decide +kernel)
set_option maxRecDepth 20000 in
theorem gX5_minutes_X5_houseAt : GoodIn wsX5_minutes (wsV RX5 96 RX5 yX5_houseAt wsX5_houseAt) := goodIn_app (goodIn_of _ (by decide +kernel)) ggX5_minutes_X5_houseAt
set_option maxRecDepth 20000 in
theorem ggX5_minutes_X5_isDay : GoodIn wsX5_minutes wsX5_isDay := goodIn_r _ [39, 40, 41, 10, 42] (by decide +kernel) (by decide +kernel)
set_option maxRecDepth 20000 in
theorem gX5_minutes_X5_isDay : GoodIn wsX5_minutes (va_wsS RX5 46 yX5_isDay wsX5_isDay) := goodIn_app (goodIn_of _ (by decide +kernel)) ggX5_minutes_X5_isDay
set_option maxRecDepth 20000 in
theorem ggX5_minutes_X5_openOverMidnightUntil : GoodIn wsX5_minutes wsX5_openOverMidnightUntil := goodIn_r _ [46, 1, 47, 3, 4, 5, 6, 48, 49, 50, 51, 52, 53, 54, 55, 56, 57, 58, 15, 16, 17, 18, 19, 59, 21, 22, 23, 24, 25, 26, 27, 28, 29, 30, 31, 32, 33, 34, 35, 36, 41, 10, 42, 60, 61, 62, 63, 64, 65, 66, 67, 68, 69, 70, 71, 72, 73, 74, 75, 76, 77, 78, 79, 80, 81, 82, 83, 84, 85, 86, 87, 88, 89, 90, 91, 92, 93, 94, 95, 96, 97, 98, 99, 100, 101, 102, 103, 104, 105, 106, 107, 108, 109, 14, 20, 115, 116, 117, 118, 119, 120, 121, 122, 123, 124, 125, 126, 141, 142, 143, 144, 138, 139, 140, 127, 128, 129, 130, 131, 132, 133, 134, 135, 136, 137] (by decide +kernel) (by decide +kernel)
set_option maxRecDepth 20000 in
theorem gX5_minutes_X5_openOverMidnightUntil : GoodIn wsX5_minutes (wsV RX5 142 RX5 yX5_openOverMidnightUntil wsX5_openOverMidnightUntil) := goodIn_app (goodIn_of _ (by decide +kernel)) ggX5_minutes_X5_openOverMidnightUntil
set_option maxRecDepth 20000 in
theorem ggX5_minutes_X5_lawOf : GoodIn wsX5_minutes wsX5_lawOf := goodIn_r _ [97, 98, 99, 100, 101, 102, 103, 104, 105, 106, 10, 107, 108, 109, 14, 15, 16, 17, 18, 19, 20, 21, 22, 23, 24, 25, 26, 27, 28, 29, 30, 31, 32, 33, 34, 35, 36, 127, 128, 129, 130, 131, 132, 133, 134, 135, 136, 137, 122, 123, 124, 125, 126, 138, 139, 140] (by decide +kernel) (by decide +kernel)
set_option maxRecDepth 20000 in
theorem gX5_minutes_X5_lawOf : GoodIn wsX5_minutes (wsV RX5 149 RX5 yX5_lawOf wsX5_lawOf) := goodIn_app (goodIn_of _ (by decide +kernel)) ggX5_minutes_X5_lawOf
set_option maxRecDepth 20000 in
theorem ggX5_minutes_X5_openTodayUntil : GoodIn wsX5_minutes wsX5_openTodayUntil := goodIn_r _ [113, 1, 47, 114, 70, 5, 71, 60, 61, 62, 51, 63, 64, 65, 66, 67, 68, 69, 72, 73, 74, 75, 76, 53, 54, 55, 56, 58, 15, 16, 17, 18, 19, 59, 21, 22, 23, 24, 25, 26, 27, 28, 29, 30, 31, 32, 33, 34, 35, 36, 77, 78, 79, 80, 81, 82, 83, 84, 85, 86, 87, 88, 89, 41, 10, 42, 90, 91, 92, 93, 48, 49, 50, 52, 57, 94, 95, 96, 97, 98, 99, 100, 101, 102, 103, 104, 105, 106, 107, 108, 109, 14, 20, 115, 116, 117, 118, 119, 120, 121, 122, 123, 124, 125, 126, 141, 142, 143, 144, 138, 139, 140, 127, 128, 129, 130, 131, 132, 133, 134, 135, 136, 137] (by decide +kernel) (by decide +kernel)
set_option maxRecDepth 20000 in
theorem gX5_minutes_X5_openTodayUntil : GoodIn wsX5_minutes (wsV RX5 156 RX5 yX5_openTodayUntil wsX5_openTodayUntil) := goodIn_app (goodIn_of _ (by decide +kernel)) ggX5_minutes_X5_openTodayUntil
theorem dX5_minutes_0 : decode cX5_minutes 0 = .ok (.aload_n 0, 1) := by decide +kernel
theorem dX5_minutes_1 : decode cX5_minutes 1 = .ok (.iload_n 1, 1) := by decide +kernel
theorem dX5_minutes_2 : decode cX5_minutes 2 = .ok (.invokevirtual 96, 3) := by decide +kernel
theorem dX5_minutes_5 : decode cX5_minutes 5 = .ok (.astore_n 3, 1) := by decide +kernel
theorem dX5_minutes_6 : decode cX5_minutes 6 = .ok (.aload_n 3, 1) := by decide +kernel
theorem dX5_minutes_7 : decode cX5_minutes 7 = .ok (.ifnull 10, 3) := by decide +kernel
theorem dX5_minutes_10 : decode cX5_minutes 10 = .ok (.iload_n 2, 1) := by decide +kernel
theorem dX5_minutes_11 : decode cX5_minutes 11 = .ok (.invokestatic 46, 3) := by decide +kernel
theorem dX5_minutes_14 : decode cX5_minutes 14 = .ok (.ifCond .ne 5, 3) := by decide +kernel
theorem dX5_minutes_17 : decode cX5_minutes 17 = .ok (.iconst (-1), 1) := by decide +kernel
theorem dX5_minutes_18 : decode cX5_minutes 18 = .ok (.ireturn, 1) := by decide +kernel
theorem dX5_minutes_19 : decode cX5_minutes 19 = .ok (.aload_n 0, 1) := by decide +kernel
theorem dX5_minutes_20 : decode cX5_minutes 20 = .ok (.aload_n 3, 1) := by decide +kernel
theorem dX5_minutes_21 : decode cX5_minutes 21 = .ok (.iload_n 2, 1) := by decide +kernel
theorem dX5_minutes_22 : decode cX5_minutes 22 = .ok (.invokevirtual 142, 3) := by decide +kernel
theorem dX5_minutes_25 : decode cX5_minutes 25 = .ok (.istore 4, 2) := by decide +kernel
theorem dX5_minutes_27 : decode cX5_minutes 27 = .ok (.aload_n 0, 1) := by decide +kernel
theorem dX5_minutes_28 : decode cX5_minutes 28 = .ok (.aload_n 3, 1) := by decide +kernel
theorem dX5_minutes_29 : decode cX5_minutes 29 = .ok (.getfield 146, 3) := by decide +kernel
theorem dX5_minutes_32 : decode cX5_minutes 32 = .ok (.iload_n 2, 1) := by decide +kernel
theorem dX5_minutes_33 : decode cX5_minutes 33 = .ok (.invokevirtual 149, 3) := by decide +kernel
theorem dX5_minutes_36 : decode cX5_minutes 36 = .ok (.getfield 153, 3) := by decide +kernel
theorem dX5_minutes_39 : decode cX5_minutes 39 = .ok (.iload 4, 2) := by decide +kernel
theorem dX5_minutes_41 : decode cX5_minutes 41 = .ok (.invokestatic 120, 3) := by decide +kernel
theorem dX5_minutes_44 : decode cX5_minutes 44 = .ok (.istore 5, 2) := by decide +kernel
theorem dX5_minutes_46 : decode cX5_minutes 46 = .ok (.iload 4, 2) := by decide +kernel
theorem dX5_minutes_48 : decode cX5_minutes 48 = .ok (.iconst 0, 1) := by decide +kernel
theorem dX5_minutes_49 : decode cX5_minutes 49 = .ok (.aload_n 0, 1) := by decide +kernel
theorem dX5_minutes_50 : decode cX5_minutes 50 = .ok (.aload_n 3, 1) := by decide +kernel
theorem dX5_minutes_51 : decode cX5_minutes 51 = .ok (.iload_n 2, 1) := by decide +kernel
theorem dX5_minutes_52 : decode cX5_minutes 52 = .ok (.invokevirtual 156, 3) := by decide +kernel
theorem dX5_minutes_55 : decode cX5_minutes 55 = .ok (.iload 5, 2) := by decide +kernel
theorem dX5_minutes_57 : decode cX5_minutes 57 = .ok (.isub, 1) := by decide +kernel
theorem dX5_minutes_58 : decode cX5_minutes 58 = .ok (.invokestatic 120, 3) := by decide +kernel
theorem dX5_minutes_61 : decode cX5_minutes 61 = .ok (.iadd, 1) := by decide +kernel
theorem dX5_minutes_62 : decode cX5_minutes 62 = .ok (.ireturn, 1) := by decide +kernel
set_option maxRecDepth 20000 in
theorem ggX5_lawOn_X5_isKind : GoodIn wsX5_lawOn wsX5_isKind := goodIn_r _ [6, 7, 8, 5, 9] (by decide +kernel) (by decide +kernel)
set_option maxRecDepth 20000 in
theorem gX5_lawOn_X5_isKind : GoodIn wsX5_lawOn (va_wsS RX5 56 yX5_isKind wsX5_isKind) := goodIn_app (goodIn_of _ (by decide +kernel)) ggX5_lawOn_X5_isKind
set_option maxRecDepth 20000 in
theorem ggX5_lawOn_X5_isDay : GoodIn wsX5_lawOn wsX5_isDay := goodIn_r _ [12, 7, 8, 5, 9] (by decide +kernel) (by decide +kernel)
set_option maxRecDepth 20000 in
theorem gX5_lawOn_X5_isDay : GoodIn wsX5_lawOn (va_wsS RX5 46 yX5_isDay wsX5_isDay) := goodIn_app (goodIn_of _ (by decide +kernel)) ggX5_lawOn_X5_isDay
set_option maxRecDepth 20000 in
theorem ggX5_lawOn_X5_isIn : GoodIn wsX5_lawOn wsX5_isIn := goodIn_r _ [9] (by decide +kernel) (by decide +kernel)
set_option maxRecDepth 20000 in
theorem gX5_lawOn_X5_isIn : GoodIn wsX5_lawOn (va_wsS RX5 59 yX5_isIn wsX5_isIn) := goodIn_app (goodIn_of _ (by decide +kernel)) ggX5_lawOn_X5_isIn
set_option maxRecDepth 20000 in
theorem ggX5_lawOn_X5_lawOf : GoodIn wsX5_lawOn wsX5_lawOf := goodIn_r _ [16, 17, 18, 19, 20, 21, 22, 23, 24, 25, 5, 26, 27, 28, 29, 30, 31, 32, 33, 34, 35, 36, 37, 38, 39, 40, 41, 42, 43, 44, 45, 46, 47, 48, 49, 50, 51, 57, 58, 59, 60, 61, 62, 63, 64, 65, 66, 67, 52, 53, 54, 55, 56, 68, 69, 70] (by decide +kernel) (by decide +kernel)
set_option maxRecDepth 20000 in
theorem gX5_lawOn_X5_lawOf : GoodIn wsX5_lawOn (wsV RX5 149 RX5 yX5_lawOf wsX5_lawOf) := goodIn_app (goodIn_of _ (by decide +kernel)) ggX5_lawOn_X5_lawOf
theorem dX5_lawOn_0 : decode cX5_lawOn 0 = .ok (.iload_n 1, 1) := by decide +kernel
theorem dX5_lawOn_1 : decode cX5_lawOn 1 = .ok (.invokestatic 56, 3) := by decide +kernel
theorem dX5_lawOn_4 : decode cX5_lawOn 4 = .ok (.ifCond .eq 19, 3) := by decide +kernel
theorem dX5_lawOn_7 : decode cX5_lawOn 7 = .ok (.iload_n 2, 1) := by decide +kernel
theorem dX5_lawOn_8 : decode cX5_lawOn 8 = .ok (.invokestatic 46, 3) := by decide +kernel
theorem dX5_lawOn_11 : decode cX5_lawOn 11 = .ok (.ifCond .eq 12, 3) := by decide +kernel
theorem dX5_lawOn_14 : decode cX5_lawOn 14 = .ok (.iload_n 3, 1) := by decide +kernel
theorem dX5_lawOn_15 : decode cX5_lawOn 15 = .ok (.iconst 0, 1) := by decide +kernel
theorem dX5_lawOn_16 : decode cX5_lawOn 16 = .ok (.iconst 1, 1) := by decide +kernel
theorem dX5_lawOn_17 : decode cX5_lawOn 17 = .ok (.invokestatic 59, 3) := by decide +kernel
theorem dX5_lawOn_20 : decode cX5_lawOn 20 = .ok (.ifCond .ne 5, 3) := by decide +kernel
theorem dX5_lawOn_23 : decode cX5_lawOn 23 = .ok (.iconst (-1), 1) := by decide +kernel
theorem dX5_lawOn_24 : decode cX5_lawOn 24 = .ok (.ireturn, 1) := by decide +kernel
theorem dX5_lawOn_25 : decode cX5_lawOn 25 = .ok (.aload_n 0, 1) := by decide +kernel
theorem dX5_lawOn_26 : decode cX5_lawOn 26 = .ok (.iload_n 1, 1) := by decide +kernel
theorem dX5_lawOn_27 : decode cX5_lawOn 27 = .ok (.iload_n 2, 1) := by decide +kernel
theorem dX5_lawOn_28 : decode cX5_lawOn 28 = .ok (.invokevirtual 149, 3) := by decide +kernel
theorem dX5_lawOn_31 : decode cX5_lawOn 31 = .ok (.astore 4, 2) := by decide +kernel
theorem dX5_lawOn_33 : decode cX5_lawOn 33 = .ok (.iload_n 3, 1) := by decide +kernel
theorem dX5_lawOn_34 : decode cX5_lawOn 34 = .ok (.ifCond .ne 11, 3) := by decide +kernel
theorem dX5_lawOn_37 : decode cX5_lawOn 37 = .ok (.aload 4, 2) := by decide +kernel
theorem dX5_lawOn_39 : decode cX5_lawOn 39 = .ok (.getfield 153, 3) := by decide +kernel
theorem dX5_lawOn_42 : decode cX5_lawOn 42 = .ok (.goto 8, 3) := by decide +kernel
theorem dX5_lawOn_45 : decode cX5_lawOn 45 = .ok (.aload 4, 2) := by decide +kernel
theorem dX5_lawOn_47 : decode cX5_lawOn 47 = .ok (.getfield 159, 3) := by decide +kernel
theorem dX5_lawOn_50 : decode cX5_lawOn 50 = .ok (.ireturn, 1) := by decide +kernel
set_option maxRecDepth 20000 in
theorem ggX5_owes_X5_houseAt : GoodIn wsX5_owes wsX5_houseAt := goodIn_r _ [7, 8, 9, 10, 11, 12, 13, 14, 15, 16, 17, 18, 19, 20, 21, 22, 23, 24, 25, 26, 27, 28, 29, 30, 31, 32, 98, 99, 100, 101, 102, 103, 104, 105, 106, 107, 108, 109, 110, 111] (by decide +kernel) (by decide +kernel)
set_option maxRecDepth 20000 in
theorem gX5_owes_X5_houseAt : GoodIn wsX5_owes (wsV RX5 96 RX5 yX5_houseAt wsX5_houseAt) := goodIn_app (goodIn_of _ (by decide +kernel)) ggX5_owes_X5_houseAt
set_option maxRecDepth 20000 in
theorem ggX5_owes_X1_surplusFrom : GoodIn wsX5_owes wsX1_surplusFrom := goodIn_r _ [37, 38, 39, 40, 41, 42, 43, 44, 45, 46, 47, 11, 12, 13, 14, 15, 48, 17, 18, 19, 20, 21, 22, 23, 24, 25, 26, 27, 28, 29, 30, 31, 32, 112, 113, 114, 115, 116, 117, 118, 119, 120, 121, 122, 109, 110, 111] (by decide +kernel) (by decide +kernel)
set_option maxRecDepth 20000 in
theorem gX5_owes_X1_surplusFrom : GoodIn wsX5_owes (wsV RX5 162 RX1 yX1_surplusFrom wsX1_surplusFrom) := goodIn_app (goodIn_of _ (by decide +kernel)) ggX5_owes_X1_surplusFrom
set_option maxRecDepth 20000 in
theorem ggX5_owes_X1_hasLicence : GoodIn wsX5_owes wsX1_hasLicence := goodIn_r _ [52, 53, 54, 55, 36, 56, 57, 43, 44, 45, 46, 38, 58, 59, 60, 61, 39, 40, 41, 42, 47, 11, 12, 13, 14, 15, 48, 17, 18, 19, 20, 21, 22, 23, 24, 25, 26, 27, 28, 29, 30, 31, 32, 62, 63, 64, 65, 66, 67, 68, 69, 70, 71, 72, 73, 74, 75, 6, 76, 77, 34, 35, 37, 112, 113, 114, 115, 116, 117, 118, 119, 120, 121, 122, 109, 110, 111] (by decide +kernel) (by decide +kernel)
set_option maxRecDepth 20000 in
theorem gX5_owes_X1_hasLicence : GoodIn wsX5_owes (wsV RX5 166 RX1 yX1_hasLicence wsX1_hasLicence) := goodIn_app (goodIn_of _ (by decide +kernel)) ggX5_owes_X1_hasLicence
set_option maxRecDepth 20000 in
theorem ggX5_owes_X1_worthOn : GoodIn wsX5_owes wsX1_worthOn := goodIn_r _ [81, 82, 83, 84, 85, 86, 87, 88, 13, 89, 15, 48, 17, 18, 19, 20, 21, 22, 23, 24, 25, 26, 27, 28, 29, 30, 31, 32, 47, 11, 12, 14, 75, 6, 76, 112, 113, 114, 115, 116, 117, 118, 123, 124, 109, 110, 111] (by decide +kernel) (by decide +kernel)
set_option maxRecDepth 20000 in
theorem gX5_owes_X1_worthOn : GoodIn wsX5_owes (wsV RX5 139 RX1 yX1_worthOn wsX1_worthOn) := goodIn_app (goodIn_of _ (by decide +kernel)) ggX5_owes_X1_worthOn
set_option maxRecDepth 20000 in
theorem ggX5_owes_X5_partOf : GoodIn wsX5_owes wsX5_partOf := goodIn_r _ [93, 8, 9, 94, 95, 96, 6, 97, 10, 11, 12, 13, 14, 15, 16, 17, 18, 19, 20, 21, 22, 23, 24, 25, 26, 27, 28, 29, 30, 31, 32, 49, 50, 51, 36, 52, 53, 54, 55, 56, 57, 43, 44, 45, 46, 38, 58, 59, 60, 61, 39, 40, 41, 42, 47, 48, 62, 63, 64, 65, 66, 67, 68, 69, 70, 71, 72, 73, 74, 75, 76, 77, 34, 35, 37, 78, 79, 80, 81, 82, 83, 84, 85, 86, 87, 88, 89, 98, 99, 100, 101, 102, 103, 104, 105, 106, 107, 108, 109, 110, 111, 112, 113, 114, 115, 116, 117, 118, 119, 120, 121, 122, 123, 124] (by decide +kernel) (by decide +kernel)
set_option maxRecDepth 20000 in
theorem gX5_owes_X5_partOf : GoodIn wsX5_owes (wsV RX5 171 RX5 yX5_partOf wsX5_partOf) := goodIn_app (goodIn_of _ (by decide +kernel)) ggX5_owes_X5_partOf
theorem dX5_owes_0 : decode cX5_owes 0 = .ok (.aload_n 0, 1) := by decide +kernel
theorem dX5_owes_1 : decode cX5_owes 1 = .ok (.iload_n 1, 1) := by decide +kernel
theorem dX5_owes_2 : decode cX5_owes 2 = .ok (.invokevirtual 96, 3) := by decide +kernel
theorem dX5_owes_5 : decode cX5_owes 5 = .ok (.astore_n 3, 1) := by decide +kernel
theorem dX5_owes_6 : decode cX5_owes 6 = .ok (.aload_n 0, 1) := by decide +kernel
theorem dX5_owes_7 : decode cX5_owes 7 = .ok (.iload_n 2, 1) := by decide +kernel
theorem dX5_owes_8 : decode cX5_owes 8 = .ok (.invokevirtual 96, 3) := by decide +kernel
theorem dX5_owes_11 : decode cX5_owes 11 = .ok (.astore 4, 2) := by decide +kernel
theorem dX5_owes_13 : decode cX5_owes 13 = .ok (.aload_n 3, 1) := by decide +kernel
theorem dX5_owes_14 : decode cX5_owes 14 = .ok (.ifnull 8, 3) := by decide +kernel
theorem dX5_owes_17 : decode cX5_owes 17 = .ok (.aload 4, 2) := by decide +kernel
theorem dX5_owes_19 : decode cX5_owes 19 = .ok (.ifnonnull 5, 3) := by decide +kernel
theorem dX5_owes_22 : decode cX5_owes 22 = .ok (.iconst (-1), 1) := by decide +kernel
theorem dX5_owes_23 : decode cX5_owes 23 = .ok (.ireturn, 1) := by decide +kernel
theorem dX5_owes_24 : decode cX5_owes 24 = .ok (.aload 4, 2) := by decide +kernel
theorem dX5_owes_26 : decode cX5_owes 26 = .ok (.sipush 3999, 3) := by decide +kernel
theorem dX5_owes_29 : decode cX5_owes 29 = .ok (.invokevirtual 162, 3) := by decide +kernel
theorem dX5_owes_32 : decode cX5_owes 32 = .ok (.istore 5, 2) := by decide +kernel
theorem dX5_owes_34 : decode cX5_owes 34 = .ok (.iload 5, 2) := by decide +kernel
theorem dX5_owes_36 : decode cX5_owes 36 = .ok (.ldc 165, 2) := by decide +kernel
theorem dX5_owes_38 : decode cX5_owes 38 = .ok (.if_icmp .ne 6, 3) := by decide +kernel
theorem dX5_owes_41 : decode cX5_owes 41 = .ok (.bipush (-2), 2) := by decide +kernel
theorem dX5_owes_43 : decode cX5_owes 43 = .ok (.ireturn, 1) := by decide +kernel
theorem dX5_owes_44 : decode cX5_owes 44 = .ok (.iload_n 1, 1) := by decide +kernel
theorem dX5_owes_45 : decode cX5_owes 45 = .ok (.iload_n 2, 1) := by decide +kernel
theorem dX5_owes_46 : decode cX5_owes 46 = .ok (.if_icmp .eq 12, 3) := by decide +kernel
theorem dX5_owes_49 : decode cX5_owes 49 = .ok (.aload_n 3, 1) := by decide +kernel
theorem dX5_owes_50 : decode cX5_owes 50 = .ok (.iload 5, 2) := by decide +kernel
theorem dX5_owes_52 : decode cX5_owes 52 = .ok (.invokevirtual 166, 3) := by decide +kernel
theorem dX5_owes_55 : decode cX5_owes 55 = .ok (.ifCond .ne 5, 3) := by decide +kernel
theorem dX5_owes_58 : decode cX5_owes 58 = .ok (.iconst 0, 1) := by decide +kernel
theorem dX5_owes_59 : decode cX5_owes 59 = .ok (.ireturn, 1) := by decide +kernel
theorem dX5_owes_60 : decode cX5_owes 60 = .ok (.aload_n 0, 1) := by decide +kernel
theorem dX5_owes_61 : decode cX5_owes 61 = .ok (.iload_n 1, 1) := by decide +kernel
theorem dX5_owes_62 : decode cX5_owes 62 = .ok (.aload_n 3, 1) := by decide +kernel
theorem dX5_owes_63 : decode cX5_owes 63 = .ok (.iload 5, 2) := by decide +kernel
theorem dX5_owes_65 : decode cX5_owes 65 = .ok (.invokevirtual 139, 3) := by decide +kernel
theorem dX5_owes_68 : decode cX5_owes 68 = .ok (.iload 5, 2) := by decide +kernel
theorem dX5_owes_70 : decode cX5_owes 70 = .ok (.aload 4, 2) := by decide +kernel
theorem dX5_owes_72 : decode cX5_owes 72 = .ok (.iload 5, 2) := by decide +kernel
theorem dX5_owes_74 : decode cX5_owes 74 = .ok (.invokevirtual 139, 3) := by decide +kernel
theorem dX5_owes_77 : decode cX5_owes 77 = .ok (.i2l, 1) := by decide +kernel
theorem dX5_owes_78 : decode cX5_owes 78 = .ok (.ldc2_w 169, 3) := by decide +kernel
theorem dX5_owes_81 : decode cX5_owes 81 = .ok (.lmul, 1) := by decide +kernel
theorem dX5_owes_82 : decode cX5_owes 82 = .ok (.invokevirtual 171, 3) := by decide +kernel
theorem dX5_owes_85 : decode cX5_owes 85 = .ok (.ireturn, 1) := by decide +kernel
set_option maxRecDepth 20000 in
theorem ggX5_visit_X5_isDay : GoodIn wsX5_visit wsX5_isDay := goodIn_r _ [7, 8, 9, 6, 10] (by decide +kernel) (by decide +kernel)
set_option maxRecDepth 20000 in
theorem gX5_visit_X5_isDay : GoodIn wsX5_visit (va_wsS RX5 46 yX5_isDay wsX5_isDay) := goodIn_app (goodIn_of _ (by decide +kernel)) ggX5_visit_X5_isDay
set_option maxRecDepth 20000 in
theorem ggX5_visit_X5_anyLicence : GoodIn wsX5_visit wsX5_anyLicence := goodIn_r _ [14, 15, 16, 17, 18, 19, 20, 21, 22, 23, 24, 25, 26, 27, 28, 29, 30, 31, 32, 33, 34, 35, 36, 37, 38, 39, 40, 41, 42, 43, 44, 45, 46, 47, 48, 49, 50, 51, 52, 53, 54, 55, 56, 57, 58, 59, 60, 61, 62, 63, 64, 65, 66, 67, 68, 69, 70, 71, 72, 73, 74, 75, 76, 77, 9, 6, 10, 78, 79, 80, 81, 96, 97, 98, 99, 100, 101, 102, 103, 104, 105, 106, 107, 108, 109, 110, 111, 112, 113, 114, 115, 116, 117, 118, 119, 120] (by decide +kernel) (by decide +kernel)
set_option maxRecDepth 20000 in
theorem gX5_visit_X5_anyLicence : GoodIn wsX5_visit (wsV RX5 175 RX5 yX5_anyLicence wsX5_anyLicence) := goodIn_app (goodIn_of _ (by decide +kernel)) ggX5_visit_X5_anyLicence
set_option maxRecDepth 20000 in
theorem ggX5_visit_X5_unvisitedOn : GoodIn wsX5_visit wsX5_unvisitedOn := goodIn_r _ [85, 15, 16, 86, 17, 18, 19, 20, 21, 22, 23, 24, 25, 26, 27, 28, 29, 30, 31, 32, 33, 34, 35, 36, 37, 38, 39, 40, 41, 42, 43, 44, 45, 46, 47, 48, 49, 50, 51, 52, 53, 54, 55, 56, 57, 58, 59, 60, 61, 62, 63, 64, 65, 66, 67, 68, 69, 70, 71, 72, 73, 74, 75, 76, 77, 9, 6, 10, 78, 79, 80, 81, 96, 97, 98, 99, 100, 101, 102, 103, 104, 105, 106, 110, 111, 112, 113, 114, 115, 116, 107, 108, 109, 117, 118, 119, 120] (by decide +kernel) (by decide +kernel)
set_option maxRecDepth 20000 in
theorem gX5_visit_X5_unvisitedOn : GoodIn wsX5_visit (wsV RX5 178 RX5 yX5_unvisitedOn wsX5_unvisitedOn) := goodIn_app (goodIn_of _ (by decide +kernel)) ggX5_visit_X5_unvisitedOn
set_option maxRecDepth 20000 in
theorem ggX5_visit_X5_beginRound : GoodIn wsX5_visit wsX5_beginRound := goodIn_r _ [90, 15, 16, 86, 91, 17, 18, 19, 20, 21, 22, 23, 24, 25, 26, 27, 28, 29, 30, 31, 32, 33, 34, 35, 36, 37, 38, 39, 96, 97, 98, 99, 100, 101, 102, 103, 104, 105, 106, 110, 111, 112, 113, 114, 115, 116, 107, 108, 109] (by decide +kernel) (by decide +kernel)
set_option maxRecDepth 20000 in
theorem gX5_visit_X5_beginRound : GoodIn wsX5_visit (wsV RX5 181 RX5 yX5_beginRound wsX5_beginRound) := goodIn_app (goodIn_of _ (by decide +kernel)) ggX5_visit_X5_beginRound
set_option maxRecDepth 20000 in
theorem ggX5_visit_X5_visitUnvisited : GoodIn wsX5_visit wsX5_visitUnvisited := goodIn_r _ [95, 15, 16, 86, 91, 17, 18, 19, 20, 21, 22, 23, 24, 25, 26, 27, 28, 29, 30, 31, 32, 33, 34, 35, 36, 37, 38, 39, 40, 41, 42, 43, 44, 45, 46, 47, 48, 49, 50, 51, 52, 53, 54, 55, 56, 57, 58, 59, 60, 61, 62, 63, 64, 65, 66, 67, 68, 69, 70, 71, 72, 73, 74, 75, 76, 77, 9, 6, 10, 78, 79, 80, 81, 96, 97, 98, 99, 100, 101, 102, 103, 104, 105, 106, 110, 111, 112, 113, 114, 115, 116, 107, 108, 109, 117, 118, 119, 120] (by decide +kernel) (by decide +kernel)
set_option maxRecDepth 20000 in
theorem gX5_visit_X5_visitUnvisited : GoodIn wsX5_visit (wsV RX5 188 RX5 yX5_visitUnvisited wsX5_visitUnvisited) := goodIn_app (goodIn_of _ (by decide +kernel)) ggX5_visit_X5_visitUnvisited
theorem dX5_visit_0 : decode cX5_visit 0 = .ok (.iload_n 1, 1) := by decide +kernel
theorem dX5_visit_1 : decode cX5_visit 1 = .ok (.invokestatic 46, 3) := by decide +kernel
theorem dX5_visit_4 : decode cX5_visit 4 = .ok (.ifCond .ne 5, 3) := by decide +kernel
theorem dX5_visit_7 : decode cX5_visit 7 = .ok (.iconst (-1), 1) := by decide +kernel
theorem dX5_visit_8 : decode cX5_visit 8 = .ok (.ireturn, 1) := by decide +kernel
theorem dX5_visit_9 : decode cX5_visit 9 = .ok (.aload_n 0, 1) := by decide +kernel
theorem dX5_visit_10 : decode cX5_visit 10 = .ok (.iload_n 1, 1) := by decide +kernel
theorem dX5_visit_11 : decode cX5_visit 11 = .ok (.invokevirtual 175, 3) := by decide +kernel
theorem dX5_visit_14 : decode cX5_visit 14 = .ok (.ifCond .ne 6, 3) := by decide +kernel
theorem dX5_visit_17 : decode cX5_visit 17 = .ok (.bipush (-2), 2) := by decide +kernel
theorem dX5_visit_19 : decode cX5_visit 19 = .ok (.ireturn, 1) := by decide +kernel
theorem dX5_visit_20 : decode cX5_visit 20 = .ok (.aload_n 0, 1) := by decide +kernel
theorem dX5_visit_21 : decode cX5_visit 21 = .ok (.iload_n 1, 1) := by decide +kernel
theorem dX5_visit_22 : decode cX5_visit 22 = .ok (.invokevirtual 178, 3) := by decide +kernel
theorem dX5_visit_25 : decode cX5_visit 25 = .ok (.ifCond .ne 7, 3) := by decide +kernel
theorem dX5_visit_28 : decode cX5_visit 28 = .ok (.aload_n 0, 1) := by decide +kernel
theorem dX5_visit_29 : decode cX5_visit 29 = .ok (.invokevirtual 181, 3) := by decide +kernel
theorem dX5_visit_32 : decode cX5_visit 32 = .ok (.aload_n 0, 1) := by decide +kernel
theorem dX5_visit_33 : decode cX5_visit 33 = .ok (.iload_n 1, 1) := by decide +kernel
theorem dX5_visit_34 : decode cX5_visit 34 = .ok (.invokevirtual 178, 3) := by decide +kernel
theorem dX5_visit_37 : decode cX5_visit 37 = .ok (.istore_n 2, 1) := by decide +kernel
theorem dX5_visit_38 : decode cX5_visit 38 = .ok (.iload_n 2, 1) := by decide +kernel
theorem dX5_visit_39 : decode cX5_visit 39 = .ok (.ifCond .gt 6, 3) := by decide +kernel
theorem dX5_visit_42 : decode cX5_visit 42 = .ok (.bipush (-2), 2) := by decide +kernel
theorem dX5_visit_44 : decode cX5_visit 44 = .ok (.ireturn, 1) := by decide +kernel
theorem dX5_visit_45 : decode cX5_visit 45 = .ok (.aload_n 0, 1) := by decide +kernel
theorem dX5_visit_46 : decode cX5_visit 46 = .ok (.aload_n 0, 1) := by decide +kernel
theorem dX5_visit_47 : decode cX5_visit 47 = .ok (.getfield 42, 3) := by decide +kernel
theorem dX5_visit_50 : decode cX5_visit 50 = .ok (.ldc2_w 184, 3) := by decide +kernel
theorem dX5_visit_53 : decode cX5_visit 53 = .ok (.lmul, 1) := by decide +kernel
theorem dX5_visit_54 : decode cX5_visit 54 = .ok (.ldc2_w 186, 3) := by decide +kernel
theorem dX5_visit_57 : decode cX5_visit 57 = .ok (.lrem, 1) := by decide +kernel
theorem dX5_visit_58 : decode cX5_visit 58 = .ok (.putfield 42, 3) := by decide +kernel
theorem dX5_visit_61 : decode cX5_visit 61 = .ok (.aload_n 0, 1) := by decide +kernel
theorem dX5_visit_62 : decode cX5_visit 62 = .ok (.iload_n 1, 1) := by decide +kernel
theorem dX5_visit_63 : decode cX5_visit 63 = .ok (.aload_n 0, 1) := by decide +kernel
theorem dX5_visit_64 : decode cX5_visit 64 = .ok (.getfield 42, 3) := by decide +kernel
theorem dX5_visit_67 : decode cX5_visit 67 = .ok (.iload_n 2, 1) := by decide +kernel
theorem dX5_visit_68 : decode cX5_visit 68 = .ok (.i2l, 1) := by decide +kernel
theorem dX5_visit_69 : decode cX5_visit 69 = .ok (.lrem, 1) := by decide +kernel
theorem dX5_visit_70 : decode cX5_visit 70 = .ok (.l2i, 1) := by decide +kernel
theorem dX5_visit_71 : decode cX5_visit 71 = .ok (.invokevirtual 188, 3) := by decide +kernel
theorem dX5_visit_74 : decode cX5_visit 74 = .ok (.ireturn, 1) := by decide +kernel
set_option maxRecDepth 20000 in
theorem ggX5_seed_X5_beginRound : GoodIn wsX5_seed wsX5_beginRound := goodIn_r _ [7, 8, 9, 10, 11, 12, 13, 14, 15, 16, 17, 18, 19, 20, 21, 22, 23, 24, 25, 26, 27, 28, 29, 30, 31, 32, 33, 34, 35, 36, 37, 38, 39, 40, 41, 42, 43, 44, 45, 46, 47, 48, 49, 50, 51, 52, 53, 54, 55] (by decide +kernel) (by decide +kernel)
set_option maxRecDepth 20000 in
theorem gX5_seed_X5_beginRound : GoodIn wsX5_seed (wsV RX5 181 RX5 yX5_beginRound wsX5_beginRound) := goodIn_app (goodIn_of _ (by decide +kernel)) ggX5_seed_X5_beginRound
theorem dX5_seed_0 : decode cX5_seed 0 = .ok (.iload_n 1, 1) := by decide +kernel
theorem dX5_seed_1 : decode cX5_seed 1 = .ok (.iconst 1, 1) := by decide +kernel
theorem dX5_seed_2 : decode cX5_seed 2 = .ok (.if_icmp .lt 12, 3) := by decide +kernel
theorem dX5_seed_5 : decode cX5_seed 5 = .ok (.iload_n 1, 1) := by decide +kernel
theorem dX5_seed_6 : decode cX5_seed 6 = .ok (.i2l, 1) := by decide +kernel
theorem dX5_seed_7 : decode cX5_seed 7 = .ok (.ldc2_w 186, 3) := by decide +kernel
theorem dX5_seed_10 : decode cX5_seed 10 = .ok (.lcmp, 1) := by decide +kernel
theorem dX5_seed_11 : decode cX5_seed 11 = .ok (.ifCond .lt 5, 3) := by decide +kernel
theorem dX5_seed_14 : decode cX5_seed 14 = .ok (.iconst (-1), 1) := by decide +kernel
theorem dX5_seed_15 : decode cX5_seed 15 = .ok (.ireturn, 1) := by decide +kernel
theorem dX5_seed_16 : decode cX5_seed 16 = .ok (.aload_n 0, 1) := by decide +kernel
theorem dX5_seed_17 : decode cX5_seed 17 = .ok (.iload_n 1, 1) := by decide +kernel
theorem dX5_seed_18 : decode cX5_seed 18 = .ok (.i2l, 1) := by decide +kernel
theorem dX5_seed_19 : decode cX5_seed 19 = .ok (.putfield 42, 3) := by decide +kernel
theorem dX5_seed_22 : decode cX5_seed 22 = .ok (.aload_n 0, 1) := by decide +kernel
theorem dX5_seed_23 : decode cX5_seed 23 = .ok (.invokevirtual 181, 3) := by decide +kernel
theorem dX5_seed_26 : decode cX5_seed 26 = .ok (.iconst 0, 1) := by decide +kernel
theorem dX5_seed_27 : decode cX5_seed 27 = .ok (.ireturn, 1) := by decide +kernel
set_option maxRecDepth 20000 in
theorem ggX5_count_Jx4a65c_size_8abf5 : GoodIn wsX5_count wsJx4a65c_size_8abf5 := goodIn_r _ [11, 12, 24, 25, 26] (by decide +kernel) (by decide +kernel)
set_option maxRecDepth 20000 in
theorem gX5_count_Jx4a65c_size_8abf5 : GoodIn wsX5_count (wsV RX5 67 RJx4a65c yJx4a65c_size_8abf5 wsJx4a65c_size_8abf5) := goodIn_app (goodIn_of _ (by decide +kernel)) ggX5_count_Jx4a65c_size_8abf5
theorem dX5_count_0 : decode cX5_count 0 = .ok (.iload_n 1, 1) := by decide +kernel
theorem dX5_count_1 : decode cX5_count 1 = .ok (.tableswitch 78 0 5 #[39, 47, 55, 60, 68, 73], 39) := by decide +kernel
theorem dX5_count_40 : decode cX5_count 40 = .ok (.aload_n 0, 1) := by decide +kernel
theorem dX5_count_41 : decode cX5_count 41 = .ok (.getfield 19, 3) := by decide +kernel
theorem dX5_count_44 : decode cX5_count 44 = .ok (.invokevirtual 67, 3) := by decide +kernel
theorem dX5_count_47 : decode cX5_count 47 = .ok (.ireturn, 1) := by decide +kernel
theorem dX5_count_48 : decode cX5_count 48 = .ok (.aload_n 0, 1) := by decide +kernel
theorem dX5_count_49 : decode cX5_count 49 = .ok (.getfield 10, 3) := by decide +kernel
theorem dX5_count_52 : decode cX5_count 52 = .ok (.invokevirtual 67, 3) := by decide +kernel
theorem dX5_count_55 : decode cX5_count 55 = .ok (.ireturn, 1) := by decide +kernel
theorem dX5_count_56 : decode cX5_count 56 = .ok (.aload_n 0, 1) := by decide +kernel
theorem dX5_count_57 : decode cX5_count 57 = .ok (.getfield 53, 3) := by decide +kernel
theorem dX5_count_60 : decode cX5_count 60 = .ok (.ireturn, 1) := by decide +kernel
theorem dX5_count_61 : decode cX5_count 61 = .ok (.aload_n 0, 1) := by decide +kernel
theorem dX5_count_62 : decode cX5_count 62 = .ok (.getfield 16, 3) := by decide +kernel
theorem dX5_count_65 : decode cX5_count 65 = .ok (.invokevirtual 67, 3) := by decide +kernel
theorem dX5_count_68 : decode cX5_count 68 = .ok (.ireturn, 1) := by decide +kernel
theorem dX5_count_69 : decode cX5_count 69 = .ok (.aload_n 0, 1) := by decide +kernel
theorem dX5_count_70 : decode cX5_count 70 = .ok (.getfield 191, 3) := by decide +kernel
theorem dX5_count_73 : decode cX5_count 73 = .ok (.ireturn, 1) := by decide +kernel
theorem dX5_count_74 : decode cX5_count 74 = .ok (.aload_n 0, 1) := by decide +kernel
theorem dX5_count_75 : decode cX5_count 75 = .ok (.getfield 90, 3) := by decide +kernel
theorem dX5_count_78 : decode cX5_count 78 = .ok (.ireturn, 1) := by decide +kernel
theorem dX5_count_79 : decode cX5_count 79 = .ok (.iconst (-1), 1) := by decide +kernel
theorem dX5_count_80 : decode cX5_count 80 = .ok (.ireturn, 1) := by decide +kernel
theorem dX5_isIn_0 : decode cX5_isIn 0 = .ok (.iload_n 0, 1) := by decide +kernel
theorem dX5_isIn_1 : decode cX5_isIn 1 = .ok (.iload_n 1, 1) := by decide +kernel
theorem dX5_isIn_2 : decode cX5_isIn 2 = .ok (.if_icmp .lt 12, 3) := by decide +kernel
theorem dX5_isIn_5 : decode cX5_isIn 5 = .ok (.iload_n 0, 1) := by decide +kernel
theorem dX5_isIn_6 : decode cX5_isIn 6 = .ok (.iload_n 2, 1) := by decide +kernel
theorem dX5_isIn_7 : decode cX5_isIn 7 = .ok (.if_icmp .gt 7, 3) := by decide +kernel
theorem dX5_isIn_10 : decode cX5_isIn 10 = .ok (.iconst 1, 1) := by decide +kernel
theorem dX5_isIn_11 : decode cX5_isIn 11 = .ok (.goto 4, 3) := by decide +kernel
theorem dX5_isIn_14 : decode cX5_isIn 14 = .ok (.iconst 0, 1) := by decide +kernel
theorem dX5_isIn_15 : decode cX5_isIn 15 = .ok (.ireturn, 1) := by decide +kernel
set_option maxRecDepth 20000 in
theorem ggX5_isDay_X5_isIn : GoodIn wsX5_isDay wsX5_isIn := goodIn_r _ [4] (by decide +kernel) (by decide +kernel)
set_option maxRecDepth 20000 in
theorem gX5_isDay_X5_isIn : GoodIn wsX5_isDay (va_wsS RX5 59 yX5_isIn wsX5_isIn) := goodIn_app (goodIn_of _ (by decide +kernel)) ggX5_isDay_X5_isIn
theorem dX5_isDay_0 : decode cX5_isDay 0 = .ok (.iload_n 0, 1) := by decide +kernel
theorem dX5_isDay_1 : decode cX5_isDay 1 = .ok (.iconst 0, 1) := by decide +kernel
theorem dX5_isDay_2 : decode cX5_isDay 2 = .ok (.sipush 3999, 3) := by decide +kernel
theorem dX5_isDay_5 : decode cX5_isDay 5 = .ok (.invokestatic 59, 3) := by decide +kernel
theorem dX5_isDay_8 : decode cX5_isDay 8 = .ok (.ireturn, 1) := by decide +kernel
set_option maxRecDepth 20000 in
theorem ggX5_isKind_X5_isIn : GoodIn wsX5_isKind wsX5_isIn := goodIn_r _ [4] (by decide +kernel) (by decide +kernel)
set_option maxRecDepth 20000 in
theorem gX5_isKind_X5_isIn : GoodIn wsX5_isKind (va_wsS RX5 59 yX5_isIn wsX5_isIn) := goodIn_app (goodIn_of _ (by decide +kernel)) ggX5_isKind_X5_isIn
theorem dX5_isKind_0 : decode cX5_isKind 0 = .ok (.iload_n 0, 1) := by decide +kernel
theorem dX5_isKind_1 : decode cX5_isKind 1 = .ok (.iconst 0, 1) := by decide +kernel
theorem dX5_isKind_2 : decode cX5_isKind 2 = .ok (.iconst 2, 1) := by decide +kernel
theorem dX5_isKind_3 : decode cX5_isKind 3 = .ok (.invokestatic 59, 3) := by decide +kernel
theorem dX5_isKind_6 : decode cX5_isKind 6 = .ok (.ireturn, 1) := by decide +kernel
set_option maxRecDepth 20000 in
theorem ggX5_isPlace_X5_isIn : GoodIn wsX5_isPlace wsX5_isIn := goodIn_r _ [4] (by decide +kernel) (by decide +kernel)
set_option maxRecDepth 20000 in
theorem gX5_isPlace_X5_isIn : GoodIn wsX5_isPlace (va_wsS RX5 59 yX5_isIn wsX5_isIn) := goodIn_app (goodIn_of _ (by decide +kernel)) ggX5_isPlace_X5_isIn
theorem dX5_isPlace_0 : decode cX5_isPlace 0 = .ok (.iload_n 0, 1) := by decide +kernel
theorem dX5_isPlace_1 : decode cX5_isPlace 1 = .ok (.iconst 0, 1) := by decide +kernel
theorem dX5_isPlace_2 : decode cX5_isPlace 2 = .ok (.sipush 999, 3) := by decide +kernel
theorem dX5_isPlace_5 : decode cX5_isPlace 5 = .ok (.invokestatic 59, 3) := by decide +kernel
theorem dX5_isPlace_8 : decode cX5_isPlace 8 = .ok (.ifCond .eq 18, 3) := by decide +kernel
theorem dX5_isPlace_11 : decode cX5_isPlace 11 = .ok (.iload_n 1, 1) := by decide +kernel
theorem dX5_isPlace_12 : decode cX5_isPlace 12 = .ok (.iconst 0, 1) := by decide +kernel
theorem dX5_isPlace_13 : decode cX5_isPlace 13 = .ok (.sipush 999, 3) := by decide +kernel
theorem dX5_isPlace_16 : decode cX5_isPlace 16 = .ok (.invokestatic 59, 3) := by decide +kernel
theorem dX5_isPlace_19 : decode cX5_isPlace 19 = .ok (.ifCond .eq 7, 3) := by decide +kernel
theorem dX5_isPlace_22 : decode cX5_isPlace 22 = .ok (.iconst 1, 1) := by decide +kernel
theorem dX5_isPlace_23 : decode cX5_isPlace 23 = .ok (.goto 4, 3) := by decide +kernel
theorem dX5_isPlace_26 : decode cX5_isPlace 26 = .ok (.iconst 0, 1) := by decide +kernel
theorem dX5_isPlace_27 : decode cX5_isPlace 27 = .ok (.ireturn, 1) := by decide +kernel
set_option maxRecDepth 20000 in
theorem ggX5_isWorth_X5_isIn : GoodIn wsX5_isWorth wsX5_isIn := goodIn_r _ [5] (by decide +kernel) (by decide +kernel)
set_option maxRecDepth 20000 in
theorem gX5_isWorth_X5_isIn : GoodIn wsX5_isWorth (va_wsS RX5 59 yX5_isIn wsX5_isIn) := goodIn_app (goodIn_of _ (by decide +kernel)) ggX5_isWorth_X5_isIn
theorem dX5_isWorth_0 : decode cX5_isWorth 0 = .ok (.iload_n 0, 1) := by decide +kernel
theorem dX5_isWorth_1 : decode cX5_isWorth 1 = .ok (.iconst 1, 1) := by decide +kernel
theorem dX5_isWorth_2 : decode cX5_isWorth 2 = .ok (.ldc 194, 2) := by decide +kernel
theorem dX5_isWorth_4 : decode cX5_isWorth 4 = .ok (.invokestatic 59, 3) := by decide +kernel
theorem dX5_isWorth_7 : decode cX5_isWorth 7 = .ok (.ireturn, 1) := by decide +kernel
set_option maxRecDepth 20000 in
theorem ggX5_areHours_X5_isIn : GoodIn wsX5_areHours wsX5_isIn := goodIn_r _ [4] (by decide +kernel) (by decide +kernel)
set_option maxRecDepth 20000 in
theorem gX5_areHours_X5_isIn : GoodIn wsX5_areHours (va_wsS RX5 59 yX5_isIn wsX5_isIn) := goodIn_app (goodIn_of _ (by decide +kernel)) ggX5_areHours_X5_isIn
theorem dX5_areHours_0 : decode cX5_areHours 0 = .ok (.iload_n 0, 1) := by decide +kernel
theorem dX5_areHours_1 : decode cX5_areHours 1 = .ok (.ifCond .ne 11, 3) := by decide +kernel
theorem dX5_areHours_4 : decode cX5_areHours 4 = .ok (.iload_n 1, 1) := by decide +kernel
theorem dX5_areHours_5 : decode cX5_areHours 5 = .ok (.ifCond .ne 7, 3) := by decide +kernel
theorem dX5_areHours_8 : decode cX5_areHours 8 = .ok (.iconst 1, 1) := by decide +kernel
theorem dX5_areHours_9 : decode cX5_areHours 9 = .ok (.goto 4, 3) := by decide +kernel
theorem dX5_areHours_12 : decode cX5_areHours 12 = .ok (.iconst 0, 1) := by decide +kernel
theorem dX5_areHours_13 : decode cX5_areHours 13 = .ok (.istore_n 2, 1) := by decide +kernel
theorem dX5_areHours_14 : decode cX5_areHours 14 = .ok (.iload_n 2, 1) := by decide +kernel
theorem dX5_areHours_15 : decode cX5_areHours 15 = .ok (.ifCond .ne 27, 3) := by decide +kernel
theorem dX5_areHours_18 : decode cX5_areHours 18 = .ok (.iload_n 0, 1) := by decide +kernel
theorem dX5_areHours_19 : decode cX5_areHours 19 = .ok (.iconst 0, 1) := by decide +kernel
theorem dX5_areHours_20 : decode cX5_areHours 20 = .ok (.sipush 1439, 3) := by decide +kernel
theorem dX5_areHours_23 : decode cX5_areHours 23 = .ok (.invokestatic 59, 3) := by decide +kernel
theorem dX5_areHours_26 : decode cX5_areHours 26 = .ok (.ifCond .eq 20, 3) := by decide +kernel
theorem dX5_areHours_29 : decode cX5_areHours 29 = .ok (.iload_n 1, 1) := by decide +kernel
theorem dX5_areHours_30 : decode cX5_areHours 30 = .ok (.iload_n 0, 1) := by decide +kernel
theorem dX5_areHours_31 : decode cX5_areHours 31 = .ok (.iconst 1, 1) := by decide +kernel
theorem dX5_areHours_32 : decode cX5_areHours 32 = .ok (.iadd, 1) := by decide +kernel
theorem dX5_areHours_33 : decode cX5_areHours 33 = .ok (.sipush 1800, 3) := by decide +kernel
theorem dX5_areHours_36 : decode cX5_areHours 36 = .ok (.invokestatic 59, 3) := by decide +kernel
theorem dX5_areHours_39 : decode cX5_areHours 39 = .ok (.ifCond .eq 7, 3) := by decide +kernel
theorem dX5_areHours_42 : decode cX5_areHours 42 = .ok (.iconst 1, 1) := by decide +kernel
theorem dX5_areHours_43 : decode cX5_areHours 43 = .ok (.goto 4, 3) := by decide +kernel
theorem dX5_areHours_46 : decode cX5_areHours 46 = .ok (.iconst 0, 1) := by decide +kernel
theorem dX5_areHours_47 : decode cX5_areHours 47 = .ok (.ireturn, 1) := by decide +kernel
set_option maxRecDepth 20000 in
theorem ggX5_isEvent_X5_isIn : GoodIn wsX5_isEvent wsX5_isIn := goodIn_r _ [4] (by decide +kernel) (by decide +kernel)
set_option maxRecDepth 20000 in
theorem gX5_isEvent_X5_isIn : GoodIn wsX5_isEvent (va_wsS RX5 59 yX5_isIn wsX5_isIn) := goodIn_app (goodIn_of _ (by decide +kernel)) ggX5_isEvent_X5_isIn
theorem dX5_isEvent_0 : decode cX5_isEvent 0 = .ok (.iload_n 0, 1) := by decide +kernel
theorem dX5_isEvent_1 : decode cX5_isEvent 1 = .ok (.tableswitch 52 0 4 #[35, 35, 52, 52, 43], 35) := by decide +kernel
theorem dX5_isEvent_36 : decode cX5_isEvent 36 = .ok (.iload_n 1, 1) := by decide +kernel
theorem dX5_isEvent_37 : decode cX5_isEvent 37 = .ok (.iconst 0, 1) := by decide +kernel
theorem dX5_isEvent_38 : decode cX5_isEvent 38 = .ok (.bipush 99, 2) := by decide +kernel
theorem dX5_isEvent_40 : decode cX5_isEvent 40 = .ok (.invokestatic 59, 3) := by decide +kernel
theorem dX5_isEvent_43 : decode cX5_isEvent 43 = .ok (.ireturn, 1) := by decide +kernel
theorem dX5_isEvent_44 : decode cX5_isEvent 44 = .ok (.iload_n 1, 1) := by decide +kernel
theorem dX5_isEvent_45 : decode cX5_isEvent 45 = .ok (.iconst 0, 1) := by decide +kernel
theorem dX5_isEvent_46 : decode cX5_isEvent 46 = .ok (.sipush 1439, 3) := by decide +kernel
theorem dX5_isEvent_49 : decode cX5_isEvent 49 = .ok (.invokestatic 59, 3) := by decide +kernel
theorem dX5_isEvent_52 : decode cX5_isEvent 52 = .ok (.ireturn, 1) := by decide +kernel
theorem dX5_isEvent_53 : decode cX5_isEvent 53 = .ok (.iload_n 0, 1) := by decide +kernel
theorem dX5_isEvent_54 : decode cX5_isEvent 54 = .ok (.iconst 0, 1) := by decide +kernel
theorem dX5_isEvent_55 : decode cX5_isEvent 55 = .ok (.bipush 6, 2) := by decide +kernel
theorem dX5_isEvent_57 : decode cX5_isEvent 57 = .ok (.invokestatic 59, 3) := by decide +kernel
theorem dX5_isEvent_60 : decode cX5_isEvent 60 = .ok (.ireturn, 1) := by decide +kernel
theorem dX5_squareOfDistance_0 : decode cX5_squareOfDistance 0 = .ok (.iload_n 0, 1) := by decide +kernel
theorem dX5_squareOfDistance_1 : decode cX5_squareOfDistance 1 = .ok (.iload_n 2, 1) := by decide +kernel
theorem dX5_squareOfDistance_2 : decode cX5_squareOfDistance 2 = .ok (.isub, 1) := by decide +kernel
theorem dX5_squareOfDistance_3 : decode cX5_squareOfDistance 3 = .ok (.iload_n 0, 1) := by decide +kernel
theorem dX5_squareOfDistance_4 : decode cX5_squareOfDistance 4 = .ok (.iload_n 2, 1) := by decide +kernel
theorem dX5_squareOfDistance_5 : decode cX5_squareOfDistance 5 = .ok (.isub, 1) := by decide +kernel
theorem dX5_squareOfDistance_6 : decode cX5_squareOfDistance 6 = .ok (.imul, 1) := by decide +kernel
theorem dX5_squareOfDistance_7 : decode cX5_squareOfDistance 7 = .ok (.iload_n 1, 1) := by decide +kernel
theorem dX5_squareOfDistance_8 : decode cX5_squareOfDistance 8 = .ok (.iload_n 3, 1) := by decide +kernel
theorem dX5_squareOfDistance_9 : decode cX5_squareOfDistance 9 = .ok (.isub, 1) := by decide +kernel
theorem dX5_squareOfDistance_10 : decode cX5_squareOfDistance 10 = .ok (.iload_n 1, 1) := by decide +kernel
theorem dX5_squareOfDistance_11 : decode cX5_squareOfDistance 11 = .ok (.iload_n 3, 1) := by decide +kernel
theorem dX5_squareOfDistance_12 : decode cX5_squareOfDistance 12 = .ok (.isub, 1) := by decide +kernel
theorem dX5_squareOfDistance_13 : decode cX5_squareOfDistance 13 = .ok (.imul, 1) := by decide +kernel
theorem dX5_squareOfDistance_14 : decode cX5_squareOfDistance 14 = .ok (.iadd, 1) := by decide +kernel
theorem dX5_squareOfDistance_15 : decode cX5_squareOfDistance 15 = .ok (.ireturn, 1) := by decide +kernel
set_option maxRecDepth 20000 in
theorem ggX5_houseAt_Jx4a65c_size_8abf5 : GoodIn wsX5_houseAt wsJx4a65c_size_8abf5 := goodIn_r _ [7, 8, 37, 38, 39] (by decide +kernel) (by decide +kernel)
set_option maxRecDepth 20000 in
theorem gX5_houseAt_Jx4a65c_size_8abf5 : GoodIn wsX5_houseAt (wsV RX5 67 RJx4a65c yJx4a65c_size_8abf5 wsJx4a65c_size_8abf5) := goodIn_app (goodIn_of _ (by decide +kernel)) ggX5_houseAt_Jx4a65c_size_8abf5
set_option maxRecDepth 20000 in
theorem ggX5_houseAt_Jx4a65c_get_915e3 : GoodIn wsX5_houseAt wsJx4a65c_get_915e3 := goodIn_r _ [12, 8, 13, 14, 15, 16, 17, 18, 19, 20, 21, 22, 23, 6, 24, 25, 37, 38, 39] (by decide +kernel) (by decide +kernel)
set_option maxRecDepth 20000 in
theorem gX5_houseAt_Jx4a65c_get_915e3 : GoodIn wsX5_houseAt (wsV RX5 195 RJx4a65c yJx4a65c_get_915e3 wsJx4a65c_get_915e3) := goodIn_app (goodIn_of _ (by decide +kernel)) ggX5_houseAt_Jx4a65c_get_915e3
theorem dX5_houseAt_0 : decode cX5_houseAt 0 = .ok (.iload_n 1, 1) := by decide +kernel
theorem dX5_houseAt_1 : decode cX5_houseAt 1 = .ok (.ifCond .lt 28, 3) := by decide +kernel
theorem dX5_houseAt_4 : decode cX5_houseAt 4 = .ok (.iload_n 1, 1) := by decide +kernel
theorem dX5_houseAt_5 : decode cX5_houseAt 5 = .ok (.aload_n 0, 1) := by decide +kernel
theorem dX5_houseAt_6 : decode cX5_houseAt 6 = .ok (.getfield 19, 3) := by decide +kernel
theorem dX5_houseAt_9 : decode cX5_houseAt 9 = .ok (.invokevirtual 67, 3) := by decide +kernel
theorem dX5_houseAt_12 : decode cX5_houseAt 12 = .ok (.if_icmp .ge 17, 3) := by decide +kernel
theorem dX5_houseAt_15 : decode cX5_houseAt 15 = .ok (.aload_n 0, 1) := by decide +kernel
theorem dX5_houseAt_16 : decode cX5_houseAt 16 = .ok (.getfield 19, 3) := by decide +kernel
theorem dX5_houseAt_19 : decode cX5_houseAt 19 = .ok (.iload_n 1, 1) := by decide +kernel
theorem dX5_houseAt_20 : decode cX5_houseAt 20 = .ok (.invokevirtual 195, 3) := by decide +kernel
theorem dX5_houseAt_23 : decode cX5_houseAt 23 = .ok (.checkcast 93, 3) := by decide +kernel
theorem dX5_houseAt_26 : decode cX5_houseAt 26 = .ok (.goto 4, 3) := by decide +kernel
theorem dX5_houseAt_29 : decode cX5_houseAt 29 = .ok (.aconst_null, 1) := by decide +kernel
theorem dX5_houseAt_30 : decode cX5_houseAt 30 = .ok (.areturn, 1) := by decide +kernel
theorem dX5_isFeast_0 : decode cX5_isFeast 0 = .ok (.iconst 0, 1) := by decide +kernel
theorem dX5_isFeast_1 : decode cX5_isFeast 1 = .ok (.istore_n 2, 1) := by decide +kernel
theorem dX5_isFeast_2 : decode cX5_isFeast 2 = .ok (.iload_n 2, 1) := by decide +kernel
theorem dX5_isFeast_3 : decode cX5_isFeast 3 = .ok (.aload_n 0, 1) := by decide +kernel
theorem dX5_isFeast_4 : decode cX5_isFeast 4 = .ok (.getfield 53, 3) := by decide +kernel
theorem dX5_isFeast_7 : decode cX5_isFeast 7 = .ok (.if_icmp .ge 30, 3) := by decide +kernel
theorem dX5_isFeast_10 : decode cX5_isFeast 10 = .ok (.iload_n 2, 1) := by decide +kernel
theorem dX5_isFeast_11 : decode cX5_isFeast 11 = .ok (.aload_n 0, 1) := by decide +kernel
theorem dX5_isFeast_12 : decode cX5_isFeast 12 = .ok (.getfield 22, 3) := by decide +kernel
theorem dX5_isFeast_15 : decode cX5_isFeast 15 = .ok (.arraylength, 1) := by decide +kernel
theorem dX5_isFeast_16 : decode cX5_isFeast 16 = .ok (.if_icmp .ge 21, 3) := by decide +kernel
theorem dX5_isFeast_19 : decode cX5_isFeast 19 = .ok (.aload_n 0, 1) := by decide +kernel
theorem dX5_isFeast_20 : decode cX5_isFeast 20 = .ok (.getfield 22, 3) := by decide +kernel
theorem dX5_isFeast_23 : decode cX5_isFeast 23 = .ok (.iload_n 2, 1) := by decide +kernel
theorem dX5_isFeast_24 : decode cX5_isFeast 24 = .ok (.iaload, 1) := by decide +kernel
theorem dX5_isFeast_25 : decode cX5_isFeast 25 = .ok (.iload_n 1, 1) := by decide +kernel
theorem dX5_isFeast_26 : decode cX5_isFeast 26 = .ok (.if_icmp .ne 5, 3) := by decide +kernel
theorem dX5_isFeast_29 : decode cX5_isFeast 29 = .ok (.iconst 1, 1) := by decide +kernel
theorem dX5_isFeast_30 : decode cX5_isFeast 30 = .ok (.ireturn, 1) := by decide +kernel
theorem dX5_isFeast_31 : decode cX5_isFeast 31 = .ok (.iinc 2 1, 3) := by decide +kernel
theorem dX5_isFeast_34 : decode cX5_isFeast 34 = .ok (.goto (-32), 3) := by decide +kernel
theorem dX5_isFeast_37 : decode cX5_isFeast 37 = .ok (.iconst 0, 1) := by decide +kernel
theorem dX5_isFeast_38 : decode cX5_isFeast 38 = .ok (.ireturn, 1) := by decide +kernel
set_option maxRecDepth 20000 in
theorem ggX5_lawOf_X5_isFeast : GoodIn wsX5_lawOf wsX5_isFeast := goodIn_r _ [11, 12, 13, 37, 38, 39, 40, 41, 42, 43, 44, 45, 46, 47] (by decide +kernel) (by decide +kernel)
set_option maxRecDepth 20000 in
theorem gX5_lawOf_X5_isFeast : GoodIn wsX5_lawOf (wsV RX5 50 RX5 yX5_isFeast wsX5_isFeast) := goodIn_app (goodIn_of _ (by decide +kernel)) ggX5_lawOf_X5_isFeast
set_option maxRecDepth 20000 in
theorem ggX5_lawOf_Jx4a65c_size_8abf5 : GoodIn wsX5_lawOf wsJx4a65c_size_8abf5 := goodIn_r _ [18, 19, 53, 54, 55] (by decide +kernel) (by decide +kernel)
set_option maxRecDepth 20000 in
theorem gX5_lawOf_Jx4a65c_size_8abf5 : GoodIn wsX5_lawOf (wsV RX5 67 RJx4a65c yJx4a65c_size_8abf5 wsJx4a65c_size_8abf5) := goodIn_app (goodIn_of _ (by decide +kernel)) ggX5_lawOf_Jx4a65c_size_8abf5
set_option maxRecDepth 20000 in
theorem ggX5_lawOf_Jx4a65c_get_915e3 : GoodIn wsX5_lawOf wsJx4a65c_get_915e3 := goodIn_r _ [23, 19, 24, 25, 26, 27, 28, 29, 30, 31, 32, 33, 34, 17, 35, 36, 53, 54, 55] (by decide +kernel) (by decide +kernel)
set_option maxRecDepth 20000 in
theorem gX5_lawOf_Jx4a65c_get_915e3 : GoodIn wsX5_lawOf (wsV RX5 195 RJx4a65c yJx4a65c_get_915e3 wsJx4a65c_get_915e3) := goodIn_app (goodIn_of _ (by decide +kernel)) ggX5_lawOf_Jx4a65c_get_915e3
theorem dX5_lawOf_0 : decode cX5_lawOf 0 = .ok (.aload_n 0, 1) := by decide +kernel
theorem dX5_lawOf_1 : decode cX5_lawOf 1 = .ok (.iload_n 2, 1) := by decide +kernel
theorem dX5_lawOf_2 : decode cX5_lawOf 2 = .ok (.invokevirtual 50, 3) := by decide +kernel
theorem dX5_lawOf_5 : decode cX5_lawOf 5 = .ok (.ifCond .eq 8, 3) := by decide +kernel
theorem dX5_lawOf_8 : decode cX5_lawOf 8 = .ok (.bipush 7, 2) := by decide +kernel
theorem dX5_lawOf_10 : decode cX5_lawOf 10 = .ok (.goto 7, 3) := by decide +kernel
theorem dX5_lawOf_13 : decode cX5_lawOf 13 = .ok (.iload_n 2, 1) := by decide +kernel
theorem dX5_lawOf_14 : decode cX5_lawOf 14 = .ok (.bipush 7, 2) := by decide +kernel
theorem dX5_lawOf_16 : decode cX5_lawOf 16 = .ok (.irem, 1) := by decide +kernel
theorem dX5_lawOf_17 : decode cX5_lawOf 17 = .ok (.istore_n 3, 1) := by decide +kernel
theorem dX5_lawOf_18 : decode cX5_lawOf 18 = .ok (.aload_n 0, 1) := by decide +kernel
theorem dX5_lawOf_19 : decode cX5_lawOf 19 = .ok (.getfield 31, 3) := by decide +kernel
theorem dX5_lawOf_22 : decode cX5_lawOf 22 = .ok (.astore 4, 2) := by decide +kernel
theorem dX5_lawOf_24 : decode cX5_lawOf 24 = .ok (.iconst 0, 1) := by decide +kernel
theorem dX5_lawOf_25 : decode cX5_lawOf 25 = .ok (.istore 5, 2) := by decide +kernel
theorem dX5_lawOf_27 : decode cX5_lawOf 27 = .ok (.iload 5, 2) := by decide +kernel
theorem dX5_lawOf_29 : decode cX5_lawOf 29 = .ok (.aload_n 0, 1) := by decide +kernel
theorem dX5_lawOf_30 : decode cX5_lawOf 30 = .ok (.getfield 10, 3) := by decide +kernel
theorem dX5_lawOf_33 : decode cX5_lawOf 33 = .ok (.invokevirtual 67, 3) := by decide +kernel
theorem dX5_lawOf_36 : decode cX5_lawOf 36 = .ok (.if_icmp .ge 79, 3) := by decide +kernel
theorem dX5_lawOf_39 : decode cX5_lawOf 39 = .ok (.aload_n 0, 1) := by decide +kernel
theorem dX5_lawOf_40 : decode cX5_lawOf 40 = .ok (.getfield 10, 3) := by decide +kernel
theorem dX5_lawOf_43 : decode cX5_lawOf 43 = .ok (.iload 5, 2) := by decide +kernel
theorem dX5_lawOf_45 : decode cX5_lawOf 45 = .ok (.invokevirtual 195, 3) := by decide +kernel
theorem dX5_lawOf_48 : decode cX5_lawOf 48 = .ok (.checkcast 26, 3) := by decide +kernel
theorem dX5_lawOf_51 : decode cX5_lawOf 51 = .ok (.astore 6, 2) := by decide +kernel
theorem dX5_lawOf_53 : decode cX5_lawOf 53 = .ok (.aload 6, 2) := by decide +kernel
theorem dX5_lawOf_55 : decode cX5_lawOf 55 = .ok (.getfield 199, 3) := by decide +kernel
theorem dX5_lawOf_58 : decode cX5_lawOf 58 = .ok (.iload_n 1, 1) := by decide +kernel
theorem dX5_lawOf_59 : decode cX5_lawOf 59 = .ok (.if_icmp .ne 25, 3) := by decide +kernel
theorem dX5_lawOf_62 : decode cX5_lawOf 62 = .ok (.aload 6, 2) := by decide +kernel
theorem dX5_lawOf_64 : decode cX5_lawOf 64 = .ok (.getfield 200, 3) := by decide +kernel
theorem dX5_lawOf_67 : decode cX5_lawOf 67 = .ok (.iload_n 3, 1) := by decide +kernel
theorem dX5_lawOf_68 : decode cX5_lawOf 68 = .ok (.if_icmp .ne 16, 3) := by decide +kernel
theorem dX5_lawOf_71 : decode cX5_lawOf 71 = .ok (.aload 6, 2) := by decide +kernel
theorem dX5_lawOf_73 : decode cX5_lawOf 73 = .ok (.getfield 203, 3) := by decide +kernel
theorem dX5_lawOf_76 : decode cX5_lawOf 76 = .ok (.iload_n 2, 1) := by decide +kernel
theorem dX5_lawOf_77 : decode cX5_lawOf 77 = .ok (.if_icmp .gt 7, 3) := by decide +kernel
theorem dX5_lawOf_80 : decode cX5_lawOf 80 = .ok (.iconst 1, 1) := by decide +kernel
theorem dX5_lawOf_81 : decode cX5_lawOf 81 = .ok (.goto 4, 3) := by decide +kernel
theorem dX5_lawOf_84 : decode cX5_lawOf 84 = .ok (.iconst 0, 1) := by decide +kernel
theorem dX5_lawOf_85 : decode cX5_lawOf 85 = .ok (.istore 7, 2) := by decide +kernel
theorem dX5_lawOf_87 : decode cX5_lawOf 87 = .ok (.iload 7, 2) := by decide +kernel
theorem dX5_lawOf_89 : decode cX5_lawOf 89 = .ok (.ifCond .eq 20, 3) := by decide +kernel
theorem dX5_lawOf_92 : decode cX5_lawOf 92 = .ok (.aload 6, 2) := by decide +kernel
theorem dX5_lawOf_94 : decode cX5_lawOf 94 = .ok (.getfield 203, 3) := by decide +kernel
theorem dX5_lawOf_97 : decode cX5_lawOf 97 = .ok (.aload 4, 2) := by decide +kernel
theorem dX5_lawOf_99 : decode cX5_lawOf 99 = .ok (.getfield 203, 3) := by decide +kernel
theorem dX5_lawOf_102 : decode cX5_lawOf 102 = .ok (.if_icmp .lt 7, 3) := by decide +kernel
theorem dX5_lawOf_105 : decode cX5_lawOf 105 = .ok (.aload 6, 2) := by decide +kernel
theorem dX5_lawOf_107 : decode cX5_lawOf 107 = .ok (.astore 4, 2) := by decide +kernel
theorem dX5_lawOf_109 : decode cX5_lawOf 109 = .ok (.iinc 5 1, 3) := by decide +kernel
theorem dX5_lawOf_112 : decode cX5_lawOf 112 = .ok (.goto (-85), 3) := by decide +kernel
theorem dX5_lawOf_115 : decode cX5_lawOf 115 = .ok (.aload 4, 2) := by decide +kernel
theorem dX5_lawOf_117 : decode cX5_lawOf 117 = .ok (.areturn, 1) := by decide +kernel
set_option maxRecDepth 20000 in
theorem ggX5_judge_X5_isCrowded : GoodIn wsX5_judge wsX5_isCrowded := goodIn_r _ [5, 6, 7, 8, 9, 10, 11, 12, 13, 14, 15, 16, 17, 18, 19, 20, 21, 22, 23, 24, 25, 26, 27, 28, 29, 30, 31, 32, 33, 34, 35, 4, 36, 37, 38, 39, 40, 41, 42, 43, 44, 45, 46, 47, 48, 49, 50, 51, 52, 53, 54, 55, 56, 57, 58, 59, 60, 61, 62, 63, 64, 65, 66, 67, 68, 69, 70, 71, 72, 73, 74, 75, 76, 77, 78, 79, 80, 91, 92, 93, 94, 95, 96, 97, 98, 99, 100, 101, 102, 103, 104, 105, 106, 107, 108, 109, 110, 111, 112, 113, 114, 115] (by decide +kernel) (by decide +kernel)
set_option maxRecDepth 20000 in
theorem gX5_judge_X5_isCrowded : GoodIn wsX5_judge (wsV RX5 206 RX5 yX5_isCrowded wsX5_isCrowded) := goodIn_app (goodIn_of _ (by decide +kernel)) ggX5_judge_X5_isCrowded
set_option maxRecDepth 20000 in
theorem ggX5_judge_X5_weightHeard : GoodIn wsX5_judge wsX5_weightHeard := goodIn_r _ [84, 85, 86, 87, 88, 89, 90, 11, 12, 13, 14, 15, 16, 17, 18, 19, 20, 21, 22, 23, 24, 25, 26, 27, 28, 29, 30, 31, 32, 33, 34, 35, 4, 36, 91, 92, 93, 94, 95, 96, 97, 98, 99, 100, 101, 116, 117, 118, 109, 110, 111] (by decide +kernel) (by decide +kernel)
set_option maxRecDepth 20000 in
theorem gX5_judge_X5_weightHeard : GoodIn wsX5_judge (wsV RX5 209 RX5 yX5_weightHeard wsX5_weightHeard) := goodIn_app (goodIn_of _ (by decide +kernel)) ggX5_judge_X5_weightHeard
theorem dX5_judge_0 : decode cX5_judge 0 = .ok (.iload 4, 2) := by decide +kernel
theorem dX5_judge_2 : decode cX5_judge 2 = .ok (.iload_n 3, 1) := by decide +kernel
theorem dX5_judge_3 : decode cX5_judge 3 = .ok (.isub, 1) := by decide +kernel
theorem dX5_judge_4 : decode cX5_judge 4 = .ok (.bipush 21, 2) := by decide +kernel
theorem dX5_judge_6 : decode cX5_judge 6 = .ok (.if_icmp .ge 5, 3) := by decide +kernel
theorem dX5_judge_9 : decode cX5_judge 9 = .ok (.iconst 1, 1) := by decide +kernel
theorem dX5_judge_10 : decode cX5_judge 10 = .ok (.ireturn, 1) := by decide +kernel
theorem dX5_judge_11 : decode cX5_judge 11 = .ok (.aload_n 0, 1) := by decide +kernel
theorem dX5_judge_12 : decode cX5_judge 12 = .ok (.iload_n 1, 1) := by decide +kernel
theorem dX5_judge_13 : decode cX5_judge 13 = .ok (.iload_n 2, 1) := by decide +kernel
theorem dX5_judge_14 : decode cX5_judge 14 = .ok (.iload 4, 2) := by decide +kernel
theorem dX5_judge_16 : decode cX5_judge 16 = .ok (.invokevirtual 206, 3) := by decide +kernel
theorem dX5_judge_19 : decode cX5_judge 19 = .ok (.ifCond .eq 5, 3) := by decide +kernel
theorem dX5_judge_22 : decode cX5_judge 22 = .ok (.iconst 2, 1) := by decide +kernel
theorem dX5_judge_23 : decode cX5_judge 23 = .ok (.ireturn, 1) := by decide +kernel
theorem dX5_judge_24 : decode cX5_judge 24 = .ok (.aload_n 0, 1) := by decide +kernel
theorem dX5_judge_25 : decode cX5_judge 25 = .ok (.iload_n 1, 1) := by decide +kernel
theorem dX5_judge_26 : decode cX5_judge 26 = .ok (.iload_n 2, 1) := by decide +kernel
theorem dX5_judge_27 : decode cX5_judge 27 = .ok (.invokevirtual 209, 3) := by decide +kernel
theorem dX5_judge_30 : decode cX5_judge 30 = .ok (.bipush 10, 2) := by decide +kernel
theorem dX5_judge_32 : decode cX5_judge 32 = .ok (.if_icmp .le 7, 3) := by decide +kernel
theorem dX5_judge_35 : decode cX5_judge 35 = .ok (.iconst 3, 1) := by decide +kernel
theorem dX5_judge_36 : decode cX5_judge 36 = .ok (.goto 4, 3) := by decide +kernel
theorem dX5_judge_39 : decode cX5_judge 39 = .ok (.iconst 0, 1) := by decide +kernel
theorem dX5_judge_40 : decode cX5_judge 40 = .ok (.ireturn, 1) := by decide +kernel
set_option maxRecDepth 20000 in
theorem ggX5_isCrowded_Jx4a65c_size_8abf5 : GoodIn wsX5_isCrowded wsJx4a65c_size_8abf5 := goodIn_r _ [10, 11, 95, 96, 97] (by decide +kernel) (by decide +kernel)
set_option maxRecDepth 20000 in
theorem gX5_isCrowded_Jx4a65c_size_8abf5 : GoodIn wsX5_isCrowded (wsV RX5 67 RJx4a65c yJx4a65c_size_8abf5 wsJx4a65c_size_8abf5) := goodIn_app (goodIn_of _ (by decide +kernel)) ggX5_isCrowded_Jx4a65c_size_8abf5
set_option maxRecDepth 20000 in
theorem ggX5_isCrowded_Jx4a65c_get_915e3 : GoodIn wsX5_isCrowded wsJx4a65c_get_915e3 := goodIn_r _ [15, 11, 16, 17, 18, 19, 20, 21, 22, 23, 24, 25, 26, 9, 27, 28, 95, 96, 97] (by decide +kernel) (by decide +kernel)
set_option maxRecDepth 20000 in
theorem gX5_isCrowded_Jx4a65c_get_915e3 : GoodIn wsX5_isCrowded (wsV RX5 195 RJx4a65c yJx4a65c_get_915e3 wsJx4a65c_get_915e3) := goodIn_app (goodIn_of _ (by decide +kernel)) ggX5_isCrowded_Jx4a65c_get_915e3
set_option maxRecDepth 20000 in
theorem ggX5_isCrowded_X5_squareOfDistance : GoodIn wsX5_isCrowded wsX5_squareOfDistance := goodIn_r _ [32] (by decide +kernel) (by decide +kernel)
set_option maxRecDepth 20000 in
theorem gX5_isCrowded_X5_squareOfDistance : GoodIn wsX5_isCrowded (va_wsS RX5 218 yX5_squareOfDistance wsX5_squareOfDistance) := goodIn_app (goodIn_of _ (by decide +kernel)) ggX5_isCrowded_X5_squareOfDistance
set_option maxRecDepth 20000 in
theorem ggX5_isCrowded_X1_hasLicence : GoodIn wsX5_isCrowded wsX1_hasLicence := goodIn_r _ [37, 38, 39, 40, 36, 41, 42, 43, 44, 45, 46, 47, 48, 49, 50, 51, 52, 53, 54, 55, 56, 7, 8, 9, 10, 11, 57, 13, 14, 15, 16, 17, 18, 19, 20, 21, 22, 23, 24, 25, 26, 27, 28, 58, 59, 60, 61, 62, 63, 64, 65, 66, 67, 68, 69, 70, 71, 31, 72, 73, 74, 75, 76, 88, 89, 90, 91, 92, 93, 94, 98, 99, 100, 101, 95, 96, 97] (by decide +kernel) (by decide +kernel)
set_option maxRecDepth 20000 in
theorem gX5_isCrowded_X1_hasLicence : GoodIn wsX5_isCrowded (wsV RX5 166 RX1 yX1_hasLicence wsX1_hasLicence) := goodIn_app (goodIn_of _ (by decide +kernel)) ggX5_isCrowded_X1_hasLicence
theorem dX5_isCrowded_0 : decode cX5_isCrowded 0 = .ok (.iconst 0, 1) := by decide +kernel
theorem dX5_isCrowded_1 : decode cX5_isCrowded 1 = .ok (.istore 4, 2) := by decide +kernel
theorem dX5_isCrowded_3 : decode cX5_isCrowded 3 = .ok (.iload 4, 2) := by decide +kernel
theorem dX5_isCrowded_5 : decode cX5_isCrowded 5 = .ok (.aload_n 0, 1) := by decide +kernel
theorem dX5_isCrowded_6 : decode cX5_isCrowded 6 = .ok (.getfield 19, 3) := by decide +kernel
theorem dX5_isCrowded_9 : decode cX5_isCrowded 9 = .ok (.invokevirtual 67, 3) := by decide +kernel
theorem dX5_isCrowded_12 : decode cX5_isCrowded 12 = .ok (.if_icmp .ge 61, 3) := by decide +kernel
theorem dX5_isCrowded_15 : decode cX5_isCrowded 15 = .ok (.aload_n 0, 1) := by decide +kernel
theorem dX5_isCrowded_16 : decode cX5_isCrowded 16 = .ok (.getfield 19, 3) := by decide +kernel
theorem dX5_isCrowded_19 : decode cX5_isCrowded 19 = .ok (.iload 4, 2) := by decide +kernel
theorem dX5_isCrowded_21 : decode cX5_isCrowded 21 = .ok (.invokevirtual 195, 3) := by decide +kernel
theorem dX5_isCrowded_24 : decode cX5_isCrowded 24 = .ok (.checkcast 93, 3) := by decide +kernel
theorem dX5_isCrowded_27 : decode cX5_isCrowded 27 = .ok (.astore 5, 2) := by decide +kernel
theorem dX5_isCrowded_29 : decode cX5_isCrowded 29 = .ok (.iload_n 1, 1) := by decide +kernel
theorem dX5_isCrowded_30 : decode cX5_isCrowded 30 = .ok (.iload_n 2, 1) := by decide +kernel
theorem dX5_isCrowded_31 : decode cX5_isCrowded 31 = .ok (.aload 5, 2) := by decide +kernel
theorem dX5_isCrowded_33 : decode cX5_isCrowded 33 = .ok (.getfield 212, 3) := by decide +kernel
theorem dX5_isCrowded_36 : decode cX5_isCrowded 36 = .ok (.aload 5, 2) := by decide +kernel
theorem dX5_isCrowded_38 : decode cX5_isCrowded 38 = .ok (.getfield 215, 3) := by decide +kernel
theorem dX5_isCrowded_41 : decode cX5_isCrowded 41 = .ok (.invokestatic 218, 3) := by decide +kernel
theorem dX5_isCrowded_44 : decode cX5_isCrowded 44 = .ok (.aload_n 0, 1) := by decide +kernel
theorem dX5_isCrowded_45 : decode cX5_isCrowded 45 = .ok (.getfield 35, 3) := by decide +kernel
theorem dX5_isCrowded_48 : decode cX5_isCrowded 48 = .ok (.aload_n 0, 1) := by decide +kernel
theorem dX5_isCrowded_49 : decode cX5_isCrowded 49 = .ok (.getfield 35, 3) := by decide +kernel
theorem dX5_isCrowded_52 : decode cX5_isCrowded 52 = .ok (.imul, 1) := by decide +kernel
theorem dX5_isCrowded_53 : decode cX5_isCrowded 53 = .ok (.if_icmp .ge 14, 3) := by decide +kernel
theorem dX5_isCrowded_56 : decode cX5_isCrowded 56 = .ok (.aload 5, 2) := by decide +kernel
theorem dX5_isCrowded_58 : decode cX5_isCrowded 58 = .ok (.iload_n 3, 1) := by decide +kernel
theorem dX5_isCrowded_59 : decode cX5_isCrowded 59 = .ok (.invokevirtual 166, 3) := by decide +kernel
theorem dX5_isCrowded_62 : decode cX5_isCrowded 62 = .ok (.ifCond .eq 5, 3) := by decide +kernel
theorem dX5_isCrowded_65 : decode cX5_isCrowded 65 = .ok (.iconst 1, 1) := by decide +kernel
theorem dX5_isCrowded_66 : decode cX5_isCrowded 66 = .ok (.ireturn, 1) := by decide +kernel
theorem dX5_isCrowded_67 : decode cX5_isCrowded 67 = .ok (.iinc 4 1, 3) := by decide +kernel
theorem dX5_isCrowded_70 : decode cX5_isCrowded 70 = .ok (.goto (-67), 3) := by decide +kernel
theorem dX5_isCrowded_73 : decode cX5_isCrowded 73 = .ok (.iconst 0, 1) := by decide +kernel
theorem dX5_isCrowded_74 : decode cX5_isCrowded 74 = .ok (.ireturn, 1) := by decide +kernel
set_option maxRecDepth 20000 in
theorem ggX5_weightHeard_Jx4a65c_size_8abf5 : GoodIn wsX5_weightHeard wsJx4a65c_size_8abf5 := goodIn_r _ [11, 12, 48, 49, 50] (by decide +kernel) (by decide +kernel)
set_option maxRecDepth 20000 in
theorem gX5_weightHeard_Jx4a65c_size_8abf5 : GoodIn wsX5_weightHeard (wsV RX5 67 RJx4a65c yJx4a65c_size_8abf5 wsJx4a65c_size_8abf5) := goodIn_app (goodIn_of _ (by decide +kernel)) ggX5_weightHeard_Jx4a65c_size_8abf5
set_option maxRecDepth 20000 in
theorem ggX5_weightHeard_Jx4a65c_get_915e3 : GoodIn wsX5_weightHeard wsJx4a65c_get_915e3 := goodIn_r _ [16, 12, 17, 18, 19, 20, 21, 22, 23, 24, 25, 26, 27, 10, 28, 29, 48, 49, 50] (by decide +kernel) (by decide +kernel)
set_option maxRecDepth 20000 in
theorem gX5_weightHeard_Jx4a65c_get_915e3 : GoodIn wsX5_weightHeard (wsV RX5 195 RJx4a65c yJx4a65c_get_915e3 wsJx4a65c_get_915e3) := goodIn_app (goodIn_of _ (by decide +kernel)) ggX5_weightHeard_Jx4a65c_get_915e3
set_option maxRecDepth 20000 in
theorem ggX5_weightHeard_X5_squareOfDistance : GoodIn wsX5_weightHeard wsX5_squareOfDistance := goodIn_r _ [33] (by decide +kernel) (by decide +kernel)
set_option maxRecDepth 20000 in
theorem gX5_weightHeard_X5_squareOfDistance : GoodIn wsX5_weightHeard (va_wsS RX5 218 yX5_squareOfDistance wsX5_squareOfDistance) := goodIn_app (goodIn_of _ (by decide +kernel)) ggX5_weightHeard_X5_squareOfDistance
theorem dX5_weightHeard_0 : decode cX5_weightHeard 0 = .ok (.iconst 0, 1) := by decide +kernel
theorem dX5_weightHeard_1 : decode cX5_weightHeard 1 = .ok (.istore_n 3, 1) := by decide +kernel
theorem dX5_weightHeard_2 : decode cX5_weightHeard 2 = .ok (.iconst 0, 1) := by decide +kernel
theorem dX5_weightHeard_3 : decode cX5_weightHeard 3 = .ok (.istore 4, 2) := by decide +kernel
theorem dX5_weightHeard_5 : decode cX5_weightHeard 5 = .ok (.iload 4, 2) := by decide +kernel
theorem dX5_weightHeard_7 : decode cX5_weightHeard 7 = .ok (.aload_n 0, 1) := by decide +kernel
theorem dX5_weightHeard_8 : decode cX5_weightHeard 8 = .ok (.getfield 16, 3) := by decide +kernel
theorem dX5_weightHeard_11 : decode cX5_weightHeard 11 = .ok (.invokevirtual 67, 3) := by decide +kernel
theorem dX5_weightHeard_14 : decode cX5_weightHeard 14 = .ok (.if_icmp .ge 58, 3) := by decide +kernel
theorem dX5_weightHeard_17 : decode cX5_weightHeard 17 = .ok (.aload_n 0, 1) := by decide +kernel
theorem dX5_weightHeard_18 : decode cX5_weightHeard 18 = .ok (.getfield 16, 3) := by decide +kernel
theorem dX5_weightHeard_21 : decode cX5_weightHeard 21 = .ok (.iload 4, 2) := by decide +kernel
theorem dX5_weightHeard_23 : decode cX5_weightHeard 23 = .ok (.invokevirtual 195, 3) := by decide +kernel
theorem dX5_weightHeard_26 : decode cX5_weightHeard 26 = .ok (.checkcast 78, 3) := by decide +kernel
theorem dX5_weightHeard_29 : decode cX5_weightHeard 29 = .ok (.astore 5, 2) := by decide +kernel
theorem dX5_weightHeard_31 : decode cX5_weightHeard 31 = .ok (.iload_n 1, 1) := by decide +kernel
theorem dX5_weightHeard_32 : decode cX5_weightHeard 32 = .ok (.iload_n 2, 1) := by decide +kernel
theorem dX5_weightHeard_33 : decode cX5_weightHeard 33 = .ok (.aload 5, 2) := by decide +kernel
theorem dX5_weightHeard_35 : decode cX5_weightHeard 35 = .ok (.getfield 221, 3) := by decide +kernel
theorem dX5_weightHeard_38 : decode cX5_weightHeard 38 = .ok (.aload 5, 2) := by decide +kernel
theorem dX5_weightHeard_40 : decode cX5_weightHeard 40 = .ok (.getfield 222, 3) := by decide +kernel
theorem dX5_weightHeard_43 : decode cX5_weightHeard 43 = .ok (.invokestatic 218, 3) := by decide +kernel
theorem dX5_weightHeard_46 : decode cX5_weightHeard 46 = .ok (.aload_n 0, 1) := by decide +kernel
theorem dX5_weightHeard_47 : decode cX5_weightHeard 47 = .ok (.getfield 39, 3) := by decide +kernel
theorem dX5_weightHeard_50 : decode cX5_weightHeard 50 = .ok (.aload_n 0, 1) := by decide +kernel
theorem dX5_weightHeard_51 : decode cX5_weightHeard 51 = .ok (.getfield 39, 3) := by decide +kernel
theorem dX5_weightHeard_54 : decode cX5_weightHeard 54 = .ok (.imul, 1) := by decide +kernel
theorem dX5_weightHeard_55 : decode cX5_weightHeard 55 = .ok (.if_icmp .gt 11, 3) := by decide +kernel
theorem dX5_weightHeard_58 : decode cX5_weightHeard 58 = .ok (.iload_n 3, 1) := by decide +kernel
theorem dX5_weightHeard_59 : decode cX5_weightHeard 59 = .ok (.aload 5, 2) := by decide +kernel
theorem dX5_weightHeard_61 : decode cX5_weightHeard 61 = .ok (.getfield 223, 3) := by decide +kernel
theorem dX5_weightHeard_64 : decode cX5_weightHeard 64 = .ok (.iadd, 1) := by decide +kernel
theorem dX5_weightHeard_65 : decode cX5_weightHeard 65 = .ok (.istore_n 3, 1) := by decide +kernel
theorem dX5_weightHeard_66 : decode cX5_weightHeard 66 = .ok (.iinc 4 1, 3) := by decide +kernel
theorem dX5_weightHeard_69 : decode cX5_weightHeard 69 = .ok (.goto (-64), 3) := by decide +kernel
theorem dX5_weightHeard_72 : decode cX5_weightHeard 72 = .ok (.iload_n 3, 1) := by decide +kernel
theorem dX5_weightHeard_73 : decode cX5_weightHeard 73 = .ok (.ireturn, 1) := by decide +kernel
set_option maxRecDepth 20000 in
theorem ggX5_openOverMidnightUntil_X1_conditionOn : GoodIn wsX5_openOverMidnightUntil wsX1_conditionOn := goodIn_r _ [11, 12, 13, 14, 15, 16, 17, 18, 19, 20, 21, 22, 23, 24, 25, 26, 27, 28, 29, 30, 31, 32, 33, 34, 35, 36, 37, 38, 39, 40, 41, 42, 95, 96, 97, 98, 99, 100, 101, 107, 108, 109, 110, 111, 112, 113] (by decide +kernel) (by decide +kernel)
set_option maxRecDepth 20000 in
theorem gX5_openOverMidnightUntil_X1_conditionOn : GoodIn wsX5_openOverMidnightUntil (wsV RX5 136 RX1 yX1_conditionOn wsX1_conditionOn) := goodIn_app (goodIn_of _ (by decide +kernel)) ggX5_openOverMidnightUntil_X1_conditionOn
set_option maxRecDepth 20000 in
theorem ggX5_openOverMidnightUntil_X1_hasLicence : GoodIn wsX5_openOverMidnightUntil wsX1_hasLicence := goodIn_r _ [46, 47, 48, 49, 10, 50, 51, 52, 53, 5, 54, 55, 56, 57, 58, 59, 12, 13, 14, 15, 17, 18, 19, 20, 21, 22, 23, 24, 25, 26, 27, 28, 29, 30, 31, 32, 33, 34, 35, 36, 37, 38, 39, 60, 61, 62, 63, 64, 65, 66, 67, 68, 69, 70, 71, 72, 40, 41, 42, 73, 74, 75, 76, 95, 96, 97, 98, 99, 100, 101, 107, 108, 109, 110, 111, 112, 113] (by decide +kernel) (by decide +kernel)
set_option maxRecDepth 20000 in
theorem gX5_openOverMidnightUntil_X1_hasLicence : GoodIn wsX5_openOverMidnightUntil (wsV RX5 166 RX1 yX1_hasLicence wsX1_hasLicence) := goodIn_app (goodIn_of _ (by decide +kernel)) ggX5_openOverMidnightUntil_X1_hasLicence
set_option maxRecDepth 20000 in
theorem ggX5_openOverMidnightUntil_X5_lawOf : GoodIn wsX5_openOverMidnightUntil wsX5_lawOf := goodIn_r _ [80, 81, 82, 83, 84, 85, 86, 87, 88, 89, 41, 90, 91, 92, 93, 18, 19, 20, 21, 22, 94, 24, 25, 26, 27, 28, 29, 30, 31, 32, 33, 34, 35, 36, 37, 38, 39, 114, 115, 116, 117, 118, 119, 120, 121, 122, 123, 124, 102, 103, 104, 105, 106, 111, 112, 113] (by decide +kernel) (by decide +kernel)
set_option maxRecDepth 20000 in
theorem gX5_openOverMidnightUntil_X5_lawOf : GoodIn wsX5_openOverMidnightUntil (wsV RX5 149 RX5 yX5_lawOf wsX5_lawOf) := goodIn_app (goodIn_of _ (by decide +kernel)) ggX5_openOverMidnightUntil_X5_lawOf
theorem dX5_openOverMidnightUntil_0 : decode cX5_openOverMidnightUntil 0 = .ok (.iload_n 2, 1) := by decide +kernel
theorem dX5_openOverMidnightUntil_1 : decode cX5_openOverMidnightUntil 1 = .ok (.ifCond .eq 13, 3) := by decide +kernel
theorem dX5_openOverMidnightUntil_4 : decode cX5_openOverMidnightUntil 4 = .ok (.aload_n 1, 1) := by decide +kernel
theorem dX5_openOverMidnightUntil_5 : decode cX5_openOverMidnightUntil 5 = .ok (.iload_n 2, 1) := by decide +kernel
theorem dX5_openOverMidnightUntil_6 : decode cX5_openOverMidnightUntil 6 = .ok (.invokevirtual 136, 3) := by decide +kernel
theorem dX5_openOverMidnightUntil_9 : decode cX5_openOverMidnightUntil 9 = .ok (.bipush (-4), 2) := by decide +kernel
theorem dX5_openOverMidnightUntil_11 : decode cX5_openOverMidnightUntil 11 = .ok (.if_icmp .eq 5, 3) := by decide +kernel
theorem dX5_openOverMidnightUntil_14 : decode cX5_openOverMidnightUntil 14 = .ok (.iconst 0, 1) := by decide +kernel
theorem dX5_openOverMidnightUntil_15 : decode cX5_openOverMidnightUntil 15 = .ok (.ireturn, 1) := by decide +kernel
theorem dX5_openOverMidnightUntil_16 : decode cX5_openOverMidnightUntil 16 = .ok (.aload_n 1, 1) := by decide +kernel
theorem dX5_openOverMidnightUntil_17 : decode cX5_openOverMidnightUntil 17 = .ok (.iload_n 2, 1) := by decide +kernel
theorem dX5_openOverMidnightUntil_18 : decode cX5_openOverMidnightUntil 18 = .ok (.invokevirtual 166, 3) := by decide +kernel
theorem dX5_openOverMidnightUntil_21 : decode cX5_openOverMidnightUntil 21 = .ok (.ifCond .eq 13, 3) := by decide +kernel
theorem dX5_openOverMidnightUntil_24 : decode cX5_openOverMidnightUntil 24 = .ok (.aload_n 1, 1) := by decide +kernel
theorem dX5_openOverMidnightUntil_25 : decode cX5_openOverMidnightUntil 25 = .ok (.iload_n 2, 1) := by decide +kernel
theorem dX5_openOverMidnightUntil_26 : decode cX5_openOverMidnightUntil 26 = .ok (.iconst 1, 1) := by decide +kernel
theorem dX5_openOverMidnightUntil_27 : decode cX5_openOverMidnightUntil 27 = .ok (.isub, 1) := by decide +kernel
theorem dX5_openOverMidnightUntil_28 : decode cX5_openOverMidnightUntil 28 = .ok (.invokevirtual 166, 3) := by decide +kernel
theorem dX5_openOverMidnightUntil_31 : decode cX5_openOverMidnightUntil 31 = .ok (.ifCond .ne 5, 3) := by decide +kernel
theorem dX5_openOverMidnightUntil_34 : decode cX5_openOverMidnightUntil 34 = .ok (.iconst 0, 1) := by decide +kernel
theorem dX5_openOverMidnightUntil_35 : decode cX5_openOverMidnightUntil 35 = .ok (.ireturn, 1) := by decide +kernel
theorem dX5_openOverMidnightUntil_36 : decode cX5_openOverMidnightUntil 36 = .ok (.iconst 0, 1) := by decide +kernel
theorem dX5_openOverMidnightUntil_37 : decode cX5_openOverMidnightUntil 37 = .ok (.aload_n 0, 1) := by decide +kernel
theorem dX5_openOverMidnightUntil_38 : decode cX5_openOverMidnightUntil 38 = .ok (.aload_n 1, 1) := by decide +kernel
theorem dX5_openOverMidnightUntil_39 : decode cX5_openOverMidnightUntil 39 = .ok (.getfield 146, 3) := by decide +kernel
theorem dX5_openOverMidnightUntil_42 : decode cX5_openOverMidnightUntil 42 = .ok (.iload_n 2, 1) := by decide +kernel
theorem dX5_openOverMidnightUntil_43 : decode cX5_openOverMidnightUntil 43 = .ok (.iconst 1, 1) := by decide +kernel
theorem dX5_openOverMidnightUntil_44 : decode cX5_openOverMidnightUntil 44 = .ok (.isub, 1) := by decide +kernel
theorem dX5_openOverMidnightUntil_45 : decode cX5_openOverMidnightUntil 45 = .ok (.invokevirtual 149, 3) := by decide +kernel
theorem dX5_openOverMidnightUntil_48 : decode cX5_openOverMidnightUntil 48 = .ok (.getfield 159, 3) := by decide +kernel
theorem dX5_openOverMidnightUntil_51 : decode cX5_openOverMidnightUntil 51 = .ok (.sipush 1440, 3) := by decide +kernel
theorem dX5_openOverMidnightUntil_54 : decode cX5_openOverMidnightUntil 54 = .ok (.isub, 1) := by decide +kernel
theorem dX5_openOverMidnightUntil_55 : decode cX5_openOverMidnightUntil 55 = .ok (.invokestatic 120, 3) := by decide +kernel
theorem dX5_openOverMidnightUntil_58 : decode cX5_openOverMidnightUntil 58 = .ok (.ireturn, 1) := by decide +kernel
set_option maxRecDepth 20000 in
theorem ggX5_openTodayUntil_X1_hasLicence : GoodIn wsX5_openTodayUntil wsX1_hasLicence := goodIn_r _ [11, 12, 13, 14, 10, 15, 16, 17, 4, 5, 6, 18, 19, 20, 21, 22, 23, 24, 25, 26, 27, 28, 29, 30, 31, 32, 33, 34, 35, 36, 37, 38, 39, 40, 41, 42, 43, 44, 45, 46, 47, 48, 49, 50, 51, 52, 53, 54, 55, 56, 57, 58, 59, 60, 61, 62, 63, 64, 65, 66, 67, 68, 69, 93, 94, 95, 96, 97, 98, 99, 105, 106, 107, 108, 109, 110, 111] (by decide +kernel) (by decide +kernel)
set_option maxRecDepth 20000 in
theorem gX5_openTodayUntil_X1_hasLicence : GoodIn wsX5_openTodayUntil (wsV RX5 166 RX1 yX1_hasLicence wsX1_hasLicence) := goodIn_app (goodIn_of _ (by decide +kernel)) ggX5_openTodayUntil_X1_hasLicence
set_option maxRecDepth 20000 in
theorem ggX5_openTodayUntil_X1_conditionOn : GoodIn wsX5_openTodayUntil wsX1_conditionOn := goodIn_r _ [73, 23, 24, 25, 26, 74, 27, 28, 29, 30, 31, 32, 33, 34, 35, 36, 37, 38, 39, 40, 41, 42, 43, 44, 45, 46, 47, 48, 49, 63, 64, 65, 93, 94, 95, 96, 97, 98, 99, 105, 106, 107, 108, 109, 110, 111] (by decide +kernel) (by decide +kernel)
set_option maxRecDepth 20000 in
theorem gX5_openTodayUntil_X1_conditionOn : GoodIn wsX5_openTodayUntil (wsV RX5 136 RX1 yX1_conditionOn wsX1_conditionOn) := goodIn_app (goodIn_of _ (by decide +kernel)) ggX5_openTodayUntil_X1_conditionOn
set_option maxRecDepth 20000 in
theorem ggX5_openTodayUntil_X5_lawOf : GoodIn wsX5_openTodayUntil wsX5_lawOf := goodIn_r _ [78, 79, 80, 81, 82, 83, 84, 85, 86, 87, 64, 88, 89, 90, 91, 28, 29, 30, 31, 32, 92, 34, 35, 36, 37, 38, 39, 40, 41, 42, 43, 44, 45, 46, 47, 48, 49, 112, 113, 114, 115, 116, 117, 118, 119, 120, 121, 122, 100, 101, 102, 103, 104, 109, 110, 111] (by decide +kernel) (by decide +kernel)
set_option maxRecDepth 20000 in
theorem gX5_openTodayUntil_X5_lawOf : GoodIn wsX5_openTodayUntil (wsV RX5 149 RX5 yX5_lawOf wsX5_lawOf) := goodIn_app (goodIn_of _ (by decide +kernel)) ggX5_openTodayUntil_X5_lawOf
theorem dX5_openTodayUntil_0 : decode cX5_openTodayUntil 0 = .ok (.aload_n 1, 1) := by decide +kernel
theorem dX5_openTodayUntil_1 : decode cX5_openTodayUntil 1 = .ok (.iload_n 2, 1) := by decide +kernel
theorem dX5_openTodayUntil_2 : decode cX5_openTodayUntil 2 = .ok (.invokevirtual 166, 3) := by decide +kernel
theorem dX5_openTodayUntil_5 : decode cX5_openTodayUntil 5 = .ok (.ifCond .ne 5, 3) := by decide +kernel
theorem dX5_openTodayUntil_8 : decode cX5_openTodayUntil 8 = .ok (.iconst 0, 1) := by decide +kernel
theorem dX5_openTodayUntil_9 : decode cX5_openTodayUntil 9 = .ok (.ireturn, 1) := by decide +kernel
theorem dX5_openTodayUntil_10 : decode cX5_openTodayUntil 10 = .ok (.aload_n 1, 1) := by decide +kernel
theorem dX5_openTodayUntil_11 : decode cX5_openTodayUntil 11 = .ok (.iload_n 2, 1) := by decide +kernel
theorem dX5_openTodayUntil_12 : decode cX5_openTodayUntil 12 = .ok (.invokevirtual 136, 3) := by decide +kernel
theorem dX5_openTodayUntil_15 : decode cX5_openTodayUntil 15 = .ok (.istore_n 3, 1) := by decide +kernel
theorem dX5_openTodayUntil_16 : decode cX5_openTodayUntil 16 = .ok (.iload_n 3, 1) := by decide +kernel
theorem dX5_openTodayUntil_17 : decode cX5_openTodayUntil 17 = .ok (.bipush (-4), 2) := by decide +kernel
theorem dX5_openTodayUntil_19 : decode cX5_openTodayUntil 19 = .ok (.if_icmp .ne 9, 3) := by decide +kernel
theorem dX5_openTodayUntil_22 : decode cX5_openTodayUntil 22 = .ok (.sipush 1440, 3) := by decide +kernel
theorem dX5_openTodayUntil_25 : decode cX5_openTodayUntil 25 = .ok (.goto 4, 3) := by decide +kernel
theorem dX5_openTodayUntil_28 : decode cX5_openTodayUntil 28 = .ok (.iload_n 3, 1) := by decide +kernel
theorem dX5_openTodayUntil_29 : decode cX5_openTodayUntil 29 = .ok (.istore 4, 2) := by decide +kernel
theorem dX5_openTodayUntil_31 : decode cX5_openTodayUntil 31 = .ok (.aload_n 0, 1) := by decide +kernel
theorem dX5_openTodayUntil_32 : decode cX5_openTodayUntil 32 = .ok (.aload_n 1, 1) := by decide +kernel
theorem dX5_openTodayUntil_33 : decode cX5_openTodayUntil 33 = .ok (.getfield 146, 3) := by decide +kernel
theorem dX5_openTodayUntil_36 : decode cX5_openTodayUntil 36 = .ok (.iload_n 2, 1) := by decide +kernel
theorem dX5_openTodayUntil_37 : decode cX5_openTodayUntil 37 = .ok (.invokevirtual 149, 3) := by decide +kernel
theorem dX5_openTodayUntil_40 : decode cX5_openTodayUntil 40 = .ok (.getfield 159, 3) := by decide +kernel
theorem dX5_openTodayUntil_43 : decode cX5_openTodayUntil 43 = .ok (.iload 4, 2) := by decide +kernel
theorem dX5_openTodayUntil_45 : decode cX5_openTodayUntil 45 = .ok (.invokestatic 226, 3) := by decide +kernel
theorem dX5_openTodayUntil_48 : decode cX5_openTodayUntil 48 = .ok (.ireturn, 1) := by decide +kernel
set_option maxRecDepth 20000 in
theorem ggX5_partOf_X5_worthOfPayers : GoodIn wsX5_partOf wsX5_worthOfPayers := goodIn_r _ [7, 1, 2, 8, 9, 10, 11, 12, 13, 14, 15, 16, 17, 18, 19, 20, 21, 22, 23, 24, 25, 26, 27, 28, 29, 30, 31, 32, 33, 34, 35, 36, 37, 38, 39, 40, 41, 42, 43, 44, 45, 46, 47, 48, 49, 50, 51, 52, 53, 54, 55, 56, 57, 58, 59, 60, 61, 62, 63, 64, 65, 66, 67, 68, 69, 6, 70, 71, 72, 73, 74, 75, 76, 77, 78, 79, 80, 81, 82, 83, 84, 85, 86, 87, 88, 89, 90, 91, 92, 93, 94, 95, 96, 97, 98, 99, 100, 101, 102, 103, 104, 105, 106, 107, 108, 109, 110, 111, 112, 113] (by decide +kernel) (by decide +kernel)
set_option maxRecDepth 20000 in
theorem gX5_partOf_X5_worthOfPayers : GoodIn wsX5_partOf (wsV RX5 229 RX5 yX5_worthOfPayers wsX5_worthOfPayers) := goodIn_app (goodIn_of _ (by decide +kernel)) ggX5_partOf_X5_worthOfPayers
set_option maxRecDepth 20000 in
theorem ggX5_partOf_Jx4a65c_size_8abf5 : GoodIn wsX5_partOf wsJx4a65c_size_8abf5 := goodIn_r _ [12, 13, 98, 99, 100] (by decide +kernel) (by decide +kernel)
set_option maxRecDepth 20000 in
theorem gX5_partOf_Jx4a65c_size_8abf5 : GoodIn wsX5_partOf (wsV RX5 67 RJx4a65c yJx4a65c_size_8abf5 wsJx4a65c_size_8abf5) := goodIn_app (goodIn_of _ (by decide +kernel)) ggX5_partOf_Jx4a65c_size_8abf5
set_option maxRecDepth 20000 in
theorem ggX5_partOf_Jx4a65c_get_915e3 : GoodIn wsX5_partOf wsJx4a65c_get_915e3 := goodIn_r _ [17, 13, 18, 19, 20, 21, 22, 23, 24, 25, 26, 27, 28, 11, 29, 30, 98, 99, 100] (by decide +kernel) (by decide +kernel)
set_option maxRecDepth 20000 in
theorem gX5_partOf_Jx4a65c_get_915e3 : GoodIn wsX5_partOf (wsV RX5 195 RJx4a65c yJx4a65c_get_915e3 wsJx4a65c_get_915e3) := goodIn_app (goodIn_of _ (by decide +kernel)) ggX5_partOf_Jx4a65c_get_915e3
set_option maxRecDepth 20000 in
theorem ggX5_partOf_X1_hasLicence : GoodIn wsX5_partOf wsX1_hasLicence := goodIn_r _ [35, 36, 37, 38, 34, 39, 40, 41, 42, 43, 44, 45, 46, 47, 48, 49, 50, 51, 52, 53, 54, 9, 10, 11, 12, 13, 55, 15, 16, 17, 18, 19, 20, 21, 22, 23, 24, 25, 26, 27, 28, 29, 30, 56, 57, 58, 59, 60, 61, 62, 63, 64, 65, 66, 67, 68, 69, 6, 70, 71, 72, 73, 74, 101, 102, 103, 104, 105, 106, 107, 108, 109, 110, 111, 98, 99, 100] (by decide +kernel) (by decide +kernel)
set_option maxRecDepth 20000 in
theorem gX5_partOf_X1_hasLicence : GoodIn wsX5_partOf (wsV RX5 166 RX1 yX1_hasLicence wsX1_hasLicence) := goodIn_app (goodIn_of _ (by decide +kernel)) ggX5_partOf_X1_hasLicence
set_option maxRecDepth 20000 in
theorem ggX5_partOf_X1_worthOn : GoodIn wsX5_partOf wsX1_worthOn := goodIn_r _ [78, 79, 80, 81, 82, 83, 84, 85, 11, 86, 13, 55, 15, 16, 17, 18, 19, 20, 21, 22, 23, 24, 25, 26, 27, 28, 29, 30, 54, 9, 10, 12, 69, 6, 70, 101, 102, 103, 104, 105, 106, 107, 112, 113, 98, 99, 100] (by decide +kernel) (by decide +kernel)
set_option maxRecDepth 20000 in
theorem gX5_partOf_X1_worthOn : GoodIn wsX5_partOf (wsV RX5 139 RX1 yX1_worthOn wsX1_worthOn) := goodIn_app (goodIn_of _ (by decide +kernel)) ggX5_partOf_X1_worthOn
theorem dX5_partOf_0 : decode cX5_partOf 0 = .ok (.aload_n 0, 1) := by decide +kernel
theorem dX5_partOf_1 : decode cX5_partOf 1 = .ok (.iload_n 3, 1) := by decide +kernel
theorem dX5_partOf_2 : decode cX5_partOf 2 = .ok (.invokevirtual 229, 3) := by decide +kernel
theorem dX5_partOf_5 : decode cX5_partOf 5 = .ok (.lstore 6, 2) := by decide +kernel
theorem dX5_partOf_7 : decode cX5_partOf 7 = .ok (.lload 6, 2) := by decide +kernel
theorem dX5_partOf_9 : decode cX5_partOf 9 = .ok (.lconst 0, 1) := by decide +kernel
theorem dX5_partOf_10 : decode cX5_partOf 10 = .ok (.lcmp, 1) := by decide +kernel
theorem dX5_partOf_11 : decode cX5_partOf 11 = .ok (.ifCond .gt 5, 3) := by decide +kernel
theorem dX5_partOf_14 : decode cX5_partOf 14 = .ok (.iconst 0, 1) := by decide +kernel
theorem dX5_partOf_15 : decode cX5_partOf 15 = .ok (.ireturn, 1) := by decide +kernel
theorem dX5_partOf_16 : decode cX5_partOf 16 = .ok (.lload 4, 2) := by decide +kernel
theorem dX5_partOf_18 : decode cX5_partOf 18 = .ok (.iload_n 2, 1) := by decide +kernel
theorem dX5_partOf_19 : decode cX5_partOf 19 = .ok (.i2l, 1) := by decide +kernel
theorem dX5_partOf_20 : decode cX5_partOf 20 = .ok (.lmul, 1) := by decide +kernel
theorem dX5_partOf_21 : decode cX5_partOf 21 = .ok (.lstore 8, 2) := by decide +kernel
theorem dX5_partOf_23 : decode cX5_partOf 23 = .ok (.lload 8, 2) := by decide +kernel
theorem dX5_partOf_25 : decode cX5_partOf 25 = .ok (.lload 6, 2) := by decide +kernel
theorem dX5_partOf_27 : decode cX5_partOf 27 = .ok (.lrem, 1) := by decide +kernel
theorem dX5_partOf_28 : decode cX5_partOf 28 = .ok (.lstore 10, 2) := by decide +kernel
theorem dX5_partOf_30 : decode cX5_partOf 30 = .ok (.lload 4, 2) := by decide +kernel
theorem dX5_partOf_32 : decode cX5_partOf 32 = .ok (.lstore 12, 2) := by decide +kernel
theorem dX5_partOf_34 : decode cX5_partOf 34 = .ok (.iconst 0, 1) := by decide +kernel
theorem dX5_partOf_35 : decode cX5_partOf 35 = .ok (.istore 14, 2) := by decide +kernel
theorem dX5_partOf_37 : decode cX5_partOf 37 = .ok (.iconst 0, 1) := by decide +kernel
theorem dX5_partOf_38 : decode cX5_partOf 38 = .ok (.istore 15, 2) := by decide +kernel
theorem dX5_partOf_40 : decode cX5_partOf 40 = .ok (.iload 15, 2) := by decide +kernel
theorem dX5_partOf_42 : decode cX5_partOf 42 = .ok (.aload_n 0, 1) := by decide +kernel
theorem dX5_partOf_43 : decode cX5_partOf 43 = .ok (.getfield 19, 3) := by decide +kernel
theorem dX5_partOf_46 : decode cX5_partOf 46 = .ok (.invokevirtual 67, 3) := by decide +kernel
theorem dX5_partOf_49 : decode cX5_partOf 49 = .ok (.if_icmp .ge 86, 3) := by decide +kernel
theorem dX5_partOf_52 : decode cX5_partOf 52 = .ok (.aload_n 0, 1) := by decide +kernel
theorem dX5_partOf_53 : decode cX5_partOf 53 = .ok (.getfield 19, 3) := by decide +kernel
theorem dX5_partOf_56 : decode cX5_partOf 56 = .ok (.iload 15, 2) := by decide +kernel
theorem dX5_partOf_58 : decode cX5_partOf 58 = .ok (.invokevirtual 195, 3) := by decide +kernel
theorem dX5_partOf_61 : decode cX5_partOf 61 = .ok (.checkcast 93, 3) := by decide +kernel
theorem dX5_partOf_64 : decode cX5_partOf 64 = .ok (.astore 16, 2) := by decide +kernel
theorem dX5_partOf_66 : decode cX5_partOf 66 = .ok (.aload 16, 2) := by decide +kernel
theorem dX5_partOf_68 : decode cX5_partOf 68 = .ok (.iload_n 3, 1) := by decide +kernel
theorem dX5_partOf_69 : decode cX5_partOf 69 = .ok (.invokevirtual 166, 3) := by decide +kernel
theorem dX5_partOf_72 : decode cX5_partOf 72 = .ok (.ifCond .eq 57, 3) := by decide +kernel
theorem dX5_partOf_75 : decode cX5_partOf 75 = .ok (.lload 4, 2) := by decide +kernel
theorem dX5_partOf_77 : decode cX5_partOf 77 = .ok (.aload 16, 2) := by decide +kernel
theorem dX5_partOf_79 : decode cX5_partOf 79 = .ok (.iload_n 3, 1) := by decide +kernel
theorem dX5_partOf_80 : decode cX5_partOf 80 = .ok (.invokevirtual 139, 3) := by decide +kernel
theorem dX5_partOf_83 : decode cX5_partOf 83 = .ok (.i2l, 1) := by decide +kernel
theorem dX5_partOf_84 : decode cX5_partOf 84 = .ok (.lmul, 1) := by decide +kernel
theorem dX5_partOf_85 : decode cX5_partOf 85 = .ok (.lstore 17, 2) := by decide +kernel
theorem dX5_partOf_87 : decode cX5_partOf 87 = .ok (.lload 17, 2) := by decide +kernel
theorem dX5_partOf_89 : decode cX5_partOf 89 = .ok (.lload 6, 2) := by decide +kernel
theorem dX5_partOf_91 : decode cX5_partOf 91 = .ok (.lrem, 1) := by decide +kernel
theorem dX5_partOf_92 : decode cX5_partOf 92 = .ok (.lstore 19, 2) := by decide +kernel
theorem dX5_partOf_94 : decode cX5_partOf 94 = .ok (.lload 12, 2) := by decide +kernel
theorem dX5_partOf_96 : decode cX5_partOf 96 = .ok (.lload 17, 2) := by decide +kernel
theorem dX5_partOf_98 : decode cX5_partOf 98 = .ok (.lload 6, 2) := by decide +kernel
theorem dX5_partOf_100 : decode cX5_partOf 100 = .ok (.ldiv, 1) := by decide +kernel
theorem dX5_partOf_101 : decode cX5_partOf 101 = .ok (.lsub, 1) := by decide +kernel
theorem dX5_partOf_102 : decode cX5_partOf 102 = .ok (.lstore 12, 2) := by decide +kernel
theorem dX5_partOf_104 : decode cX5_partOf 104 = .ok (.lload 19, 2) := by decide +kernel
theorem dX5_partOf_106 : decode cX5_partOf 106 = .ok (.lload 10, 2) := by decide +kernel
theorem dX5_partOf_108 : decode cX5_partOf 108 = .ok (.lcmp, 1) := by decide +kernel
theorem dX5_partOf_109 : decode cX5_partOf 109 = .ok (.ifCond .gt 17, 3) := by decide +kernel
theorem dX5_partOf_112 : decode cX5_partOf 112 = .ok (.lload 19, 2) := by decide +kernel
theorem dX5_partOf_114 : decode cX5_partOf 114 = .ok (.lload 10, 2) := by decide +kernel
theorem dX5_partOf_116 : decode cX5_partOf 116 = .ok (.lcmp, 1) := by decide +kernel
theorem dX5_partOf_117 : decode cX5_partOf 117 = .ok (.ifCond .ne 12, 3) := by decide +kernel
theorem dX5_partOf_120 : decode cX5_partOf 120 = .ok (.iload 15, 2) := by decide +kernel
theorem dX5_partOf_122 : decode cX5_partOf 122 = .ok (.iload_n 1, 1) := by decide +kernel
theorem dX5_partOf_123 : decode cX5_partOf 123 = .ok (.if_icmp .ge 6, 3) := by decide +kernel
theorem dX5_partOf_126 : decode cX5_partOf 126 = .ok (.iinc 14 1, 3) := by decide +kernel
theorem dX5_partOf_129 : decode cX5_partOf 129 = .ok (.iinc 15 1, 3) := by decide +kernel
theorem dX5_partOf_132 : decode cX5_partOf 132 = .ok (.goto (-92), 3) := by decide +kernel
theorem dX5_partOf_135 : decode cX5_partOf 135 = .ok (.lload 8, 2) := by decide +kernel
theorem dX5_partOf_137 : decode cX5_partOf 137 = .ok (.lload 6, 2) := by decide +kernel
theorem dX5_partOf_139 : decode cX5_partOf 139 = .ok (.ldiv, 1) := by decide +kernel
theorem dX5_partOf_140 : decode cX5_partOf 140 = .ok (.l2i, 1) := by decide +kernel
theorem dX5_partOf_141 : decode cX5_partOf 141 = .ok (.iload 14, 2) := by decide +kernel
theorem dX5_partOf_143 : decode cX5_partOf 143 = .ok (.i2l, 1) := by decide +kernel
theorem dX5_partOf_144 : decode cX5_partOf 144 = .ok (.lload 12, 2) := by decide +kernel
theorem dX5_partOf_146 : decode cX5_partOf 146 = .ok (.lcmp, 1) := by decide +kernel
end
section
theorem dX5_partOf_147 : decode cX5_partOf 147 = .ok (.ifCond .ge 7, 3) := by decide +kernel
theorem dX5_partOf_150 : decode cX5_partOf 150 = .ok (.iconst 1, 1) := by decide +kernel
theorem dX5_partOf_151 : decode cX5_partOf 151 = .ok (.goto 4, 3) := by decide +kernel
theorem dX5_partOf_154 : decode cX5_partOf 154 = .ok (.iconst 0, 1) := by decide +kernel
theorem dX5_partOf_155 : decode cX5_partOf 155 = .ok (.iadd, 1) := by decide +kernel
theorem dX5_partOf_156 : decode cX5_partOf 156 = .ok (.ireturn, 1) := by decide +kernel
set_option maxRecDepth 20000 in
theorem ggX5_worthOfPayers_Jx4a65c_size_8abf5 : GoodIn wsX5_worthOfPayers wsJx4a65c_size_8abf5 := goodIn_r _ [7, 8, 94, 95, 96] (by decide +kernel) (by decide +kernel)
set_option maxRecDepth 20000 in
theorem gX5_worthOfPayers_Jx4a65c_size_8abf5 : GoodIn wsX5_worthOfPayers (wsV RX5 67 RJx4a65c yJx4a65c_size_8abf5 wsJx4a65c_size_8abf5) := goodIn_app (goodIn_of _ (by decide +kernel)) ggX5_worthOfPayers_Jx4a65c_size_8abf5
set_option maxRecDepth 20000 in
theorem ggX5_worthOfPayers_Jx4a65c_get_915e3 : GoodIn wsX5_worthOfPayers wsJx4a65c_get_915e3 := goodIn_r _ [12, 8, 13, 14, 15, 16, 17, 18, 19, 20, 21, 22, 23, 6, 24, 25, 94, 95, 96] (by decide +kernel) (by decide +kernel)
set_option maxRecDepth 20000 in
theorem gX5_worthOfPayers_Jx4a65c_get_915e3 : GoodIn wsX5_worthOfPayers (wsV RX5 195 RJx4a65c yJx4a65c_get_915e3 wsJx4a65c_get_915e3) := goodIn_app (goodIn_of _ (by decide +kernel)) ggX5_worthOfPayers_Jx4a65c_get_915e3
set_option maxRecDepth 20000 in
theorem ggX5_worthOfPayers_X1_hasLicence : GoodIn wsX5_worthOfPayers wsX1_hasLicence := goodIn_r _ [30, 31, 32, 33, 29, 34, 35, 36, 37, 38, 39, 40, 41, 42, 43, 44, 45, 46, 47, 48, 49, 4, 5, 6, 7, 8, 50, 10, 11, 12, 13, 14, 15, 16, 17, 18, 19, 20, 21, 22, 23, 24, 25, 51, 52, 53, 54, 55, 56, 57, 58, 59, 60, 61, 62, 63, 64, 65, 66, 67, 68, 69, 70, 97, 98, 99, 100, 101, 102, 103, 104, 105, 106, 107, 94, 95, 96] (by decide +kernel) (by decide +kernel)
set_option maxRecDepth 20000 in
theorem gX5_worthOfPayers_X1_hasLicence : GoodIn wsX5_worthOfPayers (wsV RX5 166 RX1 yX1_hasLicence wsX1_hasLicence) := goodIn_app (goodIn_of _ (by decide +kernel)) ggX5_worthOfPayers_X1_hasLicence
set_option maxRecDepth 20000 in
theorem ggX5_worthOfPayers_X1_worthOn : GoodIn wsX5_worthOfPayers wsX1_worthOn := goodIn_r _ [74, 75, 76, 77, 78, 79, 80, 81, 6, 82, 8, 50, 10, 11, 12, 13, 14, 15, 16, 17, 18, 19, 20, 21, 22, 23, 24, 25, 49, 4, 5, 7, 64, 65, 66, 97, 98, 99, 100, 101, 102, 103, 108, 109, 94, 95, 96] (by decide +kernel) (by decide +kernel)
set_option maxRecDepth 20000 in
theorem gX5_worthOfPayers_X1_worthOn : GoodIn wsX5_worthOfPayers (wsV RX5 139 RX1 yX1_worthOn wsX1_worthOn) := goodIn_app (goodIn_of _ (by decide +kernel)) ggX5_worthOfPayers_X1_worthOn
theorem dX5_worthOfPayers_0 : decode cX5_worthOfPayers 0 = .ok (.lconst 0, 1) := by decide +kernel
theorem dX5_worthOfPayers_1 : decode cX5_worthOfPayers 1 = .ok (.lstore_n 2, 1) := by decide +kernel
theorem dX5_worthOfPayers_2 : decode cX5_worthOfPayers 2 = .ok (.iconst 0, 1) := by decide +kernel
theorem dX5_worthOfPayers_3 : decode cX5_worthOfPayers 3 = .ok (.istore 4, 2) := by decide +kernel
theorem dX5_worthOfPayers_5 : decode cX5_worthOfPayers 5 = .ok (.iload 4, 2) := by decide +kernel
theorem dX5_worthOfPayers_7 : decode cX5_worthOfPayers 7 = .ok (.aload_n 0, 1) := by decide +kernel
theorem dX5_worthOfPayers_8 : decode cX5_worthOfPayers 8 = .ok (.getfield 19, 3) := by decide +kernel
theorem dX5_worthOfPayers_11 : decode cX5_worthOfPayers 11 = .ok (.invokevirtual 67, 3) := by decide +kernel
theorem dX5_worthOfPayers_14 : decode cX5_worthOfPayers 14 = .ok (.if_icmp .ge 42, 3) := by decide +kernel
theorem dX5_worthOfPayers_17 : decode cX5_worthOfPayers 17 = .ok (.aload_n 0, 1) := by decide +kernel
theorem dX5_worthOfPayers_18 : decode cX5_worthOfPayers 18 = .ok (.getfield 19, 3) := by decide +kernel
theorem dX5_worthOfPayers_21 : decode cX5_worthOfPayers 21 = .ok (.iload 4, 2) := by decide +kernel
theorem dX5_worthOfPayers_23 : decode cX5_worthOfPayers 23 = .ok (.invokevirtual 195, 3) := by decide +kernel
theorem dX5_worthOfPayers_26 : decode cX5_worthOfPayers 26 = .ok (.checkcast 93, 3) := by decide +kernel
theorem dX5_worthOfPayers_29 : decode cX5_worthOfPayers 29 = .ok (.astore 5, 2) := by decide +kernel
theorem dX5_worthOfPayers_31 : decode cX5_worthOfPayers 31 = .ok (.aload 5, 2) := by decide +kernel
theorem dX5_worthOfPayers_33 : decode cX5_worthOfPayers 33 = .ok (.iload_n 1, 1) := by decide +kernel
theorem dX5_worthOfPayers_34 : decode cX5_worthOfPayers 34 = .ok (.invokevirtual 166, 3) := by decide +kernel
theorem dX5_worthOfPayers_37 : decode cX5_worthOfPayers 37 = .ok (.ifCond .eq 13, 3) := by decide +kernel
theorem dX5_worthOfPayers_40 : decode cX5_worthOfPayers 40 = .ok (.lload_n 2, 1) := by decide +kernel
theorem dX5_worthOfPayers_41 : decode cX5_worthOfPayers 41 = .ok (.aload 5, 2) := by decide +kernel
theorem dX5_worthOfPayers_43 : decode cX5_worthOfPayers 43 = .ok (.iload_n 1, 1) := by decide +kernel
theorem dX5_worthOfPayers_44 : decode cX5_worthOfPayers 44 = .ok (.invokevirtual 139, 3) := by decide +kernel
theorem dX5_worthOfPayers_47 : decode cX5_worthOfPayers 47 = .ok (.i2l, 1) := by decide +kernel
theorem dX5_worthOfPayers_48 : decode cX5_worthOfPayers 48 = .ok (.ladd, 1) := by decide +kernel
theorem dX5_worthOfPayers_49 : decode cX5_worthOfPayers 49 = .ok (.lstore_n 2, 1) := by decide +kernel
theorem dX5_worthOfPayers_50 : decode cX5_worthOfPayers 50 = .ok (.iinc 4 1, 3) := by decide +kernel
theorem dX5_worthOfPayers_53 : decode cX5_worthOfPayers 53 = .ok (.goto (-48), 3) := by decide +kernel
theorem dX5_worthOfPayers_56 : decode cX5_worthOfPayers 56 = .ok (.lload_n 2, 1) := by decide +kernel
theorem dX5_worthOfPayers_57 : decode cX5_worthOfPayers 57 = .ok (.lreturn, 1) := by decide +kernel
set_option maxRecDepth 20000 in
theorem ggX5_anyLicence_Jx4a65c_size_8abf5 : GoodIn wsX5_anyLicence wsJx4a65c_size_8abf5 := goodIn_r _ [7, 8, 82, 83, 84] (by decide +kernel) (by decide +kernel)
set_option maxRecDepth 20000 in
theorem gX5_anyLicence_Jx4a65c_size_8abf5 : GoodIn wsX5_anyLicence (wsV RX5 67 RJx4a65c yJx4a65c_size_8abf5 wsJx4a65c_size_8abf5) := goodIn_app (goodIn_of _ (by decide +kernel)) ggX5_anyLicence_Jx4a65c_size_8abf5
set_option maxRecDepth 20000 in
theorem ggX5_anyLicence_Jx4a65c_get_915e3 : GoodIn wsX5_anyLicence wsJx4a65c_get_915e3 := goodIn_r _ [12, 8, 13, 14, 15, 16, 17, 18, 19, 20, 21, 22, 23, 6, 24, 25, 82, 83, 84] (by decide +kernel) (by decide +kernel)
set_option maxRecDepth 20000 in
theorem gX5_anyLicence_Jx4a65c_get_915e3 : GoodIn wsX5_anyLicence (wsV RX5 195 RJx4a65c yJx4a65c_get_915e3 wsJx4a65c_get_915e3) := goodIn_app (goodIn_of _ (by decide +kernel)) ggX5_anyLicence_Jx4a65c_get_915e3
set_option maxRecDepth 20000 in
theorem ggX5_anyLicence_X1_hasLicence : GoodIn wsX5_anyLicence wsX1_hasLicence := goodIn_r _ [30, 31, 32, 33, 29, 34, 35, 36, 37, 38, 39, 40, 41, 42, 43, 44, 45, 46, 47, 48, 49, 4, 5, 6, 7, 8, 50, 10, 11, 12, 13, 14, 15, 16, 17, 18, 19, 20, 21, 22, 23, 24, 25, 51, 52, 53, 54, 55, 56, 57, 58, 59, 60, 61, 62, 63, 64, 65, 66, 67, 68, 69, 70, 85, 86, 87, 88, 89, 90, 91, 92, 93, 94, 95, 82, 83, 84] (by decide +kernel) (by decide +kernel)
set_option maxRecDepth 20000 in
theorem gX5_anyLicence_X1_hasLicence : GoodIn wsX5_anyLicence (wsV RX5 166 RX1 yX1_hasLicence wsX1_hasLicence) := goodIn_app (goodIn_of _ (by decide +kernel)) ggX5_anyLicence_X1_hasLicence
theorem dX5_anyLicence_0 : decode cX5_anyLicence 0 = .ok (.iconst 0, 1) := by decide +kernel
theorem dX5_anyLicence_1 : decode cX5_anyLicence 1 = .ok (.istore_n 2, 1) := by decide +kernel
theorem dX5_anyLicence_2 : decode cX5_anyLicence 2 = .ok (.iload_n 2, 1) := by decide +kernel
theorem dX5_anyLicence_3 : decode cX5_anyLicence 3 = .ok (.aload_n 0, 1) := by decide +kernel
theorem dX5_anyLicence_4 : decode cX5_anyLicence 4 = .ok (.getfield 19, 3) := by decide +kernel
theorem dX5_anyLicence_7 : decode cX5_anyLicence 7 = .ok (.invokevirtual 67, 3) := by decide +kernel
theorem dX5_anyLicence_10 : decode cX5_anyLicence 10 = .ok (.if_icmp .ge 29, 3) := by decide +kernel
theorem dX5_anyLicence_13 : decode cX5_anyLicence 13 = .ok (.aload_n 0, 1) := by decide +kernel
theorem dX5_anyLicence_14 : decode cX5_anyLicence 14 = .ok (.getfield 19, 3) := by decide +kernel
theorem dX5_anyLicence_17 : decode cX5_anyLicence 17 = .ok (.iload_n 2, 1) := by decide +kernel
theorem dX5_anyLicence_18 : decode cX5_anyLicence 18 = .ok (.invokevirtual 195, 3) := by decide +kernel
theorem dX5_anyLicence_21 : decode cX5_anyLicence 21 = .ok (.checkcast 93, 3) := by decide +kernel
theorem dX5_anyLicence_24 : decode cX5_anyLicence 24 = .ok (.iload_n 1, 1) := by decide +kernel
theorem dX5_anyLicence_25 : decode cX5_anyLicence 25 = .ok (.invokevirtual 166, 3) := by decide +kernel
theorem dX5_anyLicence_28 : decode cX5_anyLicence 28 = .ok (.ifCond .eq 5, 3) := by decide +kernel
theorem dX5_anyLicence_31 : decode cX5_anyLicence 31 = .ok (.iconst 1, 1) := by decide +kernel
theorem dX5_anyLicence_32 : decode cX5_anyLicence 32 = .ok (.ireturn, 1) := by decide +kernel
theorem dX5_anyLicence_33 : decode cX5_anyLicence 33 = .ok (.iinc 2 1, 3) := by decide +kernel
theorem dX5_anyLicence_36 : decode cX5_anyLicence 36 = .ok (.goto (-34), 3) := by decide +kernel
theorem dX5_anyLicence_39 : decode cX5_anyLicence 39 = .ok (.iconst 0, 1) := by decide +kernel
theorem dX5_anyLicence_40 : decode cX5_anyLicence 40 = .ok (.ireturn, 1) := by decide +kernel
set_option maxRecDepth 20000 in
theorem ggX5_unvisitedOn_Jx4a65c_size_8abf5 : GoodIn wsX5_unvisitedOn wsJx4a65c_size_8abf5 := goodIn_r _ [8, 9, 90, 91, 92] (by decide +kernel) (by decide +kernel)
set_option maxRecDepth 20000 in
theorem gX5_unvisitedOn_Jx4a65c_size_8abf5 : GoodIn wsX5_unvisitedOn (wsV RX5 67 RJx4a65c yJx4a65c_size_8abf5 wsJx4a65c_size_8abf5) := goodIn_app (goodIn_of _ (by decide +kernel)) ggX5_unvisitedOn_Jx4a65c_size_8abf5
set_option maxRecDepth 20000 in
theorem ggX5_unvisitedOn_Jx4a65c_get_915e3 : GoodIn wsX5_unvisitedOn wsJx4a65c_get_915e3 := goodIn_r _ [13, 9, 14, 15, 16, 17, 18, 19, 20, 21, 22, 23, 24, 7, 25, 26, 90, 91, 92] (by decide +kernel) (by decide +kernel)
set_option maxRecDepth 20000 in
theorem gX5_unvisitedOn_Jx4a65c_get_915e3 : GoodIn wsX5_unvisitedOn (wsV RX5 195 RJx4a65c yJx4a65c_get_915e3 wsJx4a65c_get_915e3) := goodIn_app (goodIn_of _ (by decide +kernel)) ggX5_unvisitedOn_Jx4a65c_get_915e3
set_option maxRecDepth 20000 in
theorem ggX5_unvisitedOn_X1_hasLicence : GoodIn wsX5_unvisitedOn wsX1_hasLicence := goodIn_r _ [31, 32, 33, 34, 30, 35, 36, 37, 38, 39, 40, 41, 42, 43, 44, 45, 46, 47, 48, 49, 50, 5, 6, 7, 8, 9, 51, 11, 12, 13, 14, 15, 16, 17, 18, 19, 20, 21, 22, 23, 24, 25, 26, 52, 53, 54, 55, 56, 57, 58, 59, 60, 61, 62, 63, 64, 65, 66, 67, 68, 69, 70, 71, 83, 84, 85, 86, 87, 88, 89, 93, 94, 95, 96, 90, 91, 92] (by decide +kernel) (by decide +kernel)
set_option maxRecDepth 20000 in
theorem gX5_unvisitedOn_X1_hasLicence : GoodIn wsX5_unvisitedOn (wsV RX5 166 RX1 yX1_hasLicence wsX1_hasLicence) := goodIn_app (goodIn_of _ (by decide +kernel)) ggX5_unvisitedOn_X1_hasLicence
theorem dX5_unvisitedOn_0 : decode cX5_unvisitedOn 0 = .ok (.iconst 0, 1) := by decide +kernel
theorem dX5_unvisitedOn_1 : decode cX5_unvisitedOn 1 = .ok (.istore_n 2, 1) := by decide +kernel
theorem dX5_unvisitedOn_2 : decode cX5_unvisitedOn 2 = .ok (.iconst 0, 1) := by decide +kernel
theorem dX5_unvisitedOn_3 : decode cX5_unvisitedOn 3 = .ok (.istore_n 3, 1) := by decide +kernel
theorem dX5_unvisitedOn_4 : decode cX5_unvisitedOn 4 = .ok (.iload_n 3, 1) := by decide +kernel
theorem dX5_unvisitedOn_5 : decode cX5_unvisitedOn 5 = .ok (.aload_n 0, 1) := by decide +kernel
theorem dX5_unvisitedOn_6 : decode cX5_unvisitedOn 6 = .ok (.getfield 19, 3) := by decide +kernel
theorem dX5_unvisitedOn_9 : decode cX5_unvisitedOn 9 = .ok (.invokevirtual 67, 3) := by decide +kernel
theorem dX5_unvisitedOn_12 : decode cX5_unvisitedOn 12 = .ok (.if_icmp .ge 42, 3) := by decide +kernel
theorem dX5_unvisitedOn_15 : decode cX5_unvisitedOn 15 = .ok (.aload_n 0, 1) := by decide +kernel
theorem dX5_unvisitedOn_16 : decode cX5_unvisitedOn 16 = .ok (.getfield 19, 3) := by decide +kernel
theorem dX5_unvisitedOn_19 : decode cX5_unvisitedOn 19 = .ok (.iload_n 3, 1) := by decide +kernel
theorem dX5_unvisitedOn_20 : decode cX5_unvisitedOn 20 = .ok (.invokevirtual 195, 3) := by decide +kernel
theorem dX5_unvisitedOn_23 : decode cX5_unvisitedOn 23 = .ok (.checkcast 93, 3) := by decide +kernel
theorem dX5_unvisitedOn_26 : decode cX5_unvisitedOn 26 = .ok (.astore 4, 2) := by decide +kernel
theorem dX5_unvisitedOn_28 : decode cX5_unvisitedOn 28 = .ok (.aload 4, 2) := by decide +kernel
theorem dX5_unvisitedOn_30 : decode cX5_unvisitedOn 30 = .ok (.getfield 233, 3) := by decide +kernel
theorem dX5_unvisitedOn_33 : decode cX5_unvisitedOn 33 = .ok (.ifCond .ne 15, 3) := by decide +kernel
theorem dX5_unvisitedOn_36 : decode cX5_unvisitedOn 36 = .ok (.aload 4, 2) := by decide +kernel
theorem dX5_unvisitedOn_38 : decode cX5_unvisitedOn 38 = .ok (.iload_n 1, 1) := by decide +kernel
theorem dX5_unvisitedOn_39 : decode cX5_unvisitedOn 39 = .ok (.invokevirtual 166, 3) := by decide +kernel
theorem dX5_unvisitedOn_42 : decode cX5_unvisitedOn 42 = .ok (.ifCond .eq 6, 3) := by decide +kernel
theorem dX5_unvisitedOn_45 : decode cX5_unvisitedOn 45 = .ok (.iinc 2 1, 3) := by decide +kernel
theorem dX5_unvisitedOn_48 : decode cX5_unvisitedOn 48 = .ok (.iinc 3 1, 3) := by decide +kernel
theorem dX5_unvisitedOn_51 : decode cX5_unvisitedOn 51 = .ok (.goto (-47), 3) := by decide +kernel
theorem dX5_unvisitedOn_54 : decode cX5_unvisitedOn 54 = .ok (.iload_n 2, 1) := by decide +kernel
theorem dX5_unvisitedOn_55 : decode cX5_unvisitedOn 55 = .ok (.ireturn, 1) := by decide +kernel
set_option maxRecDepth 20000 in
theorem ggX5_visitUnvisited_Jx4a65c_size_8abf5 : GoodIn wsX5_visitUnvisited wsJx4a65c_size_8abf5 := goodIn_r _ [9, 10, 91, 92, 93] (by decide +kernel) (by decide +kernel)
set_option maxRecDepth 20000 in
theorem gX5_visitUnvisited_Jx4a65c_size_8abf5 : GoodIn wsX5_visitUnvisited (wsV RX5 67 RJx4a65c yJx4a65c_size_8abf5 wsJx4a65c_size_8abf5) := goodIn_app (goodIn_of _ (by decide +kernel)) ggX5_visitUnvisited_Jx4a65c_size_8abf5
set_option maxRecDepth 20000 in
theorem ggX5_visitUnvisited_Jx4a65c_get_915e3 : GoodIn wsX5_visitUnvisited wsJx4a65c_get_915e3 := goodIn_r _ [14, 10, 15, 16, 17, 18, 19, 20, 21, 22, 23, 24, 25, 8, 26, 27, 91, 92, 93] (by decide +kernel) (by decide +kernel)
set_option maxRecDepth 20000 in
theorem gX5_visitUnvisited_Jx4a65c_get_915e3 : GoodIn wsX5_visitUnvisited (wsV RX5 195 RJx4a65c yJx4a65c_get_915e3 wsJx4a65c_get_915e3) := goodIn_app (goodIn_of _ (by decide +kernel)) ggX5_visitUnvisited_Jx4a65c_get_915e3
set_option maxRecDepth 20000 in
theorem ggX5_visitUnvisited_X1_hasLicence : GoodIn wsX5_visitUnvisited wsX1_hasLicence := goodIn_r _ [32, 33, 34, 35, 31, 36, 37, 38, 39, 40, 41, 42, 43, 44, 45, 46, 47, 48, 49, 50, 51, 6, 7, 8, 9, 10, 52, 12, 13, 14, 15, 16, 17, 18, 19, 20, 21, 22, 23, 24, 25, 26, 27, 53, 54, 55, 56, 57, 58, 59, 60, 61, 62, 63, 64, 65, 66, 67, 68, 69, 70, 71, 72, 84, 85, 86, 87, 88, 89, 90, 94, 95, 96, 97, 91, 92, 93] (by decide +kernel) (by decide +kernel)
set_option maxRecDepth 20000 in
theorem gX5_visitUnvisited_X1_hasLicence : GoodIn wsX5_visitUnvisited (wsV RX5 166 RX1 yX1_hasLicence wsX1_hasLicence) := goodIn_app (goodIn_of _ (by decide +kernel)) ggX5_visitUnvisited_X1_hasLicence
theorem dX5_visitUnvisited_0 : decode cX5_visitUnvisited 0 = .ok (.iload_n 2, 1) := by decide +kernel
theorem dX5_visitUnvisited_1 : decode cX5_visitUnvisited 1 = .ok (.istore_n 3, 1) := by decide +kernel
theorem dX5_visitUnvisited_2 : decode cX5_visitUnvisited 2 = .ok (.iconst 0, 1) := by decide +kernel
theorem dX5_visitUnvisited_3 : decode cX5_visitUnvisited 3 = .ok (.istore 4, 2) := by decide +kernel
theorem dX5_visitUnvisited_5 : decode cX5_visitUnvisited 5 = .ok (.iload 4, 2) := by decide +kernel
theorem dX5_visitUnvisited_7 : decode cX5_visitUnvisited 7 = .ok (.aload_n 0, 1) := by decide +kernel
theorem dX5_visitUnvisited_8 : decode cX5_visitUnvisited 8 = .ok (.getfield 19, 3) := by decide +kernel
theorem dX5_visitUnvisited_11 : decode cX5_visitUnvisited 11 = .ok (.invokevirtual 67, 3) := by decide +kernel
theorem dX5_visitUnvisited_14 : decode cX5_visitUnvisited 14 = .ok (.if_icmp .ge 66, 3) := by decide +kernel
theorem dX5_visitUnvisited_17 : decode cX5_visitUnvisited 17 = .ok (.aload_n 0, 1) := by decide +kernel
theorem dX5_visitUnvisited_18 : decode cX5_visitUnvisited 18 = .ok (.getfield 19, 3) := by decide +kernel
theorem dX5_visitUnvisited_21 : decode cX5_visitUnvisited 21 = .ok (.iload 4, 2) := by decide +kernel
theorem dX5_visitUnvisited_23 : decode cX5_visitUnvisited 23 = .ok (.invokevirtual 195, 3) := by decide +kernel
theorem dX5_visitUnvisited_26 : decode cX5_visitUnvisited 26 = .ok (.checkcast 93, 3) := by decide +kernel
theorem dX5_visitUnvisited_29 : decode cX5_visitUnvisited 29 = .ok (.astore 5, 2) := by decide +kernel
theorem dX5_visitUnvisited_31 : decode cX5_visitUnvisited 31 = .ok (.aload 5, 2) := by decide +kernel
theorem dX5_visitUnvisited_33 : decode cX5_visitUnvisited 33 = .ok (.getfield 233, 3) := by decide +kernel
theorem dX5_visitUnvisited_36 : decode cX5_visitUnvisited 36 = .ok (.ifCond .ne 38, 3) := by decide +kernel
theorem dX5_visitUnvisited_39 : decode cX5_visitUnvisited 39 = .ok (.aload 5, 2) := by decide +kernel
theorem dX5_visitUnvisited_41 : decode cX5_visitUnvisited 41 = .ok (.iload_n 1, 1) := by decide +kernel
theorem dX5_visitUnvisited_42 : decode cX5_visitUnvisited 42 = .ok (.invokevirtual 166, 3) := by decide +kernel
theorem dX5_visitUnvisited_45 : decode cX5_visitUnvisited 45 = .ok (.ifCond .eq 29, 3) := by decide +kernel
theorem dX5_visitUnvisited_48 : decode cX5_visitUnvisited 48 = .ok (.iload_n 3, 1) := by decide +kernel
theorem dX5_visitUnvisited_49 : decode cX5_visitUnvisited 49 = .ok (.ifCond .ne 22, 3) := by decide +kernel
theorem dX5_visitUnvisited_52 : decode cX5_visitUnvisited 52 = .ok (.aload 5, 2) := by decide +kernel
theorem dX5_visitUnvisited_54 : decode cX5_visitUnvisited 54 = .ok (.iconst 1, 1) := by decide +kernel
theorem dX5_visitUnvisited_55 : decode cX5_visitUnvisited 55 = .ok (.putfield 233, 3) := by decide +kernel
theorem dX5_visitUnvisited_58 : decode cX5_visitUnvisited 58 = .ok (.aload_n 0, 1) := by decide +kernel
theorem dX5_visitUnvisited_59 : decode cX5_visitUnvisited 59 = .ok (.dup, 1) := by decide +kernel
theorem dX5_visitUnvisited_60 : decode cX5_visitUnvisited 60 = .ok (.getfield 191, 3) := by decide +kernel
theorem dX5_visitUnvisited_63 : decode cX5_visitUnvisited 63 = .ok (.iconst 1, 1) := by decide +kernel
theorem dX5_visitUnvisited_64 : decode cX5_visitUnvisited 64 = .ok (.iadd, 1) := by decide +kernel
theorem dX5_visitUnvisited_65 : decode cX5_visitUnvisited 65 = .ok (.putfield 191, 3) := by decide +kernel
theorem dX5_visitUnvisited_68 : decode cX5_visitUnvisited 68 = .ok (.iload 4, 2) := by decide +kernel
theorem dX5_visitUnvisited_70 : decode cX5_visitUnvisited 70 = .ok (.ireturn, 1) := by decide +kernel
theorem dX5_visitUnvisited_71 : decode cX5_visitUnvisited 71 = .ok (.iinc 3 (-1), 3) := by decide +kernel
theorem dX5_visitUnvisited_74 : decode cX5_visitUnvisited 74 = .ok (.iinc 4 1, 3) := by decide +kernel
theorem dX5_visitUnvisited_77 : decode cX5_visitUnvisited 77 = .ok (.goto (-72), 3) := by decide +kernel
theorem dX5_visitUnvisited_80 : decode cX5_visitUnvisited 80 = .ok (.bipush (-2), 2) := by decide +kernel
theorem dX5_visitUnvisited_82 : decode cX5_visitUnvisited 82 = .ok (.ireturn, 1) := by decide +kernel
set_option maxRecDepth 20000 in
theorem ggX5_beginRound_Jx4a65c_size_8abf5 : GoodIn wsX5_beginRound wsJx4a65c_size_8abf5 := goodIn_r _ [9, 10, 46, 47, 48] (by decide +kernel) (by decide +kernel)
set_option maxRecDepth 20000 in
theorem gX5_beginRound_Jx4a65c_size_8abf5 : GoodIn wsX5_beginRound (wsV RX5 67 RJx4a65c yJx4a65c_size_8abf5 wsJx4a65c_size_8abf5) := goodIn_app (goodIn_of _ (by decide +kernel)) ggX5_beginRound_Jx4a65c_size_8abf5
set_option maxRecDepth 20000 in
theorem ggX5_beginRound_Jx4a65c_get_915e3 : GoodIn wsX5_beginRound wsJx4a65c_get_915e3 := goodIn_r _ [14, 10, 15, 16, 17, 18, 19, 20, 21, 22, 23, 24, 25, 8, 26, 27, 46, 47, 48] (by decide +kernel) (by decide +kernel)
set_option maxRecDepth 20000 in
theorem gX5_beginRound_Jx4a65c_get_915e3 : GoodIn wsX5_beginRound (wsV RX5 195 RJx4a65c yJx4a65c_get_915e3 wsJx4a65c_get_915e3) := goodIn_app (goodIn_of _ (by decide +kernel)) ggX5_beginRound_Jx4a65c_get_915e3
theorem dX5_beginRound_0 : decode cX5_beginRound 0 = .ok (.iconst 0, 1) := by decide +kernel
theorem dX5_beginRound_1 : decode cX5_beginRound 1 = .ok (.istore_n 1, 1) := by decide +kernel
theorem dX5_beginRound_2 : decode cX5_beginRound 2 = .ok (.iload_n 1, 1) := by decide +kernel
theorem dX5_beginRound_3 : decode cX5_beginRound 3 = .ok (.aload_n 0, 1) := by decide +kernel
theorem dX5_beginRound_4 : decode cX5_beginRound 4 = .ok (.getfield 19, 3) := by decide +kernel
theorem dX5_beginRound_7 : decode cX5_beginRound 7 = .ok (.invokevirtual 67, 3) := by decide +kernel
theorem dX5_beginRound_10 : decode cX5_beginRound 10 = .ok (.if_icmp .ge 24, 3) := by decide +kernel
theorem dX5_beginRound_13 : decode cX5_beginRound 13 = .ok (.aload_n 0, 1) := by decide +kernel
theorem dX5_beginRound_14 : decode cX5_beginRound 14 = .ok (.getfield 19, 3) := by decide +kernel
theorem dX5_beginRound_17 : decode cX5_beginRound 17 = .ok (.iload_n 1, 1) := by decide +kernel
theorem dX5_beginRound_18 : decode cX5_beginRound 18 = .ok (.invokevirtual 195, 3) := by decide +kernel
theorem dX5_beginRound_21 : decode cX5_beginRound 21 = .ok (.checkcast 93, 3) := by decide +kernel
theorem dX5_beginRound_24 : decode cX5_beginRound 24 = .ok (.iconst 0, 1) := by decide +kernel
theorem dX5_beginRound_25 : decode cX5_beginRound 25 = .ok (.putfield 233, 3) := by decide +kernel
theorem dX5_beginRound_28 : decode cX5_beginRound 28 = .ok (.iinc 1 1, 3) := by decide +kernel
theorem dX5_beginRound_31 : decode cX5_beginRound 31 = .ok (.goto (-29), 3) := by decide +kernel
theorem dX5_beginRound_34 : decode cX5_beginRound 34 = .ok (.aload_n 0, 1) := by decide +kernel
theorem dX5_beginRound_35 : decode cX5_beginRound 35 = .ok (.iconst 0, 1) := by decide +kernel
theorem dX5_beginRound_36 : decode cX5_beginRound 36 = .ok (.putfield 191, 3) := by decide +kernel
theorem dX5_beginRound_39 : decode cX5_beginRound 39 = .ok (.return_, 1) := by decide +kernel
theorem dX6_init_0 : decode cX6_init 0 = .ok (.aload_n 0, 1) := by decide +kernel
theorem dX6_init_1 : decode cX6_init 1 = .ok (.invokespecial 1, 3) := by decide +kernel
theorem dX6_init_4 : decode cX6_init 4 = .ok (.aload_n 0, 1) := by decide +kernel
theorem dX6_init_5 : decode cX6_init 5 = .ok (.bipush 20, 2) := by decide +kernel
theorem dX6_init_7 : decode cX6_init 7 = .ok (.newarray .int, 2) := by decide +kernel
theorem dX6_init_9 : decode cX6_init 9 = .ok (.putfield 7, 3) := by decide +kernel
theorem dX6_init_12 : decode cX6_init 12 = .ok (.aload_n 0, 1) := by decide +kernel
theorem dX6_init_13 : decode cX6_init 13 = .ok (.bipush 40, 2) := by decide +kernel
theorem dX6_init_15 : decode cX6_init 15 = .ok (.newarray .int, 2) := by decide +kernel
theorem dX6_init_17 : decode cX6_init 17 = .ok (.putfield 13, 3) := by decide +kernel
theorem dX6_init_20 : decode cX6_init 20 = .ok (.aload_n 0, 1) := by decide +kernel
theorem dX6_init_21 : decode cX6_init 21 = .ok (.bipush 40, 2) := by decide +kernel
theorem dX6_init_23 : decode cX6_init 23 = .ok (.newarray .int, 2) := by decide +kernel
theorem dX6_init_25 : decode cX6_init 25 = .ok (.putfield 16, 3) := by decide +kernel
theorem dX6_init_28 : decode cX6_init 28 = .ok (.aload_n 0, 1) := by decide +kernel
theorem dX6_init_29 : decode cX6_init 29 = .ok (.bipush 40, 2) := by decide +kernel
theorem dX6_init_31 : decode cX6_init 31 = .ok (.newarray .int, 2) := by decide +kernel
theorem dX6_init_33 : decode cX6_init 33 = .ok (.putfield 19, 3) := by decide +kernel
theorem dX6_init_36 : decode cX6_init 36 = .ok (.aload_n 0, 1) := by decide +kernel
theorem dX6_init_37 : decode cX6_init 37 = .ok (.bipush 40, 2) := by decide +kernel
theorem dX6_init_39 : decode cX6_init 39 = .ok (.newarray .int, 2) := by decide +kernel
theorem dX6_init_41 : decode cX6_init 41 = .ok (.putfield 22, 3) := by decide +kernel
theorem dX6_init_44 : decode cX6_init 44 = .ok (.aload_n 0, 1) := by decide +kernel
theorem dX6_init_45 : decode cX6_init 45 = .ok (.bipush 40, 2) := by decide +kernel
theorem dX6_init_47 : decode cX6_init 47 = .ok (.newarray .int, 2) := by decide +kernel
theorem dX6_init_49 : decode cX6_init 49 = .ok (.putfield 25, 3) := by decide +kernel
theorem dX6_init_52 : decode cX6_init 52 = .ok (.aload_n 0, 1) := by decide +kernel
theorem dX6_init_53 : decode cX6_init 53 = .ok (.bipush 20, 2) := by decide +kernel
theorem dX6_init_55 : decode cX6_init 55 = .ok (.putfield 28, 3) := by decide +kernel
theorem dX6_init_58 : decode cX6_init 58 = .ok (.aload_n 0, 1) := by decide +kernel
theorem dX6_init_59 : decode cX6_init 59 = .ok (.bipush 100, 2) := by decide +kernel
theorem dX6_init_61 : decode cX6_init 61 = .ok (.putfield 32, 3) := by decide +kernel
theorem dX6_init_64 : decode cX6_init 64 = .ok (.aload_n 0, 1) := by decide +kernel
theorem dX6_init_65 : decode cX6_init 65 = .ok (.bipush 20, 2) := by decide +kernel
theorem dX6_init_67 : decode cX6_init 67 = .ok (.newarray .int, 2) := by decide +kernel
theorem dX6_init_69 : decode cX6_init 69 = .ok (.putfield 35, 3) := by decide +kernel
theorem dX6_init_72 : decode cX6_init 72 = .ok (.aload_n 0, 1) := by decide +kernel
theorem dX6_init_73 : decode cX6_init 73 = .ok (.bipush 20, 2) := by decide +kernel
theorem dX6_init_75 : decode cX6_init 75 = .ok (.newarray .int, 2) := by decide +kernel
theorem dX6_init_77 : decode cX6_init 77 = .ok (.putfield 38, 3) := by decide +kernel
theorem dX6_init_80 : decode cX6_init 80 = .ok (.aload_n 0, 1) := by decide +kernel
theorem dX6_init_81 : decode cX6_init 81 = .ok (.bipush 20, 2) := by decide +kernel
theorem dX6_init_83 : decode cX6_init 83 = .ok (.newarray .int, 2) := by decide +kernel
theorem dX6_init_85 : decode cX6_init 85 = .ok (.putfield 41, 3) := by decide +kernel
theorem dX6_init_88 : decode cX6_init 88 = .ok (.aload_n 0, 1) := by decide +kernel
theorem dX6_init_89 : decode cX6_init 89 = .ok (.bipush 30, 2) := by decide +kernel
theorem dX6_init_91 : decode cX6_init 91 = .ok (.newarray .int, 2) := by decide +kernel
theorem dX6_init_93 : decode cX6_init 93 = .ok (.putfield 44, 3) := by decide +kernel
theorem dX6_init_96 : decode cX6_init 96 = .ok (.aload_n 0, 1) := by decide +kernel
theorem dX6_init_97 : decode cX6_init 97 = .ok (.bipush 30, 2) := by decide +kernel
theorem dX6_init_99 : decode cX6_init 99 = .ok (.newarray .int, 2) := by decide +kernel
theorem dX6_init_101 : decode cX6_init 101 = .ok (.putfield 47, 3) := by decide +kernel
theorem dX6_init_104 : decode cX6_init 104 = .ok (.aload_n 0, 1) := by decide +kernel
theorem dX6_init_105 : decode cX6_init 105 = .ok (.bipush 30, 2) := by decide +kernel
theorem dX6_init_107 : decode cX6_init 107 = .ok (.newarray .int, 2) := by decide +kernel
theorem dX6_init_109 : decode cX6_init 109 = .ok (.putfield 50, 3) := by decide +kernel
theorem dX6_init_112 : decode cX6_init 112 = .ok (.aload_n 0, 1) := by decide +kernel
theorem dX6_init_113 : decode cX6_init 113 = .ok (.bipush 30, 2) := by decide +kernel
theorem dX6_init_115 : decode cX6_init 115 = .ok (.newarray .int, 2) := by decide +kernel
theorem dX6_init_117 : decode cX6_init 117 = .ok (.putfield 53, 3) := by decide +kernel
theorem dX6_init_120 : decode cX6_init 120 = .ok (.aload_n 0, 1) := by decide +kernel
theorem dX6_init_121 : decode cX6_init 121 = .ok (.bipush 30, 2) := by decide +kernel
theorem dX6_init_123 : decode cX6_init 123 = .ok (.newarray .int, 2) := by decide +kernel
theorem dX6_init_125 : decode cX6_init 125 = .ok (.putfield 56, 3) := by decide +kernel
theorem dX6_init_128 : decode cX6_init 128 = .ok (.aload_n 0, 1) := by decide +kernel
theorem dX6_init_129 : decode cX6_init 129 = .ok (.sipush 480, 3) := by decide +kernel
theorem dX6_init_132 : decode cX6_init 132 = .ok (.newarray .int, 2) := by decide +kernel
theorem dX6_init_134 : decode cX6_init 134 = .ok (.putfield 59, 3) := by decide +kernel
theorem dX6_init_137 : decode cX6_init 137 = .ok (.aload_n 0, 1) := by decide +kernel
theorem dX6_init_138 : decode cX6_init 138 = .ok (.sipush 480, 3) := by decide +kernel
theorem dX6_init_141 : decode cX6_init 141 = .ok (.newarray .int, 2) := by decide +kernel
theorem dX6_init_143 : decode cX6_init 143 = .ok (.putfield 62, 3) := by decide +kernel
theorem dX6_init_146 : decode cX6_init 146 = .ok (.aload_n 0, 1) := by decide +kernel
theorem dX6_init_147 : decode cX6_init 147 = .ok (.sipush 480, 3) := by decide +kernel
theorem dX6_init_150 : decode cX6_init 150 = .ok (.newarray .int, 2) := by decide +kernel
theorem dX6_init_152 : decode cX6_init 152 = .ok (.putfield 65, 3) := by decide +kernel
theorem dX6_init_155 : decode cX6_init 155 = .ok (.aload_n 0, 1) := by decide +kernel
theorem dX6_init_156 : decode cX6_init 156 = .ok (.bipush 30, 2) := by decide +kernel
theorem dX6_init_158 : decode cX6_init 158 = .ok (.newarray .int, 2) := by decide +kernel
theorem dX6_init_160 : decode cX6_init 160 = .ok (.putfield 68, 3) := by decide +kernel
theorem dX6_init_163 : decode cX6_init 163 = .ok (.aload_n 0, 1) := by decide +kernel
theorem dX6_init_164 : decode cX6_init 164 = .ok (.sipush 240, 3) := by decide +kernel
theorem dX6_init_167 : decode cX6_init 167 = .ok (.newarray .int, 2) := by decide +kernel
theorem dX6_init_169 : decode cX6_init 169 = .ok (.putfield 71, 3) := by decide +kernel
theorem dX6_init_172 : decode cX6_init 172 = .ok (.aload_n 0, 1) := by decide +kernel
theorem dX6_init_173 : decode cX6_init 173 = .ok (.sipush 240, 3) := by decide +kernel
theorem dX6_init_176 : decode cX6_init 176 = .ok (.newarray .int, 2) := by decide +kernel
theorem dX6_init_178 : decode cX6_init 178 = .ok (.putfield 74, 3) := by decide +kernel
theorem dX6_init_181 : decode cX6_init 181 = .ok (.aload_n 0, 1) := by decide +kernel
theorem dX6_init_182 : decode cX6_init 182 = .ok (.bipush 30, 2) := by decide +kernel
theorem dX6_init_184 : decode cX6_init 184 = .ok (.newarray .boolean, 2) := by decide +kernel
theorem dX6_init_186 : decode cX6_init 186 = .ok (.putfield 77, 3) := by decide +kernel
theorem dX6_init_189 : decode cX6_init 189 = .ok (.aload_n 0, 1) := by decide +kernel
theorem dX6_init_190 : decode cX6_init 190 = .ok (.lconst 1, 1) := by decide +kernel
theorem dX6_init_191 : decode cX6_init 191 = .ok (.putfield 81, 3) := by decide +kernel
theorem dX6_init_194 : decode cX6_init 194 = .ok (.aload_n 0, 1) := by decide +kernel
theorem dX6_init_195 : decode cX6_init 195 = .ok (.bipush 30, 2) := by decide +kernel
theorem dX6_init_197 : decode cX6_init 197 = .ok (.newarray .long, 2) := by decide +kernel
theorem dX6_init_199 : decode cX6_init 199 = .ok (.putfield 85, 3) := by decide +kernel
theorem dX6_init_202 : decode cX6_init 202 = .ok (.aload_n 0, 1) := by decide +kernel
theorem dX6_init_203 : decode cX6_init 203 = .ok (.bipush 30, 2) := by decide +kernel
theorem dX6_init_205 : decode cX6_init 205 = .ok (.newarray .long, 2) := by decide +kernel
theorem dX6_init_207 : decode cX6_init 207 = .ok (.putfield 89, 3) := by decide +kernel
theorem dX6_init_210 : decode cX6_init 210 = .ok (.return_, 1) := by decide +kernel
theorem dX6_in_0 : decode cX6_in 0 = .ok (.iload_n 0, 1) := by decide +kernel
theorem dX6_in_1 : decode cX6_in 1 = .ok (.iload_n 1, 1) := by decide +kernel
theorem dX6_in_2 : decode cX6_in 2 = .ok (.if_icmp .lt 12, 3) := by decide +kernel
theorem dX6_in_5 : decode cX6_in 5 = .ok (.iload_n 0, 1) := by decide +kernel
theorem dX6_in_6 : decode cX6_in 6 = .ok (.iload_n 2, 1) := by decide +kernel
theorem dX6_in_7 : decode cX6_in 7 = .ok (.if_icmp .gt 7, 3) := by decide +kernel
theorem dX6_in_10 : decode cX6_in 10 = .ok (.iconst 1, 1) := by decide +kernel
theorem dX6_in_11 : decode cX6_in 11 = .ok (.goto 4, 3) := by decide +kernel
theorem dX6_in_14 : decode cX6_in 14 = .ok (.iconst 0, 1) := by decide +kernel
theorem dX6_in_15 : decode cX6_in 15 = .ok (.ireturn, 1) := by decide +kernel
set_option maxRecDepth 20000 in
theorem ggX6_isDay_X6_in : GoodIn wsX6_isDay wsX6_in := goodIn_r _ [4] (by decide +kernel) (by decide +kernel)
set_option maxRecDepth 20000 in
theorem gX6_isDay_X6_in : GoodIn wsX6_isDay (va_wsS RX6 92 yX6_in wsX6_in) := goodIn_app (goodIn_of _ (by decide +kernel)) ggX6_isDay_X6_in
theorem dX6_isDay_0 : decode cX6_isDay 0 = .ok (.iload_n 0, 1) := by decide +kernel
theorem dX6_isDay_1 : decode cX6_isDay 1 = .ok (.iconst 0, 1) := by decide +kernel
theorem dX6_isDay_2 : decode cX6_isDay 2 = .ok (.sipush 3999, 3) := by decide +kernel
theorem dX6_isDay_5 : decode cX6_isDay 5 = .ok (.invokestatic 92, 3) := by decide +kernel
theorem dX6_isDay_8 : decode cX6_isDay 8 = .ok (.ireturn, 1) := by decide +kernel
theorem dX6_isFeast_0 : decode cX6_isFeast 0 = .ok (.iconst 0, 1) := by decide +kernel
theorem dX6_isFeast_1 : decode cX6_isFeast 1 = .ok (.istore_n 2, 1) := by decide +kernel
theorem dX6_isFeast_2 : decode cX6_isFeast 2 = .ok (.iconst 0, 1) := by decide +kernel
theorem dX6_isFeast_3 : decode cX6_isFeast 3 = .ok (.istore_n 3, 1) := by decide +kernel
theorem dX6_isFeast_4 : decode cX6_isFeast 4 = .ok (.iload_n 3, 1) := by decide +kernel
theorem dX6_isFeast_5 : decode cX6_isFeast 5 = .ok (.aload_n 0, 1) := by decide +kernel
theorem dX6_isFeast_6 : decode cX6_isFeast 6 = .ok (.getfield 96, 3) := by decide +kernel
theorem dX6_isFeast_9 : decode cX6_isFeast 9 = .ok (.if_icmp .ge 29, 3) := by decide +kernel
theorem dX6_isFeast_12 : decode cX6_isFeast 12 = .ok (.iload_n 2, 1) := by decide +kernel
theorem dX6_isFeast_13 : decode cX6_isFeast 13 = .ok (.ifCond .ne 13, 3) := by decide +kernel
theorem dX6_isFeast_16 : decode cX6_isFeast 16 = .ok (.aload_n 0, 1) := by decide +kernel
theorem dX6_isFeast_17 : decode cX6_isFeast 17 = .ok (.getfield 7, 3) := by decide +kernel
theorem dX6_isFeast_20 : decode cX6_isFeast 20 = .ok (.iload_n 3, 1) := by decide +kernel
theorem dX6_isFeast_21 : decode cX6_isFeast 21 = .ok (.iaload, 1) := by decide +kernel
theorem dX6_isFeast_22 : decode cX6_isFeast 22 = .ok (.iload_n 1, 1) := by decide +kernel
theorem dX6_isFeast_23 : decode cX6_isFeast 23 = .ok (.if_icmp .ne 7, 3) := by decide +kernel
theorem dX6_isFeast_26 : decode cX6_isFeast 26 = .ok (.iconst 1, 1) := by decide +kernel
theorem dX6_isFeast_27 : decode cX6_isFeast 27 = .ok (.goto 4, 3) := by decide +kernel
theorem dX6_isFeast_30 : decode cX6_isFeast 30 = .ok (.iconst 0, 1) := by decide +kernel
theorem dX6_isFeast_31 : decode cX6_isFeast 31 = .ok (.istore_n 2, 1) := by decide +kernel
theorem dX6_isFeast_32 : decode cX6_isFeast 32 = .ok (.iinc 3 1, 3) := by decide +kernel
theorem dX6_isFeast_35 : decode cX6_isFeast 35 = .ok (.goto (-31), 3) := by decide +kernel
theorem dX6_isFeast_38 : decode cX6_isFeast 38 = .ok (.iload_n 2, 1) := by decide +kernel
theorem dX6_isFeast_39 : decode cX6_isFeast 39 = .ok (.ireturn, 1) := by decide +kernel
set_option maxRecDepth 20000 in
theorem ggX6_feast_X6_isDay : GoodIn wsX6_feast wsX6_isDay := goodIn_r _ [6, 7, 8, 5, 9] (by decide +kernel) (by decide +kernel)
set_option maxRecDepth 20000 in
theorem gX6_feast_X6_isDay : GoodIn wsX6_feast (va_wsS RX6 99 yX6_isDay wsX6_isDay) := goodIn_app (goodIn_of _ (by decide +kernel)) ggX6_feast_X6_isDay
set_option maxRecDepth 20000 in
theorem ggX6_feast_X6_isFeast : GoodIn wsX6_feast wsX6_isFeast := goodIn_r _ [13, 1, 2, 14, 15, 16, 17, 18, 19, 20, 21, 22, 23, 24, 25, 26, 27, 28, 29, 30, 31, 32, 33, 34, 35, 36, 37, 38, 39, 40, 41, 42, 43, 44, 45] (by decide +kernel) (by decide +kernel)
set_option maxRecDepth 20000 in
theorem gX6_feast_X6_isFeast : GoodIn wsX6_feast (wsV RX6 103 RX6 yX6_isFeast wsX6_isFeast) := goodIn_app (goodIn_of _ (by decide +kernel)) ggX6_feast_X6_isFeast
theorem dX6_feast_0 : decode cX6_feast 0 = .ok (.iload_n 1, 1) := by decide +kernel
theorem dX6_feast_1 : decode cX6_feast 1 = .ok (.invokestatic 99, 3) := by decide +kernel
theorem dX6_feast_4 : decode cX6_feast 4 = .ok (.ifCond .ne 5, 3) := by decide +kernel
theorem dX6_feast_7 : decode cX6_feast 7 = .ok (.iconst (-1), 1) := by decide +kernel
theorem dX6_feast_8 : decode cX6_feast 8 = .ok (.ireturn, 1) := by decide +kernel
theorem dX6_feast_9 : decode cX6_feast 9 = .ok (.aload_n 0, 1) := by decide +kernel
theorem dX6_feast_10 : decode cX6_feast 10 = .ok (.iload_n 1, 1) := by decide +kernel
theorem dX6_feast_11 : decode cX6_feast 11 = .ok (.invokevirtual 103, 3) := by decide +kernel
theorem dX6_feast_14 : decode cX6_feast 14 = .ok (.ifCond .eq 6, 3) := by decide +kernel
theorem dX6_feast_17 : decode cX6_feast 17 = .ok (.bipush (-2), 2) := by decide +kernel
theorem dX6_feast_19 : decode cX6_feast 19 = .ok (.ireturn, 1) := by decide +kernel
theorem dX6_feast_20 : decode cX6_feast 20 = .ok (.aload_n 0, 1) := by decide +kernel
theorem dX6_feast_21 : decode cX6_feast 21 = .ok (.getfield 96, 3) := by decide +kernel
theorem dX6_feast_24 : decode cX6_feast 24 = .ok (.bipush 20, 2) := by decide +kernel
theorem dX6_feast_26 : decode cX6_feast 26 = .ok (.if_icmp .ne 6, 3) := by decide +kernel
theorem dX6_feast_29 : decode cX6_feast 29 = .ok (.bipush (-3), 2) := by decide +kernel
theorem dX6_feast_31 : decode cX6_feast 31 = .ok (.ireturn, 1) := by decide +kernel
theorem dX6_feast_32 : decode cX6_feast 32 = .ok (.aload_n 0, 1) := by decide +kernel
theorem dX6_feast_33 : decode cX6_feast 33 = .ok (.getfield 7, 3) := by decide +kernel
theorem dX6_feast_36 : decode cX6_feast 36 = .ok (.aload_n 0, 1) := by decide +kernel
theorem dX6_feast_37 : decode cX6_feast 37 = .ok (.getfield 96, 3) := by decide +kernel
theorem dX6_feast_40 : decode cX6_feast 40 = .ok (.iload_n 1, 1) := by decide +kernel
theorem dX6_feast_41 : decode cX6_feast 41 = .ok (.iastore, 1) := by decide +kernel
theorem dX6_feast_42 : decode cX6_feast 42 = .ok (.aload_n 0, 1) := by decide +kernel
theorem dX6_feast_43 : decode cX6_feast 43 = .ok (.dup, 1) := by decide +kernel
theorem dX6_feast_44 : decode cX6_feast 44 = .ok (.getfield 96, 3) := by decide +kernel
theorem dX6_feast_47 : decode cX6_feast 47 = .ok (.iconst 1, 1) := by decide +kernel
theorem dX6_feast_48 : decode cX6_feast 48 = .ok (.iadd, 1) := by decide +kernel
theorem dX6_feast_49 : decode cX6_feast 49 = .ok (.putfield 96, 3) := by decide +kernel
theorem dX6_feast_52 : decode cX6_feast 52 = .ok (.aload_n 0, 1) := by decide +kernel
theorem dX6_feast_53 : decode cX6_feast 53 = .ok (.getfield 96, 3) := by decide +kernel
theorem dX6_feast_56 : decode cX6_feast 56 = .ok (.ireturn, 1) := by decide +kernel
set_option maxRecDepth 20000 in
theorem ggX6_law_X6_isDay : GoodIn wsX6_law wsX6_isDay := goodIn_r _ [10, 11, 12, 9, 13] (by decide +kernel) (by decide +kernel)
set_option maxRecDepth 20000 in
theorem gX6_law_X6_isDay : GoodIn wsX6_law (va_wsS RX6 99 yX6_isDay wsX6_isDay) := goodIn_app (goodIn_of _ (by decide +kernel)) ggX6_law_X6_isDay
set_option maxRecDepth 20000 in
theorem ggX6_law_X6_in : GoodIn wsX6_law wsX6_in := goodIn_r _ [13] (by decide +kernel) (by decide +kernel)
set_option maxRecDepth 20000 in
theorem gX6_law_X6_in : GoodIn wsX6_law (va_wsS RX6 92 yX6_in wsX6_in) := goodIn_app (goodIn_of _ (by decide +kernel)) ggX6_law_X6_in
theorem dX6_law_0 : decode cX6_law 0 = .ok (.iload_n 1, 1) := by decide +kernel
theorem dX6_law_1 : decode cX6_law 1 = .ok (.invokestatic 99, 3) := by decide +kernel
theorem dX6_law_4 : decode cX6_law 4 = .ok (.ifCond .eq 59, 3) := by decide +kernel
theorem dX6_law_7 : decode cX6_law 7 = .ok (.iload_n 2, 1) := by decide +kernel
theorem dX6_law_8 : decode cX6_law 8 = .ok (.iconst 0, 1) := by decide +kernel
theorem dX6_law_9 : decode cX6_law 9 = .ok (.iconst 2, 1) := by decide +kernel
theorem dX6_law_10 : decode cX6_law 10 = .ok (.invokestatic 92, 3) := by decide +kernel
theorem dX6_law_13 : decode cX6_law 13 = .ok (.ifCond .eq 50, 3) := by decide +kernel
theorem dX6_law_16 : decode cX6_law 16 = .ok (.iload_n 3, 1) := by decide +kernel
theorem dX6_law_17 : decode cX6_law 17 = .ok (.iconst 0, 1) := by decide +kernel
theorem dX6_law_18 : decode cX6_law 18 = .ok (.bipush 7, 2) := by decide +kernel
theorem dX6_law_20 : decode cX6_law 20 = .ok (.invokestatic 92, 3) := by decide +kernel
theorem dX6_law_23 : decode cX6_law 23 = .ok (.ifCond .eq 40, 3) := by decide +kernel
theorem dX6_law_26 : decode cX6_law 26 = .ok (.iload 4, 2) := by decide +kernel
theorem dX6_law_28 : decode cX6_law 28 = .ok (.ifCond .ne 8, 3) := by decide +kernel
theorem dX6_law_31 : decode cX6_law 31 = .ok (.iload 5, 2) := by decide +kernel
theorem dX6_law_33 : decode cX6_law 33 = .ok (.ifCond .eq 32, 3) := by decide +kernel
theorem dX6_law_36 : decode cX6_law 36 = .ok (.iload 4, 2) := by decide +kernel
theorem dX6_law_38 : decode cX6_law 38 = .ok (.iconst 0, 1) := by decide +kernel
theorem dX6_law_39 : decode cX6_law 39 = .ok (.sipush 1439, 3) := by decide +kernel
theorem dX6_law_42 : decode cX6_law 42 = .ok (.invokestatic 92, 3) := by decide +kernel
theorem dX6_law_45 : decode cX6_law 45 = .ok (.ifCond .eq 18, 3) := by decide +kernel
theorem dX6_law_48 : decode cX6_law 48 = .ok (.iload 4, 2) := by decide +kernel
theorem dX6_law_50 : decode cX6_law 50 = .ok (.iload 5, 2) := by decide +kernel
theorem dX6_law_52 : decode cX6_law 52 = .ok (.if_icmp .ge 11, 3) := by decide +kernel
theorem dX6_law_55 : decode cX6_law 55 = .ok (.iload 5, 2) := by decide +kernel
theorem dX6_law_57 : decode cX6_law 57 = .ok (.sipush 1800, 3) := by decide +kernel
theorem dX6_law_60 : decode cX6_law 60 = .ok (.if_icmp .le 5, 3) := by decide +kernel
theorem dX6_law_63 : decode cX6_law 63 = .ok (.iconst (-1), 1) := by decide +kernel
theorem dX6_law_64 : decode cX6_law 64 = .ok (.ireturn, 1) := by decide +kernel
theorem dX6_law_65 : decode cX6_law 65 = .ok (.aload_n 0, 1) := by decide +kernel
theorem dX6_law_66 : decode cX6_law 66 = .ok (.getfield 106, 3) := by decide +kernel
theorem dX6_law_69 : decode cX6_law 69 = .ok (.bipush 40, 2) := by decide +kernel
theorem dX6_law_71 : decode cX6_law 71 = .ok (.if_icmp .ne 6, 3) := by decide +kernel
theorem dX6_law_74 : decode cX6_law 74 = .ok (.bipush (-3), 2) := by decide +kernel
theorem dX6_law_76 : decode cX6_law 76 = .ok (.ireturn, 1) := by decide +kernel
theorem dX6_law_77 : decode cX6_law 77 = .ok (.aload_n 0, 1) := by decide +kernel
theorem dX6_law_78 : decode cX6_law 78 = .ok (.getfield 13, 3) := by decide +kernel
theorem dX6_law_81 : decode cX6_law 81 = .ok (.aload_n 0, 1) := by decide +kernel
theorem dX6_law_82 : decode cX6_law 82 = .ok (.getfield 106, 3) := by decide +kernel
theorem dX6_law_85 : decode cX6_law 85 = .ok (.iload_n 1, 1) := by decide +kernel
theorem dX6_law_86 : decode cX6_law 86 = .ok (.iastore, 1) := by decide +kernel
theorem dX6_law_87 : decode cX6_law 87 = .ok (.aload_n 0, 1) := by decide +kernel
theorem dX6_law_88 : decode cX6_law 88 = .ok (.getfield 16, 3) := by decide +kernel
theorem dX6_law_91 : decode cX6_law 91 = .ok (.aload_n 0, 1) := by decide +kernel
theorem dX6_law_92 : decode cX6_law 92 = .ok (.getfield 106, 3) := by decide +kernel
theorem dX6_law_95 : decode cX6_law 95 = .ok (.iload_n 2, 1) := by decide +kernel
theorem dX6_law_96 : decode cX6_law 96 = .ok (.iastore, 1) := by decide +kernel
theorem dX6_law_97 : decode cX6_law 97 = .ok (.aload_n 0, 1) := by decide +kernel
theorem dX6_law_98 : decode cX6_law 98 = .ok (.getfield 19, 3) := by decide +kernel
theorem dX6_law_101 : decode cX6_law 101 = .ok (.aload_n 0, 1) := by decide +kernel
theorem dX6_law_102 : decode cX6_law 102 = .ok (.getfield 106, 3) := by decide +kernel
theorem dX6_law_105 : decode cX6_law 105 = .ok (.iload_n 3, 1) := by decide +kernel
theorem dX6_law_106 : decode cX6_law 106 = .ok (.iastore, 1) := by decide +kernel
theorem dX6_law_107 : decode cX6_law 107 = .ok (.aload_n 0, 1) := by decide +kernel
theorem dX6_law_108 : decode cX6_law 108 = .ok (.getfield 22, 3) := by decide +kernel
theorem dX6_law_111 : decode cX6_law 111 = .ok (.aload_n 0, 1) := by decide +kernel
theorem dX6_law_112 : decode cX6_law 112 = .ok (.getfield 106, 3) := by decide +kernel
theorem dX6_law_115 : decode cX6_law 115 = .ok (.iload 4, 2) := by decide +kernel
theorem dX6_law_117 : decode cX6_law 117 = .ok (.iastore, 1) := by decide +kernel
theorem dX6_law_118 : decode cX6_law 118 = .ok (.aload_n 0, 1) := by decide +kernel
theorem dX6_law_119 : decode cX6_law 119 = .ok (.getfield 25, 3) := by decide +kernel
theorem dX6_law_122 : decode cX6_law 122 = .ok (.aload_n 0, 1) := by decide +kernel
theorem dX6_law_123 : decode cX6_law 123 = .ok (.getfield 106, 3) := by decide +kernel
theorem dX6_law_126 : decode cX6_law 126 = .ok (.iload 5, 2) := by decide +kernel
theorem dX6_law_128 : decode cX6_law 128 = .ok (.iastore, 1) := by decide +kernel
theorem dX6_law_129 : decode cX6_law 129 = .ok (.aload_n 0, 1) := by decide +kernel
theorem dX6_law_130 : decode cX6_law 130 = .ok (.dup, 1) := by decide +kernel
theorem dX6_law_131 : decode cX6_law 131 = .ok (.getfield 106, 3) := by decide +kernel
theorem dX6_law_134 : decode cX6_law 134 = .ok (.iconst 1, 1) := by decide +kernel
theorem dX6_law_135 : decode cX6_law 135 = .ok (.iadd, 1) := by decide +kernel
theorem dX6_law_136 : decode cX6_law 136 = .ok (.putfield 106, 3) := by decide +kernel
theorem dX6_law_139 : decode cX6_law 139 = .ok (.aload_n 0, 1) := by decide +kernel
theorem dX6_law_140 : decode cX6_law 140 = .ok (.getfield 106, 3) := by decide +kernel
theorem dX6_law_143 : decode cX6_law 143 = .ok (.ireturn, 1) := by decide +kernel
set_option maxRecDepth 20000 in
theorem ggX6_rule_X6_in : GoodIn wsX6_rule wsX6_in := goodIn_r _ [6] (by decide +kernel) (by decide +kernel)
set_option maxRecDepth 20000 in
theorem gX6_rule_X6_in : GoodIn wsX6_rule (va_wsS RX6 92 yX6_in wsX6_in) := goodIn_app (goodIn_of _ (by decide +kernel)) ggX6_rule_X6_in
theorem dX6_rule_0 : decode cX6_rule 0 = .ok (.iload_n 1, 1) := by decide +kernel
theorem dX6_rule_1 : decode cX6_rule 1 = .ok (.iconst 0, 1) := by decide +kernel
theorem dX6_rule_2 : decode cX6_rule 2 = .ok (.iconst 1, 1) := by decide +kernel
theorem dX6_rule_3 : decode cX6_rule 3 = .ok (.invokestatic 92, 3) := by decide +kernel
theorem dX6_rule_6 : decode cX6_rule 6 = .ok (.ifCond .eq 24, 3) := by decide +kernel
theorem dX6_rule_9 : decode cX6_rule 9 = .ok (.iload_n 2, 1) := by decide +kernel
theorem dX6_rule_10 : decode cX6_rule 10 = .ok (.iconst 0, 1) := by decide +kernel
theorem dX6_rule_11 : decode cX6_rule 11 = .ok (.iload_n 1, 1) := by decide +kernel
theorem dX6_rule_12 : decode cX6_rule 12 = .ok (.ifCond .ne 9, 3) := by decide +kernel
theorem dX6_rule_15 : decode cX6_rule 15 = .ok (.sipush 200, 3) := by decide +kernel
theorem dX6_rule_18 : decode cX6_rule 18 = .ok (.goto 6, 3) := by decide +kernel
theorem dX6_rule_21 : decode cX6_rule 21 = .ok (.sipush 500, 3) := by decide +kernel
theorem dX6_rule_24 : decode cX6_rule 24 = .ok (.invokestatic 92, 3) := by decide +kernel
theorem dX6_rule_27 : decode cX6_rule 27 = .ok (.ifCond .ne 5, 3) := by decide +kernel
theorem dX6_rule_30 : decode cX6_rule 30 = .ok (.iconst (-1), 1) := by decide +kernel
theorem dX6_rule_31 : decode cX6_rule 31 = .ok (.ireturn, 1) := by decide +kernel
theorem dX6_rule_32 : decode cX6_rule 32 = .ok (.iload_n 1, 1) := by decide +kernel
theorem dX6_rule_33 : decode cX6_rule 33 = .ok (.ifCond .ne 10, 3) := by decide +kernel
theorem dX6_rule_36 : decode cX6_rule 36 = .ok (.aload_n 0, 1) := by decide +kernel
theorem dX6_rule_37 : decode cX6_rule 37 = .ok (.getfield 28, 3) := by decide +kernel
theorem dX6_rule_40 : decode cX6_rule 40 = .ok (.goto 7, 3) := by decide +kernel
theorem dX6_rule_43 : decode cX6_rule 43 = .ok (.aload_n 0, 1) := by decide +kernel
theorem dX6_rule_44 : decode cX6_rule 44 = .ok (.getfield 32, 3) := by decide +kernel
theorem dX6_rule_47 : decode cX6_rule 47 = .ok (.istore_n 3, 1) := by decide +kernel
theorem dX6_rule_48 : decode cX6_rule 48 = .ok (.aload_n 0, 1) := by decide +kernel
theorem dX6_rule_49 : decode cX6_rule 49 = .ok (.iload_n 1, 1) := by decide +kernel
theorem dX6_rule_50 : decode cX6_rule 50 = .ok (.ifCond .ne 7, 3) := by decide +kernel
theorem dX6_rule_53 : decode cX6_rule 53 = .ok (.iload_n 2, 1) := by decide +kernel
theorem dX6_rule_54 : decode cX6_rule 54 = .ok (.goto 7, 3) := by decide +kernel
theorem dX6_rule_57 : decode cX6_rule 57 = .ok (.aload_n 0, 1) := by decide +kernel
theorem dX6_rule_58 : decode cX6_rule 58 = .ok (.getfield 28, 3) := by decide +kernel
theorem dX6_rule_61 : decode cX6_rule 61 = .ok (.putfield 28, 3) := by decide +kernel
theorem dX6_rule_64 : decode cX6_rule 64 = .ok (.aload_n 0, 1) := by decide +kernel
theorem dX6_rule_65 : decode cX6_rule 65 = .ok (.iload_n 1, 1) := by decide +kernel
theorem dX6_rule_66 : decode cX6_rule 66 = .ok (.iconst 1, 1) := by decide +kernel
theorem dX6_rule_67 : decode cX6_rule 67 = .ok (.if_icmp .ne 7, 3) := by decide +kernel
theorem dX6_rule_70 : decode cX6_rule 70 = .ok (.iload_n 2, 1) := by decide +kernel
theorem dX6_rule_71 : decode cX6_rule 71 = .ok (.goto 7, 3) := by decide +kernel
theorem dX6_rule_74 : decode cX6_rule 74 = .ok (.aload_n 0, 1) := by decide +kernel
theorem dX6_rule_75 : decode cX6_rule 75 = .ok (.getfield 32, 3) := by decide +kernel
theorem dX6_rule_78 : decode cX6_rule 78 = .ok (.putfield 32, 3) := by decide +kernel
theorem dX6_rule_81 : decode cX6_rule 81 = .ok (.iload_n 3, 1) := by decide +kernel
theorem dX6_rule_82 : decode cX6_rule 82 = .ok (.ireturn, 1) := by decide +kernel
set_option maxRecDepth 20000 in
theorem ggX6_isPlace_X6_in : GoodIn wsX6_isPlace wsX6_in := goodIn_r _ [4] (by decide +kernel) (by decide +kernel)
set_option maxRecDepth 20000 in
theorem gX6_isPlace_X6_in : GoodIn wsX6_isPlace (va_wsS RX6 92 yX6_in wsX6_in) := goodIn_app (goodIn_of _ (by decide +kernel)) ggX6_isPlace_X6_in
theorem dX6_isPlace_0 : decode cX6_isPlace 0 = .ok (.iload_n 0, 1) := by decide +kernel
theorem dX6_isPlace_1 : decode cX6_isPlace 1 = .ok (.iconst 0, 1) := by decide +kernel
theorem dX6_isPlace_2 : decode cX6_isPlace 2 = .ok (.sipush 999, 3) := by decide +kernel
theorem dX6_isPlace_5 : decode cX6_isPlace 5 = .ok (.invokestatic 92, 3) := by decide +kernel
theorem dX6_isPlace_8 : decode cX6_isPlace 8 = .ok (.ifCond .eq 18, 3) := by decide +kernel
theorem dX6_isPlace_11 : decode cX6_isPlace 11 = .ok (.iload_n 1, 1) := by decide +kernel
theorem dX6_isPlace_12 : decode cX6_isPlace 12 = .ok (.iconst 0, 1) := by decide +kernel
theorem dX6_isPlace_13 : decode cX6_isPlace 13 = .ok (.sipush 999, 3) := by decide +kernel
theorem dX6_isPlace_16 : decode cX6_isPlace 16 = .ok (.invokestatic 92, 3) := by decide +kernel
theorem dX6_isPlace_19 : decode cX6_isPlace 19 = .ok (.ifCond .eq 7, 3) := by decide +kernel
theorem dX6_isPlace_22 : decode cX6_isPlace 22 = .ok (.iconst 1, 1) := by decide +kernel
theorem dX6_isPlace_23 : decode cX6_isPlace 23 = .ok (.goto 4, 3) := by decide +kernel
theorem dX6_isPlace_26 : decode cX6_isPlace 26 = .ok (.iconst 0, 1) := by decide +kernel
theorem dX6_isPlace_27 : decode cX6_isPlace 27 = .ok (.ireturn, 1) := by decide +kernel
set_option maxRecDepth 20000 in
theorem ggX6_objector_X6_isPlace : GoodIn wsX6_objector wsX6_isPlace := goodIn_r _ [8, 9, 10, 7, 11] (by decide +kernel) (by decide +kernel)
set_option maxRecDepth 20000 in
theorem gX6_objector_X6_isPlace : GoodIn wsX6_objector (va_wsS RX6 109 yX6_isPlace wsX6_isPlace) := goodIn_app (goodIn_of _ (by decide +kernel)) ggX6_objector_X6_isPlace
set_option maxRecDepth 20000 in
theorem ggX6_objector_X6_in : GoodIn wsX6_objector wsX6_in := goodIn_r _ [11] (by decide +kernel) (by decide +kernel)
set_option maxRecDepth 20000 in
theorem gX6_objector_X6_in : GoodIn wsX6_objector (va_wsS RX6 92 yX6_in wsX6_in) := goodIn_app (goodIn_of _ (by decide +kernel)) ggX6_objector_X6_in
theorem dX6_objector_0 : decode cX6_objector 0 = .ok (.iload_n 1, 1) := by decide +kernel
theorem dX6_objector_1 : decode cX6_objector 1 = .ok (.iload_n 2, 1) := by decide +kernel
theorem dX6_objector_2 : decode cX6_objector 2 = .ok (.invokestatic 109, 3) := by decide +kernel
theorem dX6_objector_5 : decode cX6_objector 5 = .ok (.ifCond .eq 13, 3) := by decide +kernel
theorem dX6_objector_8 : decode cX6_objector 8 = .ok (.iload_n 3, 1) := by decide +kernel
theorem dX6_objector_9 : decode cX6_objector 9 = .ok (.iconst 1, 1) := by decide +kernel
theorem dX6_objector_10 : decode cX6_objector 10 = .ok (.bipush 10, 2) := by decide +kernel
theorem dX6_objector_12 : decode cX6_objector 12 = .ok (.invokestatic 92, 3) := by decide +kernel
theorem dX6_objector_15 : decode cX6_objector 15 = .ok (.ifCond .ne 5, 3) := by decide +kernel
theorem dX6_objector_18 : decode cX6_objector 18 = .ok (.iconst (-1), 1) := by decide +kernel
theorem dX6_objector_19 : decode cX6_objector 19 = .ok (.ireturn, 1) := by decide +kernel
theorem dX6_objector_20 : decode cX6_objector 20 = .ok (.aload_n 0, 1) := by decide +kernel
theorem dX6_objector_21 : decode cX6_objector 21 = .ok (.getfield 113, 3) := by decide +kernel
theorem dX6_objector_24 : decode cX6_objector 24 = .ok (.bipush 20, 2) := by decide +kernel
theorem dX6_objector_26 : decode cX6_objector 26 = .ok (.if_icmp .ne 6, 3) := by decide +kernel
theorem dX6_objector_29 : decode cX6_objector 29 = .ok (.bipush (-3), 2) := by decide +kernel
theorem dX6_objector_31 : decode cX6_objector 31 = .ok (.ireturn, 1) := by decide +kernel
theorem dX6_objector_32 : decode cX6_objector 32 = .ok (.aload_n 0, 1) := by decide +kernel
theorem dX6_objector_33 : decode cX6_objector 33 = .ok (.getfield 35, 3) := by decide +kernel
theorem dX6_objector_36 : decode cX6_objector 36 = .ok (.aload_n 0, 1) := by decide +kernel
theorem dX6_objector_37 : decode cX6_objector 37 = .ok (.getfield 113, 3) := by decide +kernel
theorem dX6_objector_40 : decode cX6_objector 40 = .ok (.iload_n 1, 1) := by decide +kernel
theorem dX6_objector_41 : decode cX6_objector 41 = .ok (.iastore, 1) := by decide +kernel
theorem dX6_objector_42 : decode cX6_objector 42 = .ok (.aload_n 0, 1) := by decide +kernel
theorem dX6_objector_43 : decode cX6_objector 43 = .ok (.getfield 38, 3) := by decide +kernel
theorem dX6_objector_46 : decode cX6_objector 46 = .ok (.aload_n 0, 1) := by decide +kernel
theorem dX6_objector_47 : decode cX6_objector 47 = .ok (.getfield 113, 3) := by decide +kernel
theorem dX6_objector_50 : decode cX6_objector 50 = .ok (.iload_n 2, 1) := by decide +kernel
theorem dX6_objector_51 : decode cX6_objector 51 = .ok (.iastore, 1) := by decide +kernel
theorem dX6_objector_52 : decode cX6_objector 52 = .ok (.aload_n 0, 1) := by decide +kernel
theorem dX6_objector_53 : decode cX6_objector 53 = .ok (.getfield 41, 3) := by decide +kernel
theorem dX6_objector_56 : decode cX6_objector 56 = .ok (.aload_n 0, 1) := by decide +kernel
theorem dX6_objector_57 : decode cX6_objector 57 = .ok (.getfield 113, 3) := by decide +kernel
theorem dX6_objector_60 : decode cX6_objector 60 = .ok (.iload_n 3, 1) := by decide +kernel
theorem dX6_objector_61 : decode cX6_objector 61 = .ok (.iastore, 1) := by decide +kernel
theorem dX6_objector_62 : decode cX6_objector 62 = .ok (.aload_n 0, 1) := by decide +kernel
theorem dX6_objector_63 : decode cX6_objector 63 = .ok (.dup, 1) := by decide +kernel
theorem dX6_objector_64 : decode cX6_objector 64 = .ok (.getfield 113, 3) := by decide +kernel
theorem dX6_objector_67 : decode cX6_objector 67 = .ok (.iconst 1, 1) := by decide +kernel
theorem dX6_objector_68 : decode cX6_objector 68 = .ok (.iadd, 1) := by decide +kernel
theorem dX6_objector_69 : decode cX6_objector 69 = .ok (.putfield 113, 3) := by decide +kernel
theorem dX6_objector_72 : decode cX6_objector 72 = .ok (.aload_n 0, 1) := by decide +kernel
theorem dX6_objector_73 : decode cX6_objector 73 = .ok (.getfield 113, 3) := by decide +kernel
theorem dX6_objector_76 : decode cX6_objector 76 = .ok (.ireturn, 1) := by decide +kernel
theorem dX6_off_0 : decode cX6_off 0 = .ok (.iload_n 0, 1) := by decide +kernel
theorem dX6_off_1 : decode cX6_off 1 = .ok (.iload_n 2, 1) := by decide +kernel
theorem dX6_off_2 : decode cX6_off 2 = .ok (.isub, 1) := by decide +kernel
theorem dX6_off_3 : decode cX6_off 3 = .ok (.iload_n 0, 1) := by decide +kernel
theorem dX6_off_4 : decode cX6_off 4 = .ok (.iload_n 2, 1) := by decide +kernel
theorem dX6_off_5 : decode cX6_off 5 = .ok (.isub, 1) := by decide +kernel
theorem dX6_off_6 : decode cX6_off 6 = .ok (.imul, 1) := by decide +kernel
theorem dX6_off_7 : decode cX6_off 7 = .ok (.iload_n 1, 1) := by decide +kernel
theorem dX6_off_8 : decode cX6_off 8 = .ok (.iload_n 3, 1) := by decide +kernel
theorem dX6_off_9 : decode cX6_off 9 = .ok (.isub, 1) := by decide +kernel
theorem dX6_off_10 : decode cX6_off 10 = .ok (.iload_n 1, 1) := by decide +kernel
theorem dX6_off_11 : decode cX6_off 11 = .ok (.iload_n 3, 1) := by decide +kernel
theorem dX6_off_12 : decode cX6_off 12 = .ok (.isub, 1) := by decide +kernel
theorem dX6_off_13 : decode cX6_off 13 = .ok (.imul, 1) := by decide +kernel
theorem dX6_off_14 : decode cX6_off 14 = .ok (.iadd, 1) := by decide +kernel
theorem dX6_off_15 : decode cX6_off 15 = .ok (.ireturn, 1) := by decide +kernel
set_option maxRecDepth 20000 in
theorem ggX6_judged_X6_has : GoodIn wsX6_judged wsX6_has := goodIn_r _ [14, 15, 16, 17, 13, 18, 19, 20, 21, 22, 23, 24, 25, 26, 27, 28, 29, 30, 31, 32, 33, 34, 35, 36, 37, 38, 39, 40, 41, 42, 43, 47, 48, 49, 50, 51, 52, 53, 54, 55, 56, 57, 58, 59, 60, 61, 62, 63, 64, 65, 66, 67, 68, 69, 70, 71, 72, 73, 74, 75, 76, 77, 78] (by decide +kernel) (by decide +kernel)
set_option maxRecDepth 20000 in
theorem gX6_judged_X6_has : GoodIn wsX6_judged (wsV RX6 119 RX6 yX6_has wsX6_has) := goodIn_app (goodIn_of _ (by decide +kernel)) ggX6_judged_X6_has
set_option maxRecDepth 20000 in
theorem ggX6_judged_X6_off : GoodIn wsX6_judged wsX6_off := goodIn_r _ [46] (by decide +kernel) (by decide +kernel)
set_option maxRecDepth 20000 in
theorem gX6_judged_X6_off : GoodIn wsX6_judged (va_wsS RX6 122 yX6_off wsX6_off) := goodIn_app (goodIn_of _ (by decide +kernel)) ggX6_judged_X6_off
theorem dX6_judged_0 : decode cX6_judged 0 = .ok (.iload 4, 2) := by decide +kernel
theorem dX6_judged_2 : decode cX6_judged 2 = .ok (.iload_n 3, 1) := by decide +kernel
theorem dX6_judged_3 : decode cX6_judged 3 = .ok (.isub, 1) := by decide +kernel
theorem dX6_judged_4 : decode cX6_judged 4 = .ok (.bipush 21, 2) := by decide +kernel
theorem dX6_judged_6 : decode cX6_judged 6 = .ok (.if_icmp .ge 5, 3) := by decide +kernel
theorem dX6_judged_9 : decode cX6_judged 9 = .ok (.iconst 1, 1) := by decide +kernel
theorem dX6_judged_10 : decode cX6_judged 10 = .ok (.ireturn, 1) := by decide +kernel
theorem dX6_judged_11 : decode cX6_judged 11 = .ok (.iconst 0, 1) := by decide +kernel
theorem dX6_judged_12 : decode cX6_judged 12 = .ok (.istore 5, 2) := by decide +kernel
theorem dX6_judged_14 : decode cX6_judged 14 = .ok (.iload 5, 2) := by decide +kernel
theorem dX6_judged_16 : decode cX6_judged 16 = .ok (.aload_n 0, 1) := by decide +kernel
theorem dX6_judged_17 : decode cX6_judged 17 = .ok (.getfield 116, 3) := by decide +kernel
theorem dX6_judged_20 : decode cX6_judged 20 = .ok (.if_icmp .ge 53, 3) := by decide +kernel
theorem dX6_judged_23 : decode cX6_judged 23 = .ok (.aload_n 0, 1) := by decide +kernel
theorem dX6_judged_24 : decode cX6_judged 24 = .ok (.iload 5, 2) := by decide +kernel
theorem dX6_judged_26 : decode cX6_judged 26 = .ok (.iload 4, 2) := by decide +kernel
theorem dX6_judged_28 : decode cX6_judged 28 = .ok (.invokevirtual 119, 3) := by decide +kernel
theorem dX6_judged_31 : decode cX6_judged 31 = .ok (.ifCond .eq 36, 3) := by decide +kernel
theorem dX6_judged_34 : decode cX6_judged 34 = .ok (.iload_n 1, 1) := by decide +kernel
theorem dX6_judged_35 : decode cX6_judged 35 = .ok (.iload_n 2, 1) := by decide +kernel
theorem dX6_judged_36 : decode cX6_judged 36 = .ok (.aload_n 0, 1) := by decide +kernel
theorem dX6_judged_37 : decode cX6_judged 37 = .ok (.getfield 44, 3) := by decide +kernel
theorem dX6_judged_40 : decode cX6_judged 40 = .ok (.iload 5, 2) := by decide +kernel
theorem dX6_judged_42 : decode cX6_judged 42 = .ok (.iaload, 1) := by decide +kernel
theorem dX6_judged_43 : decode cX6_judged 43 = .ok (.aload_n 0, 1) := by decide +kernel
theorem dX6_judged_44 : decode cX6_judged 44 = .ok (.getfield 47, 3) := by decide +kernel
theorem dX6_judged_47 : decode cX6_judged 47 = .ok (.iload 5, 2) := by decide +kernel
theorem dX6_judged_49 : decode cX6_judged 49 = .ok (.iaload, 1) := by decide +kernel
theorem dX6_judged_50 : decode cX6_judged 50 = .ok (.invokestatic 122, 3) := by decide +kernel
theorem dX6_judged_53 : decode cX6_judged 53 = .ok (.aload_n 0, 1) := by decide +kernel
theorem dX6_judged_54 : decode cX6_judged 54 = .ok (.getfield 28, 3) := by decide +kernel
theorem dX6_judged_57 : decode cX6_judged 57 = .ok (.aload_n 0, 1) := by decide +kernel
theorem dX6_judged_58 : decode cX6_judged 58 = .ok (.getfield 28, 3) := by decide +kernel
theorem dX6_judged_61 : decode cX6_judged 61 = .ok (.imul, 1) := by decide +kernel
theorem dX6_judged_62 : decode cX6_judged 62 = .ok (.if_icmp .ge 5, 3) := by decide +kernel
theorem dX6_judged_65 : decode cX6_judged 65 = .ok (.iconst 2, 1) := by decide +kernel
theorem dX6_judged_66 : decode cX6_judged 66 = .ok (.ireturn, 1) := by decide +kernel
theorem dX6_judged_67 : decode cX6_judged 67 = .ok (.iinc 5 1, 3) := by decide +kernel
theorem dX6_judged_70 : decode cX6_judged 70 = .ok (.goto (-56), 3) := by decide +kernel
theorem dX6_judged_73 : decode cX6_judged 73 = .ok (.iconst 0, 1) := by decide +kernel
theorem dX6_judged_74 : decode cX6_judged 74 = .ok (.istore 5, 2) := by decide +kernel
theorem dX6_judged_76 : decode cX6_judged 76 = .ok (.iconst 0, 1) := by decide +kernel
theorem dX6_judged_77 : decode cX6_judged 77 = .ok (.istore 6, 2) := by decide +kernel
theorem dX6_judged_79 : decode cX6_judged 79 = .ok (.iload 6, 2) := by decide +kernel
theorem dX6_judged_81 : decode cX6_judged 81 = .ok (.aload_n 0, 1) := by decide +kernel
theorem dX6_judged_82 : decode cX6_judged 82 = .ok (.getfield 113, 3) := by decide +kernel
theorem dX6_judged_85 : decode cX6_judged 85 = .ok (.if_icmp .ge 56, 3) := by decide +kernel
theorem dX6_judged_88 : decode cX6_judged 88 = .ok (.iload 5, 2) := by decide +kernel
theorem dX6_judged_90 : decode cX6_judged 90 = .ok (.iload_n 1, 1) := by decide +kernel
theorem dX6_judged_91 : decode cX6_judged 91 = .ok (.iload_n 2, 1) := by decide +kernel
theorem dX6_judged_92 : decode cX6_judged 92 = .ok (.aload_n 0, 1) := by decide +kernel
theorem dX6_judged_93 : decode cX6_judged 93 = .ok (.getfield 35, 3) := by decide +kernel
theorem dX6_judged_96 : decode cX6_judged 96 = .ok (.iload 6, 2) := by decide +kernel
theorem dX6_judged_98 : decode cX6_judged 98 = .ok (.iaload, 1) := by decide +kernel
theorem dX6_judged_99 : decode cX6_judged 99 = .ok (.aload_n 0, 1) := by decide +kernel
theorem dX6_judged_100 : decode cX6_judged 100 = .ok (.getfield 38, 3) := by decide +kernel
theorem dX6_judged_103 : decode cX6_judged 103 = .ok (.iload 6, 2) := by decide +kernel
theorem dX6_judged_105 : decode cX6_judged 105 = .ok (.iaload, 1) := by decide +kernel
theorem dX6_judged_106 : decode cX6_judged 106 = .ok (.invokestatic 122, 3) := by decide +kernel
theorem dX6_judged_109 : decode cX6_judged 109 = .ok (.aload_n 0, 1) := by decide +kernel
theorem dX6_judged_110 : decode cX6_judged 110 = .ok (.getfield 32, 3) := by decide +kernel
theorem dX6_judged_113 : decode cX6_judged 113 = .ok (.aload_n 0, 1) := by decide +kernel
theorem dX6_judged_114 : decode cX6_judged 114 = .ok (.getfield 32, 3) := by decide +kernel
theorem dX6_judged_117 : decode cX6_judged 117 = .ok (.imul, 1) := by decide +kernel
theorem dX6_judged_118 : decode cX6_judged 118 = .ok (.if_icmp .gt 13, 3) := by decide +kernel
theorem dX6_judged_121 : decode cX6_judged 121 = .ok (.aload_n 0, 1) := by decide +kernel
theorem dX6_judged_122 : decode cX6_judged 122 = .ok (.getfield 41, 3) := by decide +kernel
theorem dX6_judged_125 : decode cX6_judged 125 = .ok (.iload 6, 2) := by decide +kernel
theorem dX6_judged_127 : decode cX6_judged 127 = .ok (.iaload, 1) := by decide +kernel
theorem dX6_judged_128 : decode cX6_judged 128 = .ok (.goto 4, 3) := by decide +kernel
theorem dX6_judged_131 : decode cX6_judged 131 = .ok (.iconst 0, 1) := by decide +kernel
theorem dX6_judged_132 : decode cX6_judged 132 = .ok (.iadd, 1) := by decide +kernel
theorem dX6_judged_133 : decode cX6_judged 133 = .ok (.istore 5, 2) := by decide +kernel
theorem dX6_judged_135 : decode cX6_judged 135 = .ok (.iinc 6 1, 3) := by decide +kernel
theorem dX6_judged_138 : decode cX6_judged 138 = .ok (.goto (-59), 3) := by decide +kernel
theorem dX6_judged_141 : decode cX6_judged 141 = .ok (.iload 5, 2) := by decide +kernel
theorem dX6_judged_143 : decode cX6_judged 143 = .ok (.bipush 10, 2) := by decide +kernel
theorem dX6_judged_145 : decode cX6_judged 145 = .ok (.if_icmp .le 7, 3) := by decide +kernel
theorem dX6_judged_148 : decode cX6_judged 148 = .ok (.iconst 3, 1) := by decide +kernel
theorem dX6_judged_149 : decode cX6_judged 149 = .ok (.goto 4, 3) := by decide +kernel
theorem dX6_judged_152 : decode cX6_judged 152 = .ok (.iconst 0, 1) := by decide +kernel
theorem dX6_judged_153 : decode cX6_judged 153 = .ok (.ireturn, 1) := by decide +kernel
set_option maxRecDepth 20000 in
theorem ggX6_ask_X6_isPlace : GoodIn wsX6_ask wsX6_isPlace := goodIn_r _ [14, 15, 16, 13, 17] (by decide +kernel) (by decide +kernel)
set_option maxRecDepth 20000 in
theorem gX6_ask_X6_isPlace : GoodIn wsX6_ask (va_wsS RX6 109 yX6_isPlace wsX6_isPlace) := goodIn_app (goodIn_of _ (by decide +kernel)) ggX6_ask_X6_isPlace
set_option maxRecDepth 20000 in
theorem ggX6_ask_X6_in : GoodIn wsX6_ask wsX6_in := goodIn_r _ [17] (by decide +kernel) (by decide +kernel)
set_option maxRecDepth 20000 in
theorem gX6_ask_X6_in : GoodIn wsX6_ask (va_wsS RX6 92 yX6_in wsX6_in) := goodIn_app (goodIn_of _ (by decide +kernel)) ggX6_ask_X6_in
set_option maxRecDepth 20000 in
theorem ggX6_ask_X6_isDay : GoodIn wsX6_ask wsX6_isDay := goodIn_r _ [20, 15, 16, 13, 17] (by decide +kernel) (by decide +kernel)
set_option maxRecDepth 20000 in
theorem gX6_ask_X6_isDay : GoodIn wsX6_ask (va_wsS RX6 99 yX6_isDay wsX6_isDay) := goodIn_app (goodIn_of _ (by decide +kernel)) ggX6_ask_X6_isDay
set_option maxRecDepth 20000 in
theorem ggX6_ask_X6_judged : GoodIn wsX6_ask wsX6_judged := goodIn_r _ [24, 2, 4, 5, 25, 26, 27, 28, 29, 30, 31, 32, 33, 13, 34, 35, 36, 37, 38, 7, 1, 39, 40, 41, 42, 43, 44, 45, 46, 47, 48, 49, 50, 51, 52, 53, 54, 15, 16, 17, 55, 56, 57, 58, 59, 60, 61, 62, 63, 64, 65, 66, 67, 68, 69, 70, 71, 72, 73, 74, 75, 76, 77, 78, 79, 80, 81, 82, 83, 84, 85, 86, 87, 88, 89, 90, 91, 92, 93] (by decide +kernel) (by decide +kernel)
set_option maxRecDepth 20000 in
theorem gX6_ask_X6_judged : GoodIn wsX6_ask (wsV RX6 127 RX6 yX6_judged wsX6_judged) := goodIn_app (goodIn_of _ (by decide +kernel)) ggX6_ask_X6_judged
theorem dX6_ask_0 : decode cX6_ask 0 = .ok (.iload_n 1, 1) := by decide +kernel
theorem dX6_ask_1 : decode cX6_ask 1 = .ok (.iload_n 2, 1) := by decide +kernel
theorem dX6_ask_2 : decode cX6_ask 2 = .ok (.invokestatic 109, 3) := by decide +kernel
theorem dX6_ask_5 : decode cX6_ask 5 = .ok (.ifCond .eq 46, 3) := by decide +kernel
theorem dX6_ask_8 : decode cX6_ask 8 = .ok (.iload_n 3, 1) := by decide +kernel
theorem dX6_ask_9 : decode cX6_ask 9 = .ok (.iconst 0, 1) := by decide +kernel
theorem dX6_ask_10 : decode cX6_ask 10 = .ok (.iconst 2, 1) := by decide +kernel
theorem dX6_ask_11 : decode cX6_ask 11 = .ok (.invokestatic 92, 3) := by decide +kernel
theorem dX6_ask_14 : decode cX6_ask 14 = .ok (.ifCond .eq 37, 3) := by decide +kernel
theorem dX6_ask_17 : decode cX6_ask 17 = .ok (.iload 4, 2) := by decide +kernel
theorem dX6_ask_19 : decode cX6_ask 19 = .ok (.iconst 1, 1) := by decide +kernel
theorem dX6_ask_20 : decode cX6_ask 20 = .ok (.ldc 126, 2) := by decide +kernel
theorem dX6_ask_22 : decode cX6_ask 22 = .ok (.invokestatic 92, 3) := by decide +kernel
theorem dX6_ask_25 : decode cX6_ask 25 = .ok (.ifCond .eq 26, 3) := by decide +kernel
theorem dX6_ask_28 : decode cX6_ask 28 = .ok (.iload 5, 2) := by decide +kernel
theorem dX6_ask_30 : decode cX6_ask 30 = .ok (.invokestatic 99, 3) := by decide +kernel
theorem dX6_ask_33 : decode cX6_ask 33 = .ok (.ifCond .eq 18, 3) := by decide +kernel
theorem dX6_ask_36 : decode cX6_ask 36 = .ok (.iload 6, 2) := by decide +kernel
theorem dX6_ask_38 : decode cX6_ask 38 = .ok (.invokestatic 99, 3) := by decide +kernel
theorem dX6_ask_41 : decode cX6_ask 41 = .ok (.ifCond .eq 10, 3) := by decide +kernel
theorem dX6_ask_44 : decode cX6_ask 44 = .ok (.iload 5, 2) := by decide +kernel
theorem dX6_ask_46 : decode cX6_ask 46 = .ok (.iload 6, 2) := by decide +kernel
theorem dX6_ask_48 : decode cX6_ask 48 = .ok (.if_icmp .le 5, 3) := by decide +kernel
theorem dX6_ask_51 : decode cX6_ask 51 = .ok (.iconst (-1), 1) := by decide +kernel
theorem dX6_ask_52 : decode cX6_ask 52 = .ok (.ireturn, 1) := by decide +kernel
theorem dX6_ask_53 : decode cX6_ask 53 = .ok (.aload_n 0, 1) := by decide +kernel
theorem dX6_ask_54 : decode cX6_ask 54 = .ok (.getfield 116, 3) := by decide +kernel
theorem dX6_ask_57 : decode cX6_ask 57 = .ok (.bipush 30, 2) := by decide +kernel
theorem dX6_ask_59 : decode cX6_ask 59 = .ok (.if_icmp .ne 6, 3) := by decide +kernel
theorem dX6_ask_62 : decode cX6_ask 62 = .ok (.bipush (-3), 2) := by decide +kernel
theorem dX6_ask_64 : decode cX6_ask 64 = .ok (.ireturn, 1) := by decide +kernel
theorem dX6_ask_65 : decode cX6_ask 65 = .ok (.aload_n 0, 1) := by decide +kernel
theorem dX6_ask_66 : decode cX6_ask 66 = .ok (.iload_n 1, 1) := by decide +kernel
theorem dX6_ask_67 : decode cX6_ask 67 = .ok (.iload_n 2, 1) := by decide +kernel
theorem dX6_ask_68 : decode cX6_ask 68 = .ok (.iload 5, 2) := by decide +kernel
theorem dX6_ask_70 : decode cX6_ask 70 = .ok (.iload 6, 2) := by decide +kernel
theorem dX6_ask_72 : decode cX6_ask 72 = .ok (.invokevirtual 127, 3) := by decide +kernel
theorem dX6_ask_75 : decode cX6_ask 75 = .ok (.istore 7, 2) := by decide +kernel
theorem dX6_ask_77 : decode cX6_ask 77 = .ok (.iload 7, 2) := by decide +kernel
theorem dX6_ask_79 : decode cX6_ask 79 = .ok (.ifCond .le 19, 3) := by decide +kernel
theorem dX6_ask_82 : decode cX6_ask 82 = .ok (.aload_n 0, 1) := by decide +kernel
theorem dX6_ask_83 : decode cX6_ask 83 = .ok (.dup, 1) := by decide +kernel
theorem dX6_ask_84 : decode cX6_ask 84 = .ok (.getfield 130, 3) := by decide +kernel
theorem dX6_ask_87 : decode cX6_ask 87 = .ok (.iconst 1, 1) := by decide +kernel
theorem dX6_ask_88 : decode cX6_ask 88 = .ok (.iadd, 1) := by decide +kernel
theorem dX6_ask_89 : decode cX6_ask 89 = .ok (.putfield 130, 3) := by decide +kernel
theorem dX6_ask_92 : decode cX6_ask 92 = .ok (.bipush (-10), 2) := by decide +kernel
theorem dX6_ask_94 : decode cX6_ask 94 = .ok (.iload 7, 2) := by decide +kernel
theorem dX6_ask_96 : decode cX6_ask 96 = .ok (.isub, 1) := by decide +kernel
theorem dX6_ask_97 : decode cX6_ask 97 = .ok (.ireturn, 1) := by decide +kernel
theorem dX6_ask_98 : decode cX6_ask 98 = .ok (.aload_n 0, 1) := by decide +kernel
theorem dX6_ask_99 : decode cX6_ask 99 = .ok (.getfield 44, 3) := by decide +kernel
theorem dX6_ask_102 : decode cX6_ask 102 = .ok (.aload_n 0, 1) := by decide +kernel
theorem dX6_ask_103 : decode cX6_ask 103 = .ok (.getfield 116, 3) := by decide +kernel
theorem dX6_ask_106 : decode cX6_ask 106 = .ok (.iload_n 1, 1) := by decide +kernel
theorem dX6_ask_107 : decode cX6_ask 107 = .ok (.iastore, 1) := by decide +kernel
theorem dX6_ask_108 : decode cX6_ask 108 = .ok (.aload_n 0, 1) := by decide +kernel
theorem dX6_ask_109 : decode cX6_ask 109 = .ok (.getfield 47, 3) := by decide +kernel
theorem dX6_ask_112 : decode cX6_ask 112 = .ok (.aload_n 0, 1) := by decide +kernel
theorem dX6_ask_113 : decode cX6_ask 113 = .ok (.getfield 116, 3) := by decide +kernel
theorem dX6_ask_116 : decode cX6_ask 116 = .ok (.iload_n 2, 1) := by decide +kernel
theorem dX6_ask_117 : decode cX6_ask 117 = .ok (.iastore, 1) := by decide +kernel
theorem dX6_ask_118 : decode cX6_ask 118 = .ok (.aload_n 0, 1) := by decide +kernel
theorem dX6_ask_119 : decode cX6_ask 119 = .ok (.getfield 50, 3) := by decide +kernel
theorem dX6_ask_122 : decode cX6_ask 122 = .ok (.aload_n 0, 1) := by decide +kernel
theorem dX6_ask_123 : decode cX6_ask 123 = .ok (.getfield 116, 3) := by decide +kernel
theorem dX6_ask_126 : decode cX6_ask 126 = .ok (.iload_n 3, 1) := by decide +kernel
theorem dX6_ask_127 : decode cX6_ask 127 = .ok (.iastore, 1) := by decide +kernel
theorem dX6_ask_128 : decode cX6_ask 128 = .ok (.aload_n 0, 1) := by decide +kernel
theorem dX6_ask_129 : decode cX6_ask 129 = .ok (.getfield 53, 3) := by decide +kernel
theorem dX6_ask_132 : decode cX6_ask 132 = .ok (.aload_n 0, 1) := by decide +kernel
theorem dX6_ask_133 : decode cX6_ask 133 = .ok (.getfield 116, 3) := by decide +kernel
theorem dX6_ask_136 : decode cX6_ask 136 = .ok (.iload 6, 2) := by decide +kernel
theorem dX6_ask_138 : decode cX6_ask 138 = .ok (.iastore, 1) := by decide +kernel
theorem dX6_ask_139 : decode cX6_ask 139 = .ok (.aload_n 0, 1) := by decide +kernel
theorem dX6_ask_140 : decode cX6_ask 140 = .ok (.getfield 68, 3) := by decide +kernel
theorem dX6_ask_143 : decode cX6_ask 143 = .ok (.aload_n 0, 1) := by decide +kernel
theorem dX6_ask_144 : decode cX6_ask 144 = .ok (.getfield 116, 3) := by decide +kernel
theorem dX6_ask_147 : decode cX6_ask 147 = .ok (.iconst 1, 1) := by decide +kernel
theorem dX6_ask_148 : decode cX6_ask 148 = .ok (.iastore, 1) := by decide +kernel
theorem dX6_ask_149 : decode cX6_ask 149 = .ok (.aload_n 0, 1) := by decide +kernel
theorem dX6_ask_150 : decode cX6_ask 150 = .ok (.getfield 71, 3) := by decide +kernel
theorem dX6_ask_153 : decode cX6_ask 153 = .ok (.bipush 8, 2) := by decide +kernel
theorem dX6_ask_155 : decode cX6_ask 155 = .ok (.aload_n 0, 1) := by decide +kernel
theorem dX6_ask_156 : decode cX6_ask 156 = .ok (.getfield 116, 3) := by decide +kernel
theorem dX6_ask_159 : decode cX6_ask 159 = .ok (.imul, 1) := by decide +kernel
theorem dX6_ask_160 : decode cX6_ask 160 = .ok (.iload 6, 2) := by decide +kernel
theorem dX6_ask_162 : decode cX6_ask 162 = .ok (.iastore, 1) := by decide +kernel
theorem dX6_ask_163 : decode cX6_ask 163 = .ok (.aload_n 0, 1) := by decide +kernel
theorem dX6_ask_164 : decode cX6_ask 164 = .ok (.getfield 74, 3) := by decide +kernel
theorem dX6_ask_167 : decode cX6_ask 167 = .ok (.bipush 8, 2) := by decide +kernel
theorem dX6_ask_169 : decode cX6_ask 169 = .ok (.aload_n 0, 1) := by decide +kernel
theorem dX6_ask_170 : decode cX6_ask 170 = .ok (.getfield 116, 3) := by decide +kernel
theorem dX6_ask_173 : decode cX6_ask 173 = .ok (.imul, 1) := by decide +kernel
theorem dX6_ask_174 : decode cX6_ask 174 = .ok (.iload 4, 2) := by decide +kernel
theorem dX6_ask_176 : decode cX6_ask 176 = .ok (.iastore, 1) := by decide +kernel
theorem dX6_ask_177 : decode cX6_ask 177 = .ok (.aload_n 0, 1) := by decide +kernel
theorem dX6_ask_178 : decode cX6_ask 178 = .ok (.dup, 1) := by decide +kernel
theorem dX6_ask_179 : decode cX6_ask 179 = .ok (.getfield 116, 3) := by decide +kernel
theorem dX6_ask_182 : decode cX6_ask 182 = .ok (.iconst 1, 1) := by decide +kernel
theorem dX6_ask_183 : decode cX6_ask 183 = .ok (.iadd, 1) := by decide +kernel
theorem dX6_ask_184 : decode cX6_ask 184 = .ok (.putfield 116, 3) := by decide +kernel
theorem dX6_ask_187 : decode cX6_ask 187 = .ok (.aload_n 0, 1) := by decide +kernel
theorem dX6_ask_188 : decode cX6_ask 188 = .ok (.getfield 116, 3) := by decide +kernel
theorem dX6_ask_191 : decode cX6_ask 191 = .ok (.iconst 1, 1) := by decide +kernel
theorem dX6_ask_192 : decode cX6_ask 192 = .ok (.isub, 1) := by decide +kernel
theorem dX6_ask_193 : decode cX6_ask 193 = .ok (.ireturn, 1) := by decide +kernel
set_option maxRecDepth 20000 in
theorem ggX6_isHouse_X6_in : GoodIn wsX6_isHouse wsX6_in := goodIn_r _ [5] (by decide +kernel) (by decide +kernel)
set_option maxRecDepth 20000 in
theorem gX6_isHouse_X6_in : GoodIn wsX6_isHouse (va_wsS RX6 92 yX6_in wsX6_in) := goodIn_app (goodIn_of _ (by decide +kernel)) ggX6_isHouse_X6_in
theorem dX6_isHouse_0 : decode cX6_isHouse 0 = .ok (.iload_n 1, 1) := by decide +kernel
theorem dX6_isHouse_1 : decode cX6_isHouse 1 = .ok (.iconst 0, 1) := by decide +kernel
theorem dX6_isHouse_2 : decode cX6_isHouse 2 = .ok (.aload_n 0, 1) := by decide +kernel
theorem dX6_isHouse_3 : decode cX6_isHouse 3 = .ok (.getfield 116, 3) := by decide +kernel
theorem dX6_isHouse_6 : decode cX6_isHouse 6 = .ok (.iconst 1, 1) := by decide +kernel
theorem dX6_isHouse_7 : decode cX6_isHouse 7 = .ok (.isub, 1) := by decide +kernel
theorem dX6_isHouse_8 : decode cX6_isHouse 8 = .ok (.invokestatic 92, 3) := by decide +kernel
theorem dX6_isHouse_11 : decode cX6_isHouse 11 = .ok (.ireturn, 1) := by decide +kernel
theorem dX6_isTold_0 : decode cX6_isTold 0 = .ok (.iconst 0, 1) := by decide +kernel
theorem dX6_isTold_1 : decode cX6_isTold 1 = .ok (.istore_n 3, 1) := by decide +kernel
theorem dX6_isTold_2 : decode cX6_isTold 2 = .ok (.bipush 16, 2) := by decide +kernel
theorem dX6_isTold_4 : decode cX6_isTold 4 = .ok (.iload_n 1, 1) := by decide +kernel
theorem dX6_isTold_5 : decode cX6_isTold 5 = .ok (.imul, 1) := by decide +kernel
theorem dX6_isTold_6 : decode cX6_isTold 6 = .ok (.istore 4, 2) := by decide +kernel
theorem dX6_isTold_8 : decode cX6_isTold 8 = .ok (.iload 4, 2) := by decide +kernel
theorem dX6_isTold_10 : decode cX6_isTold 10 = .ok (.bipush 16, 2) := by decide +kernel
theorem dX6_isTold_12 : decode cX6_isTold 12 = .ok (.iload_n 1, 1) := by decide +kernel
theorem dX6_isTold_13 : decode cX6_isTold 13 = .ok (.imul, 1) := by decide +kernel
theorem dX6_isTold_14 : decode cX6_isTold 14 = .ok (.aload_n 0, 1) := by decide +kernel
theorem dX6_isTold_15 : decode cX6_isTold 15 = .ok (.getfield 56, 3) := by decide +kernel
theorem dX6_isTold_18 : decode cX6_isTold 18 = .ok (.iload_n 1, 1) := by decide +kernel
theorem dX6_isTold_19 : decode cX6_isTold 19 = .ok (.iaload, 1) := by decide +kernel
theorem dX6_isTold_20 : decode cX6_isTold 20 = .ok (.iadd, 1) := by decide +kernel
theorem dX6_isTold_21 : decode cX6_isTold 21 = .ok (.if_icmp .ge 40, 3) := by decide +kernel
theorem dX6_isTold_24 : decode cX6_isTold 24 = .ok (.iload_n 3, 1) := by decide +kernel
theorem dX6_isTold_25 : decode cX6_isTold 25 = .ok (.ifCond .ne 24, 3) := by decide +kernel
theorem dX6_isTold_28 : decode cX6_isTold 28 = .ok (.aload_n 0, 1) := by decide +kernel
theorem dX6_isTold_29 : decode cX6_isTold 29 = .ok (.getfield 62, 3) := by decide +kernel
theorem dX6_isTold_32 : decode cX6_isTold 32 = .ok (.iload 4, 2) := by decide +kernel
theorem dX6_isTold_34 : decode cX6_isTold 34 = .ok (.iaload, 1) := by decide +kernel
theorem dX6_isTold_35 : decode cX6_isTold 35 = .ok (.ifCond .ne 18, 3) := by decide +kernel
theorem dX6_isTold_38 : decode cX6_isTold 38 = .ok (.aload_n 0, 1) := by decide +kernel
theorem dX6_isTold_39 : decode cX6_isTold 39 = .ok (.getfield 65, 3) := by decide +kernel
theorem dX6_isTold_42 : decode cX6_isTold 42 = .ok (.iload 4, 2) := by decide +kernel
theorem dX6_isTold_44 : decode cX6_isTold 44 = .ok (.iaload, 1) := by decide +kernel
theorem dX6_isTold_45 : decode cX6_isTold 45 = .ok (.iload_n 2, 1) := by decide +kernel
theorem dX6_isTold_46 : decode cX6_isTold 46 = .ok (.if_icmp .ne 7, 3) := by decide +kernel
theorem dX6_isTold_49 : decode cX6_isTold 49 = .ok (.iconst 1, 1) := by decide +kernel
theorem dX6_isTold_50 : decode cX6_isTold 50 = .ok (.goto 4, 3) := by decide +kernel
theorem dX6_isTold_53 : decode cX6_isTold 53 = .ok (.iconst 0, 1) := by decide +kernel
theorem dX6_isTold_54 : decode cX6_isTold 54 = .ok (.istore_n 3, 1) := by decide +kernel
theorem dX6_isTold_55 : decode cX6_isTold 55 = .ok (.iinc 4 1, 3) := by decide +kernel
theorem dX6_isTold_58 : decode cX6_isTold 58 = .ok (.goto (-50), 3) := by decide +kernel
theorem dX6_isTold_61 : decode cX6_isTold 61 = .ok (.iload_n 3, 1) := by decide +kernel
theorem dX6_isTold_62 : decode cX6_isTold 62 = .ok (.ireturn, 1) := by decide +kernel
set_option maxRecDepth 20000 in
theorem ggX6_event_X6_in : GoodIn wsX6_event wsX6_in := goodIn_r _ [9] (by decide +kernel) (by decide +kernel)
set_option maxRecDepth 20000 in
theorem gX6_event_X6_in : GoodIn wsX6_event (va_wsS RX6 92 yX6_in wsX6_in) := goodIn_app (goodIn_of _ (by decide +kernel)) ggX6_event_X6_in
set_option maxRecDepth 20000 in
theorem ggX6_event_X6_isHouse : GoodIn wsX6_event wsX6_isHouse := goodIn_r _ [13, 14, 6, 7, 8, 9, 22, 23, 24, 25, 26, 27, 28, 29, 30, 31, 32, 33, 34, 35, 36, 37, 38, 39, 40, 41, 42, 43, 44, 45, 46, 47, 48, 49, 50, 51, 52, 53] (by decide +kernel) (by decide +kernel)
set_option maxRecDepth 20000 in
theorem gX6_event_X6_isHouse : GoodIn wsX6_event (wsV RX6 133 RX6 yX6_isHouse wsX6_isHouse) := goodIn_app (goodIn_of _ (by decide +kernel)) ggX6_event_X6_isHouse
set_option maxRecDepth 20000 in
theorem ggX6_event_X6_isDay : GoodIn wsX6_event wsX6_isDay := goodIn_r _ [17, 6, 7, 8, 9] (by decide +kernel) (by decide +kernel)
set_option maxRecDepth 20000 in
theorem gX6_event_X6_isDay : GoodIn wsX6_event (va_wsS RX6 99 yX6_isDay wsX6_isDay) := goodIn_app (goodIn_of _ (by decide +kernel)) ggX6_event_X6_isDay
set_option maxRecDepth 20000 in
theorem ggX6_event_X6_isTold : GoodIn wsX6_event wsX6_isTold := goodIn_r _ [21, 2, 4, 5, 22, 23, 24, 25, 26, 27, 28, 29, 30, 31, 32, 33, 34, 35, 36, 37, 38, 39, 40, 41, 42, 43, 44, 45, 46, 47, 48, 49, 50, 51, 52, 53] (by decide +kernel) (by decide +kernel)
set_option maxRecDepth 20000 in
theorem gX6_event_X6_isTold : GoodIn wsX6_event (wsV RX6 136 RX6 yX6_isTold wsX6_isTold) := goodIn_app (goodIn_of _ (by decide +kernel)) ggX6_event_X6_isTold
theorem dX6_event_0 : decode cX6_event 0 = .ok (.iload_n 3, 1) := by decide +kernel
theorem dX6_event_1 : decode cX6_event 1 = .ok (.ifCond .eq 8, 3) := by decide +kernel
theorem dX6_event_4 : decode cX6_event 4 = .ok (.iload_n 3, 1) := by decide +kernel
theorem dX6_event_5 : decode cX6_event 5 = .ok (.iconst 1, 1) := by decide +kernel
theorem dX6_event_6 : decode cX6_event 6 = .ok (.if_icmp .ne 14, 3) := by decide +kernel
theorem dX6_event_9 : decode cX6_event 9 = .ok (.iload 4, 2) := by decide +kernel
theorem dX6_event_11 : decode cX6_event 11 = .ok (.iconst 0, 1) := by decide +kernel
theorem dX6_event_12 : decode cX6_event 12 = .ok (.bipush 99, 2) := by decide +kernel
theorem dX6_event_14 : decode cX6_event 14 = .ok (.invokestatic 92, 3) := by decide +kernel
theorem dX6_event_17 : decode cX6_event 17 = .ok (.goto 27, 3) := by decide +kernel
theorem dX6_event_20 : decode cX6_event 20 = .ok (.iload_n 3, 1) := by decide +kernel
theorem dX6_event_21 : decode cX6_event 21 = .ok (.iconst 4, 1) := by decide +kernel
theorem dX6_event_22 : decode cX6_event 22 = .ok (.if_icmp .ne 15, 3) := by decide +kernel
theorem dX6_event_25 : decode cX6_event 25 = .ok (.iload 4, 2) := by decide +kernel
theorem dX6_event_27 : decode cX6_event 27 = .ok (.iconst 0, 1) := by decide +kernel
theorem dX6_event_28 : decode cX6_event 28 = .ok (.sipush 1439, 3) := by decide +kernel
theorem dX6_event_31 : decode cX6_event 31 = .ok (.invokestatic 92, 3) := by decide +kernel
theorem dX6_event_34 : decode cX6_event 34 = .ok (.goto 10, 3) := by decide +kernel
theorem dX6_event_37 : decode cX6_event 37 = .ok (.iload_n 3, 1) := by decide +kernel
theorem dX6_event_38 : decode cX6_event 38 = .ok (.iconst 2, 1) := by decide +kernel
theorem dX6_event_39 : decode cX6_event 39 = .ok (.bipush 6, 2) := by decide +kernel
theorem dX6_event_41 : decode cX6_event 41 = .ok (.invokestatic 92, 3) := by decide +kernel
theorem dX6_event_44 : decode cX6_event 44 = .ok (.istore 5, 2) := by decide +kernel
theorem dX6_event_46 : decode cX6_event 46 = .ok (.aload_n 0, 1) := by decide +kernel
theorem dX6_event_47 : decode cX6_event 47 = .ok (.iload_n 1, 1) := by decide +kernel
theorem dX6_event_48 : decode cX6_event 48 = .ok (.invokevirtual 133, 3) := by decide +kernel
theorem dX6_event_51 : decode cX6_event 51 = .ok (.ifCond .eq 15, 3) := by decide +kernel
theorem dX6_event_54 : decode cX6_event 54 = .ok (.iload_n 2, 1) := by decide +kernel
theorem dX6_event_55 : decode cX6_event 55 = .ok (.invokestatic 99, 3) := by decide +kernel
theorem dX6_event_58 : decode cX6_event 58 = .ok (.ifCond .eq 8, 3) := by decide +kernel
theorem dX6_event_61 : decode cX6_event 61 = .ok (.iload 5, 2) := by decide +kernel
theorem dX6_event_63 : decode cX6_event 63 = .ok (.ifCond .ne 5, 3) := by decide +kernel
theorem dX6_event_66 : decode cX6_event 66 = .ok (.iconst (-1), 1) := by decide +kernel
theorem dX6_event_67 : decode cX6_event 67 = .ok (.ireturn, 1) := by decide +kernel
theorem dX6_event_68 : decode cX6_event 68 = .ok (.iload_n 2, 1) := by decide +kernel
theorem dX6_event_69 : decode cX6_event 69 = .ok (.aload_n 0, 1) := by decide +kernel
theorem dX6_event_70 : decode cX6_event 70 = .ok (.getfield 53, 3) := by decide +kernel
theorem dX6_event_73 : decode cX6_event 73 = .ok (.iload_n 1, 1) := by decide +kernel
theorem dX6_event_74 : decode cX6_event 74 = .ok (.iaload, 1) := by decide +kernel
theorem dX6_event_75 : decode cX6_event 75 = .ok (.if_icmp .lt 32, 3) := by decide +kernel
theorem dX6_event_78 : decode cX6_event 78 = .ok (.iload_n 3, 1) := by decide +kernel
theorem dX6_event_79 : decode cX6_event 79 = .ok (.ifCond .ne 13, 3) := by decide +kernel
theorem dX6_event_82 : decode cX6_event 82 = .ok (.aload_n 0, 1) := by decide +kernel
theorem dX6_event_83 : decode cX6_event 83 = .ok (.iload_n 1, 1) := by decide +kernel
theorem dX6_event_84 : decode cX6_event 84 = .ok (.iload 4, 2) := by decide +kernel
theorem dX6_event_86 : decode cX6_event 86 = .ok (.invokevirtual 136, 3) := by decide +kernel
theorem dX6_event_89 : decode cX6_event 89 = .ok (.ifCond .ne 18, 3) := by decide +kernel
theorem dX6_event_92 : decode cX6_event 92 = .ok (.iload_n 3, 1) := by decide +kernel
theorem dX6_event_93 : decode cX6_event 93 = .ok (.iconst 1, 1) := by decide +kernel
theorem dX6_event_94 : decode cX6_event 94 = .ok (.if_icmp .ne 16, 3) := by decide +kernel
theorem dX6_event_97 : decode cX6_event 97 = .ok (.aload_n 0, 1) := by decide +kernel
theorem dX6_event_98 : decode cX6_event 98 = .ok (.iload_n 1, 1) := by decide +kernel
theorem dX6_event_99 : decode cX6_event 99 = .ok (.iload 4, 2) := by decide +kernel
theorem dX6_event_101 : decode cX6_event 101 = .ok (.invokevirtual 136, 3) := by decide +kernel
theorem dX6_event_104 : decode cX6_event 104 = .ok (.ifCond .ne 6, 3) := by decide +kernel
theorem dX6_event_107 : decode cX6_event 107 = .ok (.bipush (-2), 2) := by decide +kernel
theorem dX6_event_109 : decode cX6_event 109 = .ok (.ireturn, 1) := by decide +kernel
theorem dX6_event_110 : decode cX6_event 110 = .ok (.aload_n 0, 1) := by decide +kernel
theorem dX6_event_111 : decode cX6_event 111 = .ok (.getfield 56, 3) := by decide +kernel
theorem dX6_event_114 : decode cX6_event 114 = .ok (.iload_n 1, 1) := by decide +kernel
theorem dX6_event_115 : decode cX6_event 115 = .ok (.iaload, 1) := by decide +kernel
theorem dX6_event_116 : decode cX6_event 116 = .ok (.bipush 16, 2) := by decide +kernel
theorem dX6_event_118 : decode cX6_event 118 = .ok (.if_icmp .ne 6, 3) := by decide +kernel
theorem dX6_event_121 : decode cX6_event 121 = .ok (.bipush (-3), 2) := by decide +kernel
theorem dX6_event_123 : decode cX6_event 123 = .ok (.ireturn, 1) := by decide +kernel
theorem dX6_event_124 : decode cX6_event 124 = .ok (.bipush 16, 2) := by decide +kernel
theorem dX6_event_126 : decode cX6_event 126 = .ok (.iload_n 1, 1) := by decide +kernel
theorem dX6_event_127 : decode cX6_event 127 = .ok (.imul, 1) := by decide +kernel
theorem dX6_event_128 : decode cX6_event 128 = .ok (.aload_n 0, 1) := by decide +kernel
theorem dX6_event_129 : decode cX6_event 129 = .ok (.getfield 56, 3) := by decide +kernel
theorem dX6_event_132 : decode cX6_event 132 = .ok (.iload_n 1, 1) := by decide +kernel
theorem dX6_event_133 : decode cX6_event 133 = .ok (.iaload, 1) := by decide +kernel
theorem dX6_event_134 : decode cX6_event 134 = .ok (.iadd, 1) := by decide +kernel
theorem dX6_event_135 : decode cX6_event 135 = .ok (.istore 6, 2) := by decide +kernel
theorem dX6_event_137 : decode cX6_event 137 = .ok (.aload_n 0, 1) := by decide +kernel
theorem dX6_event_138 : decode cX6_event 138 = .ok (.getfield 59, 3) := by decide +kernel
theorem dX6_event_141 : decode cX6_event 141 = .ok (.iload 6, 2) := by decide +kernel
theorem dX6_event_143 : decode cX6_event 143 = .ok (.iload_n 2, 1) := by decide +kernel
theorem dX6_event_144 : decode cX6_event 144 = .ok (.iastore, 1) := by decide +kernel
theorem dX6_event_145 : decode cX6_event 145 = .ok (.aload_n 0, 1) := by decide +kernel
theorem dX6_event_146 : decode cX6_event 146 = .ok (.getfield 62, 3) := by decide +kernel
theorem dX6_event_149 : decode cX6_event 149 = .ok (.iload 6, 2) := by decide +kernel
theorem dX6_event_151 : decode cX6_event 151 = .ok (.iload_n 3, 1) := by decide +kernel
theorem dX6_event_152 : decode cX6_event 152 = .ok (.iastore, 1) := by decide +kernel
theorem dX6_event_153 : decode cX6_event 153 = .ok (.aload_n 0, 1) := by decide +kernel
end
section
theorem dX6_event_154 : decode cX6_event 154 = .ok (.getfield 65, 3) := by decide +kernel
theorem dX6_event_157 : decode cX6_event 157 = .ok (.iload 6, 2) := by decide +kernel
theorem dX6_event_159 : decode cX6_event 159 = .ok (.iload 4, 2) := by decide +kernel
theorem dX6_event_161 : decode cX6_event 161 = .ok (.iastore, 1) := by decide +kernel
theorem dX6_event_162 : decode cX6_event 162 = .ok (.aload_n 0, 1) := by decide +kernel
theorem dX6_event_163 : decode cX6_event 163 = .ok (.getfield 56, 3) := by decide +kernel
theorem dX6_event_166 : decode cX6_event 166 = .ok (.iload_n 1, 1) := by decide +kernel
theorem dX6_event_167 : decode cX6_event 167 = .ok (.dup2, 1) := by decide +kernel
theorem dX6_event_168 : decode cX6_event 168 = .ok (.iaload, 1) := by decide +kernel
theorem dX6_event_169 : decode cX6_event 169 = .ok (.iconst 1, 1) := by decide +kernel
theorem dX6_event_170 : decode cX6_event 170 = .ok (.iadd, 1) := by decide +kernel
theorem dX6_event_171 : decode cX6_event 171 = .ok (.iastore, 1) := by decide +kernel
theorem dX6_event_172 : decode cX6_event 172 = .ok (.aload_n 0, 1) := by decide +kernel
theorem dX6_event_173 : decode cX6_event 173 = .ok (.getfield 56, 3) := by decide +kernel
theorem dX6_event_176 : decode cX6_event 176 = .ok (.iload_n 1, 1) := by decide +kernel
theorem dX6_event_177 : decode cX6_event 177 = .ok (.iaload, 1) := by decide +kernel
theorem dX6_event_178 : decode cX6_event 178 = .ok (.ireturn, 1) := by decide +kernel
set_option maxRecDepth 20000 in
theorem ggX6_worth_X6_isHouse : GoodIn wsX6_worth wsX6_isHouse := goodIn_r _ [10, 11, 12, 13, 9, 14, 18, 19, 20, 21, 22, 23, 24, 25, 26, 27, 28, 29, 30, 31, 32, 33, 34, 35, 36, 37, 38, 39, 40, 41, 42, 43, 44, 45, 46, 47, 48, 49] (by decide +kernel) (by decide +kernel)
set_option maxRecDepth 20000 in
theorem gX6_worth_X6_isHouse : GoodIn wsX6_worth (wsV RX6 133 RX6 yX6_isHouse wsX6_isHouse) := goodIn_app (goodIn_of _ (by decide +kernel)) ggX6_worth_X6_isHouse
set_option maxRecDepth 20000 in
theorem ggX6_worth_X6_isDay : GoodIn wsX6_worth wsX6_isDay := goodIn_r _ [17, 12, 13, 9, 14] (by decide +kernel) (by decide +kernel)
set_option maxRecDepth 20000 in
theorem gX6_worth_X6_isDay : GoodIn wsX6_worth (va_wsS RX6 99 yX6_isDay wsX6_isDay) := goodIn_app (goodIn_of _ (by decide +kernel)) ggX6_worth_X6_isDay
set_option maxRecDepth 20000 in
theorem ggX6_worth_X6_in : GoodIn wsX6_worth wsX6_in := goodIn_r _ [14] (by decide +kernel) (by decide +kernel)
set_option maxRecDepth 20000 in
theorem gX6_worth_X6_in : GoodIn wsX6_worth (va_wsS RX6 92 yX6_in wsX6_in) := goodIn_app (goodIn_of _ (by decide +kernel)) ggX6_worth_X6_in
theorem dX6_worth_0 : decode cX6_worth 0 = .ok (.aload_n 0, 1) := by decide +kernel
theorem dX6_worth_1 : decode cX6_worth 1 = .ok (.iload_n 1, 1) := by decide +kernel
theorem dX6_worth_2 : decode cX6_worth 2 = .ok (.invokevirtual 133, 3) := by decide +kernel
theorem dX6_worth_5 : decode cX6_worth 5 = .ok (.ifCond .eq 20, 3) := by decide +kernel
theorem dX6_worth_8 : decode cX6_worth 8 = .ok (.iload_n 2, 1) := by decide +kernel
theorem dX6_worth_9 : decode cX6_worth 9 = .ok (.invokestatic 99, 3) := by decide +kernel
theorem dX6_worth_12 : decode cX6_worth 12 = .ok (.ifCond .eq 13, 3) := by decide +kernel
theorem dX6_worth_15 : decode cX6_worth 15 = .ok (.iload_n 3, 1) := by decide +kernel
theorem dX6_worth_16 : decode cX6_worth 16 = .ok (.iconst 1, 1) := by decide +kernel
theorem dX6_worth_17 : decode cX6_worth 17 = .ok (.ldc 126, 2) := by decide +kernel
theorem dX6_worth_19 : decode cX6_worth 19 = .ok (.invokestatic 92, 3) := by decide +kernel
theorem dX6_worth_22 : decode cX6_worth 22 = .ok (.ifCond .ne 5, 3) := by decide +kernel
theorem dX6_worth_25 : decode cX6_worth 25 = .ok (.iconst (-1), 1) := by decide +kernel
theorem dX6_worth_26 : decode cX6_worth 26 = .ok (.ireturn, 1) := by decide +kernel
theorem dX6_worth_27 : decode cX6_worth 27 = .ok (.aload_n 0, 1) := by decide +kernel
theorem dX6_worth_28 : decode cX6_worth 28 = .ok (.getfield 68, 3) := by decide +kernel
theorem dX6_worth_31 : decode cX6_worth 31 = .ok (.iload_n 1, 1) := by decide +kernel
theorem dX6_worth_32 : decode cX6_worth 32 = .ok (.iaload, 1) := by decide +kernel
theorem dX6_worth_33 : decode cX6_worth 33 = .ok (.bipush 8, 2) := by decide +kernel
theorem dX6_worth_35 : decode cX6_worth 35 = .ok (.if_icmp .ne 6, 3) := by decide +kernel
theorem dX6_worth_38 : decode cX6_worth 38 = .ok (.bipush (-3), 2) := by decide +kernel
theorem dX6_worth_40 : decode cX6_worth 40 = .ok (.ireturn, 1) := by decide +kernel
theorem dX6_worth_41 : decode cX6_worth 41 = .ok (.aload_n 0, 1) := by decide +kernel
theorem dX6_worth_42 : decode cX6_worth 42 = .ok (.getfield 71, 3) := by decide +kernel
theorem dX6_worth_45 : decode cX6_worth 45 = .ok (.bipush 8, 2) := by decide +kernel
theorem dX6_worth_47 : decode cX6_worth 47 = .ok (.iload_n 1, 1) := by decide +kernel
theorem dX6_worth_48 : decode cX6_worth 48 = .ok (.imul, 1) := by decide +kernel
theorem dX6_worth_49 : decode cX6_worth 49 = .ok (.aload_n 0, 1) := by decide +kernel
theorem dX6_worth_50 : decode cX6_worth 50 = .ok (.getfield 68, 3) := by decide +kernel
theorem dX6_worth_53 : decode cX6_worth 53 = .ok (.iload_n 1, 1) := by decide +kernel
theorem dX6_worth_54 : decode cX6_worth 54 = .ok (.iaload, 1) := by decide +kernel
theorem dX6_worth_55 : decode cX6_worth 55 = .ok (.iadd, 1) := by decide +kernel
theorem dX6_worth_56 : decode cX6_worth 56 = .ok (.iload_n 2, 1) := by decide +kernel
theorem dX6_worth_57 : decode cX6_worth 57 = .ok (.aload_n 0, 1) := by decide +kernel
theorem dX6_worth_58 : decode cX6_worth 58 = .ok (.getfield 53, 3) := by decide +kernel
theorem dX6_worth_61 : decode cX6_worth 61 = .ok (.iload_n 1, 1) := by decide +kernel
theorem dX6_worth_62 : decode cX6_worth 62 = .ok (.iaload, 1) := by decide +kernel
theorem dX6_worth_63 : decode cX6_worth 63 = .ok (.if_icmp .ge 12, 3) := by decide +kernel
theorem dX6_worth_66 : decode cX6_worth 66 = .ok (.aload_n 0, 1) := by decide +kernel
theorem dX6_worth_67 : decode cX6_worth 67 = .ok (.getfield 53, 3) := by decide +kernel
theorem dX6_worth_70 : decode cX6_worth 70 = .ok (.iload_n 1, 1) := by decide +kernel
theorem dX6_worth_71 : decode cX6_worth 71 = .ok (.iaload, 1) := by decide +kernel
theorem dX6_worth_72 : decode cX6_worth 72 = .ok (.goto 4, 3) := by decide +kernel
theorem dX6_worth_75 : decode cX6_worth 75 = .ok (.iload_n 2, 1) := by decide +kernel
theorem dX6_worth_76 : decode cX6_worth 76 = .ok (.iastore, 1) := by decide +kernel
theorem dX6_worth_77 : decode cX6_worth 77 = .ok (.aload_n 0, 1) := by decide +kernel
theorem dX6_worth_78 : decode cX6_worth 78 = .ok (.getfield 74, 3) := by decide +kernel
theorem dX6_worth_81 : decode cX6_worth 81 = .ok (.bipush 8, 2) := by decide +kernel
theorem dX6_worth_83 : decode cX6_worth 83 = .ok (.iload_n 1, 1) := by decide +kernel
theorem dX6_worth_84 : decode cX6_worth 84 = .ok (.imul, 1) := by decide +kernel
theorem dX6_worth_85 : decode cX6_worth 85 = .ok (.aload_n 0, 1) := by decide +kernel
theorem dX6_worth_86 : decode cX6_worth 86 = .ok (.getfield 68, 3) := by decide +kernel
theorem dX6_worth_89 : decode cX6_worth 89 = .ok (.iload_n 1, 1) := by decide +kernel
theorem dX6_worth_90 : decode cX6_worth 90 = .ok (.iaload, 1) := by decide +kernel
theorem dX6_worth_91 : decode cX6_worth 91 = .ok (.iadd, 1) := by decide +kernel
theorem dX6_worth_92 : decode cX6_worth 92 = .ok (.iload_n 3, 1) := by decide +kernel
theorem dX6_worth_93 : decode cX6_worth 93 = .ok (.iastore, 1) := by decide +kernel
theorem dX6_worth_94 : decode cX6_worth 94 = .ok (.aload_n 0, 1) := by decide +kernel
theorem dX6_worth_95 : decode cX6_worth 95 = .ok (.getfield 68, 3) := by decide +kernel
theorem dX6_worth_98 : decode cX6_worth 98 = .ok (.iload_n 1, 1) := by decide +kernel
theorem dX6_worth_99 : decode cX6_worth 99 = .ok (.dup2, 1) := by decide +kernel
theorem dX6_worth_100 : decode cX6_worth 100 = .ok (.iaload, 1) := by decide +kernel
theorem dX6_worth_101 : decode cX6_worth 101 = .ok (.iconst 1, 1) := by decide +kernel
theorem dX6_worth_102 : decode cX6_worth 102 = .ok (.iadd, 1) := by decide +kernel
theorem dX6_worth_103 : decode cX6_worth 103 = .ok (.iastore, 1) := by decide +kernel
theorem dX6_worth_104 : decode cX6_worth 104 = .ok (.aload_n 0, 1) := by decide +kernel
theorem dX6_worth_105 : decode cX6_worth 105 = .ok (.getfield 68, 3) := by decide +kernel
theorem dX6_worth_108 : decode cX6_worth 108 = .ok (.iload_n 1, 1) := by decide +kernel
theorem dX6_worth_109 : decode cX6_worth 109 = .ok (.iaload, 1) := by decide +kernel
theorem dX6_worth_110 : decode cX6_worth 110 = .ok (.ireturn, 1) := by decide +kernel
theorem dX6_counts_0 : decode cX6_counts 0 = .ok (.aload_n 0, 1) := by decide +kernel
theorem dX6_counts_1 : decode cX6_counts 1 = .ok (.getfield 62, 3) := by decide +kernel
theorem dX6_counts_4 : decode cX6_counts 4 = .ok (.iload_n 2, 1) := by decide +kernel
theorem dX6_counts_5 : decode cX6_counts 5 = .ok (.iaload, 1) := by decide +kernel
theorem dX6_counts_6 : decode cX6_counts 6 = .ok (.ifCond .ne 13, 3) := by decide +kernel
theorem dX6_counts_9 : decode cX6_counts 9 = .ok (.aload_n 0, 1) := by decide +kernel
theorem dX6_counts_10 : decode cX6_counts 10 = .ok (.getfield 59, 3) := by decide +kernel
theorem dX6_counts_13 : decode cX6_counts 13 = .ok (.iload_n 2, 1) := by decide +kernel
theorem dX6_counts_14 : decode cX6_counts 14 = .ok (.iaload, 1) := by decide +kernel
theorem dX6_counts_15 : decode cX6_counts 15 = .ok (.iload_n 3, 1) := by decide +kernel
theorem dX6_counts_16 : decode cX6_counts 16 = .ok (.if_icmp .le 5, 3) := by decide +kernel
theorem dX6_counts_19 : decode cX6_counts 19 = .ok (.iconst 0, 1) := by decide +kernel
theorem dX6_counts_20 : decode cX6_counts 20 = .ok (.ireturn, 1) := by decide +kernel
theorem dX6_counts_21 : decode cX6_counts 21 = .ok (.iconst 1, 1) := by decide +kernel
theorem dX6_counts_22 : decode cX6_counts 22 = .ok (.istore 4, 2) := by decide +kernel
theorem dX6_counts_24 : decode cX6_counts 24 = .ok (.bipush 16, 2) := by decide +kernel
theorem dX6_counts_26 : decode cX6_counts 26 = .ok (.iload_n 1, 1) := by decide +kernel
theorem dX6_counts_27 : decode cX6_counts 27 = .ok (.imul, 1) := by decide +kernel
theorem dX6_counts_28 : decode cX6_counts 28 = .ok (.istore 5, 2) := by decide +kernel
theorem dX6_counts_30 : decode cX6_counts 30 = .ok (.iload 5, 2) := by decide +kernel
theorem dX6_counts_32 : decode cX6_counts 32 = .ok (.bipush 16, 2) := by decide +kernel
theorem dX6_counts_34 : decode cX6_counts 34 = .ok (.iload_n 1, 1) := by decide +kernel
theorem dX6_counts_35 : decode cX6_counts 35 = .ok (.imul, 1) := by decide +kernel
theorem dX6_counts_36 : decode cX6_counts 36 = .ok (.aload_n 0, 1) := by decide +kernel
theorem dX6_counts_37 : decode cX6_counts 37 = .ok (.getfield 56, 3) := by decide +kernel
theorem dX6_counts_40 : decode cX6_counts 40 = .ok (.iload_n 1, 1) := by decide +kernel
theorem dX6_counts_41 : decode cX6_counts 41 = .ok (.iaload, 1) := by decide +kernel
theorem dX6_counts_42 : decode cX6_counts 42 = .ok (.iadd, 1) := by decide +kernel
theorem dX6_counts_43 : decode cX6_counts 43 = .ok (.if_icmp .ge 59, 3) := by decide +kernel
theorem dX6_counts_46 : decode cX6_counts 46 = .ok (.iload 4, 2) := by decide +kernel
theorem dX6_counts_48 : decode cX6_counts 48 = .ok (.ifCond .eq 45, 3) := by decide +kernel
theorem dX6_counts_51 : decode cX6_counts 51 = .ok (.aload_n 0, 1) := by decide +kernel
theorem dX6_counts_52 : decode cX6_counts 52 = .ok (.getfield 62, 3) := by decide +kernel
theorem dX6_counts_55 : decode cX6_counts 55 = .ok (.iload 5, 2) := by decide +kernel
theorem dX6_counts_57 : decode cX6_counts 57 = .ok (.iaload, 1) := by decide +kernel
theorem dX6_counts_58 : decode cX6_counts 58 = .ok (.iconst 1, 1) := by decide +kernel
theorem dX6_counts_59 : decode cX6_counts 59 = .ok (.if_icmp .ne 30, 3) := by decide +kernel
theorem dX6_counts_62 : decode cX6_counts 62 = .ok (.aload_n 0, 1) := by decide +kernel
theorem dX6_counts_63 : decode cX6_counts 63 = .ok (.getfield 65, 3) := by decide +kernel
theorem dX6_counts_66 : decode cX6_counts 66 = .ok (.iload 5, 2) := by decide +kernel
theorem dX6_counts_68 : decode cX6_counts 68 = .ok (.iaload, 1) := by decide +kernel
theorem dX6_counts_69 : decode cX6_counts 69 = .ok (.aload_n 0, 1) := by decide +kernel
theorem dX6_counts_70 : decode cX6_counts 70 = .ok (.getfield 65, 3) := by decide +kernel
theorem dX6_counts_73 : decode cX6_counts 73 = .ok (.iload_n 2, 1) := by decide +kernel
theorem dX6_counts_74 : decode cX6_counts 74 = .ok (.iaload, 1) := by decide +kernel
theorem dX6_counts_75 : decode cX6_counts 75 = .ok (.if_icmp .ne 14, 3) := by decide +kernel
theorem dX6_counts_78 : decode cX6_counts 78 = .ok (.aload_n 0, 1) := by decide +kernel
theorem dX6_counts_79 : decode cX6_counts 79 = .ok (.getfield 59, 3) := by decide +kernel
theorem dX6_counts_82 : decode cX6_counts 82 = .ok (.iload 5, 2) := by decide +kernel
theorem dX6_counts_84 : decode cX6_counts 84 = .ok (.iaload, 1) := by decide +kernel
theorem dX6_counts_85 : decode cX6_counts 85 = .ok (.iload_n 3, 1) := by decide +kernel
theorem dX6_counts_86 : decode cX6_counts 86 = .ok (.if_icmp .le 7, 3) := by decide +kernel
theorem dX6_counts_89 : decode cX6_counts 89 = .ok (.iconst 1, 1) := by decide +kernel
theorem dX6_counts_90 : decode cX6_counts 90 = .ok (.goto 4, 3) := by decide +kernel
theorem dX6_counts_93 : decode cX6_counts 93 = .ok (.iconst 0, 1) := by decide +kernel
theorem dX6_counts_94 : decode cX6_counts 94 = .ok (.istore 4, 2) := by decide +kernel
theorem dX6_counts_96 : decode cX6_counts 96 = .ok (.iinc 5 1, 3) := by decide +kernel
theorem dX6_counts_99 : decode cX6_counts 99 = .ok (.goto (-69), 3) := by decide +kernel
theorem dX6_counts_102 : decode cX6_counts 102 = .ok (.iload 4, 2) := by decide +kernel
theorem dX6_counts_104 : decode cX6_counts 104 = .ok (.ireturn, 1) := by decide +kernel
set_option maxRecDepth 20000 in
theorem ggX6_endedFrom_X6_counts : GoodIn wsX6_endedFrom wsX6_counts := goodIn_r _ [8, 9, 3, 2, 10, 11, 12, 13, 14, 15, 16, 17, 18, 19, 20, 21, 22, 23, 24, 25, 26, 27, 28, 29, 30, 31, 32, 33, 34, 35, 36, 37, 38, 39, 40, 41, 42] (by decide +kernel) (by decide +kernel)
set_option maxRecDepth 20000 in
theorem gX6_endedFrom_X6_counts : GoodIn wsX6_endedFrom (wsV RX6 139 RX6 yX6_counts wsX6_counts) := goodIn_app (goodIn_of _ (by decide +kernel)) ggX6_endedFrom_X6_counts
theorem dX6_endedFrom_0 : decode cX6_endedFrom 0 = .ok (.ldc 126, 2) := by decide +kernel
theorem dX6_endedFrom_2 : decode cX6_endedFrom 2 = .ok (.istore_n 3, 1) := by decide +kernel
theorem dX6_endedFrom_3 : decode cX6_endedFrom 3 = .ok (.bipush 16, 2) := by decide +kernel
theorem dX6_endedFrom_5 : decode cX6_endedFrom 5 = .ok (.iload_n 1, 1) := by decide +kernel
theorem dX6_endedFrom_6 : decode cX6_endedFrom 6 = .ok (.imul, 1) := by decide +kernel
theorem dX6_endedFrom_7 : decode cX6_endedFrom 7 = .ok (.aload_n 0, 1) := by decide +kernel
theorem dX6_endedFrom_8 : decode cX6_endedFrom 8 = .ok (.getfield 56, 3) := by decide +kernel
theorem dX6_endedFrom_11 : decode cX6_endedFrom 11 = .ok (.iload_n 1, 1) := by decide +kernel
theorem dX6_endedFrom_12 : decode cX6_endedFrom 12 = .ok (.iaload, 1) := by decide +kernel
theorem dX6_endedFrom_13 : decode cX6_endedFrom 13 = .ok (.iadd, 1) := by decide +kernel
theorem dX6_endedFrom_14 : decode cX6_endedFrom 14 = .ok (.istore 4, 2) := by decide +kernel
theorem dX6_endedFrom_16 : decode cX6_endedFrom 16 = .ok (.bipush 16, 2) := by decide +kernel
theorem dX6_endedFrom_18 : decode cX6_endedFrom 18 = .ok (.iload_n 1, 1) := by decide +kernel
theorem dX6_endedFrom_19 : decode cX6_endedFrom 19 = .ok (.imul, 1) := by decide +kernel
theorem dX6_endedFrom_20 : decode cX6_endedFrom 20 = .ok (.istore 5, 2) := by decide +kernel
theorem dX6_endedFrom_22 : decode cX6_endedFrom 22 = .ok (.iload 5, 2) := by decide +kernel
theorem dX6_endedFrom_24 : decode cX6_endedFrom 24 = .ok (.iload 4, 2) := by decide +kernel
theorem dX6_endedFrom_26 : decode cX6_endedFrom 26 = .ok (.if_icmp .ge 130, 3) := by decide +kernel
theorem dX6_endedFrom_29 : decode cX6_endedFrom 29 = .ok (.iconst 0, 1) := by decide +kernel
theorem dX6_endedFrom_30 : decode cX6_endedFrom 30 = .ok (.istore 6, 2) := by decide +kernel
theorem dX6_endedFrom_32 : decode cX6_endedFrom 32 = .ok (.bipush 16, 2) := by decide +kernel
theorem dX6_endedFrom_34 : decode cX6_endedFrom 34 = .ok (.iload_n 1, 1) := by decide +kernel
theorem dX6_endedFrom_35 : decode cX6_endedFrom 35 = .ok (.imul, 1) := by decide +kernel
theorem dX6_endedFrom_36 : decode cX6_endedFrom 36 = .ok (.istore 7, 2) := by decide +kernel
theorem dX6_endedFrom_38 : decode cX6_endedFrom 38 = .ok (.iload 7, 2) := by decide +kernel
theorem dX6_endedFrom_40 : decode cX6_endedFrom 40 = .ok (.iload 4, 2) := by decide +kernel
theorem dX6_endedFrom_42 : decode cX6_endedFrom 42 = .ok (.if_icmp .ge 79, 3) := by decide +kernel
theorem dX6_endedFrom_45 : decode cX6_endedFrom 45 = .ok (.aload_n 0, 1) := by decide +kernel
theorem dX6_endedFrom_46 : decode cX6_endedFrom 46 = .ok (.iload_n 1, 1) := by decide +kernel
theorem dX6_endedFrom_47 : decode cX6_endedFrom 47 = .ok (.iload 5, 2) := by decide +kernel
theorem dX6_endedFrom_49 : decode cX6_endedFrom 49 = .ok (.iload_n 2, 1) := by decide +kernel
theorem dX6_endedFrom_50 : decode cX6_endedFrom 50 = .ok (.invokevirtual 139, 3) := by decide +kernel
theorem dX6_endedFrom_53 : decode cX6_endedFrom 53 = .ok (.ifCond .eq 68, 3) := by decide +kernel
theorem dX6_endedFrom_56 : decode cX6_endedFrom 56 = .ok (.iload 6, 2) := by decide +kernel
theorem dX6_endedFrom_58 : decode cX6_endedFrom 58 = .ok (.aload_n 0, 1) := by decide +kernel
theorem dX6_endedFrom_59 : decode cX6_endedFrom 59 = .ok (.iload_n 1, 1) := by decide +kernel
theorem dX6_endedFrom_60 : decode cX6_endedFrom 60 = .ok (.iload 7, 2) := by decide +kernel
theorem dX6_endedFrom_62 : decode cX6_endedFrom 62 = .ok (.iload_n 2, 1) := by decide +kernel
theorem dX6_endedFrom_63 : decode cX6_endedFrom 63 = .ok (.invokevirtual 139, 3) := by decide +kernel
theorem dX6_endedFrom_66 : decode cX6_endedFrom 66 = .ok (.ifCond .eq 45, 3) := by decide +kernel
theorem dX6_endedFrom_69 : decode cX6_endedFrom 69 = .ok (.aload_n 0, 1) := by decide +kernel
theorem dX6_endedFrom_70 : decode cX6_endedFrom 70 = .ok (.getfield 59, 3) := by decide +kernel
theorem dX6_endedFrom_73 : decode cX6_endedFrom 73 = .ok (.iload 7, 2) := by decide +kernel
theorem dX6_endedFrom_75 : decode cX6_endedFrom 75 = .ok (.iaload, 1) := by decide +kernel
theorem dX6_endedFrom_76 : decode cX6_endedFrom 76 = .ok (.aload_n 0, 1) := by decide +kernel
theorem dX6_endedFrom_77 : decode cX6_endedFrom 77 = .ok (.getfield 59, 3) := by decide +kernel
theorem dX6_endedFrom_80 : decode cX6_endedFrom 80 = .ok (.iload 5, 2) := by decide +kernel
theorem dX6_endedFrom_82 : decode cX6_endedFrom 82 = .ok (.iaload, 1) := by decide +kernel
theorem dX6_endedFrom_83 : decode cX6_endedFrom 83 = .ok (.if_icmp .gt 28, 3) := by decide +kernel
theorem dX6_endedFrom_86 : decode cX6_endedFrom 86 = .ok (.aload_n 0, 1) := by decide +kernel
theorem dX6_endedFrom_87 : decode cX6_endedFrom 87 = .ok (.getfield 59, 3) := by decide +kernel
theorem dX6_endedFrom_90 : decode cX6_endedFrom 90 = .ok (.iload 7, 2) := by decide +kernel
theorem dX6_endedFrom_92 : decode cX6_endedFrom 92 = .ok (.iaload, 1) := by decide +kernel
theorem dX6_endedFrom_93 : decode cX6_endedFrom 93 = .ok (.aload_n 0, 1) := by decide +kernel
theorem dX6_endedFrom_94 : decode cX6_endedFrom 94 = .ok (.getfield 59, 3) := by decide +kernel
theorem dX6_endedFrom_97 : decode cX6_endedFrom 97 = .ok (.iload 5, 2) := by decide +kernel
theorem dX6_endedFrom_99 : decode cX6_endedFrom 99 = .ok (.iaload, 1) := by decide +kernel
theorem dX6_endedFrom_100 : decode cX6_endedFrom 100 = .ok (.sipush 1825, 3) := by decide +kernel
theorem dX6_endedFrom_103 : decode cX6_endedFrom 103 = .ok (.isub, 1) := by decide +kernel
theorem dX6_endedFrom_104 : decode cX6_endedFrom 104 = .ok (.if_icmp .lt 7, 3) := by decide +kernel
theorem dX6_endedFrom_107 : decode cX6_endedFrom 107 = .ok (.iconst 1, 1) := by decide +kernel
theorem dX6_endedFrom_108 : decode cX6_endedFrom 108 = .ok (.goto 4, 3) := by decide +kernel
theorem dX6_endedFrom_111 : decode cX6_endedFrom 111 = .ok (.iconst 0, 1) := by decide +kernel
theorem dX6_endedFrom_112 : decode cX6_endedFrom 112 = .ok (.iadd, 1) := by decide +kernel
theorem dX6_endedFrom_113 : decode cX6_endedFrom 113 = .ok (.istore 6, 2) := by decide +kernel
theorem dX6_endedFrom_115 : decode cX6_endedFrom 115 = .ok (.iinc 7 1, 3) := by decide +kernel
theorem dX6_endedFrom_118 : decode cX6_endedFrom 118 = .ok (.goto (-80), 3) := by decide +kernel
theorem dX6_endedFrom_121 : decode cX6_endedFrom 121 = .ok (.iload 6, 2) := by decide +kernel
theorem dX6_endedFrom_123 : decode cX6_endedFrom 123 = .ok (.iconst 2, 1) := by decide +kernel
theorem dX6_endedFrom_124 : decode cX6_endedFrom 124 = .ok (.if_icmp .le 24, 3) := by decide +kernel
theorem dX6_endedFrom_127 : decode cX6_endedFrom 127 = .ok (.aload_n 0, 1) := by decide +kernel
theorem dX6_endedFrom_128 : decode cX6_endedFrom 128 = .ok (.getfield 59, 3) := by decide +kernel
theorem dX6_endedFrom_131 : decode cX6_endedFrom 131 = .ok (.iload 5, 2) := by decide +kernel
theorem dX6_endedFrom_133 : decode cX6_endedFrom 133 = .ok (.iaload, 1) := by decide +kernel
theorem dX6_endedFrom_134 : decode cX6_endedFrom 134 = .ok (.iload_n 3, 1) := by decide +kernel
theorem dX6_endedFrom_135 : decode cX6_endedFrom 135 = .ok (.if_icmp .ge 13, 3) := by decide +kernel
theorem dX6_endedFrom_138 : decode cX6_endedFrom 138 = .ok (.aload_n 0, 1) := by decide +kernel
theorem dX6_endedFrom_139 : decode cX6_endedFrom 139 = .ok (.getfield 59, 3) := by decide +kernel
theorem dX6_endedFrom_142 : decode cX6_endedFrom 142 = .ok (.iload 5, 2) := by decide +kernel
theorem dX6_endedFrom_144 : decode cX6_endedFrom 144 = .ok (.iaload, 1) := by decide +kernel
theorem dX6_endedFrom_145 : decode cX6_endedFrom 145 = .ok (.goto 4, 3) := by decide +kernel
theorem dX6_endedFrom_148 : decode cX6_endedFrom 148 = .ok (.iload_n 3, 1) := by decide +kernel
theorem dX6_endedFrom_149 : decode cX6_endedFrom 149 = .ok (.istore_n 3, 1) := by decide +kernel
theorem dX6_endedFrom_150 : decode cX6_endedFrom 150 = .ok (.iinc 5 1, 3) := by decide +kernel
theorem dX6_endedFrom_153 : decode cX6_endedFrom 153 = .ok (.goto (-131), 3) := by decide +kernel
theorem dX6_endedFrom_156 : decode cX6_endedFrom 156 = .ok (.iload_n 3, 1) := by decide +kernel
theorem dX6_endedFrom_157 : decode cX6_endedFrom 157 = .ok (.ireturn, 1) := by decide +kernel
set_option maxRecDepth 20000 in
theorem ggX6_lapsedFrom_X6_in : GoodIn wsX6_lapsedFrom wsX6_in := goodIn_r _ [8] (by decide +kernel) (by decide +kernel)
set_option maxRecDepth 20000 in
theorem gX6_lapsedFrom_X6_in : GoodIn wsX6_lapsedFrom (va_wsS RX6 92 yX6_in wsX6_in) := goodIn_app (goodIn_of _ (by decide +kernel)) ggX6_lapsedFrom_X6_in
theorem dX6_lapsedFrom_0 : decode cX6_lapsedFrom 0 = .ok (.ldc 126, 2) := by decide +kernel
theorem dX6_lapsedFrom_2 : decode cX6_lapsedFrom 2 = .ok (.istore_n 3, 1) := by decide +kernel
theorem dX6_lapsedFrom_3 : decode cX6_lapsedFrom 3 = .ok (.bipush 16, 2) := by decide +kernel
theorem dX6_lapsedFrom_5 : decode cX6_lapsedFrom 5 = .ok (.iload_n 1, 1) := by decide +kernel
theorem dX6_lapsedFrom_6 : decode cX6_lapsedFrom 6 = .ok (.imul, 1) := by decide +kernel
theorem dX6_lapsedFrom_7 : decode cX6_lapsedFrom 7 = .ok (.aload_n 0, 1) := by decide +kernel
theorem dX6_lapsedFrom_8 : decode cX6_lapsedFrom 8 = .ok (.getfield 56, 3) := by decide +kernel
theorem dX6_lapsedFrom_11 : decode cX6_lapsedFrom 11 = .ok (.iload_n 1, 1) := by decide +kernel
theorem dX6_lapsedFrom_12 : decode cX6_lapsedFrom 12 = .ok (.iaload, 1) := by decide +kernel
theorem dX6_lapsedFrom_13 : decode cX6_lapsedFrom 13 = .ok (.iadd, 1) := by decide +kernel
theorem dX6_lapsedFrom_14 : decode cX6_lapsedFrom 14 = .ok (.istore 4, 2) := by decide +kernel
theorem dX6_lapsedFrom_16 : decode cX6_lapsedFrom 16 = .ok (.bipush 16, 2) := by decide +kernel
theorem dX6_lapsedFrom_18 : decode cX6_lapsedFrom 18 = .ok (.iload_n 1, 1) := by decide +kernel
theorem dX6_lapsedFrom_19 : decode cX6_lapsedFrom 19 = .ok (.imul, 1) := by decide +kernel
theorem dX6_lapsedFrom_20 : decode cX6_lapsedFrom 20 = .ok (.istore 5, 2) := by decide +kernel
theorem dX6_lapsedFrom_22 : decode cX6_lapsedFrom 22 = .ok (.iload 5, 2) := by decide +kernel
theorem dX6_lapsedFrom_24 : decode cX6_lapsedFrom 24 = .ok (.iload 4, 2) := by decide +kernel
theorem dX6_lapsedFrom_26 : decode cX6_lapsedFrom 26 = .ok (.if_icmp .ge 135, 3) := by decide +kernel
theorem dX6_lapsedFrom_29 : decode cX6_lapsedFrom 29 = .ok (.aload_n 0, 1) := by decide +kernel
theorem dX6_lapsedFrom_30 : decode cX6_lapsedFrom 30 = .ok (.getfield 62, 3) := by decide +kernel
theorem dX6_lapsedFrom_33 : decode cX6_lapsedFrom 33 = .ok (.iload 5, 2) := by decide +kernel
theorem dX6_lapsedFrom_35 : decode cX6_lapsedFrom 35 = .ok (.iaload, 1) := by decide +kernel
theorem dX6_lapsedFrom_36 : decode cX6_lapsedFrom 36 = .ok (.iconst 2, 1) := by decide +kernel
theorem dX6_lapsedFrom_37 : decode cX6_lapsedFrom 37 = .ok (.if_icmp .ne 7, 3) := by decide +kernel
theorem dX6_lapsedFrom_40 : decode cX6_lapsedFrom 40 = .ok (.iconst 1, 1) := by decide +kernel
theorem dX6_lapsedFrom_41 : decode cX6_lapsedFrom 41 = .ok (.goto 4, 3) := by decide +kernel
theorem dX6_lapsedFrom_44 : decode cX6_lapsedFrom 44 = .ok (.iconst 0, 1) := by decide +kernel
theorem dX6_lapsedFrom_45 : decode cX6_lapsedFrom 45 = .ok (.istore 6, 2) := by decide +kernel
theorem dX6_lapsedFrom_47 : decode cX6_lapsedFrom 47 = .ok (.bipush 16, 2) := by decide +kernel
theorem dX6_lapsedFrom_49 : decode cX6_lapsedFrom 49 = .ok (.iload_n 1, 1) := by decide +kernel
theorem dX6_lapsedFrom_50 : decode cX6_lapsedFrom 50 = .ok (.imul, 1) := by decide +kernel
theorem dX6_lapsedFrom_51 : decode cX6_lapsedFrom 51 = .ok (.istore 7, 2) := by decide +kernel
theorem dX6_lapsedFrom_53 : decode cX6_lapsedFrom 53 = .ok (.iload 7, 2) := by decide +kernel
theorem dX6_lapsedFrom_55 : decode cX6_lapsedFrom 55 = .ok (.iload 4, 2) := by decide +kernel
theorem dX6_lapsedFrom_57 : decode cX6_lapsedFrom 57 = .ok (.if_icmp .ge 62, 3) := by decide +kernel
theorem dX6_lapsedFrom_60 : decode cX6_lapsedFrom 60 = .ok (.iload 6, 2) := by decide +kernel
theorem dX6_lapsedFrom_62 : decode cX6_lapsedFrom 62 = .ok (.ifCond .eq 48, 3) := by decide +kernel
theorem dX6_lapsedFrom_65 : decode cX6_lapsedFrom 65 = .ok (.aload_n 0, 1) := by decide +kernel
theorem dX6_lapsedFrom_66 : decode cX6_lapsedFrom 66 = .ok (.getfield 62, 3) := by decide +kernel
theorem dX6_lapsedFrom_69 : decode cX6_lapsedFrom 69 = .ok (.iload 7, 2) := by decide +kernel
theorem dX6_lapsedFrom_71 : decode cX6_lapsedFrom 71 = .ok (.iaload, 1) := by decide +kernel
theorem dX6_lapsedFrom_72 : decode cX6_lapsedFrom 72 = .ok (.iconst 3, 1) := by decide +kernel
theorem dX6_lapsedFrom_73 : decode cX6_lapsedFrom 73 = .ok (.if_icmp .ne 33, 3) := by decide +kernel
theorem dX6_lapsedFrom_76 : decode cX6_lapsedFrom 76 = .ok (.aload_n 0, 1) := by decide +kernel
theorem dX6_lapsedFrom_77 : decode cX6_lapsedFrom 77 = .ok (.getfield 59, 3) := by decide +kernel
theorem dX6_lapsedFrom_80 : decode cX6_lapsedFrom 80 = .ok (.iload 7, 2) := by decide +kernel
theorem dX6_lapsedFrom_82 : decode cX6_lapsedFrom 82 = .ok (.iaload, 1) := by decide +kernel
theorem dX6_lapsedFrom_83 : decode cX6_lapsedFrom 83 = .ok (.aload_n 0, 1) := by decide +kernel
theorem dX6_lapsedFrom_84 : decode cX6_lapsedFrom 84 = .ok (.getfield 59, 3) := by decide +kernel
theorem dX6_lapsedFrom_87 : decode cX6_lapsedFrom 87 = .ok (.iload 5, 2) := by decide +kernel
theorem dX6_lapsedFrom_89 : decode cX6_lapsedFrom 89 = .ok (.iaload, 1) := by decide +kernel
theorem dX6_lapsedFrom_90 : decode cX6_lapsedFrom 90 = .ok (.aload_n 0, 1) := by decide +kernel
theorem dX6_lapsedFrom_91 : decode cX6_lapsedFrom 91 = .ok (.getfield 59, 3) := by decide +kernel
theorem dX6_lapsedFrom_94 : decode cX6_lapsedFrom 94 = .ok (.iload 5, 2) := by decide +kernel
theorem dX6_lapsedFrom_96 : decode cX6_lapsedFrom 96 = .ok (.iaload, 1) := by decide +kernel
theorem dX6_lapsedFrom_97 : decode cX6_lapsedFrom 97 = .ok (.bipush 27, 2) := by decide +kernel
theorem dX6_lapsedFrom_99 : decode cX6_lapsedFrom 99 = .ok (.iadd, 1) := by decide +kernel
theorem dX6_lapsedFrom_100 : decode cX6_lapsedFrom 100 = .ok (.invokestatic 92, 3) := by decide +kernel
theorem dX6_lapsedFrom_103 : decode cX6_lapsedFrom 103 = .ok (.ifCond .ne 7, 3) := by decide +kernel
theorem dX6_lapsedFrom_106 : decode cX6_lapsedFrom 106 = .ok (.iconst 1, 1) := by decide +kernel
theorem dX6_lapsedFrom_107 : decode cX6_lapsedFrom 107 = .ok (.goto 4, 3) := by decide +kernel
theorem dX6_lapsedFrom_110 : decode cX6_lapsedFrom 110 = .ok (.iconst 0, 1) := by decide +kernel
theorem dX6_lapsedFrom_111 : decode cX6_lapsedFrom 111 = .ok (.istore 6, 2) := by decide +kernel
theorem dX6_lapsedFrom_113 : decode cX6_lapsedFrom 113 = .ok (.iinc 7 1, 3) := by decide +kernel
theorem dX6_lapsedFrom_116 : decode cX6_lapsedFrom 116 = .ok (.goto (-63), 3) := by decide +kernel
theorem dX6_lapsedFrom_119 : decode cX6_lapsedFrom 119 = .ok (.aload_n 0, 1) := by decide +kernel
theorem dX6_lapsedFrom_120 : decode cX6_lapsedFrom 120 = .ok (.getfield 59, 3) := by decide +kernel
theorem dX6_lapsedFrom_123 : decode cX6_lapsedFrom 123 = .ok (.iload 5, 2) := by decide +kernel
theorem dX6_lapsedFrom_125 : decode cX6_lapsedFrom 125 = .ok (.iaload, 1) := by decide +kernel
theorem dX6_lapsedFrom_126 : decode cX6_lapsedFrom 126 = .ok (.bipush 28, 2) := by decide +kernel
theorem dX6_lapsedFrom_128 : decode cX6_lapsedFrom 128 = .ok (.iadd, 1) := by decide +kernel
theorem dX6_lapsedFrom_129 : decode cX6_lapsedFrom 129 = .ok (.istore 7, 2) := by decide +kernel
theorem dX6_lapsedFrom_131 : decode cX6_lapsedFrom 131 = .ok (.iload 6, 2) := by decide +kernel
theorem dX6_lapsedFrom_133 : decode cX6_lapsedFrom 133 = .ok (.ifCond .eq 20, 3) := by decide +kernel
theorem dX6_lapsedFrom_136 : decode cX6_lapsedFrom 136 = .ok (.iload 7, 2) := by decide +kernel
theorem dX6_lapsedFrom_138 : decode cX6_lapsedFrom 138 = .ok (.iload_n 2, 1) := by decide +kernel
theorem dX6_lapsedFrom_139 : decode cX6_lapsedFrom 139 = .ok (.if_icmp .gt 14, 3) := by decide +kernel
theorem dX6_lapsedFrom_142 : decode cX6_lapsedFrom 142 = .ok (.iload 7, 2) := by decide +kernel
theorem dX6_lapsedFrom_144 : decode cX6_lapsedFrom 144 = .ok (.iload_n 3, 1) := by decide +kernel
theorem dX6_lapsedFrom_145 : decode cX6_lapsedFrom 145 = .ok (.if_icmp .ge 8, 3) := by decide +kernel
theorem dX6_lapsedFrom_148 : decode cX6_lapsedFrom 148 = .ok (.iload 7, 2) := by decide +kernel
theorem dX6_lapsedFrom_150 : decode cX6_lapsedFrom 150 = .ok (.goto 4, 3) := by decide +kernel
theorem dX6_lapsedFrom_153 : decode cX6_lapsedFrom 153 = .ok (.iload_n 3, 1) := by decide +kernel
theorem dX6_lapsedFrom_154 : decode cX6_lapsedFrom 154 = .ok (.istore_n 3, 1) := by decide +kernel
theorem dX6_lapsedFrom_155 : decode cX6_lapsedFrom 155 = .ok (.iinc 5 1, 3) := by decide +kernel
theorem dX6_lapsedFrom_158 : decode cX6_lapsedFrom 158 = .ok (.goto (-136), 3) := by decide +kernel
theorem dX6_lapsedFrom_161 : decode cX6_lapsedFrom 161 = .ok (.iload_n 3, 1) := by decide +kernel
theorem dX6_lapsedFrom_162 : decode cX6_lapsedFrom 162 = .ok (.ireturn, 1) := by decide +kernel
theorem dX6_surplusFrom_0 : decode cX6_surplusFrom 0 = .ok (.ldc 126, 2) := by decide +kernel
theorem dX6_surplusFrom_2 : decode cX6_surplusFrom 2 = .ok (.istore_n 3, 1) := by decide +kernel
theorem dX6_surplusFrom_3 : decode cX6_surplusFrom 3 = .ok (.bipush 16, 2) := by decide +kernel
theorem dX6_surplusFrom_5 : decode cX6_surplusFrom 5 = .ok (.iload_n 1, 1) := by decide +kernel
theorem dX6_surplusFrom_6 : decode cX6_surplusFrom 6 = .ok (.imul, 1) := by decide +kernel
theorem dX6_surplusFrom_7 : decode cX6_surplusFrom 7 = .ok (.istore 4, 2) := by decide +kernel
theorem dX6_surplusFrom_9 : decode cX6_surplusFrom 9 = .ok (.iload 4, 2) := by decide +kernel
theorem dX6_surplusFrom_11 : decode cX6_surplusFrom 11 = .ok (.bipush 16, 2) := by decide +kernel
theorem dX6_surplusFrom_13 : decode cX6_surplusFrom 13 = .ok (.iload_n 1, 1) := by decide +kernel
theorem dX6_surplusFrom_14 : decode cX6_surplusFrom 14 = .ok (.imul, 1) := by decide +kernel
theorem dX6_surplusFrom_15 : decode cX6_surplusFrom 15 = .ok (.aload_n 0, 1) := by decide +kernel
theorem dX6_surplusFrom_16 : decode cX6_surplusFrom 16 = .ok (.getfield 56, 3) := by decide +kernel
theorem dX6_surplusFrom_19 : decode cX6_surplusFrom 19 = .ok (.iload_n 1, 1) := by decide +kernel
theorem dX6_surplusFrom_20 : decode cX6_surplusFrom 20 = .ok (.iaload, 1) := by decide +kernel
theorem dX6_surplusFrom_21 : decode cX6_surplusFrom 21 = .ok (.iadd, 1) := by decide +kernel
theorem dX6_surplusFrom_22 : decode cX6_surplusFrom 22 = .ok (.if_icmp .ge 55, 3) := by decide +kernel
theorem dX6_surplusFrom_25 : decode cX6_surplusFrom 25 = .ok (.aload_n 0, 1) := by decide +kernel
theorem dX6_surplusFrom_26 : decode cX6_surplusFrom 26 = .ok (.getfield 62, 3) := by decide +kernel
theorem dX6_surplusFrom_29 : decode cX6_surplusFrom 29 = .ok (.iload 4, 2) := by decide +kernel
theorem dX6_surplusFrom_31 : decode cX6_surplusFrom 31 = .ok (.iaload, 1) := by decide +kernel
theorem dX6_surplusFrom_32 : decode cX6_surplusFrom 32 = .ok (.bipush 6, 2) := by decide +kernel
theorem dX6_surplusFrom_34 : decode cX6_surplusFrom 34 = .ok (.if_icmp .ne 35, 3) := by decide +kernel
theorem dX6_surplusFrom_37 : decode cX6_surplusFrom 37 = .ok (.aload_n 0, 1) := by decide +kernel
theorem dX6_surplusFrom_38 : decode cX6_surplusFrom 38 = .ok (.getfield 59, 3) := by decide +kernel
theorem dX6_surplusFrom_41 : decode cX6_surplusFrom 41 = .ok (.iload 4, 2) := by decide +kernel
theorem dX6_surplusFrom_43 : decode cX6_surplusFrom 43 = .ok (.iaload, 1) := by decide +kernel
theorem dX6_surplusFrom_44 : decode cX6_surplusFrom 44 = .ok (.iload_n 2, 1) := by decide +kernel
theorem dX6_surplusFrom_45 : decode cX6_surplusFrom 45 = .ok (.if_icmp .gt 24, 3) := by decide +kernel
theorem dX6_surplusFrom_48 : decode cX6_surplusFrom 48 = .ok (.aload_n 0, 1) := by decide +kernel
theorem dX6_surplusFrom_49 : decode cX6_surplusFrom 49 = .ok (.getfield 59, 3) := by decide +kernel
theorem dX6_surplusFrom_52 : decode cX6_surplusFrom 52 = .ok (.iload 4, 2) := by decide +kernel
theorem dX6_surplusFrom_54 : decode cX6_surplusFrom 54 = .ok (.iaload, 1) := by decide +kernel
theorem dX6_surplusFrom_55 : decode cX6_surplusFrom 55 = .ok (.iload_n 3, 1) := by decide +kernel
theorem dX6_surplusFrom_56 : decode cX6_surplusFrom 56 = .ok (.if_icmp .ge 13, 3) := by decide +kernel
theorem dX6_surplusFrom_59 : decode cX6_surplusFrom 59 = .ok (.aload_n 0, 1) := by decide +kernel
theorem dX6_surplusFrom_60 : decode cX6_surplusFrom 60 = .ok (.getfield 59, 3) := by decide +kernel
theorem dX6_surplusFrom_63 : decode cX6_surplusFrom 63 = .ok (.iload 4, 2) := by decide +kernel
theorem dX6_surplusFrom_65 : decode cX6_surplusFrom 65 = .ok (.iaload, 1) := by decide +kernel
theorem dX6_surplusFrom_66 : decode cX6_surplusFrom 66 = .ok (.goto 4, 3) := by decide +kernel
theorem dX6_surplusFrom_69 : decode cX6_surplusFrom 69 = .ok (.iload_n 3, 1) := by decide +kernel
theorem dX6_surplusFrom_70 : decode cX6_surplusFrom 70 = .ok (.istore_n 3, 1) := by decide +kernel
theorem dX6_surplusFrom_71 : decode cX6_surplusFrom 71 = .ok (.iinc 4 1, 3) := by decide +kernel
theorem dX6_surplusFrom_74 : decode cX6_surplusFrom 74 = .ok (.goto (-65), 3) := by decide +kernel
theorem dX6_surplusFrom_77 : decode cX6_surplusFrom 77 = .ok (.iload_n 3, 1) := by decide +kernel
theorem dX6_surplusFrom_78 : decode cX6_surplusFrom 78 = .ok (.ireturn, 1) := by decide +kernel
set_option maxRecDepth 20000 in
theorem ggX6_stateOn_X6_endedFrom : GoodIn wsX6_stateOn wsX6_endedFrom := goodIn_r _ [7, 2, 8, 9, 10, 11, 12, 6, 13, 14, 15, 27, 28, 29, 30, 31, 32, 33, 34, 35, 36, 37, 38, 39, 40, 41, 42, 43, 44, 45, 46, 47, 48, 49, 50, 51, 52, 53, 54, 55, 56, 57, 58] (by decide +kernel) (by decide +kernel)
set_option maxRecDepth 20000 in
theorem gX6_stateOn_X6_endedFrom : GoodIn wsX6_stateOn (wsV RX6 142 RX6 yX6_endedFrom wsX6_endedFrom) := goodIn_app (goodIn_of _ (by decide +kernel)) ggX6_stateOn_X6_endedFrom
set_option maxRecDepth 20000 in
theorem ggX6_stateOn_X6_lapsedFrom : GoodIn wsX6_stateOn wsX6_lapsedFrom := goodIn_r _ [19, 2, 8, 14, 9, 20, 21, 6, 22, 27, 28, 29, 30, 31, 32, 33, 34, 35, 36, 37, 38, 39, 40, 41, 42, 43, 44, 45, 46, 47, 48, 49, 50, 51, 52, 53, 54, 55, 56, 57, 58] (by decide +kernel) (by decide +kernel)
set_option maxRecDepth 20000 in
theorem gX6_stateOn_X6_lapsedFrom : GoodIn wsX6_stateOn (wsV RX6 146 RX6 yX6_lapsedFrom wsX6_lapsedFrom) := goodIn_app (goodIn_of _ (by decide +kernel)) ggX6_stateOn_X6_lapsedFrom
set_option maxRecDepth 20000 in
theorem ggX6_stateOn_X6_surplusFrom : GoodIn wsX6_stateOn wsX6_surplusFrom := goodIn_r _ [26, 2, 8, 14, 9, 27, 28, 29, 30, 31, 32, 33, 34, 35, 36, 37, 38, 39, 40, 41, 42, 43, 44, 45, 46, 47, 48, 49, 50, 51, 52, 53, 54, 55, 56, 57, 58] (by decide +kernel) (by decide +kernel)
set_option maxRecDepth 20000 in
theorem gX6_stateOn_X6_surplusFrom : GoodIn wsX6_stateOn (wsV RX6 149 RX6 yX6_surplusFrom wsX6_surplusFrom) := goodIn_app (goodIn_of _ (by decide +kernel)) ggX6_stateOn_X6_surplusFrom
theorem dX6_stateOn_0 : decode cX6_stateOn 0 = .ok (.iload_n 2, 1) := by decide +kernel
theorem dX6_stateOn_1 : decode cX6_stateOn 1 = .ok (.aload_n 0, 1) := by decide +kernel
theorem dX6_stateOn_2 : decode cX6_stateOn 2 = .ok (.getfield 53, 3) := by decide +kernel
theorem dX6_stateOn_5 : decode cX6_stateOn 5 = .ok (.iload_n 1, 1) := by decide +kernel
theorem dX6_stateOn_6 : decode cX6_stateOn 6 = .ok (.iaload, 1) := by decide +kernel
theorem dX6_stateOn_7 : decode cX6_stateOn 7 = .ok (.if_icmp .ge 5, 3) := by decide +kernel
theorem dX6_stateOn_10 : decode cX6_stateOn 10 = .ok (.iconst 0, 1) := by decide +kernel
theorem dX6_stateOn_11 : decode cX6_stateOn 11 = .ok (.ireturn, 1) := by decide +kernel
theorem dX6_stateOn_12 : decode cX6_stateOn 12 = .ok (.aload_n 0, 1) := by decide +kernel
theorem dX6_stateOn_13 : decode cX6_stateOn 13 = .ok (.iload_n 1, 1) := by decide +kernel
theorem dX6_stateOn_14 : decode cX6_stateOn 14 = .ok (.iload_n 2, 1) := by decide +kernel
theorem dX6_stateOn_15 : decode cX6_stateOn 15 = .ok (.invokevirtual 142, 3) := by decide +kernel
theorem dX6_stateOn_18 : decode cX6_stateOn 18 = .ok (.istore_n 3, 1) := by decide +kernel
theorem dX6_stateOn_19 : decode cX6_stateOn 19 = .ok (.aload_n 0, 1) := by decide +kernel
theorem dX6_stateOn_20 : decode cX6_stateOn 20 = .ok (.iload_n 1, 1) := by decide +kernel
theorem dX6_stateOn_21 : decode cX6_stateOn 21 = .ok (.iload_n 2, 1) := by decide +kernel
theorem dX6_stateOn_22 : decode cX6_stateOn 22 = .ok (.invokevirtual 146, 3) := by decide +kernel
theorem dX6_stateOn_25 : decode cX6_stateOn 25 = .ok (.istore 4, 2) := by decide +kernel
theorem dX6_stateOn_27 : decode cX6_stateOn 27 = .ok (.aload_n 0, 1) := by decide +kernel
theorem dX6_stateOn_28 : decode cX6_stateOn 28 = .ok (.iload_n 1, 1) := by decide +kernel
theorem dX6_stateOn_29 : decode cX6_stateOn 29 = .ok (.iload_n 2, 1) := by decide +kernel
theorem dX6_stateOn_30 : decode cX6_stateOn 30 = .ok (.invokevirtual 149, 3) := by decide +kernel
theorem dX6_stateOn_33 : decode cX6_stateOn 33 = .ok (.istore 5, 2) := by decide +kernel
theorem dX6_stateOn_35 : decode cX6_stateOn 35 = .ok (.iload_n 3, 1) := by decide +kernel
theorem dX6_stateOn_36 : decode cX6_stateOn 36 = .ok (.ldc 126, 2) := by decide +kernel
theorem dX6_stateOn_38 : decode cX6_stateOn 38 = .ok (.if_icmp .ne 19, 3) := by decide +kernel
theorem dX6_stateOn_41 : decode cX6_stateOn 41 = .ok (.iload 4, 2) := by decide +kernel
theorem dX6_stateOn_43 : decode cX6_stateOn 43 = .ok (.ldc 126, 2) := by decide +kernel
theorem dX6_stateOn_45 : decode cX6_stateOn 45 = .ok (.if_icmp .ne 12, 3) := by decide +kernel
theorem dX6_stateOn_48 : decode cX6_stateOn 48 = .ok (.iload 5, 2) := by decide +kernel
theorem dX6_stateOn_50 : decode cX6_stateOn 50 = .ok (.ldc 126, 2) := by decide +kernel
theorem dX6_stateOn_52 : decode cX6_stateOn 52 = .ok (.if_icmp .ne 5, 3) := by decide +kernel
theorem dX6_stateOn_55 : decode cX6_stateOn 55 = .ok (.iconst 1, 1) := by decide +kernel
theorem dX6_stateOn_56 : decode cX6_stateOn 56 = .ok (.ireturn, 1) := by decide +kernel
theorem dX6_stateOn_57 : decode cX6_stateOn 57 = .ok (.iload_n 3, 1) := by decide +kernel
theorem dX6_stateOn_58 : decode cX6_stateOn 58 = .ok (.iload 4, 2) := by decide +kernel
theorem dX6_stateOn_60 : decode cX6_stateOn 60 = .ok (.if_icmp .gt 13, 3) := by decide +kernel
theorem dX6_stateOn_63 : decode cX6_stateOn 63 = .ok (.iload_n 3, 1) := by decide +kernel
theorem dX6_stateOn_64 : decode cX6_stateOn 64 = .ok (.iload 5, 2) := by decide +kernel
theorem dX6_stateOn_66 : decode cX6_stateOn 66 = .ok (.if_icmp .gt 7, 3) := by decide +kernel
theorem dX6_stateOn_69 : decode cX6_stateOn 69 = .ok (.iconst 2, 1) := by decide +kernel
theorem dX6_stateOn_70 : decode cX6_stateOn 70 = .ok (.goto 15, 3) := by decide +kernel
theorem dX6_stateOn_73 : decode cX6_stateOn 73 = .ok (.iload 4, 2) := by decide +kernel
theorem dX6_stateOn_75 : decode cX6_stateOn 75 = .ok (.iload 5, 2) := by decide +kernel
theorem dX6_stateOn_77 : decode cX6_stateOn 77 = .ok (.if_icmp .gt 7, 3) := by decide +kernel
theorem dX6_stateOn_80 : decode cX6_stateOn 80 = .ok (.iconst 3, 1) := by decide +kernel
theorem dX6_stateOn_81 : decode cX6_stateOn 81 = .ok (.goto 4, 3) := by decide +kernel
theorem dX6_stateOn_84 : decode cX6_stateOn 84 = .ok (.iconst 4, 1) := by decide +kernel
theorem dX6_stateOn_85 : decode cX6_stateOn 85 = .ok (.ireturn, 1) := by decide +kernel
set_option maxRecDepth 20000 in
theorem ggX6_has_X6_stateOn : GoodIn wsX6_has wsX6_stateOn := goodIn_r _ [5, 6, 7, 8, 9, 10, 4, 11, 12, 13, 14, 15, 16, 17, 18, 19, 20, 21, 22, 23, 24, 25, 26, 27, 28, 29, 30, 31, 32, 33, 34, 35, 36, 37, 38, 39, 40, 41, 42, 43, 44, 45, 46, 47, 48, 49, 50, 51, 52, 53, 54, 55, 56, 57, 58, 59, 60, 61, 62] (by decide +kernel) (by decide +kernel)
set_option maxRecDepth 20000 in
theorem gX6_has_X6_stateOn : GoodIn wsX6_has (wsV RX6 152 RX6 yX6_stateOn wsX6_stateOn) := goodIn_app (goodIn_of _ (by decide +kernel)) ggX6_has_X6_stateOn
theorem dX6_has_0 : decode cX6_has 0 = .ok (.aload_n 0, 1) := by decide +kernel
theorem dX6_has_1 : decode cX6_has 1 = .ok (.iload_n 1, 1) := by decide +kernel
theorem dX6_has_2 : decode cX6_has 2 = .ok (.iload_n 2, 1) := by decide +kernel
theorem dX6_has_3 : decode cX6_has 3 = .ok (.invokevirtual 152, 3) := by decide +kernel
theorem dX6_has_6 : decode cX6_has 6 = .ok (.iconst 1, 1) := by decide +kernel
theorem dX6_has_7 : decode cX6_has 7 = .ok (.if_icmp .ne 7, 3) := by decide +kernel
theorem dX6_has_10 : decode cX6_has 10 = .ok (.iconst 1, 1) := by decide +kernel
theorem dX6_has_11 : decode cX6_has 11 = .ok (.goto 4, 3) := by decide +kernel
theorem dX6_has_14 : decode cX6_has 14 = .ok (.iconst 0, 1) := by decide +kernel
theorem dX6_has_15 : decode cX6_has 15 = .ok (.ireturn, 1) := by decide +kernel
set_option maxRecDepth 20000 in
theorem ggX6_condition_X6_in : GoodIn wsX6_condition wsX6_in := goodIn_r _ [8] (by decide +kernel) (by decide +kernel)
set_option maxRecDepth 20000 in
theorem gX6_condition_X6_in : GoodIn wsX6_condition (va_wsS RX6 92 yX6_in wsX6_in) := goodIn_app (goodIn_of _ (by decide +kernel)) ggX6_condition_X6_in
theorem dX6_condition_0 : decode cX6_condition 0 = .ok (.iconst (-1), 1) := by decide +kernel
theorem dX6_condition_1 : decode cX6_condition 1 = .ok (.istore_n 3, 1) := by decide +kernel
theorem dX6_condition_2 : decode cX6_condition 2 = .ok (.bipush 16, 2) := by decide +kernel
theorem dX6_condition_4 : decode cX6_condition 4 = .ok (.iload_n 1, 1) := by decide +kernel
theorem dX6_condition_5 : decode cX6_condition 5 = .ok (.imul, 1) := by decide +kernel
theorem dX6_condition_6 : decode cX6_condition 6 = .ok (.istore 4, 2) := by decide +kernel
theorem dX6_condition_8 : decode cX6_condition 8 = .ok (.iload 4, 2) := by decide +kernel
theorem dX6_condition_10 : decode cX6_condition 10 = .ok (.bipush 16, 2) := by decide +kernel
theorem dX6_condition_12 : decode cX6_condition 12 = .ok (.iload_n 1, 1) := by decide +kernel
theorem dX6_condition_13 : decode cX6_condition 13 = .ok (.imul, 1) := by decide +kernel
theorem dX6_condition_14 : decode cX6_condition 14 = .ok (.aload_n 0, 1) := by decide +kernel
theorem dX6_condition_15 : decode cX6_condition 15 = .ok (.getfield 56, 3) := by decide +kernel
theorem dX6_condition_18 : decode cX6_condition 18 = .ok (.iload_n 1, 1) := by decide +kernel
theorem dX6_condition_19 : decode cX6_condition 19 = .ok (.iaload, 1) := by decide +kernel
theorem dX6_condition_20 : decode cX6_condition 20 = .ok (.iadd, 1) := by decide +kernel
theorem dX6_condition_21 : decode cX6_condition 21 = .ok (.if_icmp .ge 74, 3) := by decide +kernel
theorem dX6_condition_24 : decode cX6_condition 24 = .ok (.aload_n 0, 1) := by decide +kernel
theorem dX6_condition_25 : decode cX6_condition 25 = .ok (.getfield 62, 3) := by decide +kernel
theorem dX6_condition_28 : decode cX6_condition 28 = .ok (.iload 4, 2) := by decide +kernel
theorem dX6_condition_30 : decode cX6_condition 30 = .ok (.iaload, 1) := by decide +kernel
theorem dX6_condition_31 : decode cX6_condition 31 = .ok (.iconst 4, 1) := by decide +kernel
theorem dX6_condition_32 : decode cX6_condition 32 = .ok (.iconst 5, 1) := by decide +kernel
theorem dX6_condition_33 : decode cX6_condition 33 = .ok (.invokestatic 92, 3) := by decide +kernel
theorem dX6_condition_36 : decode cX6_condition 36 = .ok (.ifCond .eq 18, 3) := by decide +kernel
theorem dX6_condition_39 : decode cX6_condition 39 = .ok (.aload_n 0, 1) := by decide +kernel
theorem dX6_condition_40 : decode cX6_condition 40 = .ok (.getfield 59, 3) := by decide +kernel
theorem dX6_condition_43 : decode cX6_condition 43 = .ok (.iload 4, 2) := by decide +kernel
theorem dX6_condition_45 : decode cX6_condition 45 = .ok (.iaload, 1) := by decide +kernel
theorem dX6_condition_46 : decode cX6_condition 46 = .ok (.iload_n 2, 1) := by decide +kernel
theorem dX6_condition_47 : decode cX6_condition 47 = .ok (.if_icmp .gt 7, 3) := by decide +kernel
theorem dX6_condition_50 : decode cX6_condition 50 = .ok (.iconst 1, 1) := by decide +kernel
theorem dX6_condition_51 : decode cX6_condition 51 = .ok (.goto 4, 3) := by decide +kernel
theorem dX6_condition_54 : decode cX6_condition 54 = .ok (.iconst 0, 1) := by decide +kernel
theorem dX6_condition_55 : decode cX6_condition 55 = .ok (.istore 5, 2) := by decide +kernel
theorem dX6_condition_57 : decode cX6_condition 57 = .ok (.iload 5, 2) := by decide +kernel
theorem dX6_condition_59 : decode cX6_condition 59 = .ok (.ifCond .eq 28, 3) := by decide +kernel
theorem dX6_condition_62 : decode cX6_condition 62 = .ok (.iload_n 3, 1) := by decide +kernel
theorem dX6_condition_63 : decode cX6_condition 63 = .ok (.ifCond .lt 19, 3) := by decide +kernel
theorem dX6_condition_66 : decode cX6_condition 66 = .ok (.aload_n 0, 1) := by decide +kernel
theorem dX6_condition_67 : decode cX6_condition 67 = .ok (.getfield 59, 3) := by decide +kernel
theorem dX6_condition_70 : decode cX6_condition 70 = .ok (.iload 4, 2) := by decide +kernel
theorem dX6_condition_72 : decode cX6_condition 72 = .ok (.iaload, 1) := by decide +kernel
theorem dX6_condition_73 : decode cX6_condition 73 = .ok (.aload_n 0, 1) := by decide +kernel
theorem dX6_condition_74 : decode cX6_condition 74 = .ok (.getfield 59, 3) := by decide +kernel
theorem dX6_condition_77 : decode cX6_condition 77 = .ok (.iload_n 3, 1) := by decide +kernel
theorem dX6_condition_78 : decode cX6_condition 78 = .ok (.iaload, 1) := by decide +kernel
theorem dX6_condition_79 : decode cX6_condition 79 = .ok (.if_icmp .lt 8, 3) := by decide +kernel
theorem dX6_condition_82 : decode cX6_condition 82 = .ok (.iload 4, 2) := by decide +kernel
theorem dX6_condition_84 : decode cX6_condition 84 = .ok (.goto 4, 3) := by decide +kernel
theorem dX6_condition_87 : decode cX6_condition 87 = .ok (.iload_n 3, 1) := by decide +kernel
theorem dX6_condition_88 : decode cX6_condition 88 = .ok (.istore_n 3, 1) := by decide +kernel
theorem dX6_condition_89 : decode cX6_condition 89 = .ok (.iinc 4 1, 3) := by decide +kernel
theorem dX6_condition_92 : decode cX6_condition 92 = .ok (.goto (-84), 3) := by decide +kernel
theorem dX6_condition_95 : decode cX6_condition 95 = .ok (.iload_n 3, 1) := by decide +kernel
theorem dX6_condition_96 : decode cX6_condition 96 = .ok (.ifCond .lt 13, 3) := by decide +kernel
theorem dX6_condition_99 : decode cX6_condition 99 = .ok (.aload_n 0, 1) := by decide +kernel
theorem dX6_condition_100 : decode cX6_condition 100 = .ok (.getfield 62, 3) := by decide +kernel
theorem dX6_condition_103 : decode cX6_condition 103 = .ok (.iload_n 3, 1) := by decide +kernel
theorem dX6_condition_104 : decode cX6_condition 104 = .ok (.iaload, 1) := by decide +kernel
theorem dX6_condition_105 : decode cX6_condition 105 = .ok (.iconst 5, 1) := by decide +kernel
theorem dX6_condition_106 : decode cX6_condition 106 = .ok (.if_icmp .ne 8, 3) := by decide +kernel
theorem dX6_condition_109 : decode cX6_condition 109 = .ok (.bipush (-4), 2) := by decide +kernel
theorem dX6_condition_111 : decode cX6_condition 111 = .ok (.goto 9, 3) := by decide +kernel
theorem dX6_condition_114 : decode cX6_condition 114 = .ok (.aload_n 0, 1) := by decide +kernel
theorem dX6_condition_115 : decode cX6_condition 115 = .ok (.getfield 65, 3) := by decide +kernel
theorem dX6_condition_118 : decode cX6_condition 118 = .ok (.iload_n 3, 1) := by decide +kernel
theorem dX6_condition_119 : decode cX6_condition 119 = .ok (.iaload, 1) := by decide +kernel
theorem dX6_condition_120 : decode cX6_condition 120 = .ok (.ireturn, 1) := by decide +kernel
theorem dX6_worthOn_0 : decode cX6_worthOn 0 = .ok (.bipush 8, 2) := by decide +kernel
theorem dX6_worthOn_2 : decode cX6_worthOn 2 = .ok (.iload_n 1, 1) := by decide +kernel
theorem dX6_worthOn_3 : decode cX6_worthOn 3 = .ok (.imul, 1) := by decide +kernel
theorem dX6_worthOn_4 : decode cX6_worthOn 4 = .ok (.istore_n 3, 1) := by decide +kernel
theorem dX6_worthOn_5 : decode cX6_worthOn 5 = .ok (.bipush 8, 2) := by decide +kernel
theorem dX6_worthOn_7 : decode cX6_worthOn 7 = .ok (.iload_n 1, 1) := by decide +kernel
theorem dX6_worthOn_8 : decode cX6_worthOn 8 = .ok (.imul, 1) := by decide +kernel
theorem dX6_worthOn_9 : decode cX6_worthOn 9 = .ok (.istore 4, 2) := by decide +kernel
theorem dX6_worthOn_11 : decode cX6_worthOn 11 = .ok (.iload 4, 2) := by decide +kernel
theorem dX6_worthOn_13 : decode cX6_worthOn 13 = .ok (.bipush 8, 2) := by decide +kernel
theorem dX6_worthOn_15 : decode cX6_worthOn 15 = .ok (.iload_n 1, 1) := by decide +kernel
theorem dX6_worthOn_16 : decode cX6_worthOn 16 = .ok (.imul, 1) := by decide +kernel
theorem dX6_worthOn_17 : decode cX6_worthOn 17 = .ok (.aload_n 0, 1) := by decide +kernel
theorem dX6_worthOn_18 : decode cX6_worthOn 18 = .ok (.getfield 68, 3) := by decide +kernel
theorem dX6_worthOn_21 : decode cX6_worthOn 21 = .ok (.iload_n 1, 1) := by decide +kernel
theorem dX6_worthOn_22 : decode cX6_worthOn 22 = .ok (.iaload, 1) := by decide +kernel
theorem dX6_worthOn_23 : decode cX6_worthOn 23 = .ok (.iadd, 1) := by decide +kernel
theorem dX6_worthOn_24 : decode cX6_worthOn 24 = .ok (.if_icmp .ge 43, 3) := by decide +kernel
theorem dX6_worthOn_27 : decode cX6_worthOn 27 = .ok (.aload_n 0, 1) := by decide +kernel
theorem dX6_worthOn_28 : decode cX6_worthOn 28 = .ok (.getfield 71, 3) := by decide +kernel
theorem dX6_worthOn_31 : decode cX6_worthOn 31 = .ok (.iload 4, 2) := by decide +kernel
theorem dX6_worthOn_33 : decode cX6_worthOn 33 = .ok (.iaload, 1) := by decide +kernel
theorem dX6_worthOn_34 : decode cX6_worthOn 34 = .ok (.iload_n 2, 1) := by decide +kernel
theorem dX6_worthOn_35 : decode cX6_worthOn 35 = .ok (.if_icmp .gt 24, 3) := by decide +kernel
theorem dX6_worthOn_38 : decode cX6_worthOn 38 = .ok (.aload_n 0, 1) := by decide +kernel
theorem dX6_worthOn_39 : decode cX6_worthOn 39 = .ok (.getfield 71, 3) := by decide +kernel
theorem dX6_worthOn_42 : decode cX6_worthOn 42 = .ok (.iload 4, 2) := by decide +kernel
theorem dX6_worthOn_44 : decode cX6_worthOn 44 = .ok (.iaload, 1) := by decide +kernel
theorem dX6_worthOn_45 : decode cX6_worthOn 45 = .ok (.aload_n 0, 1) := by decide +kernel
theorem dX6_worthOn_46 : decode cX6_worthOn 46 = .ok (.getfield 71, 3) := by decide +kernel
theorem dX6_worthOn_49 : decode cX6_worthOn 49 = .ok (.iload_n 3, 1) := by decide +kernel
theorem dX6_worthOn_50 : decode cX6_worthOn 50 = .ok (.iaload, 1) := by decide +kernel
theorem dX6_worthOn_51 : decode cX6_worthOn 51 = .ok (.if_icmp .lt 8, 3) := by decide +kernel
theorem dX6_worthOn_54 : decode cX6_worthOn 54 = .ok (.iload 4, 2) := by decide +kernel
theorem dX6_worthOn_56 : decode cX6_worthOn 56 = .ok (.goto 4, 3) := by decide +kernel
theorem dX6_worthOn_59 : decode cX6_worthOn 59 = .ok (.iload_n 3, 1) := by decide +kernel
theorem dX6_worthOn_60 : decode cX6_worthOn 60 = .ok (.istore_n 3, 1) := by decide +kernel
theorem dX6_worthOn_61 : decode cX6_worthOn 61 = .ok (.iinc 4 1, 3) := by decide +kernel
theorem dX6_worthOn_64 : decode cX6_worthOn 64 = .ok (.goto (-53), 3) := by decide +kernel
theorem dX6_worthOn_67 : decode cX6_worthOn 67 = .ok (.aload_n 0, 1) := by decide +kernel
theorem dX6_worthOn_68 : decode cX6_worthOn 68 = .ok (.getfield 74, 3) := by decide +kernel
theorem dX6_worthOn_71 : decode cX6_worthOn 71 = .ok (.iload_n 3, 1) := by decide +kernel
theorem dX6_worthOn_72 : decode cX6_worthOn 72 = .ok (.iaload, 1) := by decide +kernel
theorem dX6_worthOn_73 : decode cX6_worthOn 73 = .ok (.ireturn, 1) := by decide +kernel
set_option maxRecDepth 20000 in
theorem ggX6_on_X6_isHouse : GoodIn wsX6_on wsX6_isHouse := goodIn_r _ [7, 8, 9, 10, 6, 11, 50, 51, 52, 53, 54, 55, 56, 57, 58, 59, 60, 61, 62, 63, 64, 65, 66, 67, 68, 69, 70, 71, 72, 73, 74, 75, 76, 77, 78, 79, 80, 81] (by decide +kernel) (by decide +kernel)
set_option maxRecDepth 20000 in
theorem gX6_on_X6_isHouse : GoodIn wsX6_on (wsV RX6 133 RX6 yX6_isHouse wsX6_isHouse) := goodIn_app (goodIn_of _ (by decide +kernel)) ggX6_on_X6_isHouse
set_option maxRecDepth 20000 in
theorem ggX6_on_X6_isDay : GoodIn wsX6_on wsX6_isDay := goodIn_r _ [14, 9, 10, 6, 11] (by decide +kernel) (by decide +kernel)
set_option maxRecDepth 20000 in
theorem gX6_on_X6_isDay : GoodIn wsX6_on (va_wsS RX6 99 yX6_isDay wsX6_isDay) := goodIn_app (goodIn_of _ (by decide +kernel)) ggX6_on_X6_isDay
set_option maxRecDepth 20000 in
theorem ggX6_on_X6_in : GoodIn wsX6_on wsX6_in := goodIn_r _ [11] (by decide +kernel) (by decide +kernel)
set_option maxRecDepth 20000 in
theorem gX6_on_X6_in : GoodIn wsX6_on (va_wsS RX6 92 yX6_in wsX6_in) := goodIn_app (goodIn_of _ (by decide +kernel)) ggX6_on_X6_in
set_option maxRecDepth 20000 in
theorem ggX6_on_X6_counts : GoodIn wsX6_on wsX6_counts := goodIn_r _ [18, 19, 2, 1, 20, 50, 51, 52, 53, 54, 55, 56, 57, 58, 59, 60, 61, 62, 63, 64, 65, 66, 67, 68, 69, 70, 71, 72, 73, 74, 75, 76, 77, 78, 79, 80, 81] (by decide +kernel) (by decide +kernel)
set_option maxRecDepth 20000 in
theorem gX6_on_X6_counts : GoodIn wsX6_on (wsV RX6 139 RX6 yX6_counts wsX6_counts) := goodIn_app (goodIn_of _ (by decide +kernel)) ggX6_on_X6_counts
set_option maxRecDepth 20000 in
theorem ggX6_on_X6_stateOn : GoodIn wsX6_on wsX6_stateOn := goodIn_r _ [24, 25, 26, 27, 28, 29, 6, 30, 1, 2, 15, 16, 17, 18, 19, 20, 31, 32, 33, 34, 9, 10, 11, 35, 36, 37, 38, 50, 51, 52, 53, 54, 55, 56, 57, 58, 59, 60, 61, 62, 63, 64, 65, 66, 67, 68, 69, 70, 71, 72, 73, 74, 75, 76, 77, 78, 79, 80, 81] (by decide +kernel) (by decide +kernel)
set_option maxRecDepth 20000 in
theorem gX6_on_X6_stateOn : GoodIn wsX6_on (wsV RX6 152 RX6 yX6_stateOn wsX6_stateOn) := goodIn_app (goodIn_of _ (by decide +kernel)) ggX6_on_X6_stateOn
set_option maxRecDepth 20000 in
theorem ggX6_on_X6_condition : GoodIn wsX6_on wsX6_condition := goodIn_r _ [42, 1, 19, 2, 20, 9, 10, 6, 11, 50, 51, 52, 53, 54, 55, 56, 57, 58, 59, 60, 61, 62, 63, 64, 65, 66, 67, 68, 69, 70, 71, 72, 73, 74, 75, 76, 77, 78, 79, 80, 81] (by decide +kernel) (by decide +kernel)
set_option maxRecDepth 20000 in
theorem gX6_on_X6_condition : GoodIn wsX6_on (wsV RX6 155 RX6 yX6_condition wsX6_condition) := goodIn_app (goodIn_of _ (by decide +kernel)) ggX6_on_X6_condition
set_option maxRecDepth 20000 in
theorem ggX6_on_X6_worthOn : GoodIn wsX6_on wsX6_worthOn := goodIn_r _ [46, 47, 48, 49, 50, 51, 52, 53, 54, 55, 56, 57, 58, 59, 60, 61, 62, 63, 64, 65, 66, 67, 68, 69, 70, 71, 72, 73, 74, 75, 76, 77, 78, 79, 80, 81] (by decide +kernel) (by decide +kernel)
set_option maxRecDepth 20000 in
theorem gX6_on_X6_worthOn : GoodIn wsX6_on (wsV RX6 158 RX6 yX6_worthOn wsX6_worthOn) := goodIn_app (goodIn_of _ (by decide +kernel)) ggX6_on_X6_worthOn
theorem dX6_on_0 : decode cX6_on 0 = .ok (.aload_n 0, 1) := by decide +kernel
theorem dX6_on_1 : decode cX6_on 1 = .ok (.iload_n 1, 1) := by decide +kernel
theorem dX6_on_2 : decode cX6_on 2 = .ok (.invokevirtual 133, 3) := by decide +kernel
theorem dX6_on_5 : decode cX6_on 5 = .ok (.ifCond .eq 19, 3) := by decide +kernel
theorem dX6_on_8 : decode cX6_on 8 = .ok (.iload_n 2, 1) := by decide +kernel
theorem dX6_on_9 : decode cX6_on 9 = .ok (.invokestatic 99, 3) := by decide +kernel
theorem dX6_on_12 : decode cX6_on 12 = .ok (.ifCond .eq 12, 3) := by decide +kernel
theorem dX6_on_15 : decode cX6_on 15 = .ok (.iload_n 3, 1) := by decide +kernel
theorem dX6_on_16 : decode cX6_on 16 = .ok (.iconst 0, 1) := by decide +kernel
theorem dX6_on_17 : decode cX6_on 17 = .ok (.iconst 3, 1) := by decide +kernel
theorem dX6_on_18 : decode cX6_on 18 = .ok (.invokestatic 92, 3) := by decide +kernel
theorem dX6_on_21 : decode cX6_on 21 = .ok (.ifCond .ne 5, 3) := by decide +kernel
theorem dX6_on_24 : decode cX6_on 24 = .ok (.iconst (-1), 1) := by decide +kernel
theorem dX6_on_25 : decode cX6_on 25 = .ok (.ireturn, 1) := by decide +kernel
theorem dX6_on_26 : decode cX6_on 26 = .ok (.iconst 0, 1) := by decide +kernel
theorem dX6_on_27 : decode cX6_on 27 = .ok (.istore 4, 2) := by decide +kernel
theorem dX6_on_29 : decode cX6_on 29 = .ok (.bipush 16, 2) := by decide +kernel
theorem dX6_on_31 : decode cX6_on 31 = .ok (.iload_n 1, 1) := by decide +kernel
theorem dX6_on_32 : decode cX6_on 32 = .ok (.imul, 1) := by decide +kernel
theorem dX6_on_33 : decode cX6_on 33 = .ok (.istore 5, 2) := by decide +kernel
theorem dX6_on_35 : decode cX6_on 35 = .ok (.iload 5, 2) := by decide +kernel
theorem dX6_on_37 : decode cX6_on 37 = .ok (.bipush 16, 2) := by decide +kernel
theorem dX6_on_39 : decode cX6_on 39 = .ok (.iload_n 1, 1) := by decide +kernel
theorem dX6_on_40 : decode cX6_on 40 = .ok (.imul, 1) := by decide +kernel
theorem dX6_on_41 : decode cX6_on 41 = .ok (.aload_n 0, 1) := by decide +kernel
theorem dX6_on_42 : decode cX6_on 42 = .ok (.getfield 56, 3) := by decide +kernel
theorem dX6_on_45 : decode cX6_on 45 = .ok (.iload_n 1, 1) := by decide +kernel
theorem dX6_on_46 : decode cX6_on 46 = .ok (.iaload, 1) := by decide +kernel
theorem dX6_on_47 : decode cX6_on 47 = .ok (.iadd, 1) := by decide +kernel
theorem dX6_on_48 : decode cX6_on 48 = .ok (.if_icmp .ge 45, 3) := by decide +kernel
theorem dX6_on_51 : decode cX6_on 51 = .ok (.iload 4, 2) := by decide +kernel
theorem dX6_on_53 : decode cX6_on 53 = .ok (.aload_n 0, 1) := by decide +kernel
theorem dX6_on_54 : decode cX6_on 54 = .ok (.iload_n 1, 1) := by decide +kernel
theorem dX6_on_55 : decode cX6_on 55 = .ok (.iload 5, 2) := by decide +kernel
theorem dX6_on_57 : decode cX6_on 57 = .ok (.iload_n 2, 1) := by decide +kernel
theorem dX6_on_58 : decode cX6_on 58 = .ok (.invokevirtual 139, 3) := by decide +kernel
theorem dX6_on_61 : decode cX6_on 61 = .ok (.ifCond .eq 22, 3) := by decide +kernel
theorem dX6_on_64 : decode cX6_on 64 = .ok (.aload_n 0, 1) := by decide +kernel
theorem dX6_on_65 : decode cX6_on 65 = .ok (.getfield 59, 3) := by decide +kernel
theorem dX6_on_68 : decode cX6_on 68 = .ok (.iload 5, 2) := by decide +kernel
theorem dX6_on_70 : decode cX6_on 70 = .ok (.iaload, 1) := by decide +kernel
theorem dX6_on_71 : decode cX6_on 71 = .ok (.iload_n 2, 1) := by decide +kernel
theorem dX6_on_72 : decode cX6_on 72 = .ok (.sipush 1825, 3) := by decide +kernel
theorem dX6_on_75 : decode cX6_on 75 = .ok (.isub, 1) := by decide +kernel
theorem dX6_on_76 : decode cX6_on 76 = .ok (.if_icmp .lt 7, 3) := by decide +kernel
theorem dX6_on_79 : decode cX6_on 79 = .ok (.iconst 1, 1) := by decide +kernel
theorem dX6_on_80 : decode cX6_on 80 = .ok (.goto 4, 3) := by decide +kernel
theorem dX6_on_83 : decode cX6_on 83 = .ok (.iconst 0, 1) := by decide +kernel
theorem dX6_on_84 : decode cX6_on 84 = .ok (.iadd, 1) := by decide +kernel
theorem dX6_on_85 : decode cX6_on 85 = .ok (.istore 4, 2) := by decide +kernel
theorem dX6_on_87 : decode cX6_on 87 = .ok (.iinc 5 1, 3) := by decide +kernel
theorem dX6_on_90 : decode cX6_on 90 = .ok (.goto (-55), 3) := by decide +kernel
theorem dX6_on_93 : decode cX6_on 93 = .ok (.iload_n 3, 1) := by decide +kernel
theorem dX6_on_94 : decode cX6_on 94 = .ok (.ifCond .ne 12, 3) := by decide +kernel
theorem dX6_on_97 : decode cX6_on 97 = .ok (.aload_n 0, 1) := by decide +kernel
theorem dX6_on_98 : decode cX6_on 98 = .ok (.iload_n 1, 1) := by decide +kernel
theorem dX6_on_99 : decode cX6_on 99 = .ok (.iload_n 2, 1) := by decide +kernel
theorem dX6_on_100 : decode cX6_on 100 = .ok (.invokevirtual 152, 3) := by decide +kernel
theorem dX6_on_103 : decode cX6_on 103 = .ok (.goto 33, 3) := by decide +kernel
theorem dX6_on_106 : decode cX6_on 106 = .ok (.iload_n 3, 1) := by decide +kernel
theorem dX6_on_107 : decode cX6_on 107 = .ok (.iconst 1, 1) := by decide +kernel
theorem dX6_on_108 : decode cX6_on 108 = .ok (.if_icmp .ne 8, 3) := by decide +kernel
theorem dX6_on_111 : decode cX6_on 111 = .ok (.iload 4, 2) := by decide +kernel
theorem dX6_on_113 : decode cX6_on 113 = .ok (.goto 23, 3) := by decide +kernel
theorem dX6_on_116 : decode cX6_on 116 = .ok (.iload_n 3, 1) := by decide +kernel
theorem dX6_on_117 : decode cX6_on 117 = .ok (.iconst 2, 1) := by decide +kernel
theorem dX6_on_118 : decode cX6_on 118 = .ok (.if_icmp .ne 12, 3) := by decide +kernel
theorem dX6_on_121 : decode cX6_on 121 = .ok (.aload_n 0, 1) := by decide +kernel
theorem dX6_on_122 : decode cX6_on 122 = .ok (.iload_n 1, 1) := by decide +kernel
theorem dX6_on_123 : decode cX6_on 123 = .ok (.iload_n 2, 1) := by decide +kernel
theorem dX6_on_124 : decode cX6_on 124 = .ok (.invokevirtual 155, 3) := by decide +kernel
theorem dX6_on_127 : decode cX6_on 127 = .ok (.goto 9, 3) := by decide +kernel
theorem dX6_on_130 : decode cX6_on 130 = .ok (.aload_n 0, 1) := by decide +kernel
theorem dX6_on_131 : decode cX6_on 131 = .ok (.iload_n 1, 1) := by decide +kernel
theorem dX6_on_132 : decode cX6_on 132 = .ok (.iload_n 2, 1) := by decide +kernel
theorem dX6_on_133 : decode cX6_on 133 = .ok (.invokevirtual 158, 3) := by decide +kernel
theorem dX6_on_136 : decode cX6_on 136 = .ok (.ireturn, 1) := by decide +kernel
set_option maxRecDepth 20000 in
theorem ggX6_lawOf_X6_isFeast : GoodIn wsX6_lawOf wsX6_isFeast := goodIn_r _ [9, 10, 11, 12, 13, 14, 15, 16, 17, 18, 19, 20, 21, 22, 23, 24, 25, 26, 27, 28, 29, 30, 31, 32, 33, 34, 35, 36, 37, 38, 39, 40, 41, 42, 43] (by decide +kernel) (by decide +kernel)
set_option maxRecDepth 20000 in
theorem gX6_lawOf_X6_isFeast : GoodIn wsX6_lawOf (wsV RX6 103 RX6 yX6_isFeast wsX6_isFeast) := goodIn_app (goodIn_of _ (by decide +kernel)) ggX6_lawOf_X6_isFeast
theorem dX6_lawOf_0 : decode cX6_lawOf 0 = .ok (.aload_n 0, 1) := by decide +kernel
theorem dX6_lawOf_1 : decode cX6_lawOf 1 = .ok (.iload_n 2, 1) := by decide +kernel
theorem dX6_lawOf_2 : decode cX6_lawOf 2 = .ok (.invokevirtual 103, 3) := by decide +kernel
theorem dX6_lawOf_5 : decode cX6_lawOf 5 = .ok (.ifCond .eq 8, 3) := by decide +kernel
theorem dX6_lawOf_8 : decode cX6_lawOf 8 = .ok (.bipush 7, 2) := by decide +kernel
theorem dX6_lawOf_10 : decode cX6_lawOf 10 = .ok (.goto 7, 3) := by decide +kernel
theorem dX6_lawOf_13 : decode cX6_lawOf 13 = .ok (.iload_n 2, 1) := by decide +kernel
theorem dX6_lawOf_14 : decode cX6_lawOf 14 = .ok (.bipush 7, 2) := by decide +kernel
theorem dX6_lawOf_16 : decode cX6_lawOf 16 = .ok (.irem, 1) := by decide +kernel
theorem dX6_lawOf_17 : decode cX6_lawOf 17 = .ok (.istore_n 3, 1) := by decide +kernel
theorem dX6_lawOf_18 : decode cX6_lawOf 18 = .ok (.iconst (-1), 1) := by decide +kernel
theorem dX6_lawOf_19 : decode cX6_lawOf 19 = .ok (.istore 4, 2) := by decide +kernel
theorem dX6_lawOf_21 : decode cX6_lawOf 21 = .ok (.iconst 0, 1) := by decide +kernel
theorem dX6_lawOf_22 : decode cX6_lawOf 22 = .ok (.istore 5, 2) := by decide +kernel
theorem dX6_lawOf_24 : decode cX6_lawOf 24 = .ok (.iload 5, 2) := by decide +kernel
theorem dX6_lawOf_26 : decode cX6_lawOf 26 = .ok (.aload_n 0, 1) := by decide +kernel
theorem dX6_lawOf_27 : decode cX6_lawOf 27 = .ok (.getfield 106, 3) := by decide +kernel
theorem dX6_lawOf_30 : decode cX6_lawOf 30 = .ok (.if_icmp .ge 85, 3) := by decide +kernel
theorem dX6_lawOf_33 : decode cX6_lawOf 33 = .ok (.aload_n 0, 1) := by decide +kernel
theorem dX6_lawOf_34 : decode cX6_lawOf 34 = .ok (.getfield 16, 3) := by decide +kernel
theorem dX6_lawOf_37 : decode cX6_lawOf 37 = .ok (.iload 5, 2) := by decide +kernel
theorem dX6_lawOf_39 : decode cX6_lawOf 39 = .ok (.iaload, 1) := by decide +kernel
theorem dX6_lawOf_40 : decode cX6_lawOf 40 = .ok (.iload_n 1, 1) := by decide +kernel
theorem dX6_lawOf_41 : decode cX6_lawOf 41 = .ok (.if_icmp .ne 29, 3) := by decide +kernel
theorem dX6_lawOf_44 : decode cX6_lawOf 44 = .ok (.aload_n 0, 1) := by decide +kernel
theorem dX6_lawOf_45 : decode cX6_lawOf 45 = .ok (.getfield 19, 3) := by decide +kernel
theorem dX6_lawOf_48 : decode cX6_lawOf 48 = .ok (.iload 5, 2) := by decide +kernel
theorem dX6_lawOf_50 : decode cX6_lawOf 50 = .ok (.iaload, 1) := by decide +kernel
theorem dX6_lawOf_51 : decode cX6_lawOf 51 = .ok (.iload_n 3, 1) := by decide +kernel
theorem dX6_lawOf_52 : decode cX6_lawOf 52 = .ok (.if_icmp .ne 18, 3) := by decide +kernel
theorem dX6_lawOf_55 : decode cX6_lawOf 55 = .ok (.aload_n 0, 1) := by decide +kernel
theorem dX6_lawOf_56 : decode cX6_lawOf 56 = .ok (.getfield 13, 3) := by decide +kernel
theorem dX6_lawOf_59 : decode cX6_lawOf 59 = .ok (.iload 5, 2) := by decide +kernel
theorem dX6_lawOf_61 : decode cX6_lawOf 61 = .ok (.iaload, 1) := by decide +kernel
theorem dX6_lawOf_62 : decode cX6_lawOf 62 = .ok (.iload_n 2, 1) := by decide +kernel
theorem dX6_lawOf_63 : decode cX6_lawOf 63 = .ok (.if_icmp .gt 7, 3) := by decide +kernel
theorem dX6_lawOf_66 : decode cX6_lawOf 66 = .ok (.iconst 1, 1) := by decide +kernel
theorem dX6_lawOf_67 : decode cX6_lawOf 67 = .ok (.goto 4, 3) := by decide +kernel
theorem dX6_lawOf_70 : decode cX6_lawOf 70 = .ok (.iconst 0, 1) := by decide +kernel
theorem dX6_lawOf_71 : decode cX6_lawOf 71 = .ok (.istore 6, 2) := by decide +kernel
theorem dX6_lawOf_73 : decode cX6_lawOf 73 = .ok (.iload 6, 2) := by decide +kernel
theorem dX6_lawOf_75 : decode cX6_lawOf 75 = .ok (.ifCond .eq 30, 3) := by decide +kernel
theorem dX6_lawOf_78 : decode cX6_lawOf 78 = .ok (.iload 4, 2) := by decide +kernel
theorem dX6_lawOf_80 : decode cX6_lawOf 80 = .ok (.ifCond .lt 20, 3) := by decide +kernel
theorem dX6_lawOf_83 : decode cX6_lawOf 83 = .ok (.aload_n 0, 1) := by decide +kernel
theorem dX6_lawOf_84 : decode cX6_lawOf 84 = .ok (.getfield 13, 3) := by decide +kernel
theorem dX6_lawOf_87 : decode cX6_lawOf 87 = .ok (.iload 5, 2) := by decide +kernel
theorem dX6_lawOf_89 : decode cX6_lawOf 89 = .ok (.iaload, 1) := by decide +kernel
theorem dX6_lawOf_90 : decode cX6_lawOf 90 = .ok (.aload_n 0, 1) := by decide +kernel
theorem dX6_lawOf_91 : decode cX6_lawOf 91 = .ok (.getfield 13, 3) := by decide +kernel
theorem dX6_lawOf_94 : decode cX6_lawOf 94 = .ok (.iload 4, 2) := by decide +kernel
theorem dX6_lawOf_96 : decode cX6_lawOf 96 = .ok (.iaload, 1) := by decide +kernel
theorem dX6_lawOf_97 : decode cX6_lawOf 97 = .ok (.if_icmp .lt 8, 3) := by decide +kernel
theorem dX6_lawOf_100 : decode cX6_lawOf 100 = .ok (.iload 5, 2) := by decide +kernel
theorem dX6_lawOf_102 : decode cX6_lawOf 102 = .ok (.goto 5, 3) := by decide +kernel
theorem dX6_lawOf_105 : decode cX6_lawOf 105 = .ok (.iload 4, 2) := by decide +kernel
theorem dX6_lawOf_107 : decode cX6_lawOf 107 = .ok (.istore 4, 2) := by decide +kernel
theorem dX6_lawOf_109 : decode cX6_lawOf 109 = .ok (.iinc 5 1, 3) := by decide +kernel
theorem dX6_lawOf_112 : decode cX6_lawOf 112 = .ok (.goto (-88), 3) := by decide +kernel
theorem dX6_lawOf_115 : decode cX6_lawOf 115 = .ok (.iload 4, 2) := by decide +kernel
theorem dX6_lawOf_117 : decode cX6_lawOf 117 = .ok (.ireturn, 1) := by decide +kernel
set_option maxRecDepth 20000 in
theorem ggX6_lawOn_X6_in : GoodIn wsX6_lawOn wsX6_in := goodIn_r _ [6] (by decide +kernel) (by decide +kernel)
set_option maxRecDepth 20000 in
theorem gX6_lawOn_X6_in : GoodIn wsX6_lawOn (va_wsS RX6 92 yX6_in wsX6_in) := goodIn_app (goodIn_of _ (by decide +kernel)) ggX6_lawOn_X6_in
set_option maxRecDepth 20000 in
theorem ggX6_lawOn_X6_isDay : GoodIn wsX6_lawOn wsX6_isDay := goodIn_r _ [9, 3, 4, 5, 6] (by decide +kernel) (by decide +kernel)
set_option maxRecDepth 20000 in
theorem gX6_lawOn_X6_isDay : GoodIn wsX6_lawOn (va_wsS RX6 99 yX6_isDay wsX6_isDay) := goodIn_app (goodIn_of _ (by decide +kernel)) ggX6_lawOn_X6_isDay
set_option maxRecDepth 20000 in
theorem ggX6_lawOn_X6_lawOf : GoodIn wsX6_lawOn wsX6_lawOf := goodIn_r _ [13, 14, 15, 16, 17, 18, 19, 20, 5, 21, 22, 23, 24, 25, 26, 27, 28, 29, 30, 31, 32, 33, 34, 35, 36, 37, 38, 39, 40, 41, 42, 43, 44, 45, 46, 47, 48, 49, 50, 51, 52, 53, 54, 55] (by decide +kernel) (by decide +kernel)
set_option maxRecDepth 20000 in
theorem gX6_lawOn_X6_lawOf : GoodIn wsX6_lawOn (wsV RX6 161 RX6 yX6_lawOf wsX6_lawOf) := goodIn_app (goodIn_of _ (by decide +kernel)) ggX6_lawOn_X6_lawOf
theorem dX6_lawOn_0 : decode cX6_lawOn 0 = .ok (.iload_n 1, 1) := by decide +kernel
theorem dX6_lawOn_1 : decode cX6_lawOn 1 = .ok (.iconst 0, 1) := by decide +kernel
theorem dX6_lawOn_2 : decode cX6_lawOn 2 = .ok (.iconst 2, 1) := by decide +kernel
theorem dX6_lawOn_3 : decode cX6_lawOn 3 = .ok (.invokestatic 92, 3) := by decide +kernel
theorem dX6_lawOn_6 : decode cX6_lawOn 6 = .ok (.ifCond .eq 19, 3) := by decide +kernel
theorem dX6_lawOn_9 : decode cX6_lawOn 9 = .ok (.iload_n 2, 1) := by decide +kernel
theorem dX6_lawOn_10 : decode cX6_lawOn 10 = .ok (.invokestatic 99, 3) := by decide +kernel
theorem dX6_lawOn_13 : decode cX6_lawOn 13 = .ok (.ifCond .eq 12, 3) := by decide +kernel
theorem dX6_lawOn_16 : decode cX6_lawOn 16 = .ok (.iload_n 3, 1) := by decide +kernel
theorem dX6_lawOn_17 : decode cX6_lawOn 17 = .ok (.iconst 0, 1) := by decide +kernel
theorem dX6_lawOn_18 : decode cX6_lawOn 18 = .ok (.iconst 1, 1) := by decide +kernel
theorem dX6_lawOn_19 : decode cX6_lawOn 19 = .ok (.invokestatic 92, 3) := by decide +kernel
theorem dX6_lawOn_22 : decode cX6_lawOn 22 = .ok (.ifCond .ne 5, 3) := by decide +kernel
theorem dX6_lawOn_25 : decode cX6_lawOn 25 = .ok (.iconst (-1), 1) := by decide +kernel
theorem dX6_lawOn_26 : decode cX6_lawOn 26 = .ok (.ireturn, 1) := by decide +kernel
theorem dX6_lawOn_27 : decode cX6_lawOn 27 = .ok (.aload_n 0, 1) := by decide +kernel
theorem dX6_lawOn_28 : decode cX6_lawOn 28 = .ok (.iload_n 1, 1) := by decide +kernel
theorem dX6_lawOn_29 : decode cX6_lawOn 29 = .ok (.iload_n 2, 1) := by decide +kernel
theorem dX6_lawOn_30 : decode cX6_lawOn 30 = .ok (.invokevirtual 161, 3) := by decide +kernel
theorem dX6_lawOn_33 : decode cX6_lawOn 33 = .ok (.istore 4, 2) := by decide +kernel
theorem dX6_lawOn_35 : decode cX6_lawOn 35 = .ok (.iload 4, 2) := by decide +kernel
theorem dX6_lawOn_37 : decode cX6_lawOn 37 = .ok (.ifCond .ge 7, 3) := by decide +kernel
theorem dX6_lawOn_40 : decode cX6_lawOn 40 = .ok (.iconst 0, 1) := by decide +kernel
theorem dX6_lawOn_41 : decode cX6_lawOn 41 = .ok (.goto 24, 3) := by decide +kernel
theorem dX6_lawOn_44 : decode cX6_lawOn 44 = .ok (.iload_n 3, 1) := by decide +kernel
theorem dX6_lawOn_45 : decode cX6_lawOn 45 = .ok (.ifCond .ne 13, 3) := by decide +kernel
theorem dX6_lawOn_48 : decode cX6_lawOn 48 = .ok (.aload_n 0, 1) := by decide +kernel
theorem dX6_lawOn_49 : decode cX6_lawOn 49 = .ok (.getfield 22, 3) := by decide +kernel
theorem dX6_lawOn_52 : decode cX6_lawOn 52 = .ok (.iload 4, 2) := by decide +kernel
theorem dX6_lawOn_54 : decode cX6_lawOn 54 = .ok (.iaload, 1) := by decide +kernel
theorem dX6_lawOn_55 : decode cX6_lawOn 55 = .ok (.goto 10, 3) := by decide +kernel
theorem dX6_lawOn_58 : decode cX6_lawOn 58 = .ok (.aload_n 0, 1) := by decide +kernel
theorem dX6_lawOn_59 : decode cX6_lawOn 59 = .ok (.getfield 25, 3) := by decide +kernel
theorem dX6_lawOn_62 : decode cX6_lawOn 62 = .ok (.iload 4, 2) := by decide +kernel
theorem dX6_lawOn_64 : decode cX6_lawOn 64 = .ok (.iaload, 1) := by decide +kernel
theorem dX6_lawOn_65 : decode cX6_lawOn 65 = .ok (.ireturn, 1) := by decide +kernel
theorem dX6_isOpen_0 : decode cX6_isOpen 0 = .ok (.iload_n 1, 1) := by decide +kernel
theorem dX6_isOpen_1 : decode cX6_isOpen 1 = .ok (.ifCond .lt 27, 3) := by decide +kernel
theorem dX6_isOpen_4 : decode cX6_isOpen 4 = .ok (.iload_n 2, 1) := by decide +kernel
theorem dX6_isOpen_5 : decode cX6_isOpen 5 = .ok (.aload_n 0, 1) := by decide +kernel
theorem dX6_isOpen_6 : decode cX6_isOpen 6 = .ok (.getfield 22, 3) := by decide +kernel
theorem dX6_isOpen_9 : decode cX6_isOpen 9 = .ok (.iload_n 1, 1) := by decide +kernel
theorem dX6_isOpen_10 : decode cX6_isOpen 10 = .ok (.iaload, 1) := by decide +kernel
theorem dX6_isOpen_11 : decode cX6_isOpen 11 = .ok (.if_icmp .lt 17, 3) := by decide +kernel
theorem dX6_isOpen_14 : decode cX6_isOpen 14 = .ok (.iload_n 2, 1) := by decide +kernel
theorem dX6_isOpen_15 : decode cX6_isOpen 15 = .ok (.aload_n 0, 1) := by decide +kernel
theorem dX6_isOpen_16 : decode cX6_isOpen 16 = .ok (.getfield 25, 3) := by decide +kernel
theorem dX6_isOpen_19 : decode cX6_isOpen 19 = .ok (.iload_n 1, 1) := by decide +kernel
theorem dX6_isOpen_20 : decode cX6_isOpen 20 = .ok (.iaload, 1) := by decide +kernel
theorem dX6_isOpen_21 : decode cX6_isOpen 21 = .ok (.if_icmp .ge 7, 3) := by decide +kernel
theorem dX6_isOpen_24 : decode cX6_isOpen 24 = .ok (.iconst 1, 1) := by decide +kernel
theorem dX6_isOpen_25 : decode cX6_isOpen 25 = .ok (.goto 4, 3) := by decide +kernel
theorem dX6_isOpen_28 : decode cX6_isOpen 28 = .ok (.iconst 0, 1) := by decide +kernel
theorem dX6_isOpen_29 : decode cX6_isOpen 29 = .ok (.ireturn, 1) := by decide +kernel
set_option maxRecDepth 20000 in
theorem ggX6_may_X6_isOpen : GoodIn wsX6_may wsX6_isOpen := goodIn_r _ [5, 6, 7, 8, 9, 10, 11, 12, 13, 14, 15, 16, 17, 18, 19, 20, 21, 22, 23, 24, 25, 26, 27, 28, 29, 30, 31, 32, 33, 34, 35, 36, 37, 38, 39] (by decide +kernel) (by decide +kernel)
set_option maxRecDepth 20000 in
theorem gX6_may_X6_isOpen : GoodIn wsX6_may (wsV RX6 164 RX6 yX6_isOpen wsX6_isOpen) := goodIn_app (goodIn_of _ (by decide +kernel)) ggX6_may_X6_isOpen
theorem dX6_may_0 : decode cX6_may 0 = .ok (.iload_n 2, 1) := by decide +kernel
theorem dX6_may_1 : decode cX6_may 1 = .ok (.ifCond .eq 28, 3) := by decide +kernel
theorem dX6_may_4 : decode cX6_may 4 = .ok (.aload_n 0, 1) := by decide +kernel
theorem dX6_may_5 : decode cX6_may 5 = .ok (.iload 5, 2) := by decide +kernel
theorem dX6_may_7 : decode cX6_may 7 = .ok (.iload_n 1, 1) := by decide +kernel
theorem dX6_may_8 : decode cX6_may 8 = .ok (.invokevirtual 164, 3) := by decide +kernel
theorem dX6_may_11 : decode cX6_may 11 = .ok (.ifCond .eq 18, 3) := by decide +kernel
theorem dX6_may_14 : decode cX6_may 14 = .ok (.iload 4, 2) := by decide +kernel
theorem dX6_may_16 : decode cX6_may 16 = .ok (.ifCond .lt 9, 3) := by decide +kernel
theorem dX6_may_19 : decode cX6_may 19 = .ok (.iload_n 1, 1) := by decide +kernel
theorem dX6_may_20 : decode cX6_may 20 = .ok (.iload 4, 2) := by decide +kernel
theorem dX6_may_22 : decode cX6_may 22 = .ok (.if_icmp .ge 7, 3) := by decide +kernel
theorem dX6_may_25 : decode cX6_may 25 = .ok (.iconst 1, 1) := by decide +kernel
theorem dX6_may_26 : decode cX6_may 26 = .ok (.goto 4, 3) := by decide +kernel
theorem dX6_may_29 : decode cX6_may 29 = .ok (.iconst 0, 1) := by decide +kernel
theorem dX6_may_30 : decode cX6_may 30 = .ok (.istore 7, 2) := by decide +kernel
theorem dX6_may_32 : decode cX6_may 32 = .ok (.iload 7, 2) := by decide +kernel
theorem dX6_may_34 : decode cX6_may 34 = .ok (.ifCond .ne 30, 3) := by decide +kernel
theorem dX6_may_37 : decode cX6_may 37 = .ok (.iload_n 2, 1) := by decide +kernel
theorem dX6_may_38 : decode cX6_may 38 = .ok (.ifCond .eq 30, 3) := by decide +kernel
theorem dX6_may_41 : decode cX6_may 41 = .ok (.iload_n 3, 1) := by decide +kernel
theorem dX6_may_42 : decode cX6_may 42 = .ok (.ifCond .eq 26, 3) := by decide +kernel
theorem dX6_may_45 : decode cX6_may 45 = .ok (.iload 4, 2) := by decide +kernel
theorem dX6_may_47 : decode cX6_may 47 = .ok (.ifCond .ge 21, 3) := by decide +kernel
theorem dX6_may_50 : decode cX6_may 50 = .ok (.aload_n 0, 1) := by decide +kernel
theorem dX6_may_51 : decode cX6_may 51 = .ok (.iload 6, 2) := by decide +kernel
theorem dX6_may_53 : decode cX6_may 53 = .ok (.iload_n 1, 1) := by decide +kernel
theorem dX6_may_54 : decode cX6_may 54 = .ok (.sipush 1440, 3) := by decide +kernel
theorem dX6_may_57 : decode cX6_may 57 = .ok (.iadd, 1) := by decide +kernel
theorem dX6_may_58 : decode cX6_may 58 = .ok (.invokevirtual 164, 3) := by decide +kernel
theorem dX6_may_61 : decode cX6_may 61 = .ok (.ifCond .eq 7, 3) := by decide +kernel
theorem dX6_may_64 : decode cX6_may 64 = .ok (.iconst 1, 1) := by decide +kernel
theorem dX6_may_65 : decode cX6_may 65 = .ok (.goto 4, 3) := by decide +kernel
theorem dX6_may_68 : decode cX6_may 68 = .ok (.iconst 0, 1) := by decide +kernel
theorem dX6_may_69 : decode cX6_may 69 = .ok (.ireturn, 1) := by decide +kernel
set_option maxRecDepth 20000 in
theorem ggX6_opens_X6_has : GoodIn wsX6_opens wsX6_has := goodIn_r _ [6, 7, 8, 9, 5, 10, 11, 12, 13, 14, 15, 16, 17, 18, 19, 20, 21, 22, 23, 24, 25, 26, 27, 28, 29, 30, 31, 32, 33, 34, 35, 64, 65, 66, 67, 68, 69, 70, 71, 72, 73, 74, 75, 76, 77, 78, 79, 80, 81, 82, 83, 84, 85, 86, 87, 88, 89, 90, 91, 92, 93, 94, 95] (by decide +kernel) (by decide +kernel)
set_option maxRecDepth 20000 in
theorem gX6_opens_X6_has : GoodIn wsX6_opens (wsV RX6 119 RX6 yX6_has wsX6_has) := goodIn_app (goodIn_of _ (by decide +kernel)) ggX6_opens_X6_has
set_option maxRecDepth 20000 in
theorem ggX6_opens_X6_condition : GoodIn wsX6_opens wsX6_condition := goodIn_r _ [39, 17, 23, 18, 24, 29, 30, 5, 31, 64, 65, 66, 67, 68, 69, 70, 71, 72, 73, 74, 75, 76, 77, 78, 79, 80, 81, 82, 83, 84, 85, 86, 87, 88, 89, 90, 91, 92, 93, 94, 95] (by decide +kernel) (by decide +kernel)
set_option maxRecDepth 20000 in
theorem gX6_opens_X6_condition : GoodIn wsX6_opens (wsV RX6 155 RX6 yX6_condition wsX6_condition) := goodIn_app (goodIn_of _ (by decide +kernel)) ggX6_opens_X6_condition
set_option maxRecDepth 20000 in
theorem ggX6_opens_X6_lawOf : GoodIn wsX6_opens wsX6_lawOf := goodIn_r _ [43, 44, 45, 46, 47, 48, 49, 50, 5, 51, 52, 53, 64, 65, 66, 67, 68, 69, 70, 71, 72, 73, 74, 75, 76, 77, 78, 79, 80, 81, 82, 83, 84, 85, 86, 87, 88, 89, 90, 91, 92, 93, 94, 95] (by decide +kernel) (by decide +kernel)
set_option maxRecDepth 20000 in
theorem gX6_opens_X6_lawOf : GoodIn wsX6_opens (wsV RX6 161 RX6 yX6_lawOf wsX6_lawOf) := goodIn_app (goodIn_of _ (by decide +kernel)) ggX6_opens_X6_lawOf
set_option maxRecDepth 20000 in
theorem ggX6_opens_X6_may : GoodIn wsX6_opens wsX6_may := goodIn_r _ [57, 58, 59, 60, 5, 61, 62, 63, 64, 65, 66, 67, 68, 69, 70, 71, 72, 73, 74, 75, 76, 77, 78, 79, 80, 81, 82, 83, 84, 85, 86, 87, 88, 89, 90, 91, 92, 93, 94, 95] (by decide +kernel) (by decide +kernel)
set_option maxRecDepth 20000 in
theorem gX6_opens_X6_may : GoodIn wsX6_opens (wsV RX6 167 RX6 yX6_may wsX6_may) := goodIn_app (goodIn_of _ (by decide +kernel)) ggX6_opens_X6_may
theorem dX6_opens_0 : decode cX6_opens 0 = .ok (.aload_n 0, 1) := by decide +kernel
theorem dX6_opens_1 : decode cX6_opens 1 = .ok (.iload_n 1, 1) := by decide +kernel
theorem dX6_opens_2 : decode cX6_opens 2 = .ok (.iload_n 2, 1) := by decide +kernel
theorem dX6_opens_3 : decode cX6_opens 3 = .ok (.invokevirtual 119, 3) := by decide +kernel
theorem dX6_opens_6 : decode cX6_opens 6 = .ok (.istore 5, 2) := by decide +kernel
theorem dX6_opens_8 : decode cX6_opens 8 = .ok (.iload_n 2, 1) := by decide +kernel
theorem dX6_opens_9 : decode cX6_opens 9 = .ok (.ifCond .le 18, 3) := by decide +kernel
theorem dX6_opens_12 : decode cX6_opens 12 = .ok (.aload_n 0, 1) := by decide +kernel
theorem dX6_opens_13 : decode cX6_opens 13 = .ok (.iload_n 1, 1) := by decide +kernel
theorem dX6_opens_14 : decode cX6_opens 14 = .ok (.iload_n 2, 1) := by decide +kernel
theorem dX6_opens_15 : decode cX6_opens 15 = .ok (.iconst 1, 1) := by decide +kernel
theorem dX6_opens_16 : decode cX6_opens 16 = .ok (.isub, 1) := by decide +kernel
theorem dX6_opens_17 : decode cX6_opens 17 = .ok (.invokevirtual 119, 3) := by decide +kernel
theorem dX6_opens_20 : decode cX6_opens 20 = .ok (.ifCond .eq 7, 3) := by decide +kernel
theorem dX6_opens_23 : decode cX6_opens 23 = .ok (.iconst 1, 1) := by decide +kernel
theorem dX6_opens_24 : decode cX6_opens 24 = .ok (.goto 4, 3) := by decide +kernel
theorem dX6_opens_27 : decode cX6_opens 27 = .ok (.iconst 0, 1) := by decide +kernel
theorem dX6_opens_28 : decode cX6_opens 28 = .ok (.istore 6, 2) := by decide +kernel
theorem dX6_opens_30 : decode cX6_opens 30 = .ok (.aload_n 0, 1) := by decide +kernel
theorem dX6_opens_31 : decode cX6_opens 31 = .ok (.iload_n 1, 1) := by decide +kernel
theorem dX6_opens_32 : decode cX6_opens 32 = .ok (.iload_n 2, 1) := by decide +kernel
theorem dX6_opens_33 : decode cX6_opens 33 = .ok (.invokevirtual 155, 3) := by decide +kernel
theorem dX6_opens_36 : decode cX6_opens 36 = .ok (.istore 7, 2) := by decide +kernel
theorem dX6_opens_38 : decode cX6_opens 38 = .ok (.aload_n 0, 1) := by decide +kernel
theorem dX6_opens_39 : decode cX6_opens 39 = .ok (.aload_n 0, 1) := by decide +kernel
theorem dX6_opens_40 : decode cX6_opens 40 = .ok (.getfield 50, 3) := by decide +kernel
theorem dX6_opens_43 : decode cX6_opens 43 = .ok (.iload_n 1, 1) := by decide +kernel
theorem dX6_opens_44 : decode cX6_opens 44 = .ok (.iaload, 1) := by decide +kernel
theorem dX6_opens_45 : decode cX6_opens 45 = .ok (.iload_n 2, 1) := by decide +kernel
theorem dX6_opens_46 : decode cX6_opens 46 = .ok (.invokevirtual 161, 3) := by decide +kernel
theorem dX6_opens_49 : decode cX6_opens 49 = .ok (.istore 8, 2) := by decide +kernel
theorem dX6_opens_51 : decode cX6_opens 51 = .ok (.iload_n 2, 1) := by decide +kernel
theorem dX6_opens_52 : decode cX6_opens 52 = .ok (.ifCond .le 19, 3) := by decide +kernel
theorem dX6_opens_55 : decode cX6_opens 55 = .ok (.aload_n 0, 1) := by decide +kernel
theorem dX6_opens_56 : decode cX6_opens 56 = .ok (.aload_n 0, 1) := by decide +kernel
theorem dX6_opens_57 : decode cX6_opens 57 = .ok (.getfield 50, 3) := by decide +kernel
theorem dX6_opens_60 : decode cX6_opens 60 = .ok (.iload_n 1, 1) := by decide +kernel
theorem dX6_opens_61 : decode cX6_opens 61 = .ok (.iaload, 1) := by decide +kernel
theorem dX6_opens_62 : decode cX6_opens 62 = .ok (.iload_n 2, 1) := by decide +kernel
theorem dX6_opens_63 : decode cX6_opens 63 = .ok (.iconst 1, 1) := by decide +kernel
theorem dX6_opens_64 : decode cX6_opens 64 = .ok (.isub, 1) := by decide +kernel
theorem dX6_opens_65 : decode cX6_opens 65 = .ok (.invokevirtual 161, 3) := by decide +kernel
theorem dX6_opens_68 : decode cX6_opens 68 = .ok (.goto 4, 3) := by decide +kernel
theorem dX6_opens_71 : decode cX6_opens 71 = .ok (.iconst (-1), 1) := by decide +kernel
theorem dX6_opens_72 : decode cX6_opens 72 = .ok (.istore 9, 2) := by decide +kernel
theorem dX6_opens_74 : decode cX6_opens 74 = .ok (.iconst 0, 1) := by decide +kernel
theorem dX6_opens_75 : decode cX6_opens 75 = .ok (.istore 10, 2) := by decide +kernel
theorem dX6_opens_77 : decode cX6_opens 77 = .ok (.iload_n 3, 1) := by decide +kernel
theorem dX6_opens_78 : decode cX6_opens 78 = .ok (.istore 11, 2) := by decide +kernel
theorem dX6_opens_80 : decode cX6_opens 80 = .ok (.iload 11, 2) := by decide +kernel
theorem dX6_opens_82 : decode cX6_opens 82 = .ok (.iload 4, 2) := by decide +kernel
theorem dX6_opens_84 : decode cX6_opens 84 = .ok (.if_icmp .gt 38, 3) := by decide +kernel
theorem dX6_opens_87 : decode cX6_opens 87 = .ok (.iload 10, 2) := by decide +kernel
theorem dX6_opens_89 : decode cX6_opens 89 = .ok (.aload_n 0, 1) := by decide +kernel
theorem dX6_opens_90 : decode cX6_opens 90 = .ok (.iload 11, 2) := by decide +kernel
theorem dX6_opens_92 : decode cX6_opens 92 = .ok (.iload 5, 2) := by decide +kernel
theorem dX6_opens_94 : decode cX6_opens 94 = .ok (.iload 6, 2) := by decide +kernel
theorem dX6_opens_96 : decode cX6_opens 96 = .ok (.iload 7, 2) := by decide +kernel
theorem dX6_opens_98 : decode cX6_opens 98 = .ok (.iload 8, 2) := by decide +kernel
theorem dX6_opens_100 : decode cX6_opens 100 = .ok (.iload 9, 2) := by decide +kernel
theorem dX6_opens_102 : decode cX6_opens 102 = .ok (.invokevirtual 167, 3) := by decide +kernel
theorem dX6_opens_105 : decode cX6_opens 105 = .ok (.ifCond .eq 7, 3) := by decide +kernel
theorem dX6_opens_108 : decode cX6_opens 108 = .ok (.iconst 1, 1) := by decide +kernel
theorem dX6_opens_109 : decode cX6_opens 109 = .ok (.goto 4, 3) := by decide +kernel
theorem dX6_opens_112 : decode cX6_opens 112 = .ok (.iconst 0, 1) := by decide +kernel
theorem dX6_opens_113 : decode cX6_opens 113 = .ok (.iadd, 1) := by decide +kernel
theorem dX6_opens_114 : decode cX6_opens 114 = .ok (.istore 10, 2) := by decide +kernel
theorem dX6_opens_116 : decode cX6_opens 116 = .ok (.iinc 11 1, 3) := by decide +kernel
theorem dX6_opens_119 : decode cX6_opens 119 = .ok (.goto (-39), 3) := by decide +kernel
theorem dX6_opens_122 : decode cX6_opens 122 = .ok (.iload 10, 2) := by decide +kernel
theorem dX6_opens_124 : decode cX6_opens 124 = .ok (.ireturn, 1) := by decide +kernel
set_option maxRecDepth 20000 in
theorem ggX6_open_X6_isHouse : GoodIn wsX6_open wsX6_isHouse := goodIn_r _ [5, 6, 7, 8, 4, 9, 76, 77, 78, 79, 80, 81, 82, 83, 84, 85, 86, 87, 88, 89, 90, 91, 92, 93, 94, 95, 96, 97, 98, 99, 100, 101, 102, 103, 104, 105, 106, 107] (by decide +kernel) (by decide +kernel)
set_option maxRecDepth 20000 in
theorem gX6_open_X6_isHouse : GoodIn wsX6_open (wsV RX6 133 RX6 yX6_isHouse wsX6_isHouse) := goodIn_app (goodIn_of _ (by decide +kernel)) ggX6_open_X6_isHouse
set_option maxRecDepth 20000 in
theorem ggX6_open_X6_isDay : GoodIn wsX6_open wsX6_isDay := goodIn_r _ [12, 7, 8, 4, 9] (by decide +kernel) (by decide +kernel)
set_option maxRecDepth 20000 in
theorem gX6_open_X6_isDay : GoodIn wsX6_open (va_wsS RX6 99 yX6_isDay wsX6_isDay) := goodIn_app (goodIn_of _ (by decide +kernel)) ggX6_open_X6_isDay
set_option maxRecDepth 20000 in
theorem ggX6_open_X6_in : GoodIn wsX6_open wsX6_in := goodIn_r _ [9] (by decide +kernel) (by decide +kernel)
set_option maxRecDepth 20000 in
theorem gX6_open_X6_in : GoodIn wsX6_open (va_wsS RX6 92 yX6_in wsX6_in) := goodIn_app (goodIn_of _ (by decide +kernel)) ggX6_open_X6_in
set_option maxRecDepth 20000 in
theorem ggX6_open_X6_opens : GoodIn wsX6_open wsX6_opens := goodIn_r _ [16, 17, 18, 19, 20, 4, 21, 22, 23, 24, 25, 26, 27, 28, 29, 30, 31, 32, 33, 34, 35, 36, 37, 38, 39, 40, 41, 42, 43, 7, 8, 9, 44, 45, 46, 47, 48, 49, 50, 51, 52, 53, 54, 55, 56, 57, 58, 59, 60, 61, 62, 63, 64, 65, 66, 67, 68, 69, 70, 71, 72, 73, 74, 75, 76, 77, 78, 79, 80, 81, 82, 83, 84, 85, 86, 87, 88, 89, 90, 91, 92, 93, 94, 95, 96, 97, 98, 99, 100, 101, 102, 103, 104, 105, 106, 107] (by decide +kernel) (by decide +kernel)
set_option maxRecDepth 20000 in
theorem gX6_open_X6_opens : GoodIn wsX6_open (wsV RX6 171 RX6 yX6_opens wsX6_opens) := goodIn_app (goodIn_of _ (by decide +kernel)) ggX6_open_X6_opens
theorem dX6_open_0 : decode cX6_open 0 = .ok (.aload_n 0, 1) := by decide +kernel
theorem dX6_open_1 : decode cX6_open 1 = .ok (.iload_n 1, 1) := by decide +kernel
theorem dX6_open_2 : decode cX6_open 2 = .ok (.invokevirtual 133, 3) := by decide +kernel
theorem dX6_open_5 : decode cX6_open 5 = .ok (.ifCond .eq 32, 3) := by decide +kernel
end
section
theorem dX6_open_8 : decode cX6_open 8 = .ok (.iload_n 2, 1) := by decide +kernel
theorem dX6_open_9 : decode cX6_open 9 = .ok (.invokestatic 99, 3) := by decide +kernel
theorem dX6_open_12 : decode cX6_open 12 = .ok (.ifCond .eq 25, 3) := by decide +kernel
theorem dX6_open_15 : decode cX6_open 15 = .ok (.iload_n 3, 1) := by decide +kernel
theorem dX6_open_16 : decode cX6_open 16 = .ok (.iconst 0, 1) := by decide +kernel
theorem dX6_open_17 : decode cX6_open 17 = .ok (.sipush 1439, 3) := by decide +kernel
theorem dX6_open_20 : decode cX6_open 20 = .ok (.invokestatic 92, 3) := by decide +kernel
theorem dX6_open_23 : decode cX6_open 23 = .ok (.ifCond .eq 14, 3) := by decide +kernel
theorem dX6_open_26 : decode cX6_open 26 = .ok (.aload_n 0, 1) := by decide +kernel
theorem dX6_open_27 : decode cX6_open 27 = .ok (.iload_n 1, 1) := by decide +kernel
theorem dX6_open_28 : decode cX6_open 28 = .ok (.iload_n 2, 1) := by decide +kernel
theorem dX6_open_29 : decode cX6_open 29 = .ok (.iload_n 3, 1) := by decide +kernel
theorem dX6_open_30 : decode cX6_open 30 = .ok (.iload_n 3, 1) := by decide +kernel
theorem dX6_open_31 : decode cX6_open 31 = .ok (.invokevirtual 171, 3) := by decide +kernel
theorem dX6_open_34 : decode cX6_open 34 = .ok (.goto 4, 3) := by decide +kernel
theorem dX6_open_37 : decode cX6_open 37 = .ok (.iconst (-1), 1) := by decide +kernel
theorem dX6_open_38 : decode cX6_open 38 = .ok (.ireturn, 1) := by decide +kernel
set_option maxRecDepth 20000 in
theorem ggX6_minutes_X6_isHouse : GoodIn wsX6_minutes wsX6_isHouse := goodIn_r _ [5, 6, 7, 8, 4, 9, 76, 77, 78, 79, 80, 81, 82, 83, 84, 85, 86, 87, 88, 89, 90, 91, 92, 93, 94, 95, 96, 97, 98, 99, 100, 101, 102, 103, 104, 105, 106, 107] (by decide +kernel) (by decide +kernel)
set_option maxRecDepth 20000 in
theorem gX6_minutes_X6_isHouse : GoodIn wsX6_minutes (wsV RX6 133 RX6 yX6_isHouse wsX6_isHouse) := goodIn_app (goodIn_of _ (by decide +kernel)) ggX6_minutes_X6_isHouse
set_option maxRecDepth 20000 in
theorem ggX6_minutes_X6_isDay : GoodIn wsX6_minutes wsX6_isDay := goodIn_r _ [12, 7, 8, 4, 9] (by decide +kernel) (by decide +kernel)
set_option maxRecDepth 20000 in
theorem gX6_minutes_X6_isDay : GoodIn wsX6_minutes (va_wsS RX6 99 yX6_isDay wsX6_isDay) := goodIn_app (goodIn_of _ (by decide +kernel)) ggX6_minutes_X6_isDay
set_option maxRecDepth 20000 in
theorem ggX6_minutes_X6_opens : GoodIn wsX6_minutes wsX6_opens := goodIn_r _ [16, 17, 18, 19, 20, 4, 21, 22, 23, 24, 25, 26, 27, 28, 29, 30, 31, 32, 33, 34, 35, 36, 37, 38, 39, 40, 41, 42, 43, 7, 8, 9, 44, 45, 46, 47, 48, 49, 50, 51, 52, 53, 54, 55, 56, 57, 58, 59, 60, 61, 62, 63, 64, 65, 66, 67, 68, 69, 70, 71, 72, 73, 74, 75, 76, 77, 78, 79, 80, 81, 82, 83, 84, 85, 86, 87, 88, 89, 90, 91, 92, 93, 94, 95, 96, 97, 98, 99, 100, 101, 102, 103, 104, 105, 106, 107] (by decide +kernel) (by decide +kernel)
set_option maxRecDepth 20000 in
theorem gX6_minutes_X6_opens : GoodIn wsX6_minutes (wsV RX6 171 RX6 yX6_opens wsX6_opens) := goodIn_app (goodIn_of _ (by decide +kernel)) ggX6_minutes_X6_opens
theorem dX6_minutes_0 : decode cX6_minutes 0 = .ok (.aload_n 0, 1) := by decide +kernel
theorem dX6_minutes_1 : decode cX6_minutes 1 = .ok (.iload_n 1, 1) := by decide +kernel
theorem dX6_minutes_2 : decode cX6_minutes 2 = .ok (.invokevirtual 133, 3) := by decide +kernel
theorem dX6_minutes_5 : decode cX6_minutes 5 = .ok (.ifCond .eq 23, 3) := by decide +kernel
theorem dX6_minutes_8 : decode cX6_minutes 8 = .ok (.iload_n 2, 1) := by decide +kernel
theorem dX6_minutes_9 : decode cX6_minutes 9 = .ok (.invokestatic 99, 3) := by decide +kernel
theorem dX6_minutes_12 : decode cX6_minutes 12 = .ok (.ifCond .eq 16, 3) := by decide +kernel
theorem dX6_minutes_15 : decode cX6_minutes 15 = .ok (.aload_n 0, 1) := by decide +kernel
theorem dX6_minutes_16 : decode cX6_minutes 16 = .ok (.iload_n 1, 1) := by decide +kernel
theorem dX6_minutes_17 : decode cX6_minutes 17 = .ok (.iload_n 2, 1) := by decide +kernel
theorem dX6_minutes_18 : decode cX6_minutes 18 = .ok (.iconst 0, 1) := by decide +kernel
theorem dX6_minutes_19 : decode cX6_minutes 19 = .ok (.sipush 1439, 3) := by decide +kernel
theorem dX6_minutes_22 : decode cX6_minutes 22 = .ok (.invokevirtual 171, 3) := by decide +kernel
theorem dX6_minutes_25 : decode cX6_minutes 25 = .ok (.goto 4, 3) := by decide +kernel
theorem dX6_minutes_28 : decode cX6_minutes 28 = .ok (.iconst (-1), 1) := by decide +kernel
theorem dX6_minutes_29 : decode cX6_minutes 29 = .ok (.ireturn, 1) := by decide +kernel
set_option maxRecDepth 20000 in
theorem ggX6_owes_X6_isHouse : GoodIn wsX6_owes wsX6_isHouse := goodIn_r _ [11, 3, 12, 13, 10, 14, 51, 52, 53, 54, 55, 56, 57, 58, 59, 60, 61, 62, 63, 64, 65, 66, 67, 68, 69, 70, 71, 72, 73, 74, 75, 76, 77, 78, 79, 80, 81, 82] (by decide +kernel) (by decide +kernel)
set_option maxRecDepth 20000 in
theorem gX6_owes_X6_isHouse : GoodIn wsX6_owes (wsV RX6 133 RX6 yX6_isHouse wsX6_isHouse) := goodIn_app (goodIn_of _ (by decide +kernel)) ggX6_owes_X6_isHouse
set_option maxRecDepth 20000 in
theorem ggX6_owes_X6_surplusFrom : GoodIn wsX6_owes wsX6_surplusFrom := goodIn_r _ [18, 1, 19, 20, 21, 51, 52, 53, 54, 55, 56, 57, 58, 59, 60, 61, 62, 63, 64, 65, 66, 67, 68, 69, 70, 71, 72, 73, 74, 75, 76, 77, 78, 79, 80, 81, 82] (by decide +kernel) (by decide +kernel)
set_option maxRecDepth 20000 in
theorem gX6_owes_X6_surplusFrom : GoodIn wsX6_owes (wsV RX6 149 RX6 yX6_surplusFrom wsX6_surplusFrom) := goodIn_app (goodIn_of _ (by decide +kernel)) ggX6_owes_X6_surplusFrom
set_option maxRecDepth 20000 in
theorem ggX6_owes_X6_worthOn : GoodIn wsX6_owes wsX6_worthOn := goodIn_r _ [25, 26, 27, 28, 51, 52, 53, 54, 55, 56, 57, 58, 59, 60, 61, 62, 63, 64, 65, 66, 67, 68, 69, 70, 71, 72, 73, 74, 75, 76, 77, 78, 79, 80, 81, 82] (by decide +kernel) (by decide +kernel)
set_option maxRecDepth 20000 in
theorem gX6_owes_X6_worthOn : GoodIn wsX6_owes (wsV RX6 158 RX6 yX6_worthOn wsX6_worthOn) := goodIn_app (goodIn_of _ (by decide +kernel)) ggX6_owes_X6_worthOn
set_option maxRecDepth 20000 in
theorem ggX6_owes_X6_has : GoodIn wsX6_owes wsX6_has := goodIn_r _ [32, 33, 34, 35, 10, 36, 37, 1, 38, 39, 40, 41, 19, 21, 42, 43, 44, 45, 20, 46, 47, 48, 49, 50, 12, 13, 14, 15, 16, 17, 18, 51, 52, 53, 54, 55, 56, 57, 58, 59, 60, 61, 62, 63, 64, 65, 66, 67, 68, 69, 70, 71, 72, 73, 74, 75, 76, 77, 78, 79, 80, 81, 82] (by decide +kernel) (by decide +kernel)
set_option maxRecDepth 20000 in
theorem gX6_owes_X6_has : GoodIn wsX6_owes (wsV RX6 119 RX6 yX6_has wsX6_has) := goodIn_app (goodIn_of _ (by decide +kernel)) ggX6_owes_X6_has
theorem dX6_owes_0 : decode cX6_owes 0 = .ok (.aload_n 0, 1) := by decide +kernel
theorem dX6_owes_1 : decode cX6_owes 1 = .ok (.iload_n 1, 1) := by decide +kernel
theorem dX6_owes_2 : decode cX6_owes 2 = .ok (.invokevirtual 133, 3) := by decide +kernel
theorem dX6_owes_5 : decode cX6_owes 5 = .ok (.ifCond .eq 11, 3) := by decide +kernel
theorem dX6_owes_8 : decode cX6_owes 8 = .ok (.aload_n 0, 1) := by decide +kernel
theorem dX6_owes_9 : decode cX6_owes 9 = .ok (.iload_n 2, 1) := by decide +kernel
theorem dX6_owes_10 : decode cX6_owes 10 = .ok (.invokevirtual 133, 3) := by decide +kernel
theorem dX6_owes_13 : decode cX6_owes 13 = .ok (.ifCond .ne 5, 3) := by decide +kernel
theorem dX6_owes_16 : decode cX6_owes 16 = .ok (.iconst (-1), 1) := by decide +kernel
theorem dX6_owes_17 : decode cX6_owes 17 = .ok (.ireturn, 1) := by decide +kernel
theorem dX6_owes_18 : decode cX6_owes 18 = .ok (.aload_n 0, 1) := by decide +kernel
theorem dX6_owes_19 : decode cX6_owes 19 = .ok (.iload_n 2, 1) := by decide +kernel
theorem dX6_owes_20 : decode cX6_owes 20 = .ok (.sipush 3999, 3) := by decide +kernel
theorem dX6_owes_23 : decode cX6_owes 23 = .ok (.invokevirtual 149, 3) := by decide +kernel
theorem dX6_owes_26 : decode cX6_owes 26 = .ok (.istore_n 3, 1) := by decide +kernel
theorem dX6_owes_27 : decode cX6_owes 27 = .ok (.iload_n 3, 1) := by decide +kernel
theorem dX6_owes_28 : decode cX6_owes 28 = .ok (.ldc 126, 2) := by decide +kernel
theorem dX6_owes_30 : decode cX6_owes 30 = .ok (.if_icmp .ne 6, 3) := by decide +kernel
theorem dX6_owes_33 : decode cX6_owes 33 = .ok (.bipush (-2), 2) := by decide +kernel
theorem dX6_owes_35 : decode cX6_owes 35 = .ok (.ireturn, 1) := by decide +kernel
theorem dX6_owes_36 : decode cX6_owes 36 = .ok (.ldc2_w 174, 3) := by decide +kernel
theorem dX6_owes_39 : decode cX6_owes 39 = .ok (.aload_n 0, 1) := by decide +kernel
theorem dX6_owes_40 : decode cX6_owes 40 = .ok (.iload_n 2, 1) := by decide +kernel
theorem dX6_owes_41 : decode cX6_owes 41 = .ok (.iload_n 3, 1) := by decide +kernel
theorem dX6_owes_42 : decode cX6_owes 42 = .ok (.invokevirtual 158, 3) := by decide +kernel
theorem dX6_owes_45 : decode cX6_owes 45 = .ok (.i2l, 1) := by decide +kernel
theorem dX6_owes_46 : decode cX6_owes 46 = .ok (.lmul, 1) := by decide +kernel
theorem dX6_owes_47 : decode cX6_owes 47 = .ok (.lstore 4, 2) := by decide +kernel
theorem dX6_owes_49 : decode cX6_owes 49 = .ok (.lconst 0, 1) := by decide +kernel
theorem dX6_owes_50 : decode cX6_owes 50 = .ok (.lstore 6, 2) := by decide +kernel
theorem dX6_owes_52 : decode cX6_owes 52 = .ok (.iconst 0, 1) := by decide +kernel
theorem dX6_owes_53 : decode cX6_owes 53 = .ok (.istore 8, 2) := by decide +kernel
theorem dX6_owes_55 : decode cX6_owes 55 = .ok (.iload 8, 2) := by decide +kernel
theorem dX6_owes_57 : decode cX6_owes 57 = .ok (.aload_n 0, 1) := by decide +kernel
theorem dX6_owes_58 : decode cX6_owes 58 = .ok (.getfield 116, 3) := by decide +kernel
theorem dX6_owes_61 : decode cX6_owes 61 = .ok (.if_icmp .ge 42, 3) := by decide +kernel
theorem dX6_owes_64 : decode cX6_owes 64 = .ok (.lload 6, 2) := by decide +kernel
theorem dX6_owes_66 : decode cX6_owes 66 = .ok (.iload 8, 2) := by decide +kernel
theorem dX6_owes_68 : decode cX6_owes 68 = .ok (.iload_n 2, 1) := by decide +kernel
theorem dX6_owes_69 : decode cX6_owes 69 = .ok (.if_icmp .eq 24, 3) := by decide +kernel
theorem dX6_owes_72 : decode cX6_owes 72 = .ok (.aload_n 0, 1) := by decide +kernel
theorem dX6_owes_73 : decode cX6_owes 73 = .ok (.iload 8, 2) := by decide +kernel
theorem dX6_owes_75 : decode cX6_owes 75 = .ok (.iload_n 3, 1) := by decide +kernel
theorem dX6_owes_76 : decode cX6_owes 76 = .ok (.invokevirtual 119, 3) := by decide +kernel
theorem dX6_owes_79 : decode cX6_owes 79 = .ok (.ifCond .eq 14, 3) := by decide +kernel
theorem dX6_owes_82 : decode cX6_owes 82 = .ok (.aload_n 0, 1) := by decide +kernel
theorem dX6_owes_83 : decode cX6_owes 83 = .ok (.iload 8, 2) := by decide +kernel
theorem dX6_owes_85 : decode cX6_owes 85 = .ok (.iload_n 3, 1) := by decide +kernel
theorem dX6_owes_86 : decode cX6_owes 86 = .ok (.invokevirtual 158, 3) := by decide +kernel
theorem dX6_owes_89 : decode cX6_owes 89 = .ok (.i2l, 1) := by decide +kernel
theorem dX6_owes_90 : decode cX6_owes 90 = .ok (.goto 4, 3) := by decide +kernel
theorem dX6_owes_93 : decode cX6_owes 93 = .ok (.lconst 0, 1) := by decide +kernel
theorem dX6_owes_94 : decode cX6_owes 94 = .ok (.ladd, 1) := by decide +kernel
theorem dX6_owes_95 : decode cX6_owes 95 = .ok (.lstore 6, 2) := by decide +kernel
theorem dX6_owes_97 : decode cX6_owes 97 = .ok (.iinc 8 1, 3) := by decide +kernel
theorem dX6_owes_100 : decode cX6_owes 100 = .ok (.goto (-45), 3) := by decide +kernel
theorem dX6_owes_103 : decode cX6_owes 103 = .ok (.lload 4, 2) := by decide +kernel
theorem dX6_owes_105 : decode cX6_owes 105 = .ok (.lstore 8, 2) := by decide +kernel
theorem dX6_owes_107 : decode cX6_owes 107 = .ok (.iconst 0, 1) := by decide +kernel
theorem dX6_owes_108 : decode cX6_owes 108 = .ok (.istore 10, 2) := by decide +kernel
theorem dX6_owes_110 : decode cX6_owes 110 = .ok (.iload 10, 2) := by decide +kernel
theorem dX6_owes_112 : decode cX6_owes 112 = .ok (.aload_n 0, 1) := by decide +kernel
theorem dX6_owes_113 : decode cX6_owes 113 = .ok (.getfield 116, 3) := by decide +kernel
theorem dX6_owes_116 : decode cX6_owes 116 = .ok (.if_icmp .ge 106, 3) := by decide +kernel
theorem dX6_owes_119 : decode cX6_owes 119 = .ok (.iload 10, 2) := by decide +kernel
theorem dX6_owes_121 : decode cX6_owes 121 = .ok (.iload_n 2, 1) := by decide +kernel
theorem dX6_owes_122 : decode cX6_owes 122 = .ok (.if_icmp .eq 17, 3) := by decide +kernel
theorem dX6_owes_125 : decode cX6_owes 125 = .ok (.aload_n 0, 1) := by decide +kernel
theorem dX6_owes_126 : decode cX6_owes 126 = .ok (.iload 10, 2) := by decide +kernel
theorem dX6_owes_128 : decode cX6_owes 128 = .ok (.iload_n 3, 1) := by decide +kernel
theorem dX6_owes_129 : decode cX6_owes 129 = .ok (.invokevirtual 119, 3) := by decide +kernel
theorem dX6_owes_132 : decode cX6_owes 132 = .ok (.ifCond .eq 7, 3) := by decide +kernel
theorem dX6_owes_135 : decode cX6_owes 135 = .ok (.iconst 1, 1) := by decide +kernel
theorem dX6_owes_136 : decode cX6_owes 136 = .ok (.goto 4, 3) := by decide +kernel
theorem dX6_owes_139 : decode cX6_owes 139 = .ok (.iconst 0, 1) := by decide +kernel
theorem dX6_owes_140 : decode cX6_owes 140 = .ok (.istore 11, 2) := by decide +kernel
theorem dX6_owes_142 : decode cX6_owes 142 = .ok (.aload_n 0, 1) := by decide +kernel
theorem dX6_owes_143 : decode cX6_owes 143 = .ok (.getfield 85, 3) := by decide +kernel
theorem dX6_owes_146 : decode cX6_owes 146 = .ok (.iload 10, 2) := by decide +kernel
theorem dX6_owes_148 : decode cX6_owes 148 = .ok (.iload 11, 2) := by decide +kernel
theorem dX6_owes_150 : decode cX6_owes 150 = .ok (.ifCond .eq 20, 3) := by decide +kernel
theorem dX6_owes_153 : decode cX6_owes 153 = .ok (.lload 4, 2) := by decide +kernel
theorem dX6_owes_155 : decode cX6_owes 155 = .ok (.aload_n 0, 1) := by decide +kernel
theorem dX6_owes_156 : decode cX6_owes 156 = .ok (.iload 10, 2) := by decide +kernel
theorem dX6_owes_158 : decode cX6_owes 158 = .ok (.iload_n 3, 1) := by decide +kernel
theorem dX6_owes_159 : decode cX6_owes 159 = .ok (.invokevirtual 158, 3) := by decide +kernel
theorem dX6_owes_162 : decode cX6_owes 162 = .ok (.i2l, 1) := by decide +kernel
theorem dX6_owes_163 : decode cX6_owes 163 = .ok (.lmul, 1) := by decide +kernel
theorem dX6_owes_164 : decode cX6_owes 164 = .ok (.lload 6, 2) := by decide +kernel
theorem dX6_owes_166 : decode cX6_owes 166 = .ok (.ldiv, 1) := by decide +kernel
theorem dX6_owes_167 : decode cX6_owes 167 = .ok (.goto 4, 3) := by decide +kernel
theorem dX6_owes_170 : decode cX6_owes 170 = .ok (.lconst 0, 1) := by decide +kernel
theorem dX6_owes_171 : decode cX6_owes 171 = .ok (.lastore, 1) := by decide +kernel
theorem dX6_owes_172 : decode cX6_owes 172 = .ok (.aload_n 0, 1) := by decide +kernel
theorem dX6_owes_173 : decode cX6_owes 173 = .ok (.getfield 89, 3) := by decide +kernel
theorem dX6_owes_176 : decode cX6_owes 176 = .ok (.iload 10, 2) := by decide +kernel
theorem dX6_owes_178 : decode cX6_owes 178 = .ok (.iload 11, 2) := by decide +kernel
theorem dX6_owes_180 : decode cX6_owes 180 = .ok (.ifCond .eq 20, 3) := by decide +kernel
theorem dX6_owes_183 : decode cX6_owes 183 = .ok (.lload 4, 2) := by decide +kernel
theorem dX6_owes_185 : decode cX6_owes 185 = .ok (.aload_n 0, 1) := by decide +kernel
theorem dX6_owes_186 : decode cX6_owes 186 = .ok (.iload 10, 2) := by decide +kernel
theorem dX6_owes_188 : decode cX6_owes 188 = .ok (.iload_n 3, 1) := by decide +kernel
theorem dX6_owes_189 : decode cX6_owes 189 = .ok (.invokevirtual 158, 3) := by decide +kernel
theorem dX6_owes_192 : decode cX6_owes 192 = .ok (.i2l, 1) := by decide +kernel
theorem dX6_owes_193 : decode cX6_owes 193 = .ok (.lmul, 1) := by decide +kernel
theorem dX6_owes_194 : decode cX6_owes 194 = .ok (.lload 6, 2) := by decide +kernel
theorem dX6_owes_196 : decode cX6_owes 196 = .ok (.lrem, 1) := by decide +kernel
theorem dX6_owes_197 : decode cX6_owes 197 = .ok (.goto 6, 3) := by decide +kernel
theorem dX6_owes_200 : decode cX6_owes 200 = .ok (.ldc2_w 176, 3) := by decide +kernel
theorem dX6_owes_203 : decode cX6_owes 203 = .ok (.lastore, 1) := by decide +kernel
theorem dX6_owes_204 : decode cX6_owes 204 = .ok (.lload 8, 2) := by decide +kernel
theorem dX6_owes_206 : decode cX6_owes 206 = .ok (.aload_n 0, 1) := by decide +kernel
theorem dX6_owes_207 : decode cX6_owes 207 = .ok (.getfield 85, 3) := by decide +kernel
theorem dX6_owes_210 : decode cX6_owes 210 = .ok (.iload 10, 2) := by decide +kernel
theorem dX6_owes_212 : decode cX6_owes 212 = .ok (.laload, 1) := by decide +kernel
theorem dX6_owes_213 : decode cX6_owes 213 = .ok (.lsub, 1) := by decide +kernel
theorem dX6_owes_214 : decode cX6_owes 214 = .ok (.lstore 8, 2) := by decide +kernel
theorem dX6_owes_216 : decode cX6_owes 216 = .ok (.iinc 10 1, 3) := by decide +kernel
theorem dX6_owes_219 : decode cX6_owes 219 = .ok (.goto (-109), 3) := by decide +kernel
theorem dX6_owes_222 : decode cX6_owes 222 = .ok (.lload 6, 2) := by decide +kernel
theorem dX6_owes_224 : decode cX6_owes 224 = .ok (.lconst 0, 1) := by decide +kernel
theorem dX6_owes_225 : decode cX6_owes 225 = .ok (.lcmp, 1) := by decide +kernel
theorem dX6_owes_226 : decode cX6_owes 226 = .ok (.ifCond .le 88, 3) := by decide +kernel
theorem dX6_owes_229 : decode cX6_owes 229 = .ok (.lload 8, 2) := by decide +kernel
theorem dX6_owes_231 : decode cX6_owes 231 = .ok (.lconst 0, 1) := by decide +kernel
theorem dX6_owes_232 : decode cX6_owes 232 = .ok (.lcmp, 1) := by decide +kernel
theorem dX6_owes_233 : decode cX6_owes 233 = .ok (.ifCond .le 81, 3) := by decide +kernel
theorem dX6_owes_236 : decode cX6_owes 236 = .ok (.iconst 0, 1) := by decide +kernel
theorem dX6_owes_237 : decode cX6_owes 237 = .ok (.istore 10, 2) := by decide +kernel
theorem dX6_owes_239 : decode cX6_owes 239 = .ok (.iconst 1, 1) := by decide +kernel
theorem dX6_owes_240 : decode cX6_owes 240 = .ok (.istore 11, 2) := by decide +kernel
theorem dX6_owes_242 : decode cX6_owes 242 = .ok (.iload 11, 2) := by decide +kernel
theorem dX6_owes_244 : decode cX6_owes 244 = .ok (.aload_n 0, 1) := by decide +kernel
theorem dX6_owes_245 : decode cX6_owes 245 = .ok (.getfield 116, 3) := by decide +kernel
theorem dX6_owes_248 : decode cX6_owes 248 = .ok (.if_icmp .ge 36, 3) := by decide +kernel
theorem dX6_owes_251 : decode cX6_owes 251 = .ok (.aload_n 0, 1) := by decide +kernel
theorem dX6_owes_252 : decode cX6_owes 252 = .ok (.getfield 89, 3) := by decide +kernel
theorem dX6_owes_255 : decode cX6_owes 255 = .ok (.iload 11, 2) := by decide +kernel
theorem dX6_owes_257 : decode cX6_owes 257 = .ok (.laload, 1) := by decide +kernel
theorem dX6_owes_258 : decode cX6_owes 258 = .ok (.aload_n 0, 1) := by decide +kernel
theorem dX6_owes_259 : decode cX6_owes 259 = .ok (.getfield 89, 3) := by decide +kernel
theorem dX6_owes_262 : decode cX6_owes 262 = .ok (.iload 10, 2) := by decide +kernel
theorem dX6_owes_264 : decode cX6_owes 264 = .ok (.laload, 1) := by decide +kernel
theorem dX6_owes_265 : decode cX6_owes 265 = .ok (.lcmp, 1) := by decide +kernel
theorem dX6_owes_266 : decode cX6_owes 266 = .ok (.ifCond .le 8, 3) := by decide +kernel
theorem dX6_owes_269 : decode cX6_owes 269 = .ok (.iload 11, 2) := by decide +kernel
theorem dX6_owes_271 : decode cX6_owes 271 = .ok (.goto 5, 3) := by decide +kernel
theorem dX6_owes_274 : decode cX6_owes 274 = .ok (.iload 10, 2) := by decide +kernel
theorem dX6_owes_276 : decode cX6_owes 276 = .ok (.istore 10, 2) := by decide +kernel
theorem dX6_owes_278 : decode cX6_owes 278 = .ok (.iinc 11 1, 3) := by decide +kernel
theorem dX6_owes_281 : decode cX6_owes 281 = .ok (.goto (-39), 3) := by decide +kernel
theorem dX6_owes_284 : decode cX6_owes 284 = .ok (.aload_n 0, 1) := by decide +kernel
theorem dX6_owes_285 : decode cX6_owes 285 = .ok (.getfield 85, 3) := by decide +kernel
theorem dX6_owes_288 : decode cX6_owes 288 = .ok (.iload 10, 2) := by decide +kernel
theorem dX6_owes_290 : decode cX6_owes 290 = .ok (.dup2, 1) := by decide +kernel
theorem dX6_owes_291 : decode cX6_owes 291 = .ok (.laload, 1) := by decide +kernel
theorem dX6_owes_292 : decode cX6_owes 292 = .ok (.lconst 1, 1) := by decide +kernel
theorem dX6_owes_293 : decode cX6_owes 293 = .ok (.ladd, 1) := by decide +kernel
theorem dX6_owes_294 : decode cX6_owes 294 = .ok (.lastore, 1) := by decide +kernel
theorem dX6_owes_295 : decode cX6_owes 295 = .ok (.aload_n 0, 1) := by decide +kernel
theorem dX6_owes_296 : decode cX6_owes 296 = .ok (.getfield 89, 3) := by decide +kernel
theorem dX6_owes_299 : decode cX6_owes 299 = .ok (.iload 10, 2) := by decide +kernel
theorem dX6_owes_301 : decode cX6_owes 301 = .ok (.ldc2_w 176, 3) := by decide +kernel
theorem dX6_owes_304 : decode cX6_owes 304 = .ok (.lastore, 1) := by decide +kernel
theorem dX6_owes_305 : decode cX6_owes 305 = .ok (.lload 8, 2) := by decide +kernel
theorem dX6_owes_307 : decode cX6_owes 307 = .ok (.lconst 1, 1) := by decide +kernel
theorem dX6_owes_308 : decode cX6_owes 308 = .ok (.lsub, 1) := by decide +kernel
theorem dX6_owes_309 : decode cX6_owes 309 = .ok (.lstore 8, 2) := by decide +kernel
theorem dX6_owes_311 : decode cX6_owes 311 = .ok (.goto (-89), 3) := by decide +kernel
theorem dX6_owes_314 : decode cX6_owes 314 = .ok (.aload_n 0, 1) := by decide +kernel
theorem dX6_owes_315 : decode cX6_owes 315 = .ok (.getfield 85, 3) := by decide +kernel
theorem dX6_owes_318 : decode cX6_owes 318 = .ok (.iload_n 1, 1) := by decide +kernel
theorem dX6_owes_319 : decode cX6_owes 319 = .ok (.laload, 1) := by decide +kernel
theorem dX6_owes_320 : decode cX6_owes 320 = .ok (.l2i, 1) := by decide +kernel
theorem dX6_owes_321 : decode cX6_owes 321 = .ok (.ireturn, 1) := by decide +kernel
set_option maxRecDepth 20000 in
theorem ggX6_many_X6_has : GoodIn wsX6_many wsX6_has := goodIn_r _ [7, 8, 9, 10, 6, 11, 12, 13, 14, 15, 16, 17, 18, 19, 20, 21, 22, 23, 24, 25, 26, 27, 28, 29, 30, 31, 32, 33, 34, 35, 36, 37, 38, 39, 40, 41, 42, 43, 44, 45, 46, 47, 48, 49, 50, 51, 52, 53, 54, 55, 56, 57, 58, 59, 60, 61, 62, 63, 64, 65, 66, 67, 68] (by decide +kernel) (by decide +kernel)
set_option maxRecDepth 20000 in
theorem gX6_many_X6_has : GoodIn wsX6_many (wsV RX6 119 RX6 yX6_has wsX6_has) := goodIn_app (goodIn_of _ (by decide +kernel)) ggX6_many_X6_has
theorem dX6_many_0 : decode cX6_many 0 = .ok (.iconst 0, 1) := by decide +kernel
theorem dX6_many_1 : decode cX6_many 1 = .ok (.istore_n 3, 1) := by decide +kernel
theorem dX6_many_2 : decode cX6_many 2 = .ok (.iconst 0, 1) := by decide +kernel
theorem dX6_many_3 : decode cX6_many 3 = .ok (.istore 4, 2) := by decide +kernel
theorem dX6_many_5 : decode cX6_many 5 = .ok (.iload 4, 2) := by decide +kernel
theorem dX6_many_7 : decode cX6_many 7 = .ok (.aload_n 0, 1) := by decide +kernel
theorem dX6_many_8 : decode cX6_many 8 = .ok (.getfield 116, 3) := by decide +kernel
theorem dX6_many_11 : decode cX6_many 11 = .ok (.if_icmp .ge 41, 3) := by decide +kernel
theorem dX6_many_14 : decode cX6_many 14 = .ok (.iload_n 3, 1) := by decide +kernel
theorem dX6_many_15 : decode cX6_many 15 = .ok (.aload_n 0, 1) := by decide +kernel
theorem dX6_many_16 : decode cX6_many 16 = .ok (.iload 4, 2) := by decide +kernel
theorem dX6_many_18 : decode cX6_many 18 = .ok (.iload_n 1, 1) := by decide +kernel
theorem dX6_many_19 : decode cX6_many 19 = .ok (.invokevirtual 119, 3) := by decide +kernel
theorem dX6_many_22 : decode cX6_many 22 = .ok (.ifCond .eq 21, 3) := by decide +kernel
theorem dX6_many_25 : decode cX6_many 25 = .ok (.iload_n 2, 1) := by decide +kernel
theorem dX6_many_26 : decode cX6_many 26 = .ok (.ifCond .ne 13, 3) := by decide +kernel
theorem dX6_many_29 : decode cX6_many 29 = .ok (.aload_n 0, 1) := by decide +kernel
theorem dX6_many_30 : decode cX6_many 30 = .ok (.getfield 77, 3) := by decide +kernel
theorem dX6_many_33 : decode cX6_many 33 = .ok (.iload 4, 2) := by decide +kernel
theorem dX6_many_35 : decode cX6_many 35 = .ok (.baload, 1) := by decide +kernel
theorem dX6_many_36 : decode cX6_many 36 = .ok (.ifCond .ne 7, 3) := by decide +kernel
theorem dX6_many_39 : decode cX6_many 39 = .ok (.iconst 1, 1) := by decide +kernel
theorem dX6_many_40 : decode cX6_many 40 = .ok (.goto 4, 3) := by decide +kernel
theorem dX6_many_43 : decode cX6_many 43 = .ok (.iconst 0, 1) := by decide +kernel
theorem dX6_many_44 : decode cX6_many 44 = .ok (.iadd, 1) := by decide +kernel
theorem dX6_many_45 : decode cX6_many 45 = .ok (.istore_n 3, 1) := by decide +kernel
theorem dX6_many_46 : decode cX6_many 46 = .ok (.iinc 4 1, 3) := by decide +kernel
theorem dX6_many_49 : decode cX6_many 49 = .ok (.goto (-44), 3) := by decide +kernel
theorem dX6_many_52 : decode cX6_many 52 = .ok (.iload_n 3, 1) := by decide +kernel
theorem dX6_many_53 : decode cX6_many 53 = .ok (.ireturn, 1) := by decide +kernel
theorem dX6_round_0 : decode cX6_round 0 = .ok (.iconst 0, 1) := by decide +kernel
theorem dX6_round_1 : decode cX6_round 1 = .ok (.istore_n 1, 1) := by decide +kernel
theorem dX6_round_2 : decode cX6_round 2 = .ok (.iload_n 1, 1) := by decide +kernel
theorem dX6_round_3 : decode cX6_round 3 = .ok (.bipush 30, 2) := by decide +kernel
theorem dX6_round_5 : decode cX6_round 5 = .ok (.if_icmp .ge 16, 3) := by decide +kernel
theorem dX6_round_8 : decode cX6_round 8 = .ok (.aload_n 0, 1) := by decide +kernel
theorem dX6_round_9 : decode cX6_round 9 = .ok (.getfield 77, 3) := by decide +kernel
theorem dX6_round_12 : decode cX6_round 12 = .ok (.iload_n 1, 1) := by decide +kernel
theorem dX6_round_13 : decode cX6_round 13 = .ok (.iconst 0, 1) := by decide +kernel
theorem dX6_round_14 : decode cX6_round 14 = .ok (.bastore, 1) := by decide +kernel
theorem dX6_round_15 : decode cX6_round 15 = .ok (.iinc 1 1, 3) := by decide +kernel
theorem dX6_round_18 : decode cX6_round 18 = .ok (.goto (-16), 3) := by decide +kernel
theorem dX6_round_21 : decode cX6_round 21 = .ok (.aload_n 0, 1) := by decide +kernel
theorem dX6_round_22 : decode cX6_round 22 = .ok (.iconst 0, 1) := by decide +kernel
theorem dX6_round_23 : decode cX6_round 23 = .ok (.putfield 178, 3) := by decide +kernel
theorem dX6_round_26 : decode cX6_round 26 = .ok (.return_, 1) := by decide +kernel
set_option maxRecDepth 20000 in
theorem ggX6_visit_X6_isDay : GoodIn wsX6_visit wsX6_isDay := goodIn_r _ [10, 11, 12, 9, 13] (by decide +kernel) (by decide +kernel)
set_option maxRecDepth 20000 in
theorem gX6_visit_X6_isDay : GoodIn wsX6_visit (va_wsS RX6 99 yX6_isDay wsX6_isDay) := goodIn_app (goodIn_of _ (by decide +kernel)) ggX6_visit_X6_isDay
set_option maxRecDepth 20000 in
theorem ggX6_visit_X6_many : GoodIn wsX6_visit wsX6_many := goodIn_r _ [17, 4, 5, 18, 19, 20, 9, 21, 22, 23, 24, 25, 26, 27, 28, 29, 30, 31, 32, 33, 34, 35, 36, 37, 38, 39, 40, 41, 42, 43, 11, 12, 13, 44, 45, 46, 47, 52, 53, 54, 55, 56, 57, 58, 59, 60, 61, 62, 63, 64, 65, 66, 67, 68, 69, 70, 71, 72, 73, 74, 75, 76, 77, 78, 79, 80, 81, 82, 83] (by decide +kernel) (by decide +kernel)
set_option maxRecDepth 20000 in
theorem gX6_visit_X6_many : GoodIn wsX6_visit (wsV RX6 181 RX6 yX6_many wsX6_many) := goodIn_app (goodIn_of _ (by decide +kernel)) ggX6_visit_X6_many
set_option maxRecDepth 20000 in
theorem ggX6_visit_X6_round : GoodIn wsX6_visit wsX6_round := goodIn_r _ [51, 5, 6, 52, 53, 54, 55, 56, 57, 58, 59, 60, 61, 62, 63, 64, 65, 66, 67, 68, 69, 70, 71, 72, 73, 74, 75, 76, 77, 78, 79, 80, 81, 82, 83] (by decide +kernel) (by decide +kernel)
set_option maxRecDepth 20000 in
theorem gX6_visit_X6_round : GoodIn wsX6_visit (wsV RX6 185 RX6 yX6_round wsX6_round) := goodIn_app (goodIn_of _ (by decide +kernel)) ggX6_visit_X6_round
set_option maxRecDepth 20000 in
theorem ggX6_visit_X6_has : GoodIn wsX6_visit wsX6_has := goodIn_r _ [21, 22, 23, 24, 9, 25, 26, 27, 28, 29, 30, 31, 32, 33, 34, 35, 36, 37, 38, 39, 40, 41, 42, 43, 11, 12, 13, 44, 45, 46, 47, 52, 53, 54, 55, 56, 57, 58, 59, 60, 61, 62, 63, 64, 65, 66, 67, 68, 69, 70, 71, 72, 73, 74, 75, 76, 77, 78, 79, 80, 81, 82, 83] (by decide +kernel) (by decide +kernel)
set_option maxRecDepth 20000 in
theorem gX6_visit_X6_has : GoodIn wsX6_visit (wsV RX6 119 RX6 yX6_has wsX6_has) := goodIn_app (goodIn_of _ (by decide +kernel)) ggX6_visit_X6_has
theorem dX6_visit_0 : decode cX6_visit 0 = .ok (.iload_n 1, 1) := by decide +kernel
theorem dX6_visit_1 : decode cX6_visit 1 = .ok (.invokestatic 99, 3) := by decide +kernel
theorem dX6_visit_4 : decode cX6_visit 4 = .ok (.ifCond .ne 5, 3) := by decide +kernel
theorem dX6_visit_7 : decode cX6_visit 7 = .ok (.iconst (-1), 1) := by decide +kernel
theorem dX6_visit_8 : decode cX6_visit 8 = .ok (.ireturn, 1) := by decide +kernel
theorem dX6_visit_9 : decode cX6_visit 9 = .ok (.aload_n 0, 1) := by decide +kernel
theorem dX6_visit_10 : decode cX6_visit 10 = .ok (.iload_n 1, 1) := by decide +kernel
theorem dX6_visit_11 : decode cX6_visit 11 = .ok (.iconst 1, 1) := by decide +kernel
theorem dX6_visit_12 : decode cX6_visit 12 = .ok (.invokevirtual 181, 3) := by decide +kernel
theorem dX6_visit_15 : decode cX6_visit 15 = .ok (.ifCond .ne 6, 3) := by decide +kernel
theorem dX6_visit_18 : decode cX6_visit 18 = .ok (.bipush (-2), 2) := by decide +kernel
theorem dX6_visit_20 : decode cX6_visit 20 = .ok (.ireturn, 1) := by decide +kernel
theorem dX6_visit_21 : decode cX6_visit 21 = .ok (.aload_n 0, 1) := by decide +kernel
theorem dX6_visit_22 : decode cX6_visit 22 = .ok (.iload_n 1, 1) := by decide +kernel
theorem dX6_visit_23 : decode cX6_visit 23 = .ok (.iconst 0, 1) := by decide +kernel
theorem dX6_visit_24 : decode cX6_visit 24 = .ok (.invokevirtual 181, 3) := by decide +kernel
theorem dX6_visit_27 : decode cX6_visit 27 = .ok (.ifCond .ne 7, 3) := by decide +kernel
theorem dX6_visit_30 : decode cX6_visit 30 = .ok (.aload_n 0, 1) := by decide +kernel
theorem dX6_visit_31 : decode cX6_visit 31 = .ok (.invokevirtual 185, 3) := by decide +kernel
theorem dX6_visit_34 : decode cX6_visit 34 = .ok (.aload_n 0, 1) := by decide +kernel
theorem dX6_visit_35 : decode cX6_visit 35 = .ok (.aload_n 0, 1) := by decide +kernel
theorem dX6_visit_36 : decode cX6_visit 36 = .ok (.getfield 81, 3) := by decide +kernel
theorem dX6_visit_39 : decode cX6_visit 39 = .ok (.ldc2_w 188, 3) := by decide +kernel
theorem dX6_visit_42 : decode cX6_visit 42 = .ok (.lmul, 1) := by decide +kernel
theorem dX6_visit_43 : decode cX6_visit 43 = .ok (.ldc2_w 190, 3) := by decide +kernel
theorem dX6_visit_46 : decode cX6_visit 46 = .ok (.lrem, 1) := by decide +kernel
theorem dX6_visit_47 : decode cX6_visit 47 = .ok (.putfield 81, 3) := by decide +kernel
theorem dX6_visit_50 : decode cX6_visit 50 = .ok (.aload_n 0, 1) := by decide +kernel
theorem dX6_visit_51 : decode cX6_visit 51 = .ok (.getfield 81, 3) := by decide +kernel
theorem dX6_visit_54 : decode cX6_visit 54 = .ok (.aload_n 0, 1) := by decide +kernel
theorem dX6_visit_55 : decode cX6_visit 55 = .ok (.iload_n 1, 1) := by decide +kernel
theorem dX6_visit_56 : decode cX6_visit 56 = .ok (.iconst 0, 1) := by decide +kernel
theorem dX6_visit_57 : decode cX6_visit 57 = .ok (.invokevirtual 181, 3) := by decide +kernel
theorem dX6_visit_60 : decode cX6_visit 60 = .ok (.i2l, 1) := by decide +kernel
theorem dX6_visit_61 : decode cX6_visit 61 = .ok (.lrem, 1) := by decide +kernel
theorem dX6_visit_62 : decode cX6_visit 62 = .ok (.l2i, 1) := by decide +kernel
theorem dX6_visit_63 : decode cX6_visit 63 = .ok (.istore_n 2, 1) := by decide +kernel
theorem dX6_visit_64 : decode cX6_visit 64 = .ok (.iconst (-1), 1) := by decide +kernel
theorem dX6_visit_65 : decode cX6_visit 65 = .ok (.istore_n 3, 1) := by decide +kernel
theorem dX6_visit_66 : decode cX6_visit 66 = .ok (.iconst 0, 1) := by decide +kernel
theorem dX6_visit_67 : decode cX6_visit 67 = .ok (.istore 4, 2) := by decide +kernel
theorem dX6_visit_69 : decode cX6_visit 69 = .ok (.iload 4, 2) := by decide +kernel
theorem dX6_visit_71 : decode cX6_visit 71 = .ok (.aload_n 0, 1) := by decide +kernel
theorem dX6_visit_72 : decode cX6_visit 72 = .ok (.getfield 116, 3) := by decide +kernel
theorem dX6_visit_75 : decode cX6_visit 75 = .ok (.if_icmp .ge 47, 3) := by decide +kernel
theorem dX6_visit_78 : decode cX6_visit 78 = .ok (.iload_n 3, 1) := by decide +kernel
theorem dX6_visit_79 : decode cX6_visit 79 = .ok (.ifCond .ge 43, 3) := by decide +kernel
theorem dX6_visit_82 : decode cX6_visit 82 = .ok (.aload_n 0, 1) := by decide +kernel
theorem dX6_visit_83 : decode cX6_visit 83 = .ok (.iload 4, 2) := by decide +kernel
theorem dX6_visit_85 : decode cX6_visit 85 = .ok (.iload_n 1, 1) := by decide +kernel
theorem dX6_visit_86 : decode cX6_visit 86 = .ok (.invokevirtual 119, 3) := by decide +kernel
theorem dX6_visit_89 : decode cX6_visit 89 = .ok (.ifCond .eq 27, 3) := by decide +kernel
theorem dX6_visit_92 : decode cX6_visit 92 = .ok (.aload_n 0, 1) := by decide +kernel
theorem dX6_visit_93 : decode cX6_visit 93 = .ok (.getfield 77, 3) := by decide +kernel
theorem dX6_visit_96 : decode cX6_visit 96 = .ok (.iload 4, 2) := by decide +kernel
theorem dX6_visit_98 : decode cX6_visit 98 = .ok (.baload, 1) := by decide +kernel
theorem dX6_visit_99 : decode cX6_visit 99 = .ok (.ifCond .ne 17, 3) := by decide +kernel
theorem dX6_visit_102 : decode cX6_visit 102 = .ok (.iload_n 2, 1) := by decide +kernel
theorem dX6_visit_103 : decode cX6_visit 103 = .ok (.ifCond .ne 8, 3) := by decide +kernel
theorem dX6_visit_106 : decode cX6_visit 106 = .ok (.iload 4, 2) := by decide +kernel
theorem dX6_visit_108 : decode cX6_visit 108 = .ok (.goto 4, 3) := by decide +kernel
theorem dX6_visit_111 : decode cX6_visit 111 = .ok (.iconst (-1), 1) := by decide +kernel
theorem dX6_visit_112 : decode cX6_visit 112 = .ok (.istore_n 3, 1) := by decide +kernel
theorem dX6_visit_113 : decode cX6_visit 113 = .ok (.iinc 2 (-1), 3) := by decide +kernel
theorem dX6_visit_116 : decode cX6_visit 116 = .ok (.iinc 4 1, 3) := by decide +kernel
theorem dX6_visit_119 : decode cX6_visit 119 = .ok (.goto (-50), 3) := by decide +kernel
theorem dX6_visit_122 : decode cX6_visit 122 = .ok (.aload_n 0, 1) := by decide +kernel
theorem dX6_visit_123 : decode cX6_visit 123 = .ok (.getfield 77, 3) := by decide +kernel
theorem dX6_visit_126 : decode cX6_visit 126 = .ok (.iload_n 3, 1) := by decide +kernel
theorem dX6_visit_127 : decode cX6_visit 127 = .ok (.iconst 1, 1) := by decide +kernel
theorem dX6_visit_128 : decode cX6_visit 128 = .ok (.bastore, 1) := by decide +kernel
theorem dX6_visit_129 : decode cX6_visit 129 = .ok (.aload_n 0, 1) := by decide +kernel
theorem dX6_visit_130 : decode cX6_visit 130 = .ok (.dup, 1) := by decide +kernel
theorem dX6_visit_131 : decode cX6_visit 131 = .ok (.getfield 178, 3) := by decide +kernel
theorem dX6_visit_134 : decode cX6_visit 134 = .ok (.iconst 1, 1) := by decide +kernel
theorem dX6_visit_135 : decode cX6_visit 135 = .ok (.iadd, 1) := by decide +kernel
theorem dX6_visit_136 : decode cX6_visit 136 = .ok (.putfield 178, 3) := by decide +kernel
theorem dX6_visit_139 : decode cX6_visit 139 = .ok (.iload_n 3, 1) := by decide +kernel
theorem dX6_visit_140 : decode cX6_visit 140 = .ok (.ireturn, 1) := by decide +kernel
set_option maxRecDepth 20000 in
theorem ggX6_seed_X6_in : GoodIn wsX6_seed wsX6_in := goodIn_r _ [6] (by decide +kernel) (by decide +kernel)
set_option maxRecDepth 20000 in
theorem gX6_seed_X6_in : GoodIn wsX6_seed (va_wsS RX6 92 yX6_in wsX6_in) := goodIn_app (goodIn_of _ (by decide +kernel)) ggX6_seed_X6_in
set_option maxRecDepth 20000 in
theorem ggX6_seed_X6_round : GoodIn wsX6_seed wsX6_round := goodIn_r _ [10, 11, 12, 13, 14, 15, 16, 17, 18, 19, 20, 21, 22, 23, 24, 25, 26, 27, 28, 29, 30, 31, 32, 33, 34, 35, 36, 37, 38, 39, 40, 41, 42, 43, 44] (by decide +kernel) (by decide +kernel)
set_option maxRecDepth 20000 in
theorem gX6_seed_X6_round : GoodIn wsX6_seed (wsV RX6 185 RX6 yX6_round wsX6_round) := goodIn_app (goodIn_of _ (by decide +kernel)) ggX6_seed_X6_round
theorem dX6_seed_0 : decode cX6_seed 0 = .ok (.iload_n 1, 1) := by decide +kernel
theorem dX6_seed_1 : decode cX6_seed 1 = .ok (.iconst 1, 1) := by decide +kernel
theorem dX6_seed_2 : decode cX6_seed 2 = .ok (.ldc 192, 2) := by decide +kernel
theorem dX6_seed_4 : decode cX6_seed 4 = .ok (.invokestatic 92, 3) := by decide +kernel
theorem dX6_seed_7 : decode cX6_seed 7 = .ok (.ifCond .ne 5, 3) := by decide +kernel
theorem dX6_seed_10 : decode cX6_seed 10 = .ok (.iconst (-1), 1) := by decide +kernel
theorem dX6_seed_11 : decode cX6_seed 11 = .ok (.ireturn, 1) := by decide +kernel
theorem dX6_seed_12 : decode cX6_seed 12 = .ok (.aload_n 0, 1) := by decide +kernel
theorem dX6_seed_13 : decode cX6_seed 13 = .ok (.iload_n 1, 1) := by decide +kernel
theorem dX6_seed_14 : decode cX6_seed 14 = .ok (.i2l, 1) := by decide +kernel
theorem dX6_seed_15 : decode cX6_seed 15 = .ok (.putfield 81, 3) := by decide +kernel
theorem dX6_seed_18 : decode cX6_seed 18 = .ok (.aload_n 0, 1) := by decide +kernel
theorem dX6_seed_19 : decode cX6_seed 19 = .ok (.invokevirtual 185, 3) := by decide +kernel
theorem dX6_seed_22 : decode cX6_seed 22 = .ok (.iconst 0, 1) := by decide +kernel
theorem dX6_seed_23 : decode cX6_seed 23 = .ok (.ireturn, 1) := by decide +kernel
theorem dX6_count_0 : decode cX6_count 0 = .ok (.iload_n 1, 1) := by decide +kernel
theorem dX6_count_1 : decode cX6_count 1 = .ok (.tableswitch 69 0 5 #[39, 44, 49, 54, 59, 64], 39) := by decide +kernel
theorem dX6_count_40 : decode cX6_count 40 = .ok (.aload_n 0, 1) := by decide +kernel
theorem dX6_count_41 : decode cX6_count 41 = .ok (.getfield 116, 3) := by decide +kernel
theorem dX6_count_44 : decode cX6_count 44 = .ok (.ireturn, 1) := by decide +kernel
theorem dX6_count_45 : decode cX6_count 45 = .ok (.aload_n 0, 1) := by decide +kernel
theorem dX6_count_46 : decode cX6_count 46 = .ok (.getfield 106, 3) := by decide +kernel
theorem dX6_count_49 : decode cX6_count 49 = .ok (.ireturn, 1) := by decide +kernel
theorem dX6_count_50 : decode cX6_count 50 = .ok (.aload_n 0, 1) := by decide +kernel
theorem dX6_count_51 : decode cX6_count 51 = .ok (.getfield 96, 3) := by decide +kernel
theorem dX6_count_54 : decode cX6_count 54 = .ok (.ireturn, 1) := by decide +kernel
theorem dX6_count_55 : decode cX6_count 55 = .ok (.aload_n 0, 1) := by decide +kernel
theorem dX6_count_56 : decode cX6_count 56 = .ok (.getfield 113, 3) := by decide +kernel
theorem dX6_count_59 : decode cX6_count 59 = .ok (.ireturn, 1) := by decide +kernel
theorem dX6_count_60 : decode cX6_count 60 = .ok (.aload_n 0, 1) := by decide +kernel
theorem dX6_count_61 : decode cX6_count 61 = .ok (.getfield 178, 3) := by decide +kernel
theorem dX6_count_64 : decode cX6_count 64 = .ok (.ireturn, 1) := by decide +kernel
theorem dX6_count_65 : decode cX6_count 65 = .ok (.aload_n 0, 1) := by decide +kernel
theorem dX6_count_66 : decode cX6_count 66 = .ok (.getfield 130, 3) := by decide +kernel
theorem dX6_count_69 : decode cX6_count 69 = .ok (.ireturn, 1) := by decide +kernel
theorem dX6_count_70 : decode cX6_count 70 = .ok (.iconst (-1), 1) := by decide +kernel
theorem dX6_count_71 : decode cX6_count 71 = .ok (.ireturn, 1) := by decide +kernel
theorem dJ9_max_7cf53_0 : decode cJ9_max_7cf53 0 = .ok (.iload_n 0, 1) := by decide +kernel
theorem dJ9_max_7cf53_1 : decode cJ9_max_7cf53 1 = .ok (.iload_n 1, 1) := by decide +kernel
theorem dJ9_max_7cf53_2 : decode cJ9_max_7cf53 2 = .ok (.if_icmp .lt 7, 3) := by decide +kernel
theorem dJ9_max_7cf53_5 : decode cJ9_max_7cf53 5 = .ok (.iload_n 0, 1) := by decide +kernel
theorem dJ9_max_7cf53_6 : decode cJ9_max_7cf53 6 = .ok (.goto 4, 3) := by decide +kernel
theorem dJ9_max_7cf53_9 : decode cJ9_max_7cf53 9 = .ok (.iload_n 1, 1) := by decide +kernel
theorem dJ9_max_7cf53_10 : decode cJ9_max_7cf53 10 = .ok (.ireturn, 1) := by decide +kernel
theorem dJ9_min_7cf53_0 : decode cJ9_min_7cf53 0 = .ok (.iload_n 0, 1) := by decide +kernel
theorem dJ9_min_7cf53_1 : decode cJ9_min_7cf53 1 = .ok (.iload_n 1, 1) := by decide +kernel
theorem dJ9_min_7cf53_2 : decode cJ9_min_7cf53 2 = .ok (.if_icmp .gt 7, 3) := by decide +kernel
theorem dJ9_min_7cf53_5 : decode cJ9_min_7cf53 5 = .ok (.iload_n 0, 1) := by decide +kernel
theorem dJ9_min_7cf53_6 : decode cJ9_min_7cf53 6 = .ok (.goto 4, 3) := by decide +kernel
theorem dJ9_min_7cf53_9 : decode cJ9_min_7cf53 9 = .ok (.iload_n 1, 1) := by decide +kernel
theorem dJ9_min_7cf53_10 : decode cJ9_min_7cf53 10 = .ok (.ireturn, 1) := by decide +kernel
theorem dJxa1e45_init_da8c8_0 : decode cJxa1e45_init_da8c8 0 = .ok (.aload_n 0, 1) := by decide +kernel
theorem dJxa1e45_init_da8c8_1 : decode cJxa1e45_init_da8c8 1 = .ok (.invokespecial 1, 3) := by decide +kernel
theorem dJxa1e45_init_da8c8_4 : decode cJxa1e45_init_da8c8 4 = .ok (.return_, 1) := by decide +kernel
set_option maxRecDepth 20000 in
theorem ggJxc12de_init_da8c8_Jxa1e45_init_da8c8 : GoodIn wsJxc12de_init_da8c8 wsJxa1e45_init_da8c8 := goodIn_r _ [5, 6, 7, 8] (by decide +kernel) (by decide +kernel)
set_option maxRecDepth 20000 in
theorem gJxc12de_init_da8c8_Jxa1e45_init_da8c8 : GoodIn wsJxc12de_init_da8c8 (wsJxa1e45_init_da8c8) := ggJxc12de_init_da8c8_Jxa1e45_init_da8c8
theorem dJxc12de_init_da8c8_0 : decode cJxc12de_init_da8c8 0 = .ok (.aload_n 0, 1) := by decide +kernel
theorem dJxc12de_init_da8c8_1 : decode cJxc12de_init_da8c8 1 = .ok (.invokespecial 1, 3) := by decide +kernel
theorem dJxc12de_init_da8c8_4 : decode cJxc12de_init_da8c8 4 = .ok (.aload_n 0, 1) := by decide +kernel
theorem dJxc12de_init_da8c8_5 : decode cJxc12de_init_da8c8 5 = .ok (.iconst 0, 1) := by decide +kernel
theorem dJxc12de_init_da8c8_6 : decode cJxc12de_init_da8c8 6 = .ok (.putfield 7, 3) := by decide +kernel
theorem dJxc12de_init_da8c8_9 : decode cJxc12de_init_da8c8 9 = .ok (.return_, 1) := by decide +kernel
set_option maxRecDepth 20000 in
theorem ggJx4a65c_init_da8c8_Jxc12de_init_da8c8 : GoodIn wsJx4a65c_init_da8c8 wsJxc12de_init_da8c8 := goodIn_r _ [6, 7, 8, 9, 10, 11, 12, 13, 14, 15, 16, 17] (by decide +kernel) (by decide +kernel)
set_option maxRecDepth 20000 in
theorem gJx4a65c_init_da8c8_Jxc12de_init_da8c8 : GoodIn wsJx4a65c_init_da8c8 (wsJxc12de_init_da8c8) := ggJx4a65c_init_da8c8_Jxc12de_init_da8c8
theorem dJx4a65c_init_da8c8_0 : decode cJx4a65c_init_da8c8 0 = .ok (.aload_n 0, 1) := by decide +kernel
theorem dJx4a65c_init_da8c8_1 : decode cJx4a65c_init_da8c8 1 = .ok (.invokespecial 1, 3) := by decide +kernel
theorem dJx4a65c_init_da8c8_4 : decode cJx4a65c_init_da8c8 4 = .ok (.aload_n 0, 1) := by decide +kernel
theorem dJx4a65c_init_da8c8_5 : decode cJx4a65c_init_da8c8 5 = .ok (.getstatic 39, 3) := by decide +kernel
theorem dJx4a65c_init_da8c8_8 : decode cJx4a65c_init_da8c8 8 = .ok (.putfield 9, 3) := by decide +kernel
theorem dJx4a65c_init_da8c8_11 : decode cJx4a65c_init_da8c8 11 = .ok (.return_, 1) := by decide +kernel
set_option maxRecDepth 20000 in
theorem ggJx4a65c_grow_92f84_J8_newLength_cabcc : GoodIn wsJx4a65c_grow_92f84 wsJ8_newLength_cabcc := goodIn_r _ [11, 12, 4, 5, 6, 13, 14, 15, 10, 16] (by decide +kernel) (by decide +kernel)
set_option maxRecDepth 20000 in
theorem gJx4a65c_grow_92f84_J8_newLength_cabcc : GoodIn wsJx4a65c_grow_92f84 (va_wsS RJx4a65c 73 yJ8_newLength_cabcc wsJ8_newLength_cabcc) := goodIn_app (goodIn_of _ (by decide +kernel)) ggJx4a65c_grow_92f84_J8_newLength_cabcc
set_option maxRecDepth 20000 in
theorem ggJx4a65c_grow_92f84_J7_copyOf_1904c : GoodIn wsJx4a65c_grow_92f84 wsJ7_copyOf_1904c := goodIn_r _ [20, 21, 22, 23, 24, 25, 26, 19, 27, 28, 29, 30, 31, 5, 32, 33, 34, 35, 36] (by decide +kernel) (by decide +kernel)
set_option maxRecDepth 20000 in
theorem gJx4a65c_grow_92f84_J7_copyOf_1904c : GoodIn wsJx4a65c_grow_92f84 (va_wsS RJx4a65c 66 yJ7_copyOf_1904c wsJ7_copyOf_1904c) := goodIn_app (goodIn_of _ (by decide +kernel)) ggJx4a65c_grow_92f84_J7_copyOf_1904c
theorem dJx4a65c_grow_92f84_0 : decode cJx4a65c_grow_92f84 0 = .ok (.aload_n 0, 1) := by decide +kernel
theorem dJx4a65c_grow_92f84_1 : decode cJx4a65c_grow_92f84 1 = .ok (.getfield 9, 3) := by decide +kernel
theorem dJx4a65c_grow_92f84_4 : decode cJx4a65c_grow_92f84 4 = .ok (.arraylength, 1) := by decide +kernel
theorem dJx4a65c_grow_92f84_5 : decode cJx4a65c_grow_92f84 5 = .ok (.istore_n 2, 1) := by decide +kernel
theorem dJx4a65c_grow_92f84_6 : decode cJx4a65c_grow_92f84 6 = .ok (.iload_n 2, 1) := by decide +kernel
theorem dJx4a65c_grow_92f84_7 : decode cJx4a65c_grow_92f84 7 = .ok (.ifCond .gt 13, 3) := by decide +kernel
theorem dJx4a65c_grow_92f84_10 : decode cJx4a65c_grow_92f84 10 = .ok (.aload_n 0, 1) := by decide +kernel
theorem dJx4a65c_grow_92f84_11 : decode cJx4a65c_grow_92f84 11 = .ok (.getfield 9, 3) := by decide +kernel
theorem dJx4a65c_grow_92f84_14 : decode cJx4a65c_grow_92f84 14 = .ok (.getstatic 39, 3) := by decide +kernel
theorem dJx4a65c_grow_92f84_17 : decode cJx4a65c_grow_92f84 17 = .ok (.if_acmp .eq 28, 3) := by decide +kernel
theorem dJx4a65c_grow_92f84_20 : decode cJx4a65c_grow_92f84 20 = .ok (.iload_n 2, 1) := by decide +kernel
theorem dJx4a65c_grow_92f84_21 : decode cJx4a65c_grow_92f84 21 = .ok (.iload_n 1, 1) := by decide +kernel
theorem dJx4a65c_grow_92f84_22 : decode cJx4a65c_grow_92f84 22 = .ok (.iload_n 2, 1) := by decide +kernel
theorem dJx4a65c_grow_92f84_23 : decode cJx4a65c_grow_92f84 23 = .ok (.isub, 1) := by decide +kernel
theorem dJx4a65c_grow_92f84_24 : decode cJx4a65c_grow_92f84 24 = .ok (.iload_n 2, 1) := by decide +kernel
theorem dJx4a65c_grow_92f84_25 : decode cJx4a65c_grow_92f84 25 = .ok (.iconst 1, 1) := by decide +kernel
theorem dJx4a65c_grow_92f84_26 : decode cJx4a65c_grow_92f84 26 = .ok (.ishr, 1) := by decide +kernel
theorem dJx4a65c_grow_92f84_27 : decode cJx4a65c_grow_92f84 27 = .ok (.invokestatic 73, 3) := by decide +kernel
theorem dJx4a65c_grow_92f84_30 : decode cJx4a65c_grow_92f84 30 = .ok (.istore_n 3, 1) := by decide +kernel
theorem dJx4a65c_grow_92f84_31 : decode cJx4a65c_grow_92f84 31 = .ok (.aload_n 0, 1) := by decide +kernel
theorem dJx4a65c_grow_92f84_32 : decode cJx4a65c_grow_92f84 32 = .ok (.aload_n 0, 1) := by decide +kernel
theorem dJx4a65c_grow_92f84_33 : decode cJx4a65c_grow_92f84 33 = .ok (.getfield 9, 3) := by decide +kernel
theorem dJx4a65c_grow_92f84_36 : decode cJx4a65c_grow_92f84 36 = .ok (.iload_n 3, 1) := by decide +kernel
theorem dJx4a65c_grow_92f84_37 : decode cJx4a65c_grow_92f84 37 = .ok (.invokestatic 66, 3) := by decide +kernel
theorem dJx4a65c_grow_92f84_40 : decode cJx4a65c_grow_92f84 40 = .ok (.dup_x1, 1) := by decide +kernel
theorem dJx4a65c_grow_92f84_41 : decode cJx4a65c_grow_92f84 41 = .ok (.putfield 9, 3) := by decide +kernel
theorem dJx4a65c_grow_92f84_44 : decode cJx4a65c_grow_92f84 44 = .ok (.areturn, 1) := by decide +kernel
theorem dJx4a65c_grow_92f84_45 : decode cJx4a65c_grow_92f84 45 = .ok (.aload_n 0, 1) := by decide +kernel
theorem dJx4a65c_grow_92f84_46 : decode cJx4a65c_grow_92f84 46 = .ok (.bipush 10, 2) := by decide +kernel
theorem dJx4a65c_grow_92f84_48 : decode cJx4a65c_grow_92f84 48 = .ok (.iload_n 1, 1) := by decide +kernel
theorem dJx4a65c_grow_92f84_49 : decode cJx4a65c_grow_92f84 49 = .ok (.invokestatic 79, 3) := by decide +kernel
theorem dJx4a65c_grow_92f84_52 : decode cJx4a65c_grow_92f84 52 = .ok (.anewarray 7, 3) := by decide +kernel
theorem dJx4a65c_grow_92f84_55 : decode cJx4a65c_grow_92f84 55 = .ok (.dup_x1, 1) := by decide +kernel
theorem dJx4a65c_grow_92f84_56 : decode cJx4a65c_grow_92f84 56 = .ok (.putfield 9, 3) := by decide +kernel
theorem dJx4a65c_grow_92f84_59 : decode cJx4a65c_grow_92f84 59 = .ok (.areturn, 1) := by decide +kernel
set_option maxRecDepth 20000 in
theorem ggJx4a65c_grow_d5877_Jx4a65c_grow_92f84 : GoodIn wsJx4a65c_grow_d5877 wsJx4a65c_grow_92f84 := goodIn_r _ [6, 7, 8, 9, 10, 11, 12, 13, 14, 15, 16, 17, 18, 19, 20, 21, 22, 23, 24, 25, 26, 27, 28, 29, 30, 31, 32, 33, 34, 35, 36, 37, 38, 39, 40, 41, 42, 43, 44, 45] (by decide +kernel) (by decide +kernel)
set_option maxRecDepth 20000 in
theorem gJx4a65c_grow_d5877_Jx4a65c_grow_92f84 : GoodIn wsJx4a65c_grow_d5877 (wsV RJx4a65c 69 RJx4a65c yJx4a65c_grow_92f84 wsJx4a65c_grow_92f84) := goodIn_app (goodIn_of _ (by decide +kernel)) ggJx4a65c_grow_d5877_Jx4a65c_grow_92f84
theorem dJx4a65c_grow_d5877_0 : decode cJx4a65c_grow_d5877 0 = .ok (.aload_n 0, 1) := by decide +kernel
theorem dJx4a65c_grow_d5877_1 : decode cJx4a65c_grow_d5877 1 = .ok (.aload_n 0, 1) := by decide +kernel
theorem dJx4a65c_grow_d5877_2 : decode cJx4a65c_grow_d5877 2 = .ok (.getfield 48, 3) := by decide +kernel
theorem dJx4a65c_grow_d5877_5 : decode cJx4a65c_grow_d5877 5 = .ok (.iconst 1, 1) := by decide +kernel
theorem dJx4a65c_grow_d5877_6 : decode cJx4a65c_grow_d5877 6 = .ok (.iadd, 1) := by decide +kernel
theorem dJx4a65c_grow_d5877_7 : decode cJx4a65c_grow_d5877 7 = .ok (.invokevirtual 69, 3) := by decide +kernel
theorem dJx4a65c_grow_d5877_10 : decode cJx4a65c_grow_d5877 10 = .ok (.areturn, 1) := by decide +kernel
theorem dJx4a65c_size_8abf5_0 : decode cJx4a65c_size_8abf5 0 = .ok (.aload_n 0, 1) := by decide +kernel
theorem dJx4a65c_size_8abf5_1 : decode cJx4a65c_size_8abf5 1 = .ok (.getfield 48, 3) := by decide +kernel
theorem dJx4a65c_size_8abf5_4 : decode cJx4a65c_size_8abf5 4 = .ok (.ireturn, 1) := by decide +kernel
theorem dJx4a65c_isEmpty_aae02_0 : decode cJx4a65c_isEmpty_aae02 0 = .ok (.aload_n 0, 1) := by decide +kernel
theorem dJx4a65c_isEmpty_aae02_1 : decode cJx4a65c_isEmpty_aae02 1 = .ok (.getfield 48, 3) := by decide +kernel
theorem dJx4a65c_isEmpty_aae02_4 : decode cJx4a65c_isEmpty_aae02 4 = .ok (.ifCond .ne 7, 3) := by decide +kernel
theorem dJx4a65c_isEmpty_aae02_7 : decode cJx4a65c_isEmpty_aae02 7 = .ok (.iconst 1, 1) := by decide +kernel
theorem dJx4a65c_isEmpty_aae02_8 : decode cJx4a65c_isEmpty_aae02 8 = .ok (.goto 4, 3) := by decide +kernel
theorem dJx4a65c_isEmpty_aae02_11 : decode cJx4a65c_isEmpty_aae02 11 = .ok (.iconst 0, 1) := by decide +kernel
theorem dJx4a65c_isEmpty_aae02_12 : decode cJx4a65c_isEmpty_aae02 12 = .ok (.ireturn, 1) := by decide +kernel
theorem dJx4a65c_elementData_915e3_0 : decode cJx4a65c_elementData_915e3 0 = .ok (.aload_n 0, 1) := by decide +kernel
theorem dJx4a65c_elementData_915e3_1 : decode cJx4a65c_elementData_915e3 1 = .ok (.getfield 9, 3) := by decide +kernel
theorem dJx4a65c_elementData_915e3_4 : decode cJx4a65c_elementData_915e3 4 = .ok (.iload_n 1, 1) := by decide +kernel
theorem dJx4a65c_elementData_915e3_5 : decode cJx4a65c_elementData_915e3 5 = .ok (.aaload, 1) := by decide +kernel
theorem dJx4a65c_elementData_915e3_6 : decode cJx4a65c_elementData_915e3 6 = .ok (.areturn, 1) := by decide +kernel
set_option maxRecDepth 20000 in
theorem ggJx4a65c_get_915e3_J15_checkIndex_7cf53 : GoodIn wsJx4a65c_get_915e3 wsJ15_checkIndex_7cf53 := goodIn_r _ [5, 6, 7, 8, 9] (by decide +kernel) (by decide +kernel)
set_option maxRecDepth 20000 in
theorem gJx4a65c_get_915e3_J15_checkIndex_7cf53 : GoodIn wsJx4a65c_get_915e3 (va_wsS RJx4a65c 118 yJ15_checkIndex_7cf53 wsJ15_checkIndex_7cf53) := goodIn_app (goodIn_of _ (by decide +kernel)) ggJx4a65c_get_915e3_J15_checkIndex_7cf53
set_option maxRecDepth 20000 in
theorem ggJx4a65c_get_915e3_Jx4a65c_elementData_915e3 : GoodIn wsJx4a65c_get_915e3 wsJx4a65c_elementData_915e3 := goodIn_r _ [14, 15, 16, 17, 18] (by decide +kernel) (by decide +kernel)
set_option maxRecDepth 20000 in
theorem gJx4a65c_get_915e3_Jx4a65c_elementData_915e3 : GoodIn wsJx4a65c_get_915e3 (wsV RJx4a65c 123 RJx4a65c yJx4a65c_elementData_915e3 wsJx4a65c_elementData_915e3) := goodIn_app (goodIn_of _ (by decide +kernel)) ggJx4a65c_get_915e3_Jx4a65c_elementData_915e3
theorem dJx4a65c_get_915e3_0 : decode cJx4a65c_get_915e3 0 = .ok (.iload_n 1, 1) := by decide +kernel
theorem dJx4a65c_get_915e3_1 : decode cJx4a65c_get_915e3 1 = .ok (.aload_n 0, 1) := by decide +kernel
theorem dJx4a65c_get_915e3_2 : decode cJx4a65c_get_915e3 2 = .ok (.getfield 48, 3) := by decide +kernel
theorem dJx4a65c_get_915e3_5 : decode cJx4a65c_get_915e3 5 = .ok (.invokestatic 118, 3) := by decide +kernel
theorem dJx4a65c_get_915e3_8 : decode cJx4a65c_get_915e3 8 = .ok (.pop, 1) := by decide +kernel
theorem dJx4a65c_get_915e3_9 : decode cJx4a65c_get_915e3 9 = .ok (.aload_n 0, 1) := by decide +kernel
theorem dJx4a65c_get_915e3_10 : decode cJx4a65c_get_915e3 10 = .ok (.iload_n 1, 1) := by decide +kernel
theorem dJx4a65c_get_915e3_11 : decode cJx4a65c_get_915e3 11 = .ok (.invokevirtual 123, 3) := by decide +kernel
theorem dJx4a65c_get_915e3_14 : decode cJx4a65c_get_915e3 14 = .ok (.areturn, 1) := by decide +kernel
set_option maxRecDepth 20000 in
theorem ggJx4a65c_add_72be8_Jx4a65c_grow_d5877 : GoodIn wsJx4a65c_add_72be8 wsJx4a65c_grow_d5877 := goodIn_r _ [6, 1, 7, 8, 9, 5, 10, 11, 12, 13, 14, 15, 16, 17, 18, 19, 20, 21, 22, 23, 24, 25, 26, 27, 28, 29, 30, 31, 32, 33, 34, 35, 36, 37, 38, 39, 40, 41, 42, 43, 44, 45, 46, 47, 48, 49] (by decide +kernel) (by decide +kernel)
set_option maxRecDepth 20000 in
theorem gJx4a65c_add_72be8_Jx4a65c_grow_d5877 : GoodIn wsJx4a65c_add_72be8 (wsV RJx4a65c 129 RJx4a65c yJx4a65c_grow_d5877 wsJx4a65c_grow_d5877) := goodIn_app (goodIn_of _ (by decide +kernel)) ggJx4a65c_add_72be8_Jx4a65c_grow_d5877
theorem dJx4a65c_add_72be8_0 : decode cJx4a65c_add_72be8 0 = .ok (.iload_n 3, 1) := by decide +kernel
theorem dJx4a65c_add_72be8_1 : decode cJx4a65c_add_72be8 1 = .ok (.aload_n 2, 1) := by decide +kernel
theorem dJx4a65c_add_72be8_2 : decode cJx4a65c_add_72be8 2 = .ok (.arraylength, 1) := by decide +kernel
theorem dJx4a65c_add_72be8_3 : decode cJx4a65c_add_72be8 3 = .ok (.if_icmp .ne 8, 3) := by decide +kernel
theorem dJx4a65c_add_72be8_6 : decode cJx4a65c_add_72be8 6 = .ok (.aload_n 0, 1) := by decide +kernel
theorem dJx4a65c_add_72be8_7 : decode cJx4a65c_add_72be8 7 = .ok (.invokevirtual 129, 3) := by decide +kernel
theorem dJx4a65c_add_72be8_10 : decode cJx4a65c_add_72be8 10 = .ok (.astore_n 2, 1) := by decide +kernel
theorem dJx4a65c_add_72be8_11 : decode cJx4a65c_add_72be8 11 = .ok (.aload_n 2, 1) := by decide +kernel
theorem dJx4a65c_add_72be8_12 : decode cJx4a65c_add_72be8 12 = .ok (.iload_n 3, 1) := by decide +kernel
theorem dJx4a65c_add_72be8_13 : decode cJx4a65c_add_72be8 13 = .ok (.aload_n 1, 1) := by decide +kernel
theorem dJx4a65c_add_72be8_14 : decode cJx4a65c_add_72be8 14 = .ok (.aastore, 1) := by decide +kernel
theorem dJx4a65c_add_72be8_15 : decode cJx4a65c_add_72be8 15 = .ok (.aload_n 0, 1) := by decide +kernel
theorem dJx4a65c_add_72be8_16 : decode cJx4a65c_add_72be8 16 = .ok (.iload_n 3, 1) := by decide +kernel
theorem dJx4a65c_add_72be8_17 : decode cJx4a65c_add_72be8 17 = .ok (.iconst 1, 1) := by decide +kernel
theorem dJx4a65c_add_72be8_18 : decode cJx4a65c_add_72be8 18 = .ok (.iadd, 1) := by decide +kernel
theorem dJx4a65c_add_72be8_19 : decode cJx4a65c_add_72be8 19 = .ok (.putfield 48, 3) := by decide +kernel
theorem dJx4a65c_add_72be8_22 : decode cJx4a65c_add_72be8 22 = .ok (.return_, 1) := by decide +kernel
set_option maxRecDepth 20000 in
theorem ggJx4a65c_add_9ea2d_Jx4a65c_add_72be8 : GoodIn wsJx4a65c_add_9ea2d wsJx4a65c_add_72be8 := goodIn_r _ [9, 4, 10, 11, 12, 8, 13, 14, 15, 16, 17, 3, 18, 19, 20, 21, 22, 23, 24, 25, 26, 27, 28, 29, 30, 31, 32, 33, 34, 35, 36, 37, 38, 39, 40, 41, 42, 43, 44, 45, 46, 47, 48, 49, 50, 51, 52, 53, 54, 55] (by decide +kernel) (by decide +kernel)
set_option maxRecDepth 20000 in
theorem gJx4a65c_add_9ea2d_Jx4a65c_add_72be8 : GoodIn wsJx4a65c_add_9ea2d (wsV RJx4a65c 131 RJx4a65c yJx4a65c_add_72be8 wsJx4a65c_add_72be8) := goodIn_app (goodIn_of _ (by decide +kernel)) ggJx4a65c_add_9ea2d_Jx4a65c_add_72be8
theorem dJx4a65c_add_9ea2d_0 : decode cJx4a65c_add_9ea2d 0 = .ok (.aload_n 0, 1) := by decide +kernel
theorem dJx4a65c_add_9ea2d_1 : decode cJx4a65c_add_9ea2d 1 = .ok (.dup, 1) := by decide +kernel
theorem dJx4a65c_add_9ea2d_2 : decode cJx4a65c_add_9ea2d 2 = .ok (.getfield 63, 3) := by decide +kernel
theorem dJx4a65c_add_9ea2d_5 : decode cJx4a65c_add_9ea2d 5 = .ok (.iconst 1, 1) := by decide +kernel
theorem dJx4a65c_add_9ea2d_6 : decode cJx4a65c_add_9ea2d 6 = .ok (.iadd, 1) := by decide +kernel
theorem dJx4a65c_add_9ea2d_7 : decode cJx4a65c_add_9ea2d 7 = .ok (.putfield 63, 3) := by decide +kernel
theorem dJx4a65c_add_9ea2d_10 : decode cJx4a65c_add_9ea2d 10 = .ok (.aload_n 0, 1) := by decide +kernel
theorem dJx4a65c_add_9ea2d_11 : decode cJx4a65c_add_9ea2d 11 = .ok (.aload_n 1, 1) := by decide +kernel
theorem dJx4a65c_add_9ea2d_12 : decode cJx4a65c_add_9ea2d 12 = .ok (.aload_n 0, 1) := by decide +kernel
theorem dJx4a65c_add_9ea2d_13 : decode cJx4a65c_add_9ea2d 13 = .ok (.getfield 9, 3) := by decide +kernel
theorem dJx4a65c_add_9ea2d_16 : decode cJx4a65c_add_9ea2d 16 = .ok (.aload_n 0, 1) := by decide +kernel
theorem dJx4a65c_add_9ea2d_17 : decode cJx4a65c_add_9ea2d 17 = .ok (.getfield 48, 3) := by decide +kernel
theorem dJx4a65c_add_9ea2d_20 : decode cJx4a65c_add_9ea2d 20 = .ok (.invokevirtual 131, 3) := by decide +kernel
theorem dJx4a65c_add_9ea2d_23 : decode cJx4a65c_add_9ea2d 23 = .ok (.iconst 1, 1) := by decide +kernel
theorem dJx4a65c_add_9ea2d_24 : decode cJx4a65c_add_9ea2d 24 = .ok (.ireturn, 1) := by decide +kernel
set_option maxRecDepth 20000 in
theorem ggJ7_copyOf_1904c_J7_copyOf_6403c : GoodIn wsJ7_copyOf_1904c wsJ7_copyOf_6403c := goodIn_r _ [8, 9, 10, 11, 12, 13, 14, 15, 16, 17, 18] (by decide +kernel) (by decide +kernel)
set_option maxRecDepth 20000 in
theorem gJ7_copyOf_1904c_J7_copyOf_6403c : GoodIn wsJ7_copyOf_1904c (va_wsS RJ7 300 yJ7_copyOf_6403c wsJ7_copyOf_6403c) := goodIn_app (goodIn_of _ (by decide +kernel)) ggJ7_copyOf_1904c_J7_copyOf_6403c
theorem dJ7_copyOf_1904c_0 : decode cJ7_copyOf_1904c 0 = .ok (.aload_n 0, 1) := by decide +kernel
theorem dJ7_copyOf_1904c_1 : decode cJ7_copyOf_1904c 1 = .ok (.iload_n 1, 1) := by decide +kernel
theorem dJ7_copyOf_1904c_2 : decode cJ7_copyOf_1904c 2 = .ok (.aload_n 0, 1) := by decide +kernel
theorem dJ7_copyOf_1904c_3 : decode cJ7_copyOf_1904c 3 = .ok (.invokevirtual 86, 3) := by decide +kernel
theorem dJ7_copyOf_1904c_6 : decode cJ7_copyOf_1904c 6 = .ok (.invokestatic 300, 3) := by decide +kernel
theorem dJ7_copyOf_1904c_9 : decode cJ7_copyOf_1904c 9 = .ok (.areturn, 1) := by decide +kernel
theorem dJ7_copyOf_6403c_0 : decode cJ7_copyOf_6403c 0 = .ok (.aload_n 2, 1) := by decide +kernel
theorem dJ7_copyOf_6403c_1 : decode cJ7_copyOf_6403c 1 = .ok (.ldc 110, 2) := by decide +kernel
theorem dJ7_copyOf_6403c_3 : decode cJ7_copyOf_6403c 3 = .ok (.if_acmp .ne 10, 3) := by decide +kernel
theorem dJ7_copyOf_6403c_6 : decode cJ7_copyOf_6403c 6 = .ok (.iload_n 1, 1) := by decide +kernel
theorem dJ7_copyOf_6403c_7 : decode cJ7_copyOf_6403c 7 = .ok (.anewarray 2, 3) := by decide +kernel
theorem dJ7_copyOf_6403c_10 : decode cJ7_copyOf_6403c 10 = .ok (.goto 14, 3) := by decide +kernel
theorem dJ7_copyOf_6403c_13 : decode cJ7_copyOf_6403c 13 = .ok (.aload_n 2, 1) := by decide +kernel
theorem dJ7_copyOf_6403c_14 : decode cJ7_copyOf_6403c 14 = .ok (.invokevirtual 90, 3) := by decide +kernel
theorem dJ7_copyOf_6403c_17 : decode cJ7_copyOf_6403c 17 = .ok (.iload_n 1, 1) := by decide +kernel
theorem dJ7_copyOf_6403c_18 : decode cJ7_copyOf_6403c 18 = .ok (.invokestatic 95, 3) := by decide +kernel
theorem dJ7_copyOf_6403c_21 : decode cJ7_copyOf_6403c 21 = .ok (.checkcast 110, 3) := by decide +kernel
theorem dJ7_copyOf_6403c_24 : decode cJ7_copyOf_6403c 24 = .ok (.astore_n 3, 1) := by decide +kernel
theorem dJ7_copyOf_6403c_25 : decode cJ7_copyOf_6403c 25 = .ok (.aload_n 0, 1) := by decide +kernel
theorem dJ7_copyOf_6403c_26 : decode cJ7_copyOf_6403c 26 = .ok (.iconst 0, 1) := by decide +kernel
theorem dJ7_copyOf_6403c_27 : decode cJ7_copyOf_6403c 27 = .ok (.aload_n 3, 1) := by decide +kernel
theorem dJ7_copyOf_6403c_28 : decode cJ7_copyOf_6403c 28 = .ok (.iconst 0, 1) := by decide +kernel
theorem dJ7_copyOf_6403c_29 : decode cJ7_copyOf_6403c 29 = .ok (.aload_n 0, 1) := by decide +kernel
theorem dJ7_copyOf_6403c_30 : decode cJ7_copyOf_6403c 30 = .ok (.arraylength, 1) := by decide +kernel
theorem dJ7_copyOf_6403c_31 : decode cJ7_copyOf_6403c 31 = .ok (.iload_n 1, 1) := by decide +kernel
theorem dJ7_copyOf_6403c_32 : decode cJ7_copyOf_6403c 32 = .ok (.invokestatic 304, 3) := by decide +kernel
theorem dJ7_copyOf_6403c_35 : decode cJ7_copyOf_6403c 35 = .ok (.invokestatic 150, 3) := by decide +kernel
theorem dJ7_copyOf_6403c_38 : decode cJ7_copyOf_6403c 38 = .ok (.aload_n 3, 1) := by decide +kernel
theorem dJ7_copyOf_6403c_39 : decode cJ7_copyOf_6403c 39 = .ok (.areturn, 1) := by decide +kernel
set_option maxRecDepth 20000 in
theorem ggJ15_checkIndex_7cf53_J3_checkIndex_8e157 : GoodIn wsJ15_checkIndex_7cf53 wsJ3_checkIndex_8e157 := goodIn_r _ [4] (by decide +kernel) (by decide +kernel)
set_option maxRecDepth 20000 in
theorem gJ15_checkIndex_7cf53_J3_checkIndex_8e157 : GoodIn wsJ15_checkIndex_7cf53 (va_wsS RJ15 105 yJ3_checkIndex_8e157 wsJ3_checkIndex_8e157) := goodIn_app (goodIn_of _ (by decide +kernel)) ggJ15_checkIndex_7cf53_J3_checkIndex_8e157
theorem dJ15_checkIndex_7cf53_0 : decode cJ15_checkIndex_7cf53 0 = .ok (.iload_n 0, 1) := by decide +kernel
theorem dJ15_checkIndex_7cf53_1 : decode cJ15_checkIndex_7cf53 1 = .ok (.iload_n 1, 1) := by decide +kernel
theorem dJ15_checkIndex_7cf53_2 : decode cJ15_checkIndex_7cf53 2 = .ok (.aconst_null, 1) := by decide +kernel
theorem dJ15_checkIndex_7cf53_3 : decode cJ15_checkIndex_7cf53 3 = .ok (.invokestatic 105, 3) := by decide +kernel
theorem dJ15_checkIndex_7cf53_6 : decode cJ15_checkIndex_7cf53 6 = .ok (.ireturn, 1) := by decide +kernel
set_option maxRecDepth 20000 in
theorem ggJ8_newLength_cabcc_J8_hugeLength_7cf53 : GoodIn wsJ8_newLength_cabcc wsJ8_hugeLength_7cf53 := goodIn_r _ [9, 5] (by decide +kernel) (by decide +kernel)
set_option maxRecDepth 20000 in
theorem gJ8_newLength_cabcc_J8_hugeLength_7cf53 : GoodIn wsJ8_newLength_cabcc (va_wsS RJ8 201 yJ8_hugeLength_7cf53 wsJ8_hugeLength_7cf53) := goodIn_app (goodIn_of _ (by decide +kernel)) ggJ8_newLength_cabcc_J8_hugeLength_7cf53
theorem dJ8_newLength_cabcc_0 : decode cJ8_newLength_cabcc 0 = .ok (.iload_n 0, 1) := by decide +kernel
theorem dJ8_newLength_cabcc_1 : decode cJ8_newLength_cabcc 1 = .ok (.iload_n 1, 1) := by decide +kernel
theorem dJ8_newLength_cabcc_2 : decode cJ8_newLength_cabcc 2 = .ok (.iload_n 2, 1) := by decide +kernel
theorem dJ8_newLength_cabcc_3 : decode cJ8_newLength_cabcc 3 = .ok (.invokestatic 194, 3) := by decide +kernel
theorem dJ8_newLength_cabcc_6 : decode cJ8_newLength_cabcc 6 = .ok (.iadd, 1) := by decide +kernel
theorem dJ8_newLength_cabcc_7 : decode cJ8_newLength_cabcc 7 = .ok (.istore_n 3, 1) := by decide +kernel
theorem dJ8_newLength_cabcc_8 : decode cJ8_newLength_cabcc 8 = .ok (.iconst 0, 1) := by decide +kernel
theorem dJ8_newLength_cabcc_9 : decode cJ8_newLength_cabcc 9 = .ok (.iload_n 3, 1) := by decide +kernel
theorem dJ8_newLength_cabcc_10 : decode cJ8_newLength_cabcc 10 = .ok (.if_icmp .ge 11, 3) := by decide +kernel
theorem dJ8_newLength_cabcc_13 : decode cJ8_newLength_cabcc 13 = .ok (.iload_n 3, 1) := by decide +kernel
theorem dJ8_newLength_cabcc_14 : decode cJ8_newLength_cabcc 14 = .ok (.ldc 200, 2) := by decide +kernel
theorem dJ8_newLength_cabcc_16 : decode cJ8_newLength_cabcc 16 = .ok (.if_icmp .gt 5, 3) := by decide +kernel
theorem dJ8_newLength_cabcc_19 : decode cJ8_newLength_cabcc 19 = .ok (.iload_n 3, 1) := by decide +kernel
theorem dJ8_newLength_cabcc_20 : decode cJ8_newLength_cabcc 20 = .ok (.ireturn, 1) := by decide +kernel
theorem dJ8_newLength_cabcc_21 : decode cJ8_newLength_cabcc 21 = .ok (.iload_n 0, 1) := by decide +kernel
theorem dJ8_newLength_cabcc_22 : decode cJ8_newLength_cabcc 22 = .ok (.iload_n 1, 1) := by decide +kernel
theorem dJ8_newLength_cabcc_23 : decode cJ8_newLength_cabcc 23 = .ok (.invokestatic 201, 3) := by decide +kernel
theorem dJ8_newLength_cabcc_26 : decode cJ8_newLength_cabcc 26 = .ok (.ireturn, 1) := by decide +kernel
theorem dJ8_hugeLength_7cf53_0 : decode cJ8_hugeLength_7cf53 0 = .ok (.iload_n 0, 1) := by decide +kernel
theorem dJ8_hugeLength_7cf53_1 : decode cJ8_hugeLength_7cf53 1 = .ok (.iload_n 1, 1) := by decide +kernel
theorem dJ8_hugeLength_7cf53_2 : decode cJ8_hugeLength_7cf53 2 = .ok (.iadd, 1) := by decide +kernel
theorem dJ8_hugeLength_7cf53_3 : decode cJ8_hugeLength_7cf53 3 = .ok (.istore_n 2, 1) := by decide +kernel
theorem dJ8_hugeLength_7cf53_4 : decode cJ8_hugeLength_7cf53 4 = .ok (.iload_n 2, 1) := by decide +kernel
theorem dJ8_hugeLength_7cf53_5 : decode cJ8_hugeLength_7cf53 5 = .ok (.ifCond .ge 44, 3) := by decide +kernel
theorem dJ8_hugeLength_7cf53_8 : decode cJ8_hugeLength_7cf53 8 = .ok (.new 204, 3) := by decide +kernel
theorem dJ8_hugeLength_7cf53_11 : decode cJ8_hugeLength_7cf53 11 = .ok (.dup, 1) := by decide +kernel
theorem dJ8_hugeLength_7cf53_12 : decode cJ8_hugeLength_7cf53 12 = .ok (.new 89, 3) := by decide +kernel
theorem dJ8_hugeLength_7cf53_15 : decode cJ8_hugeLength_7cf53 15 = .ok (.dup, 1) := by decide +kernel
theorem dJ8_hugeLength_7cf53_16 : decode cJ8_hugeLength_7cf53 16 = .ok (.invokespecial 91, 3) := by decide +kernel
theorem dJ8_hugeLength_7cf53_19 : decode cJ8_hugeLength_7cf53 19 = .ok (.ldc 206, 2) := by decide +kernel
theorem dJ8_hugeLength_7cf53_21 : decode cJ8_hugeLength_7cf53 21 = .ok (.invokevirtual 94, 3) := by decide +kernel
theorem dJ8_hugeLength_7cf53_24 : decode cJ8_hugeLength_7cf53 24 = .ok (.iload_n 0, 1) := by decide +kernel
theorem dJ8_hugeLength_7cf53_25 : decode cJ8_hugeLength_7cf53 25 = .ok (.invokevirtual 98, 3) := by decide +kernel
theorem dJ8_hugeLength_7cf53_28 : decode cJ8_hugeLength_7cf53 28 = .ok (.ldc 208, 2) := by decide +kernel
theorem dJ8_hugeLength_7cf53_30 : decode cJ8_hugeLength_7cf53 30 = .ok (.invokevirtual 94, 3) := by decide +kernel
theorem dJ8_hugeLength_7cf53_33 : decode cJ8_hugeLength_7cf53 33 = .ok (.iload_n 1, 1) := by decide +kernel
theorem dJ8_hugeLength_7cf53_34 : decode cJ8_hugeLength_7cf53 34 = .ok (.invokevirtual 98, 3) := by decide +kernel
theorem dJ8_hugeLength_7cf53_37 : decode cJ8_hugeLength_7cf53 37 = .ok (.ldc 210, 2) := by decide +kernel
theorem dJ8_hugeLength_7cf53_39 : decode cJ8_hugeLength_7cf53 39 = .ok (.invokevirtual 94, 3) := by decide +kernel
theorem dJ8_hugeLength_7cf53_42 : decode cJ8_hugeLength_7cf53 42 = .ok (.invokevirtual 101, 3) := by decide +kernel
theorem dJ8_hugeLength_7cf53_45 : decode cJ8_hugeLength_7cf53 45 = .ok (.invokespecial 212, 3) := by decide +kernel
theorem dJ8_hugeLength_7cf53_48 : decode cJ8_hugeLength_7cf53 48 = .ok (.athrow, 1) := by decide +kernel
theorem dJ8_hugeLength_7cf53_49 : decode cJ8_hugeLength_7cf53 49 = .ok (.iload_n 2, 1) := by decide +kernel
theorem dJ8_hugeLength_7cf53_50 : decode cJ8_hugeLength_7cf53 50 = .ok (.ldc 200, 2) := by decide +kernel
theorem dJ8_hugeLength_7cf53_52 : decode cJ8_hugeLength_7cf53 52 = .ok (.if_icmp .gt 6, 3) := by decide +kernel
theorem dJ8_hugeLength_7cf53_55 : decode cJ8_hugeLength_7cf53 55 = .ok (.ldc 200, 2) := by decide +kernel
theorem dJ8_hugeLength_7cf53_57 : decode cJ8_hugeLength_7cf53 57 = .ok (.ireturn, 1) := by decide +kernel
theorem dJ8_hugeLength_7cf53_58 : decode cJ8_hugeLength_7cf53 58 = .ok (.iload_n 2, 1) := by decide +kernel
theorem dJ8_hugeLength_7cf53_59 : decode cJ8_hugeLength_7cf53 59 = .ok (.ireturn, 1) := by decide +kernel
theorem dJ3_checkIndex_8e157_0 : decode cJ3_checkIndex_8e157 0 = .ok (.iload_n 0, 1) := by decide +kernel
theorem dJ3_checkIndex_8e157_1 : decode cJ3_checkIndex_8e157 1 = .ok (.ifCond .lt 8, 3) := by decide +kernel
theorem dJ3_checkIndex_8e157_4 : decode cJ3_checkIndex_8e157 4 = .ok (.iload_n 0, 1) := by decide +kernel
theorem dJ3_checkIndex_8e157_5 : decode cJ3_checkIndex_8e157 5 = .ok (.iload_n 1, 1) := by decide +kernel
theorem dJ3_checkIndex_8e157_6 : decode cJ3_checkIndex_8e157 6 = .ok (.if_icmp .lt 10, 3) := by decide +kernel
theorem dJ3_checkIndex_8e157_9 : decode cJ3_checkIndex_8e157 9 = .ok (.aload_n 2, 1) := by decide +kernel
theorem dJ3_checkIndex_8e157_10 : decode cJ3_checkIndex_8e157 10 = .ok (.iload_n 0, 1) := by decide +kernel
theorem dJ3_checkIndex_8e157_11 : decode cJ3_checkIndex_8e157 11 = .ok (.iload_n 1, 1) := by decide +kernel
theorem dJ3_checkIndex_8e157_12 : decode cJ3_checkIndex_8e157 12 = .ok (.invokestatic 95, 3) := by decide +kernel
theorem dJ3_checkIndex_8e157_15 : decode cJ3_checkIndex_8e157 15 = .ok (.athrow, 1) := by decide +kernel
theorem dJ3_checkIndex_8e157_16 : decode cJ3_checkIndex_8e157 16 = .ok (.iload_n 0, 1) := by decide +kernel
theorem dJ3_checkIndex_8e157_17 : decode cJ3_checkIndex_8e157 17 = .ok (.ireturn, 1) := by decide +kernel
end
section
/-! rows of this claim: numbers by their integers, one-instruction rows over them, calls that read alone -/
def iI (z : Int) : Int32 := Int32.ofInt z
def lI (z : Int) : Int64 := Int64.ofInt z
abbrev R32 (z : Int) : Prop := -2147483648 ≤ z ∧ z ≤ 2147483647
abbrev R64 (z : Int) : Prop := -9223372036854775808 ≤ z ∧ z ≤ 9223372036854775807
theorem iI_toInt {z : Int} (h : R32 z) : (iI z).toInt = z := Int32.toInt_ofInt_of_le (by have := h.1; omega) (by have := h.2; omega)
theorem lI_toInt {z : Int} (h : R64 z) : (lI z).toInt = z := Int64.toInt_ofInt_of_le (by have := h.1; omega) (by have := h.2; omega)
theorem iI_self (x : Int32) : iI x.toInt = x := Int32.ofInt_toInt x
theorem iI_range (x : Int32) : R32 x.toInt := ⟨by have := Int32.le_toInt x; omega, by have := Int32.toInt_lt x; omega⟩
theorem iI_add (a b : Int) : iI a + iI b = iI (a + b) := (Int32.ofInt_add a b).symm
theorem iI_sub (a b : Int) : iI a - iI b = iI (a - b) := (Int32.ofInt_sub a b).symm
theorem iI_mul (a b : Int) : iI a * iI b = iI (a * b) := (Int32.ofInt_mul a b).symm
theorem lI_add (a b : Int) : lI a + lI b = lI (a + b) := (Int64.ofInt_add a b).symm
theorem lI_sub (a b : Int) : lI a - lI b = lI (a - b) := (Int64.ofInt_sub a b).symm
theorem lI_mul (a b : Int) : lI a * lI b = lI (a * b) := (Int64.ofInt_mul a b).symm
theorem iI_eq {a b : Int} (ha : R32 a) (hb : R32 b) : iI a = iI b ↔ a = b := by
  rw [← Int32.toInt_inj, iI_toInt ha, iI_toInt hb]
theorem iI_lt {a b : Int} (ha : R32 a) (hb : R32 b) : iI a < iI b ↔ a < b := by
  rw [Int32.lt_iff_toInt_lt, iI_toInt ha, iI_toInt hb]
theorem iI_le {a b : Int} (ha : R32 a) (hb : R32 b) : iI a ≤ iI b ↔ a ≤ b := by
  rw [Int32.le_iff_toInt_le, iI_toInt ha, iI_toInt hb]
theorem lI_lt {a b : Int} (ha : R64 a) (hb : R64 b) : lI a < lI b ↔ a < b := by
  rw [Int64.lt_iff_toInt_lt, lI_toInt ha, lI_toInt hb]
theorem lI_eq {a b : Int} (ha : R64 a) (hb : R64 b) : lI a = lI b ↔ a = b := by
  rw [← Int64.toInt_inj, lI_toInt ha, lI_toInt hb]
theorem iI_clamp {z : Int} (h0 : 0 ≤ z) (h1 : z < 2147483648) : (iI z).toNatClampNeg = z.toNat :=
  Int32.toNatClampNeg_ofInt_of_le (by omega) (by omega)
theorem iI_in {z : Int} {n : Nat} (h0 : 0 ≤ z) (h1 : z < n) (hn : n < 2147483648) : vp_in (iI z) n := by
  rw [vp_in_iff, iI_toInt ⟨by omega, by omega⟩]
  exact ⟨h0, h1⟩
theorem iI_nat (n : Nat) : Int32.ofNat n = iI (n : Int) := (Int32.ofInt_eq_ofNat).symm
theorem iI_div {a b : Int} (ha : 0 ≤ a) (ha2 : R32 a) (hb : 0 < b) (hb2 : R32 b) : iI a / iI b = iI (a / b) := by
  have h := Int32.ofInt_tdiv (a := a) (b := b) (by have := ha2.1; exact this) (by exact ha2.2) (by exact hb2.1) (by exact hb2.2)
  rw [Int.tdiv_eq_ediv_of_nonneg ha] at h
  exact h.symm
theorem lI_div {a b : Int} (ha : 0 ≤ a) (ha2 : R64 a) (hb : 0 < b) (hb2 : R64 b) : lI a / lI b = lI (a / b) := by
  have h := Int64.ofInt_tdiv (a := a) (b := b) (by exact ha2.1) (by exact ha2.2) (by exact hb2.1) (by exact hb2.2)
  rw [Int.tdiv_eq_ediv_of_nonneg ha] at h
  exact h.symm
theorem iI_rem {a b : Int} (ha : 0 ≤ a) (ha2 : R32 a) (hb : 0 < b) (hb2 : R32 b) : iI a - iI a / iI b * iI b = iI (a % b) := by
  rw [iI_div ha ha2 hb hb2, iI_mul, iI_sub]
  congr 1
  have := Int.emod_def a b
  rw [this, Int.mul_comm]
theorem lI_rem {a b : Int} (ha : 0 ≤ a) (ha2 : R64 a) (hb : 0 < b) (hb2 : R64 b) : lI a - lI a / lI b * lI b = lI (a % b) := by
  rw [lI_div ha ha2 hb hb2, lI_mul, lI_sub]
  congr 1
  have := Int.emod_def a b
  rw [this, Int.mul_comm]
theorem iI_long {a : Int} (ha : R32 a) : (iI a).toInt64 = lI a := Int32.toInt64_ofInt (by exact ha.1) (by exact ha.2)
theorem lI_int (a : Int) : (lI a).toInt32 = iI a := Int64.toInt32_ofInt
/-- a proposition as 1 or 0 -/
noncomputable def bI (q : Prop) : Int := @ite Int q (Classical.propDecidable q) 1 0
theorem bI_t {q : Prop} (h : q) : bI q = 1 := if_pos h
theorem bI_f {q : Prop} (h : ¬ q) : bI q = 0 := if_neg h
theorem bI_01 (q : Prop) : bI q = 0 ∨ bI q = 1 := by
  by_cases h : q
  · exact Or.inr (bI_t h)
  · exact Or.inl (bI_f h)
theorem bI_R (q : Prop) : R32 (bI q) := by
  rcases bI_01 q with h | h <;> rw [h] <;> decide
theorem bI_le (q : Prop) : 0 ≤ bI q ∧ bI q ≤ 1 := by
  rcases bI_01 q with h | h <;> rw [h] <;> decide
theorem bI_iff {q r : Prop} (h : q ↔ r) : bI q = bI r := by rw [propext h]
theorem bI_0 {q : Prop} : bI q = 0 ↔ ¬ q := by
  by_cases h : q
  · rw [bI_t h]; simp [h]
  · rw [bI_f h]; simp [h]
theorem bI_1 {q : Prop} : bI q = 1 ↔ q := by
  by_cases h : q
  · rw [bI_t h]; simp [h]
  · rw [bI_f h]; simp [h]
theorem bI_e1 {q : Prop} (h : q) : (1 : Int) = bI q := (bI_t h).symm
theorem bI_e0 {q : Prop} (h : ¬ q) : (0 : Int) = bI q := (bI_f h).symm
/-- one of two values -/
noncomputable def cI {α : Type} (q : Prop) (a b : α) : α := @ite α q (Classical.propDecidable q) a b
theorem cI_t {α : Type} {q : Prop} {a b : α} (h : q) : cI q a b = a := if_pos h
theorem cI_f {α : Type} {q : Prop} {a b : α} (h : ¬ q) : cI q a b = b := if_neg h
abbrev GG : Type := va_G × ClassId × ClassId × ClassId × ClassId
abbrev gT (g : GG) : List (ClassId × FieldType) := [(g.2.1, .int), (g.2.2.1, .long), (g.2.2.2.1, .boolean), (g.2.2.2.2, .object "java/lang/Object")]
def KK (g : GG) (U : State) : Prop := va_K g.1 vwCl (gT g) U ∧ va_Nw (.methodLinkNest RX1 97 yX5_isIn RX5) U
theorem KK.warm {g : GG} {s U : State} (hW : s.WarmedH U.vm) (h : KK g s) : KK g U := ⟨va_K.moved hW.alike h.1, va_Nw.warmM hW h.2⟩
theorem KK.calling {g : GG} {U : State} {f : JFrame} {mk : MethodId} {a : Array Value} (h : KK g U) : KK g (U.calling f mk a) := ⟨va_K.moved (u := U) (U := U.calling f mk a) (Vm.Alike.refl U.vm) h.1, va_Nw.same rfl (u := U) (U := U.calling f mk a) rfl h.2⟩
theorem va_P1 {D : va_G} {cl : List vw_C} {q : Nat × va_E} {H : Heap} (h : va_at D cl q H) : va_P D cl [q] H := by
  intro k x hx
  match k, hx with
  | 0, hx => cases hx; exact h
  | k + 1, hx => simp at hx
theorem va_D1 {A : Nat → Prop} {q : Nat × va_E} (h : A q.1) : va_D A [q] := by
  refine ⟨fun i j x y hx hy _ => ?_, fun k x hx => ?_⟩
  · have h1 : i < 1 := (List.getElem?_eq_some_iff.mp hx).1
    have h2 : j < 1 := (List.getElem?_eq_some_iff.mp hy).1
    omega
  · match k, hx with
    | 0, hx => cases hx; exact h
    | k + 1, hx => simp at hx
/-- a method that reads alone: its start -/
def RPc (as : List Value) (P : Heap → Prop) (g : GG) : Array Value → State → Prop := va_Pc as (fun U => P U.heap ∧ KK g U)
theorem RPc_blind {as : List Value} {P : Heap → Prop} {g : GG} : FrameBlind (RPc as P g) := fun _ _ _ _ q => ⟨q.1, q.2.1, q.2.2.calling⟩
theorem q_pS {s : State} {H : Heap} {g : GG} {As : List Value} {P : Heap → Prop} (hK : KK g s) (hp : P H) : PreS s H (RPc As P g) As :=
  ⟨RPc_blind, fun U hU hW => ⟨rfl, by rw [hU]; exact hp, hK.warm hW⟩⟩
theorem q_pV {s : State} {H : Heap} {g : GG} {b : Nat} {As : List Value} {P : Heap → Prop} {ci : Nat} {r : vw_C} {fs : List Value} (hK : KK g s) (hO : va_at g.1 vwCl (b, .inr (ci, fs)) H) (hc : vwCl[ci]? = some r) (hp : P H) : PreV s H r.1 b (RPc (.ref b :: As) P g) As :=
  ⟨RPc_blind, va_recv hK.1 (va_P1 hO) hc (q0 := 0) rfl, fun U hU hW => ⟨rfl, by rw [hU]; exact hp, hK.warm hW⟩⟩
abbrev MetI (l : Launch) (y : MethodName) (ws : List Cond) (rm : Room) (g : GG) (as : List Value) (P : Heap → Prop) (z : Int) : Prop := Met l y ws rm (RPc as P g) (vp_Si (fun r => r = iI z)) 0 0 (fun _ => False)
abbrev MetL (l : Launch) (y : MethodName) (ws : List Cond) (rm : Room) (g : GG) (as : List Value) (P : Heap → Prop) (z : Int) : Prop := Met l y ws rm (RPc as P g) (vp_Sl (fun r => r = lI z)) 0 0 (fun _ => False)
abbrev MetQ (l : Launch) (y : MethodName) (ws : List Cond) (rm : Room) (g : GG) (as : List Value) (P : Heap → Prop) (o : Option Nat) : Prop := Met l y ws rm (RPc as P g) (va_Sq (fun r => r = o)) 0 0 (fun _ => False)
section QRows
variable {p : Program} {l : Launch} {e : Env} {R : Room} {s : State} {m : MethodId} {args : Array Value} {below : List Frame} {meth : Method} {c : Code} {H : Heap} {locs : List Loc} {cells slots : Nat} {Q : State → Prop}
variable {cc : ByteArray} {pc : Nat} {ls : Array Slot} {rest : List Value} {g : GG}
theorem q_bipush (hexec : p.tables.exec = Jvm.exec) (hb : c.code = cc) {n : Int} (z : Int) (hdg : decode cc pc = .ok (.bipush n, 2)) (hv : (Int8.ofInt n).toInt32 = iI z) (k : W p l e R s m args below meth c H locs cells slots Q (F0 m (pc + 2) ls (.int (iI z) :: rest))) : W p l e R s m args below meth c H locs cells slots Q (F0 m pc ls rest) := lv_bipush hexec hb hdg hv k
theorem q_sipush (hexec : p.tables.exec = Jvm.exec) (hb : c.code = cc) {n : Int} (z : Int) (hdg : decode cc pc = .ok (.sipush n, 3)) (hv : (Int16.ofInt n).toInt32 = iI z) (k : W p l e R s m args below meth c H locs cells slots Q (F0 m (pc + 3) ls (.int (iI z) :: rest))) : W p l e R s m args below meth c H locs cells slots Q (F0 m pc ls rest) := lv_sipush hexec hb hdg hv k
theorem q_ldc (hexec : p.tables.exec = Jvm.exec) (hb : c.code = cc) {own : String} {index : Nat} {v : Int32} (z : Int) (hown : s.vm.findClass own = some m.cls) (hconst : (Jvm.Cond.constant own index v).before args s = true) (hv : v = iI z) (hdg : decode cc pc = .ok (.ldc index, 2)) (k : W p l e R s m args below meth c H locs cells slots Q (F0 m (pc + 2) ls (.int (iI z) :: rest))) : W p l e R s m args below meth c H locs cells slots Q (F0 m pc ls rest) := lv_ldc hexec hb hown hconst hdg (by rw [hv]; exact k)
theorem q_ldc2 (hexec : p.tables.exec = Jvm.exec) (hb : c.code = cc) {own : String} {index : Nat} {v : Int64} (z : Int) (hown : s.vm.findClass own = some m.cls) (hconst : (Jvm.Cond.constantLong own index v).before args s = true) (hv : v = lI z) (hdg : decode cc pc = .ok (.ldc2_w index, 3)) (k : W p l e R s m args below meth c H locs cells slots Q (F0 m (pc + 3) ls (.long (lI z) :: rest))) : W p l e R s m args below meth c H locs cells slots Q (F0 m pc ls rest) := lv_ldc2 hexec hb hown hconst hdg (by rw [hv]; exact k)
theorem q_iadd (hexec : p.tables.exec = Jvm.exec) (hb : c.code = cc) {a b : Int} (hdg : decode cc pc = .ok (.iadd, 1)) (k : W p l e R s m args below meth c H locs cells slots Q (F0 m (pc + 1) ls (.int (iI (a + b)) :: rest))) : W p l e R s m args below meth c H locs cells slots Q (F0 m pc ls (.int (iI b) :: .int (iI a) :: rest)) := lv_iadd hexec hb hdg (by rw [iI_add]; exact k)
theorem q_isub (hexec : p.tables.exec = Jvm.exec) (hb : c.code = cc) {a b : Int} (hdg : decode cc pc = .ok (.isub, 1)) (k : W p l e R s m args below meth c H locs cells slots Q (F0 m (pc + 1) ls (.int (iI (a - b)) :: rest))) : W p l e R s m args below meth c H locs cells slots Q (F0 m pc ls (.int (iI b) :: .int (iI a) :: rest)) := lv_isub hexec hb hdg (by rw [iI_sub]; exact k)
theorem q_imul (hexec : p.tables.exec = Jvm.exec) (hb : c.code = cc) {a b : Int} (hdg : decode cc pc = .ok (.imul, 1)) (k : W p l e R s m args below meth c H locs cells slots Q (F0 m (pc + 1) ls (.int (iI (a * b)) :: rest))) : W p l e R s m args below meth c H locs cells slots Q (F0 m pc ls (.int (iI b) :: .int (iI a) :: rest)) := lv_imul hexec hb hdg (by rw [iI_mul]; exact k)
theorem q_irem (hexec : p.tables.exec = Jvm.exec) (hb : c.code = cc) {a b : Int} (ha : 0 ≤ a ∧ R32 a) (hb0 : 0 < b ∧ R32 b) (hdg : decode cc pc = .ok (.irem, 1)) (k : W p l e R s m args below meth c H locs cells slots Q (F0 m (pc + 1) ls (.int (iI (a % b)) :: rest))) : W p l e R s m args below meth c H locs cells slots Q (F0 m pc ls (.int (iI b) :: .int (iI a) :: rest)) := by
  refine lv_irem hexec hb hdg (fun h => ?_) (by rw [iI_rem ha.1 ha.2 hb0.1 hb0.2]; exact k)
  have h0 : iI b = iI 0 := h
  rw [iI_eq hb0.2 (by decide)] at h0
  have := hb0.1
  omega
theorem q_ladd (hexec : p.tables.exec = Jvm.exec) (hb : c.code = cc) {a b : Int} (hdg : decode cc pc = .ok (.ladd, 1)) (k : W p l e R s m args below meth c H locs cells slots Q (F0 m (pc + 1) ls (.long (lI (a + b)) :: rest))) : W p l e R s m args below meth c H locs cells slots Q (F0 m pc ls (.long (lI b) :: .long (lI a) :: rest)) := lv_ladd hexec hb hdg (by rw [lI_add]; exact k)
theorem q_lsub (hexec : p.tables.exec = Jvm.exec) (hb : c.code = cc) {a b : Int} (hdg : decode cc pc = .ok (.lsub, 1)) (k : W p l e R s m args below meth c H locs cells slots Q (F0 m (pc + 1) ls (.long (lI (a - b)) :: rest))) : W p l e R s m args below meth c H locs cells slots Q (F0 m pc ls (.long (lI b) :: .long (lI a) :: rest)) := lv_lsub hexec hb hdg (by rw [lI_sub]; exact k)
theorem q_lmul (hexec : p.tables.exec = Jvm.exec) (hb : c.code = cc) {a b : Int} (hdg : decode cc pc = .ok (.lmul, 1)) (k : W p l e R s m args below meth c H locs cells slots Q (F0 m (pc + 1) ls (.long (lI (a * b)) :: rest))) : W p l e R s m args below meth c H locs cells slots Q (F0 m pc ls (.long (lI b) :: .long (lI a) :: rest)) := lv_lmul hexec hb hdg (by rw [lI_mul]; exact k)
theorem lI_ne0 {b : Int} (hb0 : 0 < b ∧ R64 b) : ¬ lI b = 0 := by
  intro h
  have h0 : lI b = lI 0 := h
  rw [lI_eq hb0.2 (by decide)] at h0
  have := hb0.1
  omega
theorem q_ldiv (hexec : p.tables.exec = Jvm.exec) (hb : c.code = cc) {a b : Int} (ha : 0 ≤ a ∧ R64 a) (hb0 : 0 < b ∧ R64 b) (hdg : decode cc pc = .ok (.ldiv, 1)) (k : W p l e R s m args below meth c H locs cells slots Q (F0 m (pc + 1) ls (.long (lI (a / b)) :: rest))) : W p l e R s m args below meth c H locs cells slots Q (F0 m pc ls (.long (lI b) :: .long (lI a) :: rest)) :=
  lv_ldiv hexec hb hdg (lI_ne0 hb0) (by rw [lI_div ha.1 ha.2 hb0.1 hb0.2]; exact k)
theorem q_lrem (hexec : p.tables.exec = Jvm.exec) (hb : c.code = cc) {a b : Int} (ha : 0 ≤ a ∧ R64 a) (hb0 : 0 < b ∧ R64 b) (hdg : decode cc pc = .ok (.lrem, 1)) (k : W p l e R s m args below meth c H locs cells slots Q (F0 m (pc + 1) ls (.long (lI (a % b)) :: rest))) : W p l e R s m args below meth c H locs cells slots Q (F0 m pc ls (.long (lI b) :: .long (lI a) :: rest)) :=
  lv_lrem hexec hb hdg (lI_ne0 hb0) (by rw [lI_rem ha.1 ha.2 hb0.1 hb0.2]; exact k)
theorem q_i2l (hexec : p.tables.exec = Jvm.exec) (hb : c.code = cc) {a : Int} (ha : R32 a) (hdg : decode cc pc = .ok (.i2l, 1)) (k : W p l e R s m args below meth c H locs cells slots Q (F0 m (pc + 1) ls (.long (lI a) :: rest))) : W p l e R s m args below meth c H locs cells slots Q (F0 m pc ls (.int (iI a) :: rest)) := lv_i2l hexec hb hdg (iI_long ha) k
theorem q_l2i (hexec : p.tables.exec = Jvm.exec) (hb : c.code = cc) {a : Int} (hdg : decode cc pc = .ok (.l2i, 1)) (k : W p l e R s m args below meth c H locs cells slots Q (F0 m (pc + 1) ls (.int (iI a) :: rest))) : W p l e R s m args below meth c H locs cells slots Q (F0 m pc ls (.long (lI a) :: rest)) := lv_l2i hexec hb hdg (lI_int a) k
/- BRANCHES -/
theorem q_icmp_eq (hexec : p.tables.exec = Jvm.exec) (hb : c.code = cc) {a b off : Int} {tgt : Nat} (hdg : decode cc pc = .ok (.if_icmp .eq off, 3)) (ht : (pc : Int) + off = (tgt : Int)) (ra : R32 a) (rb : R32 b) (kt : a = b → W p l e R s m args below meth c H locs cells slots Q (F0 m tgt ls rest)) (kf : a ≠ b → W p l e R s m args below meth c H locs cells slots Q (F0 m (pc + 3) ls rest)) : W p l e R s m args below meth c H locs cells slots Q (F0 m pc ls (.int (iI b) :: .int (iI a) :: rest)) := lv_icmp_eq hexec hb hdg ht (fun h => kt ((iI_eq ra rb).mp h)) (fun h => kf (fun z => h ((iI_eq ra rb).mpr z)))
theorem q_if_eq (hexec : p.tables.exec = Jvm.exec) (hb : c.code = cc) {a off : Int} {tgt : Nat} (hdg : decode cc pc = .ok (.ifCond .eq off, 3)) (ht : (pc : Int) + off = (tgt : Int)) (ra : R32 a) (kt : a = 0 → W p l e R s m args below meth c H locs cells slots Q (F0 m tgt ls rest)) (kf : a ≠ 0 → W p l e R s m args below meth c H locs cells slots Q (F0 m (pc + 3) ls rest)) : W p l e R s m args below meth c H locs cells slots Q (F0 m pc ls (.int (iI a) :: rest)) := by
  have rb : R32 0 := by decide
  exact lv_if_eq hexec hb hdg ht (fun h => kt ((iI_eq ra rb).mp h)) (fun h => kf (fun z => h ((iI_eq ra rb).mpr z)))
theorem q_icmp_ne (hexec : p.tables.exec = Jvm.exec) (hb : c.code = cc) {a b off : Int} {tgt : Nat} (hdg : decode cc pc = .ok (.if_icmp .ne off, 3)) (ht : (pc : Int) + off = (tgt : Int)) (ra : R32 a) (rb : R32 b) (kt : a ≠ b → W p l e R s m args below meth c H locs cells slots Q (F0 m tgt ls rest)) (kf : a = b → W p l e R s m args below meth c H locs cells slots Q (F0 m (pc + 3) ls rest)) : W p l e R s m args below meth c H locs cells slots Q (F0 m pc ls (.int (iI b) :: .int (iI a) :: rest)) := lv_icmp_ne hexec hb hdg ht (fun h => kt (fun z => h ((iI_eq ra rb).mpr z))) (fun h => kf ((iI_eq ra rb).mp h))
theorem q_if_ne (hexec : p.tables.exec = Jvm.exec) (hb : c.code = cc) {a off : Int} {tgt : Nat} (hdg : decode cc pc = .ok (.ifCond .ne off, 3)) (ht : (pc : Int) + off = (tgt : Int)) (ra : R32 a) (kt : a ≠ 0 → W p l e R s m args below meth c H locs cells slots Q (F0 m tgt ls rest)) (kf : a = 0 → W p l e R s m args below meth c H locs cells slots Q (F0 m (pc + 3) ls rest)) : W p l e R s m args below meth c H locs cells slots Q (F0 m pc ls (.int (iI a) :: rest)) := by
  have rb : R32 0 := by decide
  exact lv_if_ne hexec hb hdg ht (fun h => kt (fun z => h ((iI_eq ra rb).mpr z))) (fun h => kf ((iI_eq ra rb).mp h))
theorem q_icmp_lt (hexec : p.tables.exec = Jvm.exec) (hb : c.code = cc) {a b off : Int} {tgt : Nat} (hdg : decode cc pc = .ok (.if_icmp .lt off, 3)) (ht : (pc : Int) + off = (tgt : Int)) (ra : R32 a) (rb : R32 b) (kt : a < b → W p l e R s m args below meth c H locs cells slots Q (F0 m tgt ls rest)) (kf : b ≤ a → W p l e R s m args below meth c H locs cells slots Q (F0 m (pc + 3) ls rest)) : W p l e R s m args below meth c H locs cells slots Q (F0 m pc ls (.int (iI b) :: .int (iI a) :: rest)) := lv_icmp_lt hexec hb hdg ht (fun h => kt ((iI_lt ra rb).mp h)) (fun h => kf (Int.not_lt.mp (fun z => h ((iI_lt ra rb).mpr z))))
theorem q_if_lt (hexec : p.tables.exec = Jvm.exec) (hb : c.code = cc) {a off : Int} {tgt : Nat} (hdg : decode cc pc = .ok (.ifCond .lt off, 3)) (ht : (pc : Int) + off = (tgt : Int)) (ra : R32 a) (kt : a < 0 → W p l e R s m args below meth c H locs cells slots Q (F0 m tgt ls rest)) (kf : 0 ≤ a → W p l e R s m args below meth c H locs cells slots Q (F0 m (pc + 3) ls rest)) : W p l e R s m args below meth c H locs cells slots Q (F0 m pc ls (.int (iI a) :: rest)) := by
  have rb : R32 0 := by decide
  exact lv_if_lt hexec hb hdg ht (fun h => kt ((iI_lt ra rb).mp h)) (fun h => kf (Int.not_lt.mp (fun z => h ((iI_lt ra rb).mpr z))))
theorem q_icmp_ge (hexec : p.tables.exec = Jvm.exec) (hb : c.code = cc) {a b off : Int} {tgt : Nat} (hdg : decode cc pc = .ok (.if_icmp .ge off, 3)) (ht : (pc : Int) + off = (tgt : Int)) (ra : R32 a) (rb : R32 b) (kt : b ≤ a → W p l e R s m args below meth c H locs cells slots Q (F0 m tgt ls rest)) (kf : a < b → W p l e R s m args below meth c H locs cells slots Q (F0 m (pc + 3) ls rest)) : W p l e R s m args below meth c H locs cells slots Q (F0 m pc ls (.int (iI b) :: .int (iI a) :: rest)) := lv_icmp_ge hexec hb hdg ht (fun h => kt ((iI_le rb ra).mp h)) (fun h => kf (Int.not_le.mp (fun z => h ((iI_le rb ra).mpr z))))
theorem q_if_ge (hexec : p.tables.exec = Jvm.exec) (hb : c.code = cc) {a off : Int} {tgt : Nat} (hdg : decode cc pc = .ok (.ifCond .ge off, 3)) (ht : (pc : Int) + off = (tgt : Int)) (ra : R32 a) (kt : 0 ≤ a → W p l e R s m args below meth c H locs cells slots Q (F0 m tgt ls rest)) (kf : a < 0 → W p l e R s m args below meth c H locs cells slots Q (F0 m (pc + 3) ls rest)) : W p l e R s m args below meth c H locs cells slots Q (F0 m pc ls (.int (iI a) :: rest)) := by
  have rb : R32 0 := by decide
  exact lv_if_ge hexec hb hdg ht (fun h => kt ((iI_le rb ra).mp h)) (fun h => kf (Int.not_le.mp (fun z => h ((iI_le rb ra).mpr z))))
theorem q_icmp_gt (hexec : p.tables.exec = Jvm.exec) (hb : c.code = cc) {a b off : Int} {tgt : Nat} (hdg : decode cc pc = .ok (.if_icmp .gt off, 3)) (ht : (pc : Int) + off = (tgt : Int)) (ra : R32 a) (rb : R32 b) (kt : b < a → W p l e R s m args below meth c H locs cells slots Q (F0 m tgt ls rest)) (kf : a ≤ b → W p l e R s m args below meth c H locs cells slots Q (F0 m (pc + 3) ls rest)) : W p l e R s m args below meth c H locs cells slots Q (F0 m pc ls (.int (iI b) :: .int (iI a) :: rest)) := lv_icmp_gt hexec hb hdg ht (fun h => kt ((iI_lt rb ra).mp h)) (fun h => kf (Int.not_lt.mp (fun z => h ((iI_lt rb ra).mpr z))))
theorem q_if_gt (hexec : p.tables.exec = Jvm.exec) (hb : c.code = cc) {a off : Int} {tgt : Nat} (hdg : decode cc pc = .ok (.ifCond .gt off, 3)) (ht : (pc : Int) + off = (tgt : Int)) (ra : R32 a) (kt : 0 < a → W p l e R s m args below meth c H locs cells slots Q (F0 m tgt ls rest)) (kf : a ≤ 0 → W p l e R s m args below meth c H locs cells slots Q (F0 m (pc + 3) ls rest)) : W p l e R s m args below meth c H locs cells slots Q (F0 m pc ls (.int (iI a) :: rest)) := by
  have rb : R32 0 := by decide
  exact lv_if_gt hexec hb hdg ht (fun h => kt ((iI_lt rb ra).mp h)) (fun h => kf (Int.not_lt.mp (fun z => h ((iI_lt rb ra).mpr z))))
theorem q_icmp_le (hexec : p.tables.exec = Jvm.exec) (hb : c.code = cc) {a b off : Int} {tgt : Nat} (hdg : decode cc pc = .ok (.if_icmp .le off, 3)) (ht : (pc : Int) + off = (tgt : Int)) (ra : R32 a) (rb : R32 b) (kt : a ≤ b → W p l e R s m args below meth c H locs cells slots Q (F0 m tgt ls rest)) (kf : b < a → W p l e R s m args below meth c H locs cells slots Q (F0 m (pc + 3) ls rest)) : W p l e R s m args below meth c H locs cells slots Q (F0 m pc ls (.int (iI b) :: .int (iI a) :: rest)) := lv_icmp_le hexec hb hdg ht (fun h => kt ((iI_le ra rb).mp h)) (fun h => kf (Int.not_le.mp (fun z => h ((iI_le ra rb).mpr z))))
theorem q_if_le (hexec : p.tables.exec = Jvm.exec) (hb : c.code = cc) {a off : Int} {tgt : Nat} (hdg : decode cc pc = .ok (.ifCond .le off, 3)) (ht : (pc : Int) + off = (tgt : Int)) (ra : R32 a) (kt : a ≤ 0 → W p l e R s m args below meth c H locs cells slots Q (F0 m tgt ls rest)) (kf : 0 < a → W p l e R s m args below meth c H locs cells slots Q (F0 m (pc + 3) ls rest)) : W p l e R s m args below meth c H locs cells slots Q (F0 m pc ls (.int (iI a) :: rest)) := by
  have rb : R32 0 := by decide
  exact lv_if_le hexec hb hdg ht (fun h => kt ((iI_le ra rb).mp h)) (fun h => kf (Int.not_le.mp (fun z => h ((iI_le ra rb).mpr z))))
theorem q_ifb_eq (hexec : p.tables.exec = Jvm.exec) (hb : c.code = cc) {q : Prop} {off : Int} {tgt : Nat} (hdg : decode cc pc = .ok (.ifCond .eq off, 3)) (ht : (pc : Int) + off = (tgt : Int)) (kt : ¬ q → W p l e R s m args below meth c H locs cells slots Q (F0 m tgt ls rest)) (kf : q → W p l e R s m args below meth c H locs cells slots Q (F0 m (pc + 3) ls rest)) : W p l e R s m args below meth c H locs cells slots Q (F0 m pc ls (.int (iI (bI q)) :: rest)) := q_if_eq hexec hb hdg ht (bI_R q) (fun h => kt (bI_0.mp h)) (fun h => kf (Classical.not_not.mp (fun z => h (bI_0.mpr z))))
theorem q_ifb_ne (hexec : p.tables.exec = Jvm.exec) (hb : c.code = cc) {q : Prop} {off : Int} {tgt : Nat} (hdg : decode cc pc = .ok (.ifCond .ne off, 3)) (ht : (pc : Int) + off = (tgt : Int)) (kt : q → W p l e R s m args below meth c H locs cells slots Q (F0 m tgt ls rest)) (kf : ¬ q → W p l e R s m args below meth c H locs cells slots Q (F0 m (pc + 3) ls rest)) : W p l e R s m args below meth c H locs cells slots Q (F0 m pc ls (.int (iI (bI q)) :: rest)) := q_if_ne hexec hb hdg ht (bI_R q) (fun h => kt (Classical.not_not.mp (fun z => h (bI_0.mpr z)))) (fun h => kf (bI_0.mp h))
/-- long compare, then if -/
theorem lg_le0 {a b : Int} (ra : R64 a) (rb : R64 b) : True := trivial
/-- a field that is read -/
theorem q_get (hexec : p.tables.exec = Jvm.exec) (hb : c.code = cc) {own ref C : String} {T : u_T} {N ci index a : Nat} {Ts : List Cond} (hts : ∀ w ∈ Ts, w.before args s = true) (hin : ∀ w ∈ u_ws C T N, w ∈ Ts) (hown : s.vm.findClass own = some m.cls) (hK : KK g s) {fs : List Value} (hO : va_at g.1 vwCl (a, .inr (ci, fs)) H) (hc : vwCl[ci]? = some (C, T, N)) (k : Nat) (hk : k < N) (hlink : (Cond.fieldLink own index ref (T k).2.1 (T k).2.2.1).before args s = true) (hsame : ∀ x, s.fieldFound? (T k).1 (T k).2.1 (T k).2.2.1 = some x → s.fieldFound? ref (T k).2.1 (T k).2.2.1 = some x) {v : Value} (hv : fs[k]? = some v) (hdg : decode cc pc = .ok (.getfield index, 3)) (kk : W p l e R s m args below meth c H locs cells slots Q (F0 m (pc + 3) ls (v :: rest))) : W p l e R s m args below meth c H locs cells slots Q (F0 m pc ls (.ref a :: rest)) :=
  va_get hexec hb hts hin hown hK.1 (va_P1 hO) 0 rfl hc k hk hlink hsame hv hdg kk
/-- an int out of an array of ints -/
theorem q_iald (hexec : p.tables.exec = Jvm.exec) (hb : c.code = cc) (hK : KK g s) {a n : Nat} {f : Int → Int} (hO : va_at g.1 vwCl (a, .inl (g.2.1, n, .inl (fun j => iI (f (j : Int))))) H) (hn : n < 2147483648) {z : Int} (hz : 0 ≤ z ∧ z < n) (hdg : decode cc pc = .ok (.iaload, 1)) (kk : W p l e R s m args below meth c H locs cells slots Q (F0 m (pc + 1) ls (.int (iI (f z)) :: rest))) : W p l e R s m args below meth c H locs cells slots Q (F0 m pc ls (.int (iI z) :: .ref a :: rest)) := by
  refine va_iald hexec hb hK.1 (va_P1 hO) 0 0 rfl rfl (iI_in hz.1 hz.2 hn) hdg ?_
  rw [iI_clamp hz.1 (by omega)]
  have e : ((z.toNat : Nat) : Int) = z := Int.toNat_of_nonneg hz.1
  rw [e]
  exact kk
theorem q_zald (hexec : p.tables.exec = Jvm.exec) (hb : c.code = cc) (hK : KK g s) {a n : Nat} {f : Int → Int} (hO : va_at g.1 vwCl (a, .inl (g.2.2.2.1, n, .inl (fun j => iI (f (j : Int))))) H) (hn : n < 2147483648) {z : Int} (hz : 0 ≤ z ∧ z < n) (hdg : decode cc pc = .ok (.baload, 1)) (kk : W p l e R s m args below meth c H locs cells slots Q (F0 m (pc + 1) ls (.int (iI (f z)) :: rest))) : W p l e R s m args below meth c H locs cells slots Q (F0 m pc ls (.int (iI z) :: .ref a :: rest)) := by
  refine va_zald hexec hb hK.1 (va_P1 hO) 0 2 rfl rfl (iI_in hz.1 hz.2 hn) hdg ?_
  rw [iI_clamp hz.1 (by omega)]
  have e : ((z.toNat : Nat) : Int) = z := Int.toNat_of_nonneg hz.1
  rw [e]
  exact kk
theorem q_lald (hexec : p.tables.exec = Jvm.exec) (hb : c.code = cc) (hK : KK g s) {a n : Nat} {f : Int → Int} (hO : va_at g.1 vwCl (a, .inl (g.2.2.1, n, .inr (.inl (fun j => lI (f (j : Int)))))) H) (hn : n < 2147483648) {z : Int} (hz : 0 ≤ z ∧ z < n) (hdg : decode cc pc = .ok (.laload, 1)) (kk : W p l e R s m args below meth c H locs cells slots Q (F0 m (pc + 1) ls (.long (lI (f z)) :: rest))) : W p l e R s m args below meth c H locs cells slots Q (F0 m pc ls (.int (iI z) :: .ref a :: rest)) := by
  refine va_lald hexec hb hK.1 (va_P1 hO) 0 1 rfl rfl (iI_in hz.1 hz.2 hn) hdg ?_
  rw [iI_clamp hz.1 (by omega)]
  have e : ((z.toNat : Nat) : Int) = z := Int.toNat_of_nonneg hz.1
  rw [e]
  exact kk
theorem q_alen (hexec : p.tables.exec = Jvm.exec) (hb : c.code = cc) (hK : KK g s) {a t0 : Nat} {cA : ClassId} {x : vp_A} {ty : FieldType} (hO : va_at g.1 vwCl (a, .inl (cA, x)) H) (ht : (gT g)[t0]? = some (cA, ty)) {z : Int} (hz : (x.1 : Int) = z) (hdg : decode cc pc = .ok (.arraylength, 1)) (kk : W p l e R s m args below meth c H locs cells slots Q (F0 m (pc + 1) ls (.int (iI z) :: rest))) : W p l e R s m args below meth c H locs cells slots Q (F0 m pc ls (.ref a :: rest)) := by
  refine va_alen hexec hb hK.1 (va_P1 hO) 0 t0 rfl ht (v := iI z) ?_ hdg kk
  rw [iI_nat, hz]
theorem q_aldq (hexec : p.tables.exec = Jvm.exec) (hb : c.code = cc) (hK : KK g s) {a n : Nat} {f : Nat → Option Nat} (hO : va_at g.1 vwCl (a, .inl (g.2.2.2.2, n, .inr (.inr (.inr (.inr f))))) H) (hn : n < 2147483648) {z : Int} (hz : 0 ≤ z ∧ z < n) (hdg : decode cc pc = .ok (.aaload, 1)) (kk : W p l e R s m args below meth c H locs cells slots Q (F0 m (pc + 1) ls (va_rf (f z.toNat) :: rest))) : W p l e R s m args below meth c H locs cells slots Q (F0 m pc ls (.int (iI z) :: .ref a :: rest)) := by
  refine va_aldq hexec hb hK.1 (va_P1 hO) 0 3 rfl rfl (iI_in hz.1 hz.2 hn) hdg ?_
  rw [iI_clamp hz.1 (by omega)]
  exact kk
theorem q_aload (hexec : p.tables.exec = Jvm.exec) (hb : c.code = cc) {i : Nat} {x : Nat} (hdg : decode cc pc = .ok (.aload i, 2)) (hl : ls[i]? = some (.val (.ref x))) (k : W p l e R s m args below meth c H locs cells slots Q (F0 m (pc + 2) ls (.ref x :: rest))) : W p l e R s m args below meth c H locs cells slots Q (F0 m pc ls rest) := lv_aload hexec hb hdg hl k
theorem q_top {a : Int} (z : Int) (h : a = z) (k : W p l e R s m args below meth c H locs cells slots Q (F0 m pc ls (.int (iI z) :: rest))) : W p l e R s m args below meth c H locs cells slots Q (F0 m pc ls (.int (iI a) :: rest)) := by rw [h]; exact k
theorem q_join {nL : Nat} {st : List Value} (pj : Nat) (sj : List Value) (lj : List (Nat × Value)) (J : ∀ ls' : Array Slot, lv_has ls' nL lj → W p l e R s m args below meth c H locs cells slots Q (F0 m pj ls' sj)) (k : (∀ ls' : Array Slot, lv_has ls' nL lj → W p l e R s m args below meth c H locs cells slots Q (F0 m pj ls' sj)) → W p l e R s m args below meth c H locs cells slots Q (F0 m pc ls st)) : W p l e R s m args below meth c H locs cells slots Q (F0 m pc ls st) := k J
theorem q_tabOut (hexec : p.tables.exec = Jvm.exec) (hb : c.code = cc) {dflt lo hi : Int} {offs : Array Int} {len : Nat} {z : Int} {tgt : Nat} (hdg : decode cc pc = .ok (.tableswitch dflt lo hi offs, len)) (r : R32 z) (h : z < lo ∨ hi < z) (ht : (pc : Int) + dflt = (tgt : Int)) (k : W p l e R s m args below meth c H locs cells slots Q (F0 m tgt ls rest)) : W p l e R s m args below meth c H locs cells slots Q (F0 m pc ls (.int (iI z) :: rest)) :=
  lv_tableOut hexec hb hdg (by rw [iI_toInt r]; exact h) ht k
theorem q_tabIn (hexec : p.tables.exec = Jvm.exec) (hb : c.code = cc) {dflt lo hi : Int} {offs : Array Int} {len : Nat} {z k off : Int} {tgt : Nat} (hdg : decode cc pc = .ok (.tableswitch dflt lo hi offs, len)) (r : R32 z) (h : z = k) (h1 : ¬ k < lo) (h2 : ¬ hi < k) (ho : offs[(k - lo).toNat]? = some off) (ht : (pc : Int) + off = (tgt : Int)) (kk : W p l e R s m args below meth c H locs cells slots Q (F0 m tgt ls rest)) : W p l e R s m args below meth c H locs cells slots Q (F0 m pc ls (.int (iI z) :: rest)) :=
  lv_tableIn hexec hb hdg (by rw [iI_toInt r, h]; exact h1) (by rw [iI_toInt r, h]; exact h2) (by rw [iI_toInt r, h]; exact ho) ht kk
/-- a loop: by a measure; what the locals hold, by the loop's own state -/
theorem q_loop {σ : Type} {nL : Nat} (I : σ → Prop) (μ : σ → Nat) (lc : σ → List (Nat × Value)) (x0 : σ) (h0 : I x0) (hl : lv_has ls nL (lc x0))
    (step : ∀ x, I x → (∀ y, I y → μ y < μ x → ∀ ls' : Array Slot, lv_has ls' nL (lc y) → W p l e R s m args below meth c H locs cells slots Q (F0 m pc ls' [])) → ∀ ls' : Array Slot, lv_has ls' nL (lc x) → W p l e R s m args below meth c H locs cells slots Q (F0 m pc ls' [])) : W p l e R s m args below meth c H locs cells slots Q (F0 m pc ls []) := by
  have key : ∀ k : Nat, ∀ x, I x → μ x < k → ∀ ls' : Array Slot, lv_has ls' nL (lc x) → W p l e R s m args below meth c H locs cells slots Q (F0 m pc ls' []) := by
    intro k
    induction k with
    | zero => intro x _ h; exact absurd h (Nat.not_lt_zero _)
    | succ k ih => exact fun x hx hk ls' hl' => step x hx (fun y hy hm ls2 hl2 => ih y hy (by omega) ls2 hl2) ls' hl'
  exact key (μ x0 + 1) x0 h0 (Nat.lt_succ_self _) ls hl
/-- a loop that counts up to N -/
theorem q_loopN {nL : Nat} (N : Nat) (lc : Nat → List (Nat × Value)) (hl : lv_has ls nL (lc 0))
    (step : ∀ i, i ≤ N → (i + 1 ≤ N → ∀ ls' : Array Slot, lv_has ls' nL (lc (i + 1)) → W p l e R s m args below meth c H locs cells slots Q (F0 m pc ls' [])) → ∀ ls' : Array Slot, lv_has ls' nL (lc i) → W p l e R s m args below meth c H locs cells slots Q (F0 m pc ls' [])) : W p l e R s m args below meth c H locs cells slots Q (F0 m pc ls []) :=
  q_loop (fun i => i ≤ N) (fun i => N - i) lc 0 (Nat.zero_le _) hl (fun i hi ih ls' hl' => step i hi (fun h1 ls2 hl2 => ih (i + 1) h1 (by omega) ls2 hl2) ls' hl')
variable {y : MethodName} {bytes : ByteArray} {maxL nL n index : Nat} {ret : Option FieldType} {ws : List Cond} {rm : Room} {Ts : List Cond} {own C : String} {b : Nat} {As st0 : List Value} {P : Heap → Prop}
theorem q_cVi {z : Int} {nL : Nat} (S : CallFix p m c cc nL s args Ts own) (hM : MetI l y ws rm g (.ref b :: As) P z) (cw : CallW R s args own C index y bytes maxL ret ws rm 0 0 n) (hp : PreV s H C b (RPc (.ref b :: As) P g) As) (hn : As.length = n) (hl : ls.size = nL) (hst : st0 = As.reverse ++ .ref b :: rest) (hW : (rest.map fun v => v.category).sum ≤ 8) (hf : cells ≤ R.cells ∧ slots ≤ R.slots) (hdg : decode cc pc = .ok (.invokevirtual index, 3)) (kk : W p l e R s m args below meth c H locs cells slots Q (F0 m (pc + 3) ls (.int (iI z) :: rest))) : W p l e R s m args below meth c H locs cells slots Q (F0 m pc ls st0) :=
  vp_callSi (W.runV S hM cw hp rfl hn hl hst (lv_room hW) hdg hf) (fun r hr => by rw [hr]; exact kk)
theorem q_cVl {z : Int} {nL : Nat} (S : CallFix p m c cc nL s args Ts own) (hM : MetL l y ws rm g (.ref b :: As) P z) (cw : CallW R s args own C index y bytes maxL ret ws rm 0 0 n) (hp : PreV s H C b (RPc (.ref b :: As) P g) As) (hn : As.length = n) (hl : ls.size = nL) (hst : st0 = As.reverse ++ .ref b :: rest) (hW : (rest.map fun v => v.category).sum ≤ 8) (hf : cells ≤ R.cells ∧ slots ≤ R.slots) (hdg : decode cc pc = .ok (.invokevirtual index, 3)) (kk : W p l e R s m args below meth c H locs cells slots Q (F0 m (pc + 3) ls (.long (lI z) :: rest))) : W p l e R s m args below meth c H locs cells slots Q (F0 m pc ls st0) :=
  vp_callSl (W.runV S hM cw hp rfl hn hl hst (lv_room hW) hdg hf) (fun r hr => by rw [hr]; exact kk)
theorem q_cVq {o : Option Nat} {nL : Nat} (S : CallFix p m c cc nL s args Ts own) (hM : MetQ l y ws rm g (.ref b :: As) P o) (cw : CallW R s args own C index y bytes maxL ret ws rm 0 0 n) (hp : PreV s H C b (RPc (.ref b :: As) P g) As) (hn : As.length = n) (hl : ls.size = nL) (hst : st0 = As.reverse ++ .ref b :: rest) (hW : (rest.map fun v => v.category).sum ≤ 8) (hf : cells ≤ R.cells ∧ slots ≤ R.slots) (hdg : decode cc pc = .ok (.invokevirtual index, 3)) (kk : W p l e R s m args below meth c H locs cells slots Q (F0 m (pc + 3) ls (va_rf o :: rest))) : W p l e R s m args below meth c H locs cells slots Q (F0 m pc ls st0) :=
  va_csq (W.runV S hM cw hp rfl hn hl hst (lv_room hW) hdg hf) (fun r hr => by rw [hr]; exact kk)
theorem q_cSi {z : Int} {nL : Nat} (S : CallFix p m c cc nL s args Ts own) (hM : MetI l y ws rm g As P z) (cw : CallB R s args own index y bytes maxL ret ws rm 0 0 n ∧ (Cond.static y).before args s = true) (hp : PreS s H (RPc As P g) As) (hn : As.length = n) (hl : ls.size = nL) (hst : st0 = As.reverse ++ rest) (hW : (rest.map fun v => v.category).sum ≤ 8) (hf : cells ≤ R.cells ∧ slots ≤ R.slots) (hdg : decode cc pc = .ok (.invokestatic index, 3)) (kk : W p l e R s m args below meth c H locs cells slots Q (F0 m (pc + 3) ls (.int (iI z) :: rest))) : W p l e R s m args below meth c H locs cells slots Q (F0 m pc ls st0) :=
  vp_callSi (W.runS S hM cw hp rfl hn hl hst (lv_room hW) hdg hf) (fun r hr => by rw [hr]; exact kk)
end QRows
section QEnds
variable {p : Program} {l : Launch} {e : Env} {R : Room} {s : State} {m : MethodId} {args : Array Value} {below : List Frame} {meth : Method} {c : Code} {cc : ByteArray} {pc : Nat} {ls : Array Slot}
theorem q_reti (hexec : p.tables.exec = Jvm.exec) (hb : c.code = cc) (hr : meth.sig.returnType = some .int) (hlocks : meth.locks = false) {v z : Int} (hdg : decode cc pc = .ok (.ireturn, 1)) (hz : v = z) : W p l e R s m args below meth c s.heap [] 0 0 (MQ below (vp_Si (fun r => r = iI z)) args s 0 0 (fun _ => False)) (F0 m pc ls [.int (iI v)]) :=
  W.iret hexec hb hr (fun t ht _ => ⟨_, rfl, by rw [hz], ht⟩) (fun _ h => by cases h) hdg hlocks
theorem q_retz (hexec : p.tables.exec = Jvm.exec) (hb : c.code = cc) (hr : meth.sig.returnType = some .boolean) (hlocks : meth.locks = false) {v z : Int} (hv : v = 0 ∨ v = 1) (hdg : decode cc pc = .ok (.ireturn, 1)) (hz : v = z) : W p l e R s m args below meth c s.heap [] 0 0 (MQ below (vp_Si (fun r => r = iI z)) args s 0 0 (fun _ => False)) (F0 m pc ls [.int (iI v)]) :=
  W.zret hexec hb hr (by rcases hv with h | h <;> rw [h] <;> decide) (fun t ht _ => ⟨_, rfl, by rw [hz], ht⟩) (fun _ h => by cases h) hdg hlocks
theorem q_retl (hexec : p.tables.exec = Jvm.exec) (hb : c.code = cc) (hr : meth.sig.returnType = some .long) (hlocks : meth.locks = false) {v z : Int} (hdg : decode cc pc = .ok (.lreturn, 1)) (hz : v = z) : W p l e R s m args below meth c s.heap [] 0 0 (MQ below (vp_Sl (fun r => r = lI z)) args s 0 0 (fun _ => False)) (F0 m pc ls [.long (lI v)]) :=
  W.lret hexec hb hr (fun t ht _ => ⟨_, rfl, by rw [hz], ht⟩) (fun _ h => by cases h) hdg hlocks
theorem q_retq (hexec : p.tables.exec = Jvm.exec) (hb : c.code = cc) {rt : FieldType} (hr : meth.sig.returnType = some rt) (hrt : (∃ n, rt = .object n) ∨ ∃ t, rt = .array t) (hlocks : meth.locks = false) {v o : Option Nat} (hdg : decode cc pc = .ok (.areturn, 1)) (hz : v = o) : W p l e R s m args below meth c s.heap [] 0 0 (MQ below (va_Sq (fun r => r = o)) args s 0 0 (fun _ => False)) (F0 m pc ls [va_rf v]) :=
  W.aret hexec hb hr hrt (va_rf_or v) (fun t ht _ => ⟨_, rfl, hz, ht⟩) (fun _ h => by cases h) hdg hlocks
end QEnds
end
section
/-! rows that write: the cell anew, all others as they were -/
theorem vp_nar_b01 {v : Int} (h : v = 0 ∨ v = 1) : vp_nar .boolean (iI v) = iI v := by
  rcases h with h | h <;> rw [h] <;> decide
section QWrite
variable {p : Program} {l : Launch} {e : Env} {R : Room} {s : State} {m : MethodId} {args : Array Value} {below : List Frame} {meth : Method} {c : Code} {H : Heap} {locs : List Loc} {cells slots : Nat} {Q : State → Prop}
variable {cc : ByteArray} {pc : Nat} {ls : Array Slot} {rest : List Value} {g : GG}
theorem q_put (hexec : p.tables.exec = Jvm.exec) (hb : c.code = cc) {own ref C : String} {T : u_T} {N ci index a : Nat} {Ts : List Cond} (hts : ∀ w ∈ Ts, w.before args s = true) (hin : ∀ w ∈ u_ws C T N, w ∈ Ts) (ty0 : Nat → FieldType) (hty : ∀ k, k < N → parseFieldDescriptor (T k).2.2.1 = some (ty0 k)) (hnm : ∀ a, a < N → ∀ b, b < N → a ≠ b → (T a).2.1 ≠ (T b).2.1) (hown : s.vm.findClass own = some m.cls) (hK : KK g s) {fs : List Value} (hO : va_at g.1 vwCl (a, .inr (ci, fs)) H) (hc : vwCl[ci]? = some (C, T, N)) (k : Nat) (hk : k < N) (hlink : (Cond.fieldLink own index ref (T k).2.1 (T k).2.2.1).before args s = true) (hsame : ∀ x, s.fieldFound? (T k).1 (T k).2.1 (T k).2.2.1 = some x → s.fieldFound? ref (T k).2.1 (T k).2.2.1 = some x) (hfin : (T k).2.2.2 = false) {ty : FieldType} {v : Value} (hd : parseFieldDescriptor (T k).2.2.1 = some ty) (hn : narrow ty v = v) (hfit : fits ty v = true) (hl : k < fs.length) (hdg : decode cc pc = .ok (.putfield index, 3)) (kk : ∀ (H1 : Heap) (i : Nat), va_at g.1 vwCl (a, .inr (ci, fs.set k v)) H1 → H1.size = H.size → (∀ q : Nat, q ≠ a → H1[q]? = H[q]?) → W p l e R s m args below meth c H1 (locs ++ [⟨a, i⟩]) cells slots Q (F0 m (pc + 3) ls rest)) : W p l e R s m args below meth c H locs cells slots Q (F0 m pc ls (v :: .ref a :: rest)) := by
  have hap := va_apart (own := own) hts hin ty0 hty hnm hK.1 hc
  obtain ⟨r, h1, cell, q1, q2, q3, q4⟩ := hO
  have hr : r = (C, T, N) := Option.some.inj (h1.symm.trans hc)
  subst hr
  obtain ⟨hS, hfc, kC, hkC, hkind⟩ := hK.1.1 ci _ hc
  obtain ⟨cf, kf, fi, f, hi, hsl⟩ := hS k hk
  have hlay := hts _ (hin _ (u_in_lay hk))
  unfold u_lay at hlay
  rw [if_neg (by rw [hfin]; decide)] at hlay
  have hst := (u_facts hfc hkC (u_lays hts hin hk) hi).1
  have h6 := u_store hfc hkC hkind hlay hi hd hn hfit
  refine W.putK hexec hb (f := f) ⟨hown, hlink, ⟨_, _, _, hsame _ hi⟩, hst⟩ (by rw [q2]; exact h6) q1 q3 (by rw [hsl]; exact k2_hasslot (q4 k hk)) rfl rfl hdg fun H' e1 e2 e3 => ?_
  rw [hsl] at e1 ⊢
  exact kk H' _ ⟨_, hc, t_OB.to (V := updV (vp_V fs) k v) ⟨_, e1, q2, q3, t_set q4 hap hk v⟩ (fun j _ => vp_updV_set hl v j)⟩ e2 e3
theorem q_putF (hexec : p.tables.exec = Jvm.exec) (hb : c.code = cc) {own ref C : String} {T : u_T} {N ci index a : Nat} {Ts : List Cond} (hts : ∀ w ∈ Ts, w.before args s = true) (hin : ∀ w ∈ u_ws C T N, w ∈ Ts) (ty0 : Nat → FieldType) (hty : ∀ k, k < N → parseFieldDescriptor (T k).2.2.1 = some (ty0 k)) (hnm : ∀ a, a < N → ∀ b, b < N → a ≠ b → (T a).2.1 ≠ (T b).2.1) (hown : s.vm.findClass own = some m.cls) (hK : KK g s) {fs : List Value} (hO : va_at g.1 vwCl (a, .inr (ci, fs)) H) (hc : vwCl[ci]? = some (C, T, N)) (k : Nat) (hk : k < N) (hlink : (Cond.fieldLink own index ref (T k).2.1 (T k).2.2.1).before args s = true) (hsame : ∀ x, s.fieldFound? (T k).1 (T k).2.1 (T k).2.2.1 = some x → s.fieldFound? ref (T k).2.1 (T k).2.2.1 = some x) (hfin : (T k).2.2.2 = true) (hin2 : meth.name = "<init>") (hdecl : (T k).1 = own) {ty : FieldType} {v : Value} (hd : parseFieldDescriptor (T k).2.2.1 = some ty) (hn : narrow ty v = v) (hfit : fits ty v = true) (hl : k < fs.length) (hdg : decode cc pc = .ok (.putfield index, 3)) (kk : ∀ (H1 : Heap) (i : Nat), va_at g.1 vwCl (a, .inr (ci, fs.set k v)) H1 → H1.size = H.size → (∀ q : Nat, q ≠ a → H1[q]? = H[q]?) → W p l e R s m args below meth c H1 (locs ++ [⟨a, i⟩]) cells slots Q (F0 m (pc + 3) ls rest)) : W p l e R s m args below meth c H locs cells slots Q (F0 m pc ls (v :: .ref a :: rest)) := by
  have hap := va_apart (own := own) hts hin ty0 hty hnm hK.1 hc
  obtain ⟨r, h1, cell, q1, q2, q3, q4⟩ := hO
  have hr : r = (C, T, N) := Option.some.inj (h1.symm.trans hc)
  subst hr
  obtain ⟨hS, hfc, kC, hkC, hkind⟩ := hK.1.1 ci _ hc
  obtain ⟨cf, kf, fi, f, hi, hsl⟩ := hS k hk
  have hlay := hts _ (hin _ (u_in_lay hk))
  unfold u_lay at hlay
  rw [if_pos hfin] at hlay
  have hst := (u_facts hfc hkC (u_lays hts hin hk) hi).1
  have hcf : m.cls = cf := by
    obtain ⟨_, _, c', _, _, _, -, -, hf', -, -, -, hown2, -⟩ := Cond.laysFinal_spec hlay
    have e1 : c' = cf := by have := hi.symm.trans hf'; simp at this; exact this.1.symm
    rw [hdecl] at hown2
    rw [← e1]; exact Option.some.inj (hown.symm.trans hown2)
  have h6 := u_fits hfc hkC hkind (Or.inr hlay) hi hd hn hfit
  refine W.putFinK hexec hb hown hlink (hsame _ hi) hst hcf hin2 (by rw [q2]; exact h6) q1 q3 (by rw [hsl]; exact k2_hasslot (q4 k hk)) rfl rfl hdg fun H' e1 e2 e3 => ?_
  rw [hsl] at e1 ⊢
  exact kk H' _ ⟨_, hc, t_OB.to (V := updV (vp_V fs) k v) ⟨_, e1, q2, q3, t_set q4 hap hk v⟩ (fun j _ => vp_updV_set hl v j)⟩ e2 e3
theorem q_iast (hexec : p.tables.exec = Jvm.exec) (hb : c.code = cc) (hK : KK g s) {a n : Nat} {f : Int → Int} (hO : va_at g.1 vwCl (a, .inl (g.2.1, n, .inl (fun j => iI (f (j : Int))))) H) (hn : n < 2147483648) {z v : Int} (hz : 0 ≤ z ∧ z < n) (hdg : decode cc pc = .ok (.iastore, 1)) (kk : ∀ (H1 : Heap) (i : Nat), va_at g.1 vwCl (a, .inl (g.2.1, n, .inl (fun j => iI (if (j : Int) = z then v else f (j : Int))))) H1 → H1.size = H.size → (∀ q : Nat, q ≠ a → H1[q]? = H[q]?) → W p l e R s m args below meth c H1 (locs ++ [⟨a, i⟩]) cells slots Q (F0 m (pc + 1) ls rest)) : W p l e R s m args below meth c H locs cells slots Q (F0 m pc ls (.int (iI v) :: .int (iI z) :: .ref a :: rest)) := by
  have hin := iI_in hz.1 hz.2 hn
  refine W.iast hexec hb hO ((hK.1.2 0 _ rfl).1 n (fun j => .int (iI (f (j : Int))))) (fun q => by cases q) (by show ¬ (iI z < 0 ∨ (arrV _ _ _).slots.size ≤ _); rw [arrV_size]; exact hin) rfl rfl hdg fun H1 e z1 oq => ?_
  refine kk H1 _ ?_ z1 oq
  show H1[a]? = some (vp_cell _ _)
  rw [e]
  rw [iI_clamp hz.1 (by omega)]
  rw [vp_cell_i, vp_cell_i, arrV_store]
  congr 2
  funext q
  have e2 : ((z.toNat : Nat) : Int) = z := Int.toNat_of_nonneg hz.1
  by_cases hq : q = z.toNat
  · subst hq
    simp [updV, e2]
    
  · have hq2 : ¬ ((q : Int) = z) := by omega
    simp [updV, hq, hq2]
theorem q_zast (hexec : p.tables.exec = Jvm.exec) (hb : c.code = cc) (hK : KK g s) {a n : Nat} {f : Int → Int} (hO : va_at g.1 vwCl (a, .inl (g.2.2.2.1, n, .inl (fun j => iI (f (j : Int))))) H) (hn : n < 2147483648) {z v : Int} (hz : 0 ≤ z ∧ z < n) (hv : v = 0 ∨ v = 1) (hdg : decode cc pc = .ok (.bastore, 1)) (kk : ∀ (H1 : Heap) (i : Nat), va_at g.1 vwCl (a, .inl (g.2.2.2.1, n, .inl (fun j => iI (if (j : Int) = z then v else f (j : Int))))) H1 → H1.size = H.size → (∀ q : Nat, q ≠ a → H1[q]? = H[q]?) → W p l e R s m args below meth c H1 (locs ++ [⟨a, i⟩]) cells slots Q (F0 m (pc + 1) ls rest)) : W p l e R s m args below meth c H locs cells slots Q (F0 m pc ls (.int (iI v) :: .int (iI z) :: .ref a :: rest)) := by
  have hin := iI_in hz.1 hz.2 hn
  refine W.zast hexec hb hO ((hK.1.2 2 _ rfl).1 n (fun j => .int (iI (f (j : Int))))) (fun q => by cases q) (by show ¬ (iI z < 0 ∨ (arrV _ _ _).slots.size ≤ _); rw [arrV_size]; exact hin) rfl rfl hdg fun H1 e z1 oq => ?_
  refine kk H1 _ ?_ z1 oq
  show H1[a]? = some (vp_cell _ _)
  rw [e]
  rw [iI_clamp hz.1 (by omega)]
  rw [vp_cell_i, vp_cell_i, arrV_store]
  congr 2
  funext q
  have e2 : ((z.toNat : Nat) : Int) = z := Int.toNat_of_nonneg hz.1
  by_cases hq : q = z.toNat
  · subst hq
    simp [updV, e2]
    rcases hv with h | h <;> rw [h] <;> decide
  · have hq2 : ¬ ((q : Int) = z) := by omega
    simp [updV, hq, hq2]
theorem q_last (hexec : p.tables.exec = Jvm.exec) (hb : c.code = cc) (hK : KK g s) {a n : Nat} {f : Int → Int} (hO : va_at g.1 vwCl (a, .inl (g.2.2.1, n, .inr (.inl (fun j => lI (f (j : Int)))))) H) (hn : n < 2147483648) {z v : Int} (hz : 0 ≤ z ∧ z < n) (hdg : decode cc pc = .ok (.lastore, 1)) (kk : ∀ (H1 : Heap) (i : Nat), va_at g.1 vwCl (a, .inl (g.2.2.1, n, .inr (.inl (fun j => lI (if (j : Int) = z then v else f (j : Int)))))) H1 → H1.size = H.size → (∀ q : Nat, q ≠ a → H1[q]? = H[q]?) → W p l e R s m args below meth c H1 (locs ++ [⟨a, i⟩]) cells slots Q (F0 m (pc + 1) ls rest)) : W p l e R s m args below meth c H locs cells slots Q (F0 m pc ls (.long (lI v) :: .int (iI z) :: .ref a :: rest)) := by
  have hin := iI_in hz.1 hz.2 hn
  refine W.last hexec hb hO ((hK.1.2 1 _ rfl).1 n (fun j => .long (lI (f (j : Int))))) (fun q => by cases q) (by show ¬ (iI z < 0 ∨ (arrV _ _ _).slots.size ≤ _); rw [arrV_size]; exact hin) rfl rfl hdg fun H1 e z1 oq => ?_
  refine kk H1 _ ?_ z1 oq
  show H1[a]? = some (vp_cell _ _)
  rw [e]
  rw [iI_clamp hz.1 (by omega)]
  rw [vp_cell_l, vp_cell_l, arrV_store]
  congr 2
  funext q
  have e2 : ((z.toNat : Nat) : Int) = z := Int.toNat_of_nonneg hz.1
  by_cases hq : q = z.toNat
  · subst hq
    simp [updV, e2]
    
  · have hq2 : ¬ ((q : Int) = z) := by omega
    simp [updV, hq, hq2]
/-- a new object -/
theorem q_new {C own : String} {T : u_T} {N ci index : Nat} {Ts : List Cond} (hexec : p.tables.exec = Jvm.exec) (hb : c.code = cc) (hts : ∀ w ∈ Ts, w.before args s = true) (hin : ∀ w ∈ u_ws C T N, w ∈ Ts) (ty : Nat → FieldType) (hty : ∀ k, k < N → parseFieldDescriptor (T k).2.2.1 = some (ty k)) (hown : s.vm.findClass own = some m.cls) (hcl : (Cond.classLink own index C).before args s = true) (hinst : (Cond.instantiable C N).before args s = true) (hini : (Cond.initialized C).before args s = true)
    (hK : KK g s) (hc : vwCl[ci]? = some (C, T, N)) {fs : List Value} (hfs : ∀ j, j < N → defaultValue (ty j) = vp_V fs j) (hcells : cells + 1 ≤ R.cells) (hslots : slots + N ≤ R.slots) (hdg : decode cc pc = .ok (.new index, 3))
    (kk : ∀ (H1 : Heap), va_at g.1 vwCl (H.size, .inr (ci, fs)) H1 → H1.size = H.size + 1 → (∀ q : Nat, q < H.size → H1[q]? = H[q]?) → W p l e R s m args below meth c H1 locs (cells + 1) (slots + N) Q (F0 m (pc + 3) ls (.ref H.size :: rest))) : W p l e R s m args below meth c H locs cells slots Q (F0 m pc ls rest) := by
  have hKn := hK.1.1 ci _ hc
  refine W.newcK hexec hb hown hcl hinst hini rfl hdg hcells hslots hKn.2.1 rfl fun H1 kC hkC e1 z1 o1 => ?_
  exact kk H1 ⟨_, hc, (u_born ty hts hin hKn hkC e1 hty).to hfs⟩ z1 o1
end QWrite
/-- a method that writes: its end: an int, and what holds of the heap behind it; what isn't its own stays -/
def QM (z : Int) (P' : Heap → Prop) (A : Nat → Prop) : Array Value → State → Outcome → State → Prop := fun _ st o t => (o = .returned (some (.int (iI z))) ∧ P' t.heap) ∧ va_F A st t
def QMv (P' : Heap → Prop) (A : Nat → Prop) : Array Value → State → Outcome → State → Prop := fun _ st o t => (o = .returned none ∧ P' t.heap) ∧ va_F A st t
abbrev MetM (l : Launch) (y : MethodName) (ws : List Cond) (rm : Room) (g : GG) (as : List Value) (P : Heap → Prop) (z : Int) (P' : Heap → Prop) (A : Nat → Prop) (mc ms : Nat) : Prop := Met l y ws rm (RPc as P g) (QM z P' A) mc ms A
abbrev MetV (l : Launch) (y : MethodName) (ws : List Cond) (rm : Room) (g : GG) (as : List Value) (P : Heap → Prop) (P' : Heap → Prop) (A : Nat → Prop) (mc ms : Nat) : Prop := Met l y ws rm (RPc as P g) (QMv P' A) mc ms A
section QMc
variable {p : Program} {l : Launch} {e : Env} {R : Room} {s : State} {m : MethodId} {args : Array Value} {below : List Frame} {meth : Method} {c : Code} {H : Heap} {locs : List Loc} {cells slots : Nat} {Q : State → Prop}
variable {cc : ByteArray} {pc : Nat} {ls : Array Slot} {rest : List Value} {g : GG}
theorem q_mreti {A : Nat → Prop} {P' : Heap → Prop} (hexec : p.tables.exec = Jvm.exec) (hb : c.code = cc) (hr : meth.sig.returnType = some .int) (hlocks : meth.locks = false) (hS : va_S A s.heap H locs) {v z : Int} (hdg : decode cc pc = .ok (.ireturn, 1)) (hz : v = z) (hP : P' H) : W p l e R s m args below meth c H locs cells slots (MQ below (QM z P' A) args s cells slots A) (F0 m pc ls [.int (iI v)]) :=
  W.iret hexec hb hr (fun t ht _ => ⟨⟨by rw [hz], by rw [ht]; exact hP⟩, hS.F ht⟩) hS.2.2 hdg hlocks
theorem q_mretz {A : Nat → Prop} {P' : Heap → Prop} (hexec : p.tables.exec = Jvm.exec) (hb : c.code = cc) (hr : meth.sig.returnType = some .boolean) (hlocks : meth.locks = false) (hS : va_S A s.heap H locs) {v z : Int} (hv : v = 0 ∨ v = 1) (hdg : decode cc pc = .ok (.ireturn, 1)) (hz : v = z) (hP : P' H) : W p l e R s m args below meth c H locs cells slots (MQ below (QM z P' A) args s cells slots A) (F0 m pc ls [.int (iI v)]) :=
  W.zret hexec hb hr (by rcases hv with h | h <;> rw [h] <;> decide) (fun t ht _ => ⟨⟨by rw [hz], by rw [ht]; exact hP⟩, hS.F ht⟩) hS.2.2 hdg hlocks
theorem q_mretv {A : Nat → Prop} {P' : Heap → Prop} (hexec : p.tables.exec = Jvm.exec) (hb : c.code = cc) (hr : meth.sig.returnType = none) (hlocks : meth.locks = false) (hS : va_S A s.heap H locs) (hdg : decode cc pc = .ok (.return_, 1)) (hP : P' H) : W p l e R s m args below meth c H locs cells slots (MQ below (QMv P' A) args s cells slots A) (F0 m pc ls []) :=
  W.vret hexec hb hr (fun t ht _ => ⟨⟨rfl, by rw [ht]; exact hP⟩, hS.F ht⟩) hS.2.2 hdg hlocks
variable {y : MethodName} {bytes : ByteArray} {maxL n index mc ms : Nat} {ret : Option FieldType} {ws : List Cond} {rm : Room} {Ts : List Cond} {own C : String} {b : Nat} {As st0 : List Value} {P P' : Heap → Prop} {A0 A1 : Nat → Prop} {H0 : Heap}
/-- behind a call that writes -/
theorem q_after {Qa : State → Outcome → State → Prop} {v : Option Value} {free : Addr → Prop} (hr : CallRun p l e R s m args below meth c H locs cells slots mc ms (F0 m pc ls st0) rest Qa free) (hq : ∀ st o t, Qa st o t → (o = .returned v ∧ P' t.heap) ∧ va_F A1 st t) (hfA : ∀ q, free q → A1 q) (hS : va_S A0 H0 H locs) (hA : ∀ q, A1 q → A0 q)
    (kk : ∀ (H1 : Heap) (locs1 : List Loc), P' H1 → H.size ≤ H1.size → (∀ q : Nat, q < H.size → ¬ A1 q → H1[q]? = H[q]?) → va_S A0 H0 H1 locs1 → W p l e R s m args below meth c H1 locs1 (cells + mc) (slots + ms) Q (F0 m (pc + 3) ls (v.toList ++ rest))) : W p l e R s m args below meth c H locs cells slots Q (F0 m pc ls st0) := by
  intro T hT X
  obtain ⟨v', st₀, t, T', L, h0, X', hL, e1, hQ, st⟩ := hr T hT X
  obtain ⟨⟨hv, hp⟩, hz, hk⟩ := hq _ _ _ hQ
  cases hv
  rw [h0] at hz hk
  obtain ⟨t2, a1, b1⟩ := kk t.heap (locs ++ L) hp hz hk
    ⟨Nat.le_trans hS.1 hz, fun q h1 h2 => (hk q (Nat.lt_of_lt_of_le h1 hS.1) (fun w => h2 (hA q w))).trans (hS.2.1 q h1 h2), fun q hq => by
      rcases List.mem_append.mp hq with h | h
      · exact hS.2.2 q h
      · exact hA _ (hfA _ (hL q h))⟩ T' e1 X'
  exact ⟨t2, st t2 a1, b1⟩
theorem q_cMV {z : Int} {nL : Nat} (S : CallFix p m c cc nL s args Ts own) (hM : MetM l y ws rm g (.ref b :: As) P z P' A1 mc ms) (cw : CallW R s args own C index y bytes maxL ret ws rm mc ms n) (hp : PreV s H C b (RPc (.ref b :: As) P g) As) (hn : As.length = n) (hl : ls.size = nL) (hst : st0 = As.reverse ++ .ref b :: rest) (hW : (rest.map fun v => v.category).sum ≤ 8) (hf : cells + mc ≤ R.cells ∧ slots + ms ≤ R.slots) (hdg : decode cc pc = .ok (.invokevirtual index, 3)) (hS : va_S A0 H0 H locs) (hA : ∀ q, A1 q → A0 q)
    (kk : ∀ (H1 : Heap) (locs1 : List Loc), P' H1 → H.size ≤ H1.size → (∀ q : Nat, q < H.size → ¬ A1 q → H1[q]? = H[q]?) → va_S A0 H0 H1 locs1 → W p l e R s m args below meth c H1 locs1 (cells + mc) (slots + ms) Q (F0 m (pc + 3) ls (.int (iI z) :: rest))) : W p l e R s m args below meth c H locs cells slots Q (F0 m pc ls st0) :=
  q_after (v := some (.int (iI z))) (W.runV S hM cw hp rfl hn hl hst (lv_room hW) hdg hf) (fun _ _ _ h => h) (fun _ h => h) hS hA kk
theorem q_cMVv {nL : Nat} (S : CallFix p m c cc nL s args Ts own) (hM : MetV l y ws rm g (.ref b :: As) P P' A1 mc ms) (cw : CallW R s args own C index y bytes maxL ret ws rm mc ms n) (hp : PreV s H C b (RPc (.ref b :: As) P g) As) (hn : As.length = n) (hl : ls.size = nL) (hst : st0 = As.reverse ++ .ref b :: rest) (hW : (rest.map fun v => v.category).sum ≤ 8) (hf : cells + mc ≤ R.cells ∧ slots + ms ≤ R.slots) (hdg : decode cc pc = .ok (.invokevirtual index, 3)) (hS : va_S A0 H0 H locs) (hA : ∀ q, A1 q → A0 q)
    (kk : ∀ (H1 : Heap) (locs1 : List Loc), P' H1 → H.size ≤ H1.size → (∀ q : Nat, q < H.size → ¬ A1 q → H1[q]? = H[q]?) → va_S A0 H0 H1 locs1 → W p l e R s m args below meth c H1 locs1 (cells + mc) (slots + ms) Q (F0 m (pc + 3) ls rest)) : W p l e R s m args below meth c H locs cells slots Q (F0 m pc ls st0) :=
  q_after (v := none) (W.runV S hM cw hp rfl hn hl hst (lv_room hW) hdg hf) (fun _ _ _ h => h) (fun _ h => h) hS hA kk
theorem q_cMI {nL : Nat} (S : CallFix p m c cc nL s args Ts own) (hM : MetV l y ws rm g (.ref b :: As) P P' A1 mc ms) (cw : CallB R s args own index y bytes maxL none ws rm mc ms n ∧ y.name = "<init>" ∧ (Cond.instanceMethod y).before args s = true) (hp : PreS s H (RPc (.ref b :: As) P g) (.ref b :: As)) (hn : As.length = n) (hl : ls.size = nL) (hst : st0 = As.reverse ++ .ref b :: rest) (hW : (rest.map fun v => v.category).sum ≤ 8) (hf : cells + mc ≤ R.cells ∧ slots + ms ≤ R.slots) (hdg : decode cc pc = .ok (.invokespecial index, 3)) (hS : va_S A0 H0 H locs) (hA : ∀ q, A1 q → A0 q)
    (kk : ∀ (H1 : Heap) (locs1 : List Loc), P' H1 → H.size ≤ H1.size → (∀ q : Nat, q < H.size → ¬ A1 q → H1[q]? = H[q]?) → va_S A0 H0 H1 locs1 → W p l e R s m args below meth c H1 locs1 (cells + mc) (slots + ms) Q (F0 m (pc + 3) ls rest)) : W p l e R s m args below meth c H locs cells slots Q (F0 m pc ls st0) :=
  q_after (v := none) (W.runI S hM cw hp rfl hn hl hst (lv_room hW) hdg hf) (fun _ _ _ h => h) (fun _ h => h) hS hA kk
end QMc
end
section
/-! the state as integers: field k of the reference, place z; what each method answers, in words of it -/
abbrev St : Type := Nat → Int → Int
def up (S : St) (k : Nat) (z v : Int) : St := fun a b => if a = k then (if b = z then v else S a b) else S a b
theorem up_s (S : St) (k : Nat) (z v : Int) : up S k z v k z = v := by simp [up]
theorem up_k (S : St) {k a : Nat} (z v b : Int) (h : a ≠ k) : up S k z v a b = S a b := by simp [up, h]
theorem up_z (S : St) (k : Nat) {z b : Int} (v : Int) (h : b ≠ z) : up S k z v k b = S k b := by simp [up, h]
/-- some k below n -/
def exN (q : Nat → Prop) (n : Nat) : Prop := ∃ k, k < n ∧ q k
theorem exN_0 {q : Nat → Prop} : ¬ exN q 0 := fun ⟨_, h, _⟩ => absurd h (Nat.not_lt_zero _)
theorem exN_s {q : Nat → Prop} {n : Nat} : exN q (n + 1) ↔ exN q n ∨ q n := by
  constructor
  · rintro ⟨k, h1, h2⟩
    by_cases h : k = n
    · exact Or.inr (h ▸ h2)
    · exact Or.inl ⟨k, by omega, h2⟩
  · rintro (⟨k, h1, h2⟩ | h)
    · exact ⟨k, by omega, h2⟩
    · exact ⟨n, by omega, h⟩
/-- how many k below n -/
noncomputable def cnt (q : Nat → Prop) : Nat → Int
  | 0 => 0
  | n + 1 => cnt q n + bI (q n)
theorem cnt_le (q : Nat → Prop) (n : Nat) : 0 ≤ cnt q n ∧ cnt q n ≤ n := by
  induction n with
  | zero => exact ⟨Int.le_refl _, Int.le_refl _⟩
  | succ n ih =>
    have := bI_le (q n)
    have h : cnt q (n + 1) = cnt q n + bI (q n) := rfl
    rw [h]
    omega
theorem cnt_congr {q r : Nat → Prop} {n : Nat} (h : ∀ k, k < n → (q k ↔ r k)) : cnt q n = cnt r n := by
  induction n with
  | zero => rfl
  | succ n ih =>
    show cnt q n + bI (q n) = cnt r n + bI (r n)
    rw [ih (fun k hk => h k (by omega)), bI_iff (h n (by omega))]
/-- a sum over k below n -/
def sumN (f : Nat → Int) : Nat → Int
  | 0 => 0
  | n + 1 => sumN f n + f n
theorem sumN_congr {f h : Nat → Int} {n : Nat} (e : ∀ k, k < n → f k = h k) : sumN f n = sumN h n := by
  induction n with
  | zero => rfl
  | succ n ih =>
    show sumN f n + f n = sumN h n + h n
    rw [ih (fun k hk => e k (by omega)), e n (by omega)]
theorem sumN_le {f : Nat → Int} {n : Nat} {a b : Int} (e : ∀ k, k < n → a ≤ f k ∧ f k ≤ b) : n * a ≤ sumN f n ∧ sumN f n ≤ n * b := by
  induction n with
  | zero => simp [sumN]
  | succ n ih =>
    have h1 := ih (fun k hk => e k (by omega))
    have h2 := e n (by omega)
    have e1 : ((n + 1 : Nat) : Int) * a = n * a + a := by rw [Int.natCast_add, Int.add_mul]; simp
    have e2 : ((n + 1 : Nat) : Int) * b = n * b + b := by rw [Int.natCast_add, Int.add_mul]; simp
    have e3 : sumN f (n + 1) = sumN f n + f n := rfl
    rw [e1, e2, e3]
    omega
/-- the least f k of those with q k, or a -/
noncomputable def mn (q : Nat → Prop) (f : Nat → Int) (a : Int) : Nat → Int
  | 0 => a
  | n + 1 => cI (q n ∧ f n < mn q f a n) (f n) (mn q f a n)
theorem mn_s (q : Nat → Prop) (f : Nat → Int) (a : Int) (n : Nat) : mn q f a (n + 1) = cI (q n ∧ f n < mn q f a n) (f n) (mn q f a n) := rfl
theorem mn_le (q : Nat → Prop) (f : Nat → Int) (a : Int) (n : Nat) : mn q f a n ≤ a := by
  induction n with
  | zero => exact Int.le_refl _
  | succ n ih =>
    rw [mn_s]
    by_cases h : q n ∧ f n < mn q f a n
    · rw [cI_t h]; omega
    · rw [cI_f h]; exact ih
theorem mn_lb (q : Nat → Prop) (f : Nat → Int) (a : Int) (n : Nat) : ∀ k, k < n → q k → mn q f a n ≤ f k := by
  induction n with
  | zero => intro k h; exact absurd h (Nat.not_lt_zero _)
  | succ n ih =>
    intro k hk hq
    rw [mn_s]
    by_cases h : q n ∧ f n < mn q f a n
    · rw [cI_t h]
      by_cases e : k = n
      · rw [e]; omega
      · have := ih k (by omega) hq; omega
    · rw [cI_f h]
      by_cases e : k = n
      · rw [e] at hq ⊢
        have : ¬ f n < mn q f a n := fun z => h ⟨hq, z⟩
        omega
      · exact ih k (by omega) hq
theorem mn_at (q : Nat → Prop) (f : Nat → Int) (a : Int) (n : Nat) : mn q f a n = a ∨ ∃ k, k < n ∧ q k ∧ mn q f a n = f k := by
  induction n with
  | zero => exact Or.inl rfl
  | succ n ih =>
    rw [mn_s]
    by_cases h : q n ∧ f n < mn q f a n
    · rw [cI_t h]; exact Or.inr ⟨n, by omega, h.1, rfl⟩
    · rw [cI_f h]
      rcases ih with h1 | ⟨k, h1, h2, h3⟩
      · exact Or.inl h1
      · exact Or.inr ⟨k, by omega, h2, h3⟩
/-- the last place ix k with q k, of those with the greatest f; -1 -/
noncomputable def lastN (ix : Nat → Int) (q : Nat → Prop) (f : Int → Int) : Nat → Int
  | 0 => -1
  | n + 1 => cI (q n ∧ (lastN ix q f n < 0 ∨ f (lastN ix q f n) ≤ f (ix n))) (ix n) (lastN ix q f n)
theorem lastN_s (ix : Nat → Int) (q : Nat → Prop) (f : Int → Int) (n : Nat) : lastN ix q f (n + 1) = cI (q n ∧ (lastN ix q f n < 0 ∨ f (lastN ix q f n) ≤ f (ix n))) (ix n) (lastN ix q f n) := rfl
theorem lastN_t {ix : Nat → Int} {q : Nat → Prop} {f : Int → Int} {n : Nat} (h : q n) (h2 : lastN ix q f n < 0 ∨ f (lastN ix q f n) ≤ f (ix n)) : lastN ix q f (n + 1) = ix n := by rw [lastN_s, cI_t ⟨h, h2⟩]
theorem lastN_f {ix : Nat → Int} {q : Nat → Prop} {f : Int → Int} {n : Nat} (h : ¬ (q n ∧ (lastN ix q f n < 0 ∨ f (lastN ix q f n) ≤ f (ix n)))) : lastN ix q f (n + 1) = lastN ix q f n := by rw [lastN_s, cI_f h]
theorem lastN_q (ix : Nat → Int) (q : Nat → Prop) (f : Int → Int) (n : Nat) : lastN ix q f n = -1 ∨ ∃ k, k < n ∧ lastN ix q f n = ix k ∧ q k := by
  induction n with
  | zero => exact Or.inl rfl
  | succ n ih =>
    rw [lastN_s]
    by_cases h : q n ∧ (lastN ix q f n < 0 ∨ f (lastN ix q f n) ≤ f (ix n))
    · rw [cI_t h]; exact Or.inr ⟨n, by omega, rfl, h.1⟩
    · rw [cI_f h]
      rcases ih with h1 | ⟨k, h1, h2, h3⟩
      · exact Or.inl h1
      · exact Or.inr ⟨k, by omega, h2, h3⟩
theorem mn_t {q : Nat → Prop} {f : Nat → Int} {a : Int} {n : Nat} (h : q n) (h2 : f n < mn q f a n) : mn q f a (n + 1) = f n := by rw [mn_s, cI_t ⟨h, h2⟩]
theorem mn_f {q : Nat → Prop} {f : Nat → Int} {a : Int} {n : Nat} (h : ¬ (q n ∧ f n < mn q f a n)) : mn q f a (n + 1) = mn q f a n := by rw [mn_s, cI_f h]
theorem mn_b {q : Nat → Prop} {f : Nat → Int} {a : Int} {n : Nat} {lo : Int} (ha : lo ≤ a) (h : ∀ k, k < n → q k → lo ≤ f k) : lo ≤ mn q f a n ∧ mn q f a n ≤ a := by
  refine ⟨?_, mn_le q f a n⟩
  rcases mn_at q f a n with e | ⟨k, h1, h2, e⟩
  · rw [e]; exact ha
  · rw [e]; exact h k h1 h2
theorem ex_1 {q : Nat → Prop} {n : Nat} (h : exN q n) : bI (exN q (n + 1)) = 1 := bI_t (exN_s.mpr (Or.inl h))
theorem ex_1' {q : Nat → Prop} {n : Nat} (h : q n) : bI (exN q (n + 1)) = 1 := bI_t (exN_s.mpr (Or.inr h))
theorem ex_0 {q : Nat → Prop} {n : Nat} (h : ¬ exN q n) (h2 : ¬ q n) : bI (exN q (n + 1)) = 0 := bI_f (fun z => (exN_s.mp z).elim h h2)
theorem nx_0 {q : Nat → Prop} {n : Nat} (h : ¬ ¬ exN q n) : bI (¬ exN q (n + 1)) = 0 := bI_f (fun z => h (fun y => z (exN_s.mpr (Or.inl y))))
theorem nx_0' {q : Nat → Prop} {n : Nat} (h : q n) : bI (¬ exN q (n + 1)) = 0 := bI_f (fun z => z (exN_s.mpr (Or.inr h)))
theorem nx_1 {q : Nat → Prop} {n : Nat} (h : ¬ exN q n) (h2 : ¬ q n) : bI (¬ exN q (n + 1)) = 1 := bI_t (fun z => (exN_s.mp z).elim h h2)
theorem nx_00 {q : Nat → Prop} : bI (¬ exN q 0) = 1 := bI_t exN_0
theorem cnt_1 {q : Nat → Prop} {n : Nat} (h : q n) : cnt q (n + 1) = cnt q n + 1 := by
  show cnt q n + bI (q n) = _
  rw [bI_t h]
theorem cnt_0 {q : Nat → Prop} {n : Nat} (h : ¬ q n) : cnt q (n + 1) = cnt q n + 0 := by
  show cnt q n + bI (q n) = _
  rw [bI_f h]
theorem two_cI {C : Prop} {x : Int} : 2 < cI C x 0 ↔ C ∧ 2 < x := by
  by_cases h : C
  · rw [cI_t h]; exact ⟨fun z => ⟨h, z⟩, fun z => z.2⟩
  · rw [cI_f h]; exact ⟨fun z => absurd z (by decide), fun z => absurd z.1 h⟩
theorem sq_b {a b : Int} (h0 : 0 ≤ a) (h1 : a ≤ b) : 0 ≤ a * a ∧ a * a ≤ b * b := ⟨Int.mul_nonneg h0 h0, Int.mul_le_mul h1 h1 h0 (by omega)⟩
theorem sq_b2 {a b : Int} (h0 : -b ≤ a) (h1 : a ≤ b) : 0 ≤ a * a ∧ a * a ≤ b * b := by
  by_cases h : 0 ≤ a
  · exact sq_b h h1
  · have := sq_b (a := -a) (b := b) (by omega) (by omega)
    rw [Int.neg_mul_neg] at this
    exact this
abbrev isD (d : Int) : Prop := 0 ≤ d ∧ d ≤ 3999
abbrev isP (x y : Int) : Prop := (0 ≤ x ∧ x ≤ 999) ∧ (0 ≤ y ∧ y ≤ 999)
/-- a feast -/
abbrev sFeast (S : St) (d : Int) : Prop := exN (fun k => S 1 (k : Int) = d) (S 0 0).toNat
abbrev off2 (x y x2 y2 : Int) : Int := (x - x2) * (x - x2) + (y - y2) * (y - y2)
/-- offence e (its place in the rows) counts on a day -/
abbrev sQuash (S : St) (h e day : Int) (q : Nat) : Prop := S 21 (16 * h + q) = 1 ∧ S 22 (16 * h + q) = S 22 e ∧ S 20 (16 * h + q) ≤ day
abbrev sCnt (S : St) (h e day : Int) : Prop := (S 21 e = 0 ∧ S 20 e ≤ day) ∧ ¬ exN (sQuash S h e day) (S 19 h).toNat
abbrev qNum (S : St) (h day : Int) (j q : Nat) : Prop := sCnt S h (16 * h + q) day ∧ (S 20 (16 * h + q) ≤ S 20 (16 * h + j) ∧ S 20 (16 * h + j) - 1825 ≤ S 20 (16 * h + q))
noncomputable def sNum (S : St) (h day : Int) (j : Nat) (n : Nat) : Int := cnt (qNum S h day j) n
abbrev qEnd (S : St) (h day : Int) (j : Nat) : Prop := sCnt S h (16 * h + j) day ∧ 2 < sNum S h day j (S 19 h).toNat
noncomputable def sEnd (S : St) (h day a : Int) (n : Nat) : Int := mn (qEnd S h day) (fun j => S 20 (16 * h + j)) a n
abbrev sTrans (S : St) (h : Int) (j : Nat) (q : Nat) : Prop := S 21 (16 * h + q) = 3 ∧ (S 20 (16 * h + j) ≤ S 20 (16 * h + q) ∧ S 20 (16 * h + q) ≤ S 20 (16 * h + j) + 27)
abbrev qLap (S : St) (h day : Int) (j : Nat) : Prop := (S 21 (16 * h + j) = 2 ∧ ¬ exN (sTrans S h j) (S 19 h).toNat) ∧ S 20 (16 * h + j) + 28 ≤ day
noncomputable def sLap (S : St) (h day a : Int) (n : Nat) : Int := mn (qLap S h day) (fun j => S 20 (16 * h + j) + 28) a n
abbrev qSur (S : St) (h day : Int) (j : Nat) : Prop := S 21 (16 * h + j) = 6 ∧ S 20 (16 * h + j) ≤ day
noncomputable def sSur (S : St) (h day a : Int) (n : Nat) : Int := mn (qSur S h day) (fun j => S 20 (16 * h + j)) a n
noncomputable def sState (S : St) (h day a : Int) : Int := cI (day < S 18 h) 0 (cI (sEnd S h day a (S 19 h).toNat = a ∧ sLap S h day a (S 19 h).toNat = a ∧ sSur S h day a (S 19 h).toNat = a) 1 (cI (sEnd S h day a (S 19 h).toNat ≤ sLap S h day a (S 19 h).toNat ∧ sEnd S h day a (S 19 h).toNat ≤ sSur S h day a (S 19 h).toNat) 2 (cI (sLap S h day a (S 19 h).toNat ≤ sSur S h day a (S 19 h).toNat) 3 4)))
abbrev sHas (S : St) (h day : Int) : Prop := sState S h day 100000 = 1
abbrev qCat (S : St) (h day : Int) (j : Nat) : Prop := (4 ≤ S 21 (16 * h + j) ∧ S 21 (16 * h + j) ≤ 5) ∧ S 20 (16 * h + j) ≤ day
noncomputable def sCat (S : St) (h day : Int) (n : Nat) : Int := lastN (fun j => 16 * h + j) (qCat S h day) (S 20) n
noncomputable def sCond (S : St) (h day : Int) : Int := cI (sCat S h day (S 19 h).toNat < 0 ∨ S 21 (sCat S h day (S 19 h).toNat) = 5) (-4) (S 22 (sCat S h day (S 19 h).toNat))
noncomputable def sWat (S : St) (h day : Int) : Nat → Int
  | 0 => 8 * h
  | n + 1 => cI (S 24 (8 * h + n) ≤ day ∧ S 24 (sWat S h day n) ≤ S 24 (8 * h + n)) (8 * h + n) (sWat S h day n)
theorem sWat_s (S : St) (h day : Int) (n : Nat) : sWat S h day (n + 1) = cI (S 24 (8 * h + n) ≤ day ∧ S 24 (sWat S h day n) ≤ S 24 (8 * h + n)) (8 * h + n) (sWat S h day n) := rfl
theorem sWat_le (S : St) (h day : Int) (n : Nat) : sWat S h day n = 8 * h ∨ ∃ k, k < n ∧ sWat S h day n = 8 * h + (k : Nat) := by
  induction n with
  | zero => exact Or.inl rfl
  | succ n ih =>
    rw [sWat_s]
    by_cases c : S 24 (8 * h + n) ≤ day ∧ S 24 (sWat S h day n) ≤ S 24 (8 * h + n)
    · rw [cI_t c]; exact Or.inr ⟨n, by omega, rfl⟩
    · rw [cI_f c]
      rcases ih with e | ⟨k, h1, h2⟩
      · exact Or.inl e
      · exact Or.inr ⟨k, by omega, h2⟩
noncomputable def sWorth (S : St) (h day : Int) : Int := S 25 (sWat S h day (S 23 h).toNat)
noncomputable def sWeek (S : St) (day : Int) : Int := cI (sFeast S day) 7 (day % 7)
abbrev qLaw (S : St) (k day : Int) (j : Nat) : Prop := (S 4 j = k ∧ S 5 j = sWeek S day) ∧ S 3 j ≤ day
noncomputable def sLaw (S : St) (k day : Int) (n : Nat) : Int := lastN (fun j => (j : Int)) (qLaw S k day) (S 3) n
noncomputable def sLawOf (S : St) (k day : Int) : Int := sLaw S k day (S 2 0).toNat
abbrev sOpen (S : St) (at' minute : Int) : Prop := (0 ≤ at' ∧ S 6 at' ≤ minute) ∧ minute < S 7 at'
abbrev sMay (S : St) (minute : Int) (now ahead : Prop) (shut law before : Int) : Prop := ((now ∧ sOpen S law minute) ∧ (shut < 0 ∨ minute < shut)) ∨ (((now ∧ ahead) ∧ shut < 0) ∧ sOpen S before (minute + 1440))
noncomputable def sOff (S : St) (h day : Int) : Int := cnt (fun q => sCnt S h (16 * h + q) day ∧ day - 1825 ≤ S 20 (16 * h + q)) (S 19 h).toNat
noncomputable def sBefore (S : St) (h day : Int) : Int := cI (0 < day) (sLawOf S (S 17 h) (day - 1)) (-1)
noncomputable def sOpens (S : St) (h day fr : Int) (n : Nat) : Int := cnt (fun i => sMay S (fr + i) (sHas S h day) (0 < day ∧ sHas S h (day - 1)) (sCond S h day) (sLawOf S (S 17 h) day) (sBefore S h day)) n
/-- what holds of the state always -/
abbrev hEv (S : St) (h : Int) : Prop := 0 ≤ S 19 h ∧ S 19 h ≤ 16
abbrev iLaw (S : St) (j : Int) : Prop := (0 ≤ S 3 j ∧ S 3 j ≤ 3999) ∧ (0 ≤ S 4 j ∧ S 4 j ≤ 2) ∧ (0 ≤ S 5 j ∧ S 5 j ≤ 7) ∧ (0 ≤ S 6 j ∧ S 6 j ≤ 1439) ∧ (0 ≤ S 7 j ∧ S 7 j ≤ 1800)
abbrev iObj (S : St) (j : Int) : Prop := (0 ≤ S 11 j ∧ S 11 j ≤ 999) ∧ (0 ≤ S 12 j ∧ S 12 j ≤ 999) ∧ (1 ≤ S 13 j ∧ S 13 j ≤ 10)
abbrev iEv (S : St) (h j : Int) : Prop := (S 18 h ≤ S 20 (16 * h + j) ∧ S 20 (16 * h + j) ≤ 3999) ∧ (0 ≤ S 21 (16 * h + j) ∧ S 21 (16 * h + j) ≤ 6) ∧ (S 21 (16 * h + j) = 4 → 0 ≤ S 22 (16 * h + j) ∧ S 22 (16 * h + j) ≤ 1439)
abbrev iWo (S : St) (h j : Int) : Prop := (S 18 h ≤ S 24 (8 * h + j) ∧ S 24 (8 * h + j) ≤ 3999) ∧ (1 ≤ S 25 (8 * h + j) ∧ S 25 (8 * h + j) ≤ 100000)
abbrev iHouse (S : St) (h : Int) : Prop := ((0 ≤ S 15 h ∧ S 15 h ≤ 999) ∧ (0 ≤ S 16 h ∧ S 16 h ≤ 999) ∧ (0 ≤ S 17 h ∧ S 17 h ≤ 2) ∧ (0 ≤ S 18 h ∧ S 18 h ≤ 3999)) ∧ ((0 ≤ S 19 h ∧ S 19 h ≤ 16) ∧ (1 ≤ S 23 h ∧ S 23 h ≤ 8)) ∧ (S 26 h = 0 ∨ S 26 h = 1) ∧ S 24 (8 * h) = S 18 h
abbrev iUni (S : St) (h : Int) : Prop := ∀ i j : Nat, (i : Int) < S 19 h → (j : Int) < S 19 h → S 21 (16 * h + i) = 0 → S 21 (16 * h + j) = 0 → S 22 (16 * h + i) = S 22 (16 * h + j) → i = j
abbrev iQua (S : St) (h : Int) : Prop := ∀ i : Nat, (i : Int) < S 19 h → S 21 (16 * h + i) = 1 → ∃ j : Nat, (j : Int) < S 19 h ∧ S 21 (16 * h + j) = 0 ∧ S 22 (16 * h + j) = S 22 (16 * h + i)
def Inv (S : St) : Prop :=
  ((∀ k z, k < 26 → R32 (S k z)) ∧ (1 ≤ S 29 0 ∧ S 29 0 ≤ 2147483646)) ∧
  ((0 ≤ S 0 0 ∧ S 0 0 ≤ 20) ∧ (0 ≤ S 2 0 ∧ S 2 0 ≤ 40) ∧ (0 ≤ S 8 0 ∧ S 8 0 ≤ 200) ∧ (0 ≤ S 9 0 ∧ S 9 0 ≤ 500) ∧ (0 ≤ S 10 0 ∧ S 10 0 ≤ 20) ∧ (0 ≤ S 14 0 ∧ S 14 0 ≤ 30)) ∧
  (∀ j : Int, 0 ≤ j → j < S 2 0 → iLaw S j) ∧ (∀ j : Int, 0 ≤ j → j < S 10 0 → iObj S j) ∧
  (∀ h : Int, 0 ≤ h → h < S 14 0 → iHouse S h) ∧
  (∀ h j : Int, 0 ≤ h → h < S 14 0 → 0 ≤ j → j < S 19 h → iEv S h j) ∧ (∀ h j : Int, 0 ≤ h → h < S 14 0 → 0 ≤ j → j < S 23 h → iWo S h j) ∧
  (∀ h : Int, 0 ≤ h → h < S 14 0 → iUni S h ∧ iQua S h) ∧ (∀ h : Int, S 14 0 ≤ h → S 19 h = 0 ∧ S 26 h = 0)
theorem Inv.R {S : St} (h : Inv S) {k : Nat} {z : Int} (hk : k < 26) : R32 (S k z) := h.1.1 k z hk
theorem Inv.nums {S : St} (h : Inv S) : (0 ≤ S 0 0 ∧ S 0 0 ≤ 20) ∧ (0 ≤ S 2 0 ∧ S 2 0 ≤ 40) ∧ (0 ≤ S 8 0 ∧ S 8 0 ≤ 200) ∧ (0 ≤ S 9 0 ∧ S 9 0 ≤ 500) ∧ (0 ≤ S 10 0 ∧ S 10 0 ≤ 20) ∧ (0 ≤ S 14 0 ∧ S 14 0 ≤ 30) := h.2.1
theorem Inv.law {S : St} (h : Inv S) {j : Int} (h0 : 0 ≤ j) (h1 : j < S 2 0) : iLaw S j := h.2.2.1 j h0 h1
theorem Inv.obj {S : St} (h : Inv S) {j : Int} (h0 : 0 ≤ j) (h1 : j < S 10 0) : iObj S j := h.2.2.2.1 j h0 h1
theorem Inv.house {S : St} (hi : Inv S) {h : Int} (h0 : 0 ≤ h) (h1 : h < S 14 0) : iHouse S h := hi.2.2.2.2.1 h h0 h1
theorem Inv.ev {S : St} (hi : Inv S) {h j : Int} (h0 : 0 ≤ h) (h1 : h < S 14 0) (h2 : 0 ≤ j) (h3 : j < S 19 h) : iEv S h j := hi.2.2.2.2.2.1 h j h0 h1 h2 h3
theorem Inv.wo {S : St} (hi : Inv S) {h j : Int} (h0 : 0 ≤ h) (h1 : h < S 14 0) (h2 : 0 ≤ j) (h3 : j < S 23 h) : iWo S h j := hi.2.2.2.2.2.2.1 h j h0 h1 h2 h3
theorem Inv.uni {S : St} (hi : Inv S) {h : Int} (h0 : 0 ≤ h) (h1 : h < S 14 0) : iUni S h ∧ iQua S h := hi.2.2.2.2.2.2.2.1 h h0 h1
theorem Inv.out {S : St} (hi : Inv S) {h : Int} (h0 : S 14 0 ≤ h) : S 19 h = 0 ∧ S 26 h = 0 := hi.2.2.2.2.2.2.2.2 h h0
theorem Inv.seed {S : St} (hi : Inv S) : 1 ≤ S 29 0 ∧ S 29 0 ≤ 2147483646 := hi.1.2

theorem Inv.endB {S : St} (hi : Inv S) {h day a : Int} (h0 : 0 ≤ h ∧ h < S 14 0) (ha : 0 ≤ a) {n : Nat} (hn : (n : Int) ≤ S 19 h) : 0 ≤ sEnd S h day a n ∧ sEnd S h day a n ≤ a :=
  mn_b ha (fun k hk _ => by have := hi.ev h0.1 h0.2 (j := k) (by omega) (by omega); have := hi.house h0.1 h0.2; show 0 ≤ S 20 (16 * h + k); omega)
theorem Inv.lapB {S : St} (hi : Inv S) {h day a : Int} (h0 : 0 ≤ h ∧ h < S 14 0) (ha : 0 ≤ a) {n : Nat} (hn : (n : Int) ≤ S 19 h) : 0 ≤ sLap S h day a n ∧ sLap S h day a n ≤ a :=
  mn_b ha (fun k hk _ => by have := hi.ev h0.1 h0.2 (j := k) (by omega) (by omega); have := hi.house h0.1 h0.2; show 0 ≤ S 20 (16 * h + k) + 28; omega)
theorem Inv.surB {S : St} (hi : Inv S) {h day a : Int} (h0 : 0 ≤ h ∧ h < S 14 0) (ha : 0 ≤ a) {n : Nat} (hn : (n : Int) ≤ S 19 h) : 0 ≤ sSur S h day a n ∧ sSur S h day a n ≤ a :=
  mn_b ha (fun k hk _ => by have := hi.ev h0.1 h0.2 (j := k) (by omega) (by omega); have := hi.house h0.1 h0.2; show 0 ≤ S 20 (16 * h + k); omega)
theorem sCat_b (S : St) {h : Int} (day : Int) (n : Nat) (h0 : 0 ≤ h) : sCat S h day n = -1 ∨ (16 * h ≤ sCat S h day n ∧ sCat S h day n < 16 * h + n) := by
  rcases lastN_q (fun j => 16 * h + j) (qCat S h day) (S 20) n with e | ⟨k, h1, h2, -⟩
  · exact Or.inl e
  · refine Or.inr ?_
    show 16 * h ≤ lastN _ _ _ n ∧ lastN _ _ _ n < 16 * h + n
    rw [h2]
    omega
theorem sLaw_b (S : St) (k day : Int) (n : Nat) : sLaw S k day n = -1 ∨ (0 ≤ sLaw S k day n ∧ sLaw S k day n < n) := by
  rcases lastN_q (fun j => (j : Int)) (qLaw S k day) (S 3) n with e | ⟨k', h1, h2, -⟩
  · exact Or.inl e
  · refine Or.inr ?_
    show 0 ≤ lastN _ _ _ n ∧ lastN _ _ _ n < n
    rw [h2]
    omega
theorem sWat_b (S : St) (h day : Int) (n : Nat) (hn : 1 ≤ n) : 8 * h ≤ sWat S h day n ∧ sWat S h day n < 8 * h + n := by
  rcases sWat_le S h day n with e | ⟨k, h1, h2⟩
  · rw [e]; omega
  · rw [h2]; omega
theorem off2_b {x y x2 y2 : Int} (h : isP x y) (h2 : isP x2 y2) : 0 ≤ off2 x y x2 y2 ∧ off2 x y x2 y2 ≤ 1996002 := by
  have a := sq_b2 (a := x - x2) (b := 999) (by omega) (by omega)
  have b := sq_b2 (a := y - y2) (b := 999) (by omega) (by omega)
  show 0 ≤ (x - x2) * (x - x2) + (y - y2) * (y - y2) ∧ (x - x2) * (x - x2) + (y - y2) * (y - y2) ≤ 1996002
  omega
theorem sLap_t {S : St} {h day a : Int} {n : Nat} (h1 : qLap S h day n) (h2 : S 20 (16 * h + n) + 28 < sLap S h day a n) : sLap S h day a (n + 1) = S 20 (16 * h + n) + 28 := mn_t (f := fun j => S 20 (16 * h + j) + 28) h1 h2
theorem sLap_f {S : St} {h day a : Int} {n : Nat} (h1 : ¬ (qLap S h day n ∧ S 20 (16 * h + n) + 28 < sLap S h day a n)) : sLap S h day a (n + 1) = sLap S h day a n := mn_f (f := fun j => S 20 (16 * h + j) + 28) h1
end
section
/-! what each call answers, and the state behind it -/
noncomputable def aFeast (S : St) (d : Int) : Int := cI (isD d) (cI (sFeast S d) (-2) (cI (S 0 0 = 20) (-3) (S 0 0 + 1))) (-1)
noncomputable def tFeast (S : St) (d : Int) : St := cI (isD d ∧ ¬ sFeast S d ∧ S 0 0 ≠ 20) (up (up S 1 (S 0 0) d) 0 0 (S 0 0 + 1)) S
abbrev vLaw (d k w f t : Int) : Prop := (isD d ∧ (0 ≤ k ∧ k ≤ 2) ∧ (0 ≤ w ∧ w ≤ 7)) ∧ ((f = 0 ∧ t = 0) ∨ ((0 ≤ f ∧ f ≤ 1439) ∧ f < t ∧ t ≤ 1800))
noncomputable def aLaw (S : St) (d k w f t : Int) : Int := cI (vLaw d k w f t) (cI (S 2 0 = 40) (-3) (S 2 0 + 1)) (-1)
noncomputable def tLaw (S : St) (d k w f t : Int) : St := cI (vLaw d k w f t ∧ S 2 0 ≠ 40) (up (up (up (up (up (up S 3 (S 2 0) d) 4 (S 2 0) k) 5 (S 2 0) w) 6 (S 2 0) f) 7 (S 2 0) t) 2 0 (S 2 0 + 1)) S
abbrev vRule (what v : Int) : Prop := (what = 0 ∧ 0 ≤ v ∧ v ≤ 200) ∨ (what = 1 ∧ 0 ≤ v ∧ v ≤ 500)
noncomputable def aRule (S : St) (what v : Int) : Int := cI (vRule what v) (cI (what = 0) (S 8 0) (S 9 0)) (-1)
noncomputable def tRule (S : St) (what v : Int) : St := cI (vRule what v) (up (up S 8 0 (cI (what = 0) v (S 8 0))) 9 0 (cI (what = 1) v (S 9 0))) S
abbrev vObj (x y w : Int) : Prop := isP x y ∧ 1 ≤ w ∧ w ≤ 10
noncomputable def aObj (S : St) (x y w : Int) : Int := cI (vObj x y w) (cI (S 10 0 = 20) (-3) (S 10 0 + 1)) (-1)
noncomputable def tObj (S : St) (x y w : Int) : St := cI (vObj x y w ∧ S 10 0 ≠ 20) (up (up (up (up S 11 (S 10 0) x) 12 (S 10 0) y) 13 (S 10 0) w) 10 0 (S 10 0 + 1)) S
abbrev qCrowd (S : St) (x y day : Int) (h : Nat) : Prop := sHas S (h : Int) day ∧ off2 x y (S 15 (h : Int)) (S 16 (h : Int)) < S 8 0 * S 8 0
noncomputable def sHeard (S : St) (x y : Int) (n : Nat) : Int := sumN (fun k => cI (off2 x y (S 11 (k : Int)) (S 12 (k : Int)) ≤ S 9 0 * S 9 0) (S 13 (k : Int)) 0) n
noncomputable def sJudge (S : St) (x y no se : Int) : Int := cI (se - no < 21) 1 (cI (exN (qCrowd S x y se) (S 14 0).toNat) 2 (cI (10 < sHeard S x y (S 10 0).toNat) 3 0))
abbrev vAsk (x y k w no se : Int) : Prop := isP x y ∧ (0 ≤ k ∧ k ≤ 2) ∧ (1 ≤ w ∧ w ≤ 100000) ∧ isD no ∧ isD se ∧ no ≤ se
noncomputable def aAsk (S : St) (x y k w no se : Int) : Int := cI (vAsk x y k w no se) (cI (S 14 0 = 30) (-3) (cI (0 < sJudge S x y no se) (-10 - sJudge S x y no se) (S 14 0))) (-1)
def newHouse (S : St) (x y k w se : Int) : St := up (up (up (up (up (up (up (up S 15 (S 14 0) x) 16 (S 14 0) y) 17 (S 14 0) k) 18 (S 14 0) se) 23 (S 14 0) 1) 24 (8 * S 14 0) se) 25 (8 * S 14 0) w) 14 0 (S 14 0 + 1)
noncomputable def tAsk (S : St) (x y k w no se : Int) : St := cI (vAsk x y k w no se ∧ S 14 0 ≠ 30) (cI (0 < sJudge S x y no se) (up S 28 0 (S 28 0 + 1)) (newHouse S x y k w se)) S
abbrev vEv (k v : Int) : Prop := ((k = 0 ∨ k = 1) ∧ 0 ≤ v ∧ v ≤ 99) ∨ (k = 4 ∧ 0 ≤ v ∧ v ≤ 1439) ∨ (k ≠ 0 ∧ k ≠ 1 ∧ k ≠ 4 ∧ 2 ≤ k ∧ k ≤ 6)
abbrev qTold (S : St) (h v : Int) (q : Nat) : Prop := S 21 (16 * h + (q : Nat)) = 0 ∧ S 22 (16 * h + (q : Nat)) = v
abbrev sTold (S : St) (h v : Int) : Prop := exN (qTold S h v) (S 19 h).toNat
abbrev nEv (S : St) (h d k v : Int) : Prop := d < S 18 h ∨ (k = 0 ∧ sTold S h v) ∨ (k = 1 ∧ ¬ sTold S h v)
noncomputable def aEvent (S : St) (h d k v : Int) : Int := cI ((0 ≤ h ∧ h < S 14 0) ∧ isD d ∧ vEv k v) (cI (nEv S h d k v) (-2) (cI (S 19 h = 16) (-3) (S 19 h + 1))) (-1)
def newEvent (S : St) (h d k v : Int) : St := up (up (up (up S 20 (16 * h + S 19 h) d) 21 (16 * h + S 19 h) k) 22 (16 * h + S 19 h) v) 19 h (S 19 h + 1)
noncomputable def tEvent (S : St) (h d k v : Int) : St := cI (((0 ≤ h ∧ h < S 14 0) ∧ isD d ∧ vEv k v) ∧ ¬ nEv S h d k v ∧ S 19 h ≠ 16) (newEvent S h d k v) S
noncomputable def aWorth (S : St) (h d w : Int) : Int := cI ((0 ≤ h ∧ h < S 14 0) ∧ isD d ∧ 1 ≤ w ∧ w ≤ 100000) (cI (S 23 h = 8) (-3) (S 23 h + 1)) (-1)
noncomputable def newWorth (S : St) (h d w : Int) : St := up (up (up S 24 (8 * h + S 23 h) (cI (d < S 18 h) (S 18 h) d)) 25 (8 * h + S 23 h) w) 23 h (S 23 h + 1)
noncomputable def tWorth (S : St) (h d w : Int) : St := cI (((0 ≤ h ∧ h < S 14 0) ∧ isD d ∧ 1 ≤ w ∧ w ≤ 100000) ∧ S 23 h ≠ 8) (newWorth S h d w) S
noncomputable def aOn (S : St) (h day what : Int) : Int := cI ((0 ≤ h ∧ h < S 14 0) ∧ isD day ∧ 0 ≤ what ∧ what ≤ 3) (cI (what = 0) (sState S h day 100000) (cI (what = 1) (sOff S h day) (cI (what = 2) (sCond S h day) (sWorth S h day)))) (-1)
noncomputable def aCount (S : St) (what : Int) : Int := cI (what = 0) (S 14 0) (cI (what = 1) (S 2 0) (cI (what = 2) (S 0 0) (cI (what = 3) (S 10 0) (cI (what = 4) (S 27 0) (cI (what = 5) (S 28 0) (-1))))))
abbrev qMany (S : St) (day a : Int) (h : Nat) : Prop := sHas S (h : Int) day ∧ (a ≠ 0 ∨ S 26 (h : Int) = 0)
noncomputable def sMany (S : St) (day a : Int) (n : Nat) : Int := cnt (qMany S day a) n
def clr (S : St) (n : Int) : St := fun a b => if a = 26 then (if 0 ≤ b ∧ b < n then 0 else S a b) else S a b
def tRound (S : St) : St := up (clr S 30) 27 0 0
noncomputable def aSeed (v : Int) : Int := cI (1 ≤ v ∧ v ≤ 2147483646) 0 (-1)
noncomputable def tSeed (S : St) (v : Int) : St := cI (1 ≤ v ∧ v ≤ 2147483646) (tRound (up S 29 0 v)) S
/-- the r-th (from 0) of those with q, below n; -1 -/
noncomputable def pkN (q : Nat → Prop) (r : Int) : Nat → Int
  | 0 => -1
  | n + 1 => cI (pkN q r n < 0 ∧ q n ∧ cnt q n = r) (n : Int) (pkN q r n)
theorem pkN_s (q : Nat → Prop) (r : Int) (n : Nat) : pkN q r (n + 1) = cI (pkN q r n < 0 ∧ q n ∧ cnt q n = r) (n : Int) (pkN q r n) := rfl
theorem pkN_m (q : Nat → Prop) (r : Int) (n : Nat) : pkN q r n = -1 ∨ (0 ≤ pkN q r n ∧ pkN q r n < n) := by
  induction n with
  | zero => exact Or.inl rfl
  | succ n ih =>
    rw [pkN_s]
    by_cases h : pkN q r n < 0 ∧ q n ∧ cnt q n = r
    · rw [cI_t h]; omega
    · rw [cI_f h]; omega
theorem pkN_stay (q : Nat → Prop) (r : Int) (n : Nat) (h : 0 ≤ pkN q r n) : ∀ k, pkN q r (n + k) = pkN q r n := by
  intro k
  induction k with
  | zero => rfl
  | succ k ih =>
    show pkN q r (n + k + 1) = _
    rw [pkN_s, cI_f (fun z => by have := z.1; omega), ih]
theorem cnt_mono (q : Nat → Prop) (n : Nat) : ∀ k, cnt q n ≤ cnt q (n + k) := by
  intro k
  induction k with
  | zero => exact Int.le_refl _
  | succ k ih =>
    show _ ≤ cnt q (n + k) + bI (q (n + k))
    have := bI_le (q (n + k))
    omega
/-- it is there, when r is below how many there are -/
theorem pkN_ex (q : Nat → Prop) (r : Int) (n : Nat) (h0 : 0 ≤ r) (h : r < cnt q n) : 0 ≤ pkN q r n := by
  induction n with
  | zero => exact absurd h (by show ¬ r < 0; omega)
  | succ n ih =>
    rw [pkN_s]
    by_cases c : pkN q r n < 0 ∧ q n ∧ cnt q n = r
    · rw [cI_t c]; omega
    · rw [cI_f c]
      by_cases d : r < cnt q n
      · exact ih d
      · have h2 : r < cnt q n + bI (q n) := h
        by_cases e : q n
        · rw [bI_t e] at h2
          by_cases f : pkN q r n < 0
          · exact absurd ⟨f, e, by omega⟩ c
          · omega
        · rw [bI_f e] at h2; omega
/-- the state in which a visit draws -/
noncomputable def tVis1 (S : St) (day : Int) : St := cI (sMany S day 0 (S 14 0).toNat = 0) (tRound S) S
noncomputable def tVis2 (S : St) (day : Int) : St := up (tVis1 S day) 29 0 (S 29 0 * 16807 % 2147483647)
noncomputable def sVis (S : St) (day : Int) : Int := pkN (qMany (tVis2 S day) day 0) (S 29 0 * 16807 % 2147483647 % sMany (tVis2 S day) day 0 (S 14 0).toNat) (S 14 0).toNat
noncomputable def aVisit (S : St) (day : Int) : Int := cI (isD day) (cI (sMany S day 1 (S 14 0).toNat = 0) (-2) (sVis S day)) (-1)
noncomputable def tVisit (S : St) (day : Int) : St := cI (isD day ∧ sMany S day 1 (S 14 0).toNat ≠ 0) (up (up (tVis2 S day) 26 (sVis S day) 1) 27 0 (tVis2 S day 27 0 + 1)) S
/-- what of the state the licences look at -/
theorem sHas_congr {S S' : St} (h18 : S' 18 = S 18) (h19 : S' 19 = S 19) (h20 : S' 20 = S 20) (h21 : S' 21 = S 21) (h22 : S' 22 = S 22) (h day a : Int) : sState S' h day a = sState S h day a := by
  have hQ : ∀ e, sQuash S' h e day = sQuash S h e day := fun e => funext fun q => by simp only [sQuash, h20, h21, h22]
  have hC : ∀ e, sCnt S' h e day = sCnt S h e day := fun e => by simp only [sCnt, hQ, h19, h20, h21]
  have hN : ∀ j, qNum S' h day j = qNum S h day j := fun j => funext fun q => by simp only [qNum, hC, h20]
  have hE : qEnd S' h day = qEnd S h day := funext fun j => by simp only [qEnd, sNum, hN, hC, h19]
  have hT : ∀ j, sTrans S' h j = sTrans S h j := fun j => funext fun q => by simp only [sTrans, h20, h21]
  have hL : qLap S' h day = qLap S h day := funext fun j => by simp only [qLap, hT, h19, h20, h21]
  have hU : qSur S' h day = qSur S h day := funext fun j => by simp only [qSur, h20, h21]
  simp only [sState, sEnd, sLap, sSur, hE, hL, hU, h18, h19, h20]
theorem sWorth_congr {S S' : St} (h23 : S' 23 = S 23) (h24 : S' 24 = S 24) (h25 : S' 25 = S 25) (h day : Int) : sWorth S' h day = sWorth S h day := by
  have e : ∀ n, sWat S' h day n = sWat S h day n := by
    intro n
    induction n with
    | zero => rfl
    | succ n ih => rw [sWat_s, sWat_s, ih, h24]
  simp only [sWorth, h23, h25, e]
theorem qMany_congr {S S' : St} (h18 : S' 18 = S 18) (h19 : S' 19 = S 19) (h20 : S' 20 = S 20) (h21 : S' 21 = S 21) (h22 : S' 22 = S 22) (h26 : S' 26 = S 26) (day a : Int) : qMany S' day a = qMany S day a := by
  funext h
  simp only [qMany, sHas, sHas_congr h18 h19 h20 h21 h22, h26]
theorem up_ne (S : St) {k j : Nat} (z v : Int) (h : j ≠ k) : up S k z v j = S j := by
  funext b
  simp [up, h]
theorem clr_ne (S : St) {j : Nat} (n : Int) (h : j ≠ 26) : clr S n j = S j := by
  funext b
  simp [clr, h]
theorem clr_0 (S : St) : clr S ((0 : Nat) : Int) = S := by
  funext a b
  by_cases h : a = 26
  · subst h
    show (if 0 ≤ b ∧ b < ((0 : Nat) : Int) then 0 else S 26 b) = S 26 b
    rw [if_neg (by omega)]
  · simp [clr, h]
theorem clr_s (S : St) (n : Nat) : up (clr S (n : Int)) 26 (n : Int) 0 = clr S (((n + 1 : Nat)) : Int) := by
  funext a b
  by_cases h : a = 26
  · subst h
    show (if b = (n : Int) then 0 else (if 0 ≤ b ∧ b < (n : Int) then 0 else S 26 b)) = (if 0 ≤ b ∧ b < ((n + 1 : Nat) : Int) then 0 else S 26 b)
    by_cases h1 : b = (n : Int)
    · rw [if_pos h1, if_pos (by omega)]
    · rw [if_neg h1]
      by_cases h2 : 0 ≤ b ∧ b < (n : Int)
      · rw [if_pos h2, if_pos (by omega)]
      · rw [if_neg h2, if_neg (by omega)]
  · simp [up, clr, h]
/-- long compare -/
def sg (a b : Int) : Int := if a < b then -1 else if a = b then 0 else 1
theorem sg_le {a b : Int} : sg a b ≤ 0 ↔ a ≤ b := by
  unfold sg
  by_cases h : a < b
  · rw [if_pos h]; omega
  · rw [if_neg h]
    by_cases h2 : a = b
    · rw [if_pos h2]; omega
    · rw [if_neg h2]; omega
theorem sg_R (a b : Int) : R32 (sg a b) := by
  unfold sg
  by_cases h : a < b
  · rw [if_pos h]; decide
  · rw [if_neg h]
    by_cases h2 : a = b
    · rw [if_pos h2]; decide
    · rw [if_neg h2]; decide
/-- the state's numbers, but of the two rows that the fund uses -/
theorem Inv.congr {S S' : St} (h : ∀ k, k < 30 → S' k = S k) (hi : Inv S) : Inv S' := by
  have e := fun k (hk : k < 30) => h k hk
  unfold Inv at hi ⊢
  refine ⟨⟨fun k z hk => by rw [h k (by omega)]; exact hi.1.1 k z hk, by rw [h 29 (by decide)]; exact hi.1.2⟩, ?_⟩
  have hi2 := hi.2
  simp only [iLaw, iObj, iHouse, iEv, iWo, iUni, iQua, h 0 (by decide), h 2 (by decide), h 3 (by decide), h 4 (by decide), h 5 (by decide), h 6 (by decide), h 7 (by decide), h 8 (by decide), h 9 (by decide), h 10 (by decide), h 11 (by decide), h 12 (by decide), h 13 (by decide), h 14 (by decide), h 15 (by decide), h 16 (by decide), h 17 (by decide), h 18 (by decide), h 19 (by decide), h 20 (by decide), h 21 (by decide), h 22 (by decide), h 23 (by decide), h 24 (by decide), h 25 (by decide), h 26 (by decide)] at hi2 ⊢
  exact hi2
end
section
theorem Inv.xFeast {S : St} {d : Int} (hI : Inv S) : Inv (tFeast S d) := by
  unfold tFeast
  by_cases c : isD d ∧ ¬ sFeast S d ∧ S 0 0 ≠ 20
  · rw [cI_t c]
    have hN := hI.nums
    refine ⟨⟨fun k z hk => ?_, ?_⟩, ?_, fun j h0 h1 => ?_, fun j h0 h1 => ?_, fun h h0 h1 => ?_, fun h j h0 h1 h2 h3 => ?_, fun h j h0 h1 h2 h3 => ?_, fun h h0 h1 => ?_, fun h h0 => ?_⟩
    · first | exact hI.R hk | (simp only [up]; repeat' split) <;> (have hq := hI.R (z := z) hk; omega)
    · exact hI.seed
    · show (0 ≤ S 0 0 + 1 ∧ S 0 0 + 1 ≤ 20) ∧ _
      exact ⟨by omega, hN.2⟩
    · exact hI.law h0 h1
    · exact hI.obj h0 h1
    · exact hI.house h0 h1
    · exact hI.ev h0 h1 h2 h3
    · exact hI.wo h0 h1 h2 h3
    · exact hI.uni h0 h1
    · exact hI.out h0
  · rw [cI_f c]; exact hI

theorem Inv.xLaw {S : St} {d kd w f t : Int} (hI : Inv S) : Inv (tLaw S d kd w f t) := by
  unfold tLaw
  by_cases c : vLaw d kd w f t ∧ S 2 0 ≠ 40
  · rw [cI_t c]
    have hN := hI.nums
    refine ⟨⟨fun k z hk => ?_, ?_⟩, ?_, fun j h0 h1 => ?_, fun j h0 h1 => ?_, fun h h0 h1 => ?_, fun h j h0 h1 h2 h3 => ?_, fun h j h0 h1 h2 h3 => ?_, fun h h0 h1 => ?_, fun h h0 => ?_⟩
    · first | exact hI.R hk | (simp only [up]; repeat' split) <;> (have hq := hI.R (z := z) hk; omega)
    · exact hI.seed
    · show (0 ≤ S 0 0 ∧ S 0 0 ≤ 20) ∧ (0 ≤ S 2 0 + 1 ∧ S 2 0 + 1 ≤ 40) ∧ _
      exact ⟨hN.1, by omega, hN.2.2⟩
    · have h1 : j < S 2 0 + 1 := h1
      by_cases e : j = S 2 0
      · simp only [iLaw, up, e, if_true, reduceIte]
        simp
        omega
      · have hl := hI.law h0 (by omega)
        simp only [iLaw, up, e]
        simp
        omega
    · exact hI.obj h0 h1
    · exact hI.house h0 h1
    · exact hI.ev h0 h1 h2 h3
    · exact hI.wo h0 h1 h2 h3
    · exact hI.uni h0 h1
    · exact hI.out h0
  · rw [cI_f c]; exact hI

theorem Inv.xRule {S : St} {what v : Int} (hI : Inv S) : Inv (tRule S what v) := by
  unfold tRule
  by_cases c : vRule what v
  · rw [cI_t c]
    have hN := hI.nums
    have ha : 0 ≤ cI (what = 0) v (S 8 0) ∧ cI (what = 0) v (S 8 0) ≤ 200 := by
      by_cases z : what = 0
      · rw [cI_t z]; omega
      · rw [cI_f z]; omega
    have hb : 0 ≤ cI (what = 1) v (S 9 0) ∧ cI (what = 1) v (S 9 0) ≤ 500 := by
      by_cases z : what = 1
      · rw [cI_t z]; omega
      · rw [cI_f z]; omega
    refine ⟨⟨fun k z hk => ?_, ?_⟩, ?_, fun j h0 h1 => ?_, fun j h0 h1 => ?_, fun h h0 h1 => ?_, fun h j h0 h1 h2 h3 => ?_, fun h j h0 h1 h2 h3 => ?_, fun h h0 h1 => ?_, fun h h0 => ?_⟩
    · first | exact hI.R hk | (simp only [up]; repeat' split) <;> (have hq := hI.R (z := z) hk; omega)
    · exact hI.seed
    · exact ⟨hN.1, hN.2.1, ha, hb, hN.2.2.2.2⟩
    · exact hI.law h0 h1
    · exact hI.obj h0 h1
    · exact hI.house h0 h1
    · exact hI.ev h0 h1 h2 h3
    · exact hI.wo h0 h1 h2 h3
    · exact hI.uni h0 h1
    · exact hI.out h0
  · rw [cI_f c]; exact hI

theorem Inv.xObj {S : St} {x y w : Int} (hI : Inv S) : Inv (tObj S x y w) := by
  unfold tObj
  by_cases c : vObj x y w ∧ S 10 0 ≠ 20
  · rw [cI_t c]
    have hN := hI.nums
    refine ⟨⟨fun k z hk => ?_, ?_⟩, ?_, fun j h0 h1 => ?_, fun j h0 h1 => ?_, fun h h0 h1 => ?_, fun h j h0 h1 h2 h3 => ?_, fun h j h0 h1 h2 h3 => ?_, fun h h0 h1 => ?_, fun h h0 => ?_⟩
    · first | exact hI.R hk | (simp only [up]; repeat' split) <;> (have hq := hI.R (z := z) hk; omega)
    · exact hI.seed
    · exact ⟨hN.1, hN.2.1, hN.2.2.1, hN.2.2.2.1, (by show 0 ≤ S 10 0 + 1 ∧ S 10 0 + 1 ≤ 20; omega), hN.2.2.2.2.2⟩
    · exact hI.law h0 h1
    · have h1 : j < S 10 0 + 1 := h1
      by_cases e : j = S 10 0
      · simp only [iObj, up, e, if_true, reduceIte]
        simp
        omega
      · have hl := hI.obj h0 (by omega)
        simp only [iObj, up, e]
        simp
        omega
    · exact hI.house h0 h1
    · exact hI.ev h0 h1 h2 h3
    · exact hI.wo h0 h1 h2 h3
    · exact hI.uni h0 h1
    · exact hI.out h0
  · rw [cI_f c]; exact hI


theorem Inv.up28 {S : St} {v : Int} (hI : Inv S) : Inv (up S 28 0 v) := by
  refine ⟨⟨fun k z hk => ?_, ?_⟩, ?_, fun j h0 h1 => ?_, fun j h0 h1 => ?_, fun h h0 h1 => ?_, fun h j h0 h1 h2 h3 => ?_, fun h j h0 h1 h2 h3 => ?_, fun h h0 h1 => ?_, fun h h0 => ?_⟩
  · rw [up_ne S 0 v (show k ≠ 28 by omega)]; exact hI.R hk
  · exact hI.seed
  · exact hI.nums
  · exact hI.law h0 h1
  · exact hI.obj h0 h1
  · exact hI.house h0 h1
  · exact hI.ev h0 h1 h2 h3
  · exact hI.wo h0 h1 h2 h3
  · exact hI.uni h0 h1
  · exact hI.out h0

theorem Inv.up27 {S : St} {v : Int} (hI : Inv S) : Inv (up S 27 0 v) := by
  refine ⟨⟨fun k z hk => ?_, ?_⟩, ?_, fun j h0 h1 => ?_, fun j h0 h1 => ?_, fun h h0 h1 => ?_, fun h j h0 h1 h2 h3 => ?_, fun h j h0 h1 h2 h3 => ?_, fun h h0 h1 => ?_, fun h h0 => ?_⟩
  · rw [up_ne S 0 v (show k ≠ 27 by omega)]; exact hI.R hk
  · exact hI.seed
  · exact hI.nums
  · exact hI.law h0 h1
  · exact hI.obj h0 h1
  · exact hI.house h0 h1
  · exact hI.ev h0 h1 h2 h3
  · exact hI.wo h0 h1 h2 h3
  · exact hI.uni h0 h1
  · exact hI.out h0

theorem Inv.up29 {S : St} {v : Int} (hv : 1 ≤ v ∧ v ≤ 2147483646) (hI : Inv S) : Inv (up S 29 0 v) := by
  refine ⟨⟨fun k z hk => ?_, ?_⟩, ?_, fun j h0 h1 => ?_, fun j h0 h1 => ?_, fun h h0 h1 => ?_, fun h j h0 h1 h2 h3 => ?_, fun h j h0 h1 h2 h3 => ?_, fun h h0 h1 => ?_, fun h h0 => ?_⟩
  · rw [up_ne S 0 v (show k ≠ 29 by omega)]; exact hI.R hk
  · exact hv
  · exact hI.nums
  · exact hI.law h0 h1
  · exact hI.obj h0 h1
  · exact hI.house h0 h1
  · exact hI.ev h0 h1 h2 h3
  · exact hI.wo h0 h1 h2 h3
  · exact hI.uni h0 h1
  · exact hI.out h0

theorem Inv.clr {S : St} {n : Int} (hI : Inv S) : Inv (clr S n) := by
  refine ⟨⟨fun k z hk => ?_, ?_⟩, ?_, fun j h0 h1 => ?_, fun j h0 h1 => ?_, fun h h0 h1 => ?_, fun h j h0 h1 h2 h3 => ?_, fun h j h0 h1 h2 h3 => ?_, fun h h0 h1 => ?_, fun h h0 => ?_⟩
  · rw [clr_ne S n (show k ≠ 26 by omega)]; exact hI.R hk
  · exact hI.seed
  · exact hI.nums
  · exact hI.law h0 h1
  · exact hI.obj h0 h1
  · have hl := hI.house h0 h1
    refine ⟨hl.1, hl.2.1, ?_, hl.2.2.2⟩
    show (if 0 ≤ h ∧ h < n then 0 else S 26 h) = 0 ∨ (if 0 ≤ h ∧ h < n then 0 else S 26 h) = 1
    by_cases e : 0 ≤ h ∧ h < n
    · rw [if_pos e]; exact Or.inl rfl
    · rw [if_neg e]; exact hl.2.2.1
  · exact hI.ev h0 h1 h2 h3
  · exact hI.wo h0 h1 h2 h3
  · exact hI.uni h0 h1
  · refine ⟨(hI.out h0).1, ?_⟩
    show (if 0 ≤ h ∧ h < n then 0 else S 26 h) = 0
    by_cases e : 0 ≤ h ∧ h < n
    · rw [if_pos e]
    · rw [if_neg e]; exact (hI.out h0).2

theorem Inv.xRound {S : St} (hI : Inv S) : Inv (tRound S) := (hI.clr (n := 30)).up27

theorem Inv.up26 {S : St} {z : Int} (hz : 0 ≤ z ∧ z < S 14 0) (hI : Inv S) : Inv (up S 26 z 1) := by
  refine ⟨⟨fun k z hk => ?_, ?_⟩, ?_, fun j h0 h1 => ?_, fun j h0 h1 => ?_, fun h h0 h1 => ?_, fun h j h0 h1 h2 h3 => ?_, fun h j h0 h1 h2 h3 => ?_, fun h h0 h1 => ?_, fun h h0 => ?_⟩
  · rw [up_ne S _ 1 (show k ≠ 26 by omega)]; exact hI.R hk
  · exact hI.seed
  · exact hI.nums
  · exact hI.law h0 h1
  · exact hI.obj h0 h1
  · have hl := hI.house h0 h1
    refine ⟨hl.1, hl.2.1, ?_, hl.2.2.2⟩
    show (if h = z then 1 else S 26 h) = 0 ∨ (if h = z then 1 else S 26 h) = 1
    by_cases e : h = z
    · rw [if_pos e]; exact Or.inr rfl
    · rw [if_neg e]; exact hl.2.2.1
  · exact hI.ev h0 h1 h2 h3
  · exact hI.wo h0 h1 h2 h3
  · exact hI.uni h0 h1
  · have h0 : S 14 0 ≤ h := h0
    refine ⟨(hI.out h0).1, ?_⟩
    show (if h = z then 1 else S 26 h) = 0
    rw [if_neg (by omega)]; exact (hI.out h0).2

theorem Inv.xnewHouse {S : St} {x y kd w se : Int} (hp : isP x y) (hk3 : 0 ≤ kd ∧ kd ≤ 2) (hw : 1 ≤ w ∧ w ≤ 100000) (hs : isD se) (hn : S 14 0 ≠ 30) (hI : Inv S) : Inv (newHouse S x y kd w se) := by
  unfold newHouse
  have hN := hI.nums
  refine ⟨⟨fun k z hk => ?_, ?_⟩, ?_, fun j h0 h1 => ?_, fun j h0 h1 => ?_, fun h h0 h1 => ?_, fun h j h0 h1 h2 h3 => ?_, fun h j h0 h1 h2 h3 => ?_, fun h h0 h1 => ?_, fun h h0 => ?_⟩
  · simp only [up]
    repeat' split
    all_goals (have hq := hI.R (z := z) hk; omega)
  · exact hI.seed
  · exact ⟨hN.1, hN.2.1, hN.2.2.1, hN.2.2.2.1, hN.2.2.2.2.1, (by show 0 ≤ S 14 0 + 1 ∧ S 14 0 + 1 ≤ 30; omega)⟩
  · exact hI.law h0 h1
  · exact hI.obj h0 h1
  · have h1 : h < S 14 0 + 1 := h1
    have ho := hI.out (h := S 14 0) (by omega)
    by_cases e : h = S 14 0
    · simp only [iHouse, up, e]
      simp
      omega
    · have hl := hI.house h0 (by omega)
      have e8 : ¬ 8 * h = 8 * S 14 0 := by omega
      simp only [iHouse, up, e, e8]
      simp
      omega
  · have h1 : h < S 14 0 + 1 := h1
    have ho := hI.out (h := S 14 0) (by omega)
    have h3 : j < S 19 h := h3
    by_cases e : h = S 14 0
    · rw [e] at h3; omega
    · have hl := hI.ev h0 (by omega) h2 h3
      simp only [iEv, up, e]
      simp
      omega
  · have h1 : h < S 14 0 + 1 := h1
    by_cases e : h = S 14 0
    · have h3 : j < 1 := by
        have h4 : j < (if h = S 14 0 then 1 else S 23 h) := h3
        rw [if_pos e] at h4; exact h4
      have ej : j = 0 := by omega
      simp only [iWo, up, e, ej]
      simp
      omega
    · have h3 : j < S 23 h := by
        have h4 : j < (if h = S 14 0 then 1 else S 23 h) := h3
        rw [if_neg e] at h4; exact h4
      have hl := hI.wo h0 (by omega) h2 h3
      have hh := hI.house h0 (by omega)
      have e8 : ¬ 8 * h + j = 8 * S 14 0 := by omega
      simp only [iWo, up, e, e8]
      simp
      omega
  · have h1 : h < S 14 0 + 1 := h1
    have ho := hI.out (h := S 14 0) (by omega)
    by_cases e : h = S 14 0
    · refine ⟨fun i j hi => ?_, fun i hi => ?_⟩
      · have hi : (i : Int) < S 19 h := hi
        rw [e] at hi; omega
      · have hi : (i : Int) < S 19 h := hi
        rw [e] at hi; omega
    · exact hI.uni h0 (by omega)
  · have h0 : S 14 0 + 1 ≤ h := h0
    exact hI.out (by omega)

theorem Inv.xAsk {S : St} {x y k w no se : Int} (hI : Inv S) : Inv (tAsk S x y k w no se) := by
  unfold tAsk
  by_cases c : vAsk x y k w no se ∧ S 14 0 ≠ 30
  · rw [cI_t c]
    by_cases d : 0 < sJudge S x y no se
    · rw [cI_t d]; exact hI.up28
    · rw [cI_f d]; exact hI.xnewHouse c.1.1 c.1.2.1 c.1.2.2.1 c.1.2.2.2.2.1 c.2
  · rw [cI_f c]; exact hI

theorem Inv.xnewEvent {S : St} {hh d kd v : Int} (hh0 : 0 ≤ hh ∧ hh < S 14 0) (hd : isD d) (hv : vEv kd v) (hr : R32 v) (hne : ¬ nEv S hh d kd v) (h16 : S 19 hh ≠ 16) (hI : Inv S) : Inv (newEvent S hh d kd v) := by
  unfold newEvent
  have hN := hI.nums
  have hH := hI.house hh0.1 hh0.2
  have hg : S 18 hh ≤ d := Int.not_lt.mp (fun z => hne (Or.inl z))
  refine ⟨⟨fun k z hk => ?_, ?_⟩, ?_, fun j h0 h1 => ?_, fun j h0 h1 => ?_, fun h h0 h1 => ?_, fun h j h0 h1 h2 h3 => ?_, fun h j h0 h1 h2 h3 => ?_, fun h h0 h1 => ?_, fun h h0 => ?_⟩
  · simp only [up]
    repeat' split
    all_goals (have hq := hI.R (z := z) hk; omega)
  · exact hI.seed
  · exact hI.nums
  · exact hI.law h0 h1
  · exact hI.obj h0 h1
  · have hl := hI.house h0 h1
    by_cases e : h = hh
    · subst e
      simp only [iHouse, up]
      simp
      omega
    · simp only [iHouse, up, e]
      simp
      omega
  · have h1 : h < S 14 0 := h1
    by_cases e : h = hh
    · subst e
      have h3 : j < S 19 h + 1 := by
        have h4 : j < (if h = h then S 19 h + 1 else S 19 h) := h3
        rw [if_pos rfl] at h4; exact h4
      by_cases e2 : j = S 19 h
      · simp only [iEv, up, e2]
        simp
        omega
      · have hl := hI.ev h0 h1 h2 (by omega)
        have e3 : ¬ 16 * h + j = 16 * h + S 19 h := by omega
        simp only [iEv, up, e3]
        simp
        omega
    · have h3 : j < S 19 h := by
        have h4 : j < (if h = hh then S 19 hh + 1 else S 19 h) := h3
        rw [if_neg e] at h4; exact h4
      have hl := hI.ev h0 h1 h2 h3
      have hl2 := hI.house h0 h1
      have e3 : ¬ 16 * h + j = 16 * hh + S 19 hh := by omega
      simp only [iEv, up, e3]
      simp
      omega
  · exact hI.wo h0 h1 h2 h3
  · have h1 : h < S 14 0 := h1
    have hu := hI.uni h0 h1
    by_cases e : h = hh
    · subst e
      have hA : ∀ i : Nat, (i : Int) < S 19 h → (up (up (up (up S 20 (16 * h + S 19 h) d) 21 (16 * h + S 19 h) kd) 22 (16 * h + S 19 h) v) 19 h (S 19 h + 1)) 21 (16 * h + (i : Int)) = S 21 (16 * h + (i : Int)) ∧ (up (up (up (up S 20 (16 * h + S 19 h) d) 21 (16 * h + S 19 h) kd) 22 (16 * h + S 19 h) v) 19 h (S 19 h + 1)) 22 (16 * h + (i : Int)) = S 22 (16 * h + (i : Int)) := by
        intro i hi
        have e3 : ¬ 16 * h + (i : Int) = 16 * h + S 19 h := by omega
        simp [up, e3]
      have hB : ∀ i : Nat, (i : Int) = S 19 h → (up (up (up (up S 20 (16 * h + S 19 h) d) 21 (16 * h + S 19 h) kd) 22 (16 * h + S 19 h) v) 19 h (S 19 h + 1)) 21 (16 * h + (i : Int)) = kd ∧ (up (up (up (up S 20 (16 * h + S 19 h) d) 21 (16 * h + S 19 h) kd) 22 (16 * h + S 19 h) v) 19 h (S 19 h + 1)) 22 (16 * h + (i : Int)) = v := by
        intro i hi
        simp [up, hi]
      have hC : (up (up (up (up S 20 (16 * h + S 19 h) d) 21 (16 * h + S 19 h) kd) 22 (16 * h + S 19 h) v) 19 h (S 19 h + 1)) 19 h = S 19 h + 1 := by simp [up]
      refine ⟨fun i j hi hj a b c2 => ?_, fun i hi a => ?_⟩
      · rw [hC] at hi hj
        by_cases ei : (i : Int) = S 19 h
        · by_cases ej : (j : Int) = S 19 h
          · omega
          · rw [(hB i ei).1] at a
            rw [(hA j (by omega)).1] at b
            rw [(hB i ei).2, (hA j (by omega)).2] at c2
            exact absurd (Or.inr (Or.inl ⟨a, j, by omega, b, c2.symm⟩)) hne
        · by_cases ej : (j : Int) = S 19 h
          · rw [(hA i (by omega)).1] at a
            rw [(hB j ej).1] at b
            rw [(hA i (by omega)).2, (hB j ej).2] at c2
            exact absurd (Or.inr (Or.inl ⟨b, i, by omega, a, c2⟩)) hne
          · rw [(hA i (by omega)).1] at a
            rw [(hA j (by omega)).1] at b
            rw [(hA i (by omega)).2, (hA j (by omega)).2] at c2
            exact hu.1 i j (by omega) (by omega) a b c2
      · rw [hC] at hi
        by_cases ei : (i : Int) = S 19 h
        · rw [(hB i ei).1] at a
          have ht : sTold S h v := Classical.not_not.mp (fun z => hne (Or.inr (Or.inr ⟨a, z⟩)))
          obtain ⟨j, hj, t1, t2⟩ := ht
          refine ⟨j, by rw [hC]; omega, ?_, ?_⟩
          · rw [(hA j (by omega)).1]; exact t1
          · rw [(hA j (by omega)).2, (hB i ei).2]; exact t2
        · rw [(hA i (by omega)).1] at a
          obtain ⟨j, hj, t1, t2⟩ := hu.2 i (by omega) a
          refine ⟨j, by rw [hC]; omega, ?_, ?_⟩
          · rw [(hA j hj).1]; exact t1
          · rw [(hA j hj).2, (hA i (by omega)).2]; exact t2
    · have hA : ∀ i : Nat, (i : Int) < S 19 h → (up (up (up (up S 20 (16 * hh + S 19 hh) d) 21 (16 * hh + S 19 hh) kd) 22 (16 * hh + S 19 hh) v) 19 hh (S 19 hh + 1)) 21 (16 * h + (i : Int)) = S 21 (16 * h + (i : Int)) ∧ (up (up (up (up S 20 (16 * hh + S 19 hh) d) 21 (16 * hh + S 19 hh) kd) 22 (16 * hh + S 19 hh) v) 19 hh (S 19 hh + 1)) 22 (16 * h + (i : Int)) = S 22 (16 * h + (i : Int)) := by
        intro i hi
        have hl2 := hI.house h0 h1
        have e3 : ¬ 16 * h + (i : Int) = 16 * hh + S 19 hh := by omega
        simp [up, e3]
      have hC : (up (up (up (up S 20 (16 * hh + S 19 hh) d) 21 (16 * hh + S 19 hh) kd) 22 (16 * hh + S 19 hh) v) 19 hh (S 19 hh + 1)) 19 h = S 19 h := by simp [up, e]
      refine ⟨fun i j hi hj a b c2 => ?_, fun i hi a => ?_⟩
      · rw [hC] at hi hj
        rw [(hA i hi).1] at a
        rw [(hA j hj).1] at b
        rw [(hA i hi).2, (hA j hj).2] at c2
        exact hu.1 i j hi hj a b c2
      · rw [hC] at hi
        rw [(hA i hi).1] at a
        obtain ⟨j, hj, t1, t2⟩ := hu.2 i hi a
        exact ⟨j, by rw [hC]; exact hj, by rw [(hA j hj).1]; exact t1, by rw [(hA j hj).2, (hA i hi).2]; exact t2⟩
  · have h0 : S 14 0 ≤ h := h0
    have ho := hI.out h0
    have e : ¬ h = hh := by omega
    simp only [up, e]
    simp
    exact ho

theorem Inv.xEvent {S : St} {h d k v : Int} (hr : R32 v) (hI : Inv S) : Inv (tEvent S h d k v) := by
  unfold tEvent
  by_cases c : ((0 ≤ h ∧ h < S 14 0) ∧ isD d ∧ vEv k v) ∧ ¬ nEv S h d k v ∧ S 19 h ≠ 16
  · rw [cI_t c]; exact hI.xnewEvent c.1.1 c.1.2.1 c.1.2.2 hr c.2.1 c.2.2
  · rw [cI_f c]; exact hI

theorem Inv.xnewWorth {S : St} {hh d w : Int} (hh0 : 0 ≤ hh ∧ hh < S 14 0) (hd : isD d) (hw : 1 ≤ w ∧ w ≤ 100000) (h8 : S 23 hh ≠ 8) (hI : Inv S) : Inv (newWorth S hh d w) := by
  unfold newWorth
  have hN := hI.nums
  have hH := hI.house hh0.1 hh0.2
  have hx : S 18 hh ≤ cI (d < S 18 hh) (S 18 hh) d ∧ cI (d < S 18 hh) (S 18 hh) d ≤ 3999 := by
    by_cases z : d < S 18 hh
    · rw [cI_t z]; omega
    · rw [cI_f z]; omega
  generalize cI (d < S 18 hh) (S 18 hh) d = dd at hx ⊢
  refine ⟨⟨fun k z hk => ?_, ?_⟩, ?_, fun j h0 h1 => ?_, fun j h0 h1 => ?_, fun h h0 h1 => ?_, fun h j h0 h1 h2 h3 => ?_, fun h j h0 h1 h2 h3 => ?_, fun h h0 h1 => ?_, fun h h0 => ?_⟩
  · simp only [up]
    repeat' split
    all_goals (have hq := hI.R (z := z) hk; omega)
  · exact hI.seed
  · exact hI.nums
  · exact hI.law h0 h1
  · exact hI.obj h0 h1
  · have hl := hI.house h0 h1
    have h1 : h < S 14 0 := h1
    have e3 : ¬ 8 * h = 8 * hh + S 23 hh := by omega
    by_cases e : h = hh
    · subst e
      simp only [iHouse, up, e3]
      simp
      omega
    · simp only [iHouse, up, e, e3]
      simp
      omega
  · exact hI.ev h0 h1 h2 h3
  · have h1 : h < S 14 0 := h1
    by_cases e : h = hh
    · subst e
      have h3 : j < S 23 h + 1 := by
        have h4 : j < (if h = h then S 23 h + 1 else S 23 h) := h3
        rw [if_pos rfl] at h4; exact h4
      by_cases e2 : j = S 23 h
      · simp only [iWo, up, e2]
        simp
        omega
      · have hl := hI.wo h0 h1 h2 (by omega)
        have e3 : ¬ 8 * h + j = 8 * h + S 23 h := by omega
        simp only [iWo, up, e3]
        simp
        omega
    · have h3 : j < S 23 h := by
        have h4 : j < (if h = hh then S 23 hh + 1 else S 23 h) := h3
        rw [if_neg e] at h4; exact h4
      have hl := hI.wo h0 h1 h2 h3
      have hl2 := hI.house h0 h1
      have e3 : ¬ 8 * h + j = 8 * hh + S 23 hh := by omega
      simp only [iWo, up, e3]
      simp
      omega
  · exact hI.uni h0 h1
  · exact hI.out h0

theorem Inv.xWorth {S : St} {h d w : Int} (hI : Inv S) : Inv (tWorth S h d w) := by
  unfold tWorth
  by_cases c : ((0 ≤ h ∧ h < S 14 0) ∧ isD d ∧ 1 ≤ w ∧ w ≤ 100000) ∧ S 23 h ≠ 8
  · rw [cI_t c]; exact hI.xnewWorth c.1.1 c.1.2.1 c.1.2.2 c.2
  · rw [cI_f c]; exact hI
theorem Inv.xSeed {S : St} {v : Int} (hI : Inv S) : Inv (tSeed S v) := by
  unfold tSeed
  by_cases c : 1 ≤ v ∧ v ≤ 2147483646
  · rw [cI_t c]; exact (hI.up29 c).xRound
  · rw [cI_f c]; exact hI
/-- the seed never becomes 0: its modulus is a prime -/
theorem seed_ok {z : Int} (h : 1 ≤ z ∧ z ≤ 2147483646) : 1 ≤ z * 16807 % 2147483647 ∧ z * 16807 % 2147483647 ≤ 2147483646 := by
  have h1 : 0 ≤ z * 16807 % 2147483647 := Int.emod_nonneg _ (by decide)
  have h2 : z * 16807 % 2147483647 < 2147483647 := Int.emod_lt_of_pos _ (by decide)
  refine ⟨?_, by omega⟩
  by_cases e : z * 16807 % 2147483647 = 0
  · exfalso
    -- 16807 * 1407677000 = 1 modulo 2147483647
    have e2 : (z * 16807 * 1407677000) % 2147483647 = 0 := by rw [Int.mul_emod, e]; decide
    have e3 : z * 16807 * 1407677000 = z + 2147483647 * (z * 11017) := by omega
    rw [e3, Int.add_mul_emod_self_left] at e2
    omega
  · omega

theorem Inv.xVis2 {S : St} {day : Int} (hI : Inv S) : Inv (tVis2 S day) := by
  unfold tVis2 tVis1
  by_cases c : sMany S day 0 (S 14 0).toNat = 0
  · rw [cI_t c]; exact hI.xRound.up29 (seed_ok hI.seed)
  · rw [cI_f c]; exact hI.up29 (seed_ok hI.seed)
end
section
/-! the class's own ways to the same numbers -/
abbrev iQf (S : St) (h : Int) : Prop := ∀ j : Nat, (j : Int) < S 19 h → (0 ≤ S 40 (16 * h + j) ∧ S 40 (16 * h + j) ≤ 1000000) ∧ (S 21 (16 * h + j) = 0 → ∀ day : Int, isD day → (day < S 40 (16 * h + j) ↔ ¬ exN (sQuash S h (16 * h + j) day) (S 19 h).toNat))
def InvC (S : St) : Prop := ∀ h : Int, 0 ≤ h → h < S 14 0 → iQf S h
/-- offences counted by the class: from day - 1825 to day, not quashed by the day asked -/
abbrev qOffC (S : St) (h day asked : Int) (q : Nat) : Prop := ((day - 1825 ≤ S 20 (16 * h + q) ∧ S 20 (16 * h + q) ≤ day) ∧ S 21 (16 * h + q) = 0) ∧ asked < S 40 (16 * h + q)
noncomputable def sOffC (S : St) (h day asked : Int) (n : Nat) : Int := cnt (qOffC S h day asked) n
abbrev qEndC (S : St) (h asked : Int) (j : Nat) : Prop := (S 21 (16 * h + j) = 0 ∧ S 20 (16 * h + j) ≤ asked) ∧ 3 ≤ sOffC S h (S 20 (16 * h + j)) asked (S 19 h).toNat
noncomputable def sEndC (S : St) (h asked : Int) (n : Nat) : Int := mn (qEndC S h asked) (fun j => S 20 (16 * h + j)) 1000000 n
theorem mn_eq {q p : Nat → Prop} {f : Nat → Int} {a : Int} {n : Nat} (h1 : ∀ k, k < n → q k → p k) (h2 : ∀ k, k < n → p k → ∃ k', k' < n ∧ q k' ∧ f k' ≤ f k) : mn p f a n = mn q f a n := by
  refine Int.le_antisymm ?_ ?_
  · rcases mn_at q f a n with e | ⟨k, k1, k2, k3⟩
    · rw [e]; exact mn_le p f a n
    · rw [k3]; exact mn_lb p f a n k k1 (h1 k k1 k2)
  · rcases mn_at p f a n with e | ⟨k, k1, k2, k3⟩
    · rw [e]; exact mn_le q f a n
    · rw [k3]
      obtain ⟨k', g1, g2, g3⟩ := h2 k k1 k2
      have := mn_lb q f a n k' g1 g2
      omega
/-- the class's NEVER and the reference's -/
theorem mn_init {q : Nat → Prop} {f : Nat → Int} {n : Nat} (hf : ∀ k, k < n → q k → f k < 100000) : (mn q f 1000000 n = 1000000 ∧ mn q f 100000 n = 100000) ∨ (mn q f 1000000 n = mn q f 100000 n ∧ mn q f 100000 n < 100000) := by
  rcases mn_at q f 1000000 n with e | ⟨k, k1, k2, k3⟩
  · refine Or.inl ⟨e, ?_⟩
    rcases mn_at q f 100000 n with e2 | ⟨k, k1, k2, k3⟩
    · exact e2
    · have h1 := mn_lb q f 1000000 n k k1 k2
      have h2 := hf k k1 k2
      omega
  · have h2 := hf k k1 k2
    have h3 := mn_lb q f 100000 n k k1 k2
    refine Or.inr ⟨?_, by omega⟩
    rcases mn_at q f 100000 n with e2 | ⟨k', g1, g2, g3⟩
    · omega
    · have h4 := mn_lb q f 1000000 n k' g1 g2
      omega
section SC
variable {S : St}
theorem sCnt_iff (hQ : InvC S) {h asked : Int} (h0 : 0 ≤ h ∧ h < S 14 0) (hd : isD asked) {j : Nat} (hj : (j : Int) < S 19 h) : sCnt S h (16 * h + j) asked ↔ ((S 21 (16 * h + j) = 0 ∧ S 20 (16 * h + j) ≤ asked) ∧ asked < S 40 (16 * h + j)) := by
  have hq := hQ h h0.1 h0.2 j hj
  exact ⟨fun z => ⟨z.1, (hq.2 z.1.1 asked hd).mpr z.2⟩, fun z => ⟨z.1, (hq.2 z.1.1 asked hd).mp z.2⟩⟩
theorem sOffC_eq (hQ : InvC S) {h asked : Int} (h0 : 0 ≤ h ∧ h < S 14 0) (hd : isD asked) {j : Nat} (hle : S 20 (16 * h + j) ≤ asked) : sOffC S h (S 20 (16 * h + j)) asked (S 19 h).toNat = sNum S h asked j (S 19 h).toNat := by
  refine cnt_congr (fun q hq => ?_)
  have e := sCnt_iff hQ h0 hd (j := q) (by omega)
  constructor
  · rintro ⟨⟨⟨a, b⟩, c⟩, d⟩
    exact ⟨e.mpr ⟨⟨c, by omega⟩, d⟩, b, a⟩
  · rintro ⟨a, b, c⟩
    have a2 := e.mp a
    exact ⟨⟨⟨c, b⟩, a2.1.1⟩, a2.2⟩
theorem sOffC_on (hQ : InvC S) {h day : Int} (h0 : 0 ≤ h ∧ h < S 14 0) (hd : isD day) : sOffC S h day day (S 19 h).toNat = sOff S h day := by
  refine cnt_congr (fun q hq => ?_)
  have e := sCnt_iff hQ h0 hd (j := q) (by omega)
  constructor
  · rintro ⟨⟨⟨a, b⟩, c⟩, d⟩
    exact ⟨e.mpr ⟨⟨c, b⟩, d⟩, a⟩
  · rintro ⟨a, b⟩
    have a2 := e.mp a
    exact ⟨⟨⟨b, a2.1.2⟩, a2.1.1⟩, a2.2⟩
theorem cnt_pos {q : Nat → Prop} {n : Nat} (h : 0 < cnt q n) : ∃ k, k < n ∧ q k := by
  induction n with
  | zero => exact absurd h (by show ¬ (0 : Int) < 0; decide)
  | succ n ih =>
    have h2 : 0 < cnt q n + bI (q n) := h
    by_cases c : q n
    · exact ⟨n, by omega, c⟩
    · rw [bI_f c] at h2
      obtain ⟨k, k1, k2⟩ := ih (by omega)
      exact ⟨k, by omega, k2⟩
/-- of those with q, one with the greatest f -/
theorem max_ex {q : Nat → Prop} {f : Nat → Int} {n : Nat} (h : ∃ k, k < n ∧ q k) : ∃ k, k < n ∧ q k ∧ ∀ k', k' < n → q k' → f k' ≤ f k := by
  induction n with
  | zero => obtain ⟨k, k1, -⟩ := h; exact absurd k1 (Nat.not_lt_zero _)
  | succ n ih =>
    by_cases c : ∃ k, k < n ∧ q k
    · obtain ⟨k, k1, k2, k3⟩ := ih c
      by_cases d : q n ∧ f k < f n
      · refine ⟨n, by omega, d.1, fun k' g1 g2 => ?_⟩
        by_cases e : k' = n
        · rw [e]; exact Int.le_refl _
        · have := k3 k' (by omega) g2; omega
      · refine ⟨k, by omega, k2, fun k' g1 g2 => ?_⟩
        by_cases e : k' = n
        · rw [e]
          rw [e] at g2
          exact Int.not_lt.mp (fun z => d ⟨g2, z⟩)
        · exact k3 k' (by omega) g2
    · obtain ⟨k, k1, k2⟩ := h
      have e : k = n := by
        by_cases e : k = n
        · exact e
        · exact absurd ⟨k, by omega, k2⟩ c
      subst e
      refine ⟨k, by omega, k2, fun k' g1 g2 => ?_⟩
      by_cases e : k' = k
      · rw [e]; exact Int.le_refl _
      · exact absurd ⟨k', by omega, g2⟩ c
theorem cnt_sub {q p : Nat → Prop} {n : Nat} (h : ∀ k, k < n → q k → p k) : cnt q n ≤ cnt p n := by
  induction n with
  | zero => exact Int.le_refl _
  | succ n ih =>
    show cnt q n + bI (q n) ≤ cnt p n + bI (p n)
    have h1 := ih (fun k hk => h k (by omega))
    by_cases c : q n
    · rw [bI_t c, bI_t (h n (by omega) c)]; omega
    · rw [bI_f c]
      have := bI_le (p n)
      omega
/-- where the class ends a house, there the reference does: of three offences that count together, the last -/
theorem sEndC_eq (hQ : InvC S) {h asked : Int} (h0 : 0 ≤ h ∧ h < S 14 0) (hd : isD asked) : sEndC S h asked (S 19 h).toNat = sEnd S h asked 1000000 (S 19 h).toNat := by
  refine mn_eq (fun k hk hq => ?_) (fun k hk hp => ?_)
  · have e := sCnt_iff hQ h0 hd (j := k) (by omega)
    have a := e.mp hq.1
    refine ⟨a.1, ?_⟩
    rw [sOffC_eq hQ h0 hd a.1.2]
    have := hq.2
    omega
  · have hle := hp.1.2
    have h3 := hp.2
    rw [sOffC_eq hQ h0 hd hle] at h3
    obtain ⟨x, x1, x2, x3⟩ := max_ex (f := fun q => S 20 (16 * h + q)) (cnt_pos (q := qNum S h asked k) (n := (S 19 h).toNat) (by show 0 < sNum S h asked k _; omega))
    refine ⟨x, x1, ⟨x2.1, ?_⟩, x2.2.1⟩
    have hc : sNum S h asked k (S 19 h).toNat ≤ sNum S h asked x (S 19 h).toNat := cnt_sub (fun q hq z => ⟨z.1, x3 q hq z, by
      have a1 := z.2.2
      have a2 := x2.2.1
      omega⟩)
    omega
theorem sState_eq (hI : Inv S) {h day : Int} (h0 : 0 ≤ h ∧ h < S 14 0) : sState S h day 1000000 = sState S h day 100000 := by
  have hE : (sEnd S h day 1000000 (S 19 h).toNat = 1000000 ∧ sEnd S h day 100000 (S 19 h).toNat = 100000) ∨ (sEnd S h day 1000000 (S 19 h).toNat = sEnd S h day 100000 (S 19 h).toNat ∧ sEnd S h day 100000 (S 19 h).toNat < 100000) :=
    mn_init (fun k hk _ => by have := hI.ev h0.1 h0.2 (j := k) (by omega) (by omega); show S 20 (16 * h + k) < 100000; omega)
  have hL : (sLap S h day 1000000 (S 19 h).toNat = 1000000 ∧ sLap S h day 100000 (S 19 h).toNat = 100000) ∨ (sLap S h day 1000000 (S 19 h).toNat = sLap S h day 100000 (S 19 h).toNat ∧ sLap S h day 100000 (S 19 h).toNat < 100000) :=
    mn_init (fun k hk _ => by have := hI.ev h0.1 h0.2 (j := k) (by omega) (by omega); show S 20 (16 * h + k) + 28 < 100000; omega)
  have hU : (sSur S h day 1000000 (S 19 h).toNat = 1000000 ∧ sSur S h day 100000 (S 19 h).toNat = 100000) ∨ (sSur S h day 1000000 (S 19 h).toNat = sSur S h day 100000 (S 19 h).toNat ∧ sSur S h day 100000 (S 19 h).toNat < 100000) :=
    mn_init (fun k hk _ => by have := hI.ev h0.1 h0.2 (j := k) (by omega) (by omega); show S 20 (16 * h + k) < 100000; omega)
  unfold sState
  by_cases c1 : day < S 18 h
  · rw [cI_t c1, cI_t c1]
  · rw [cI_f c1, cI_f c1]
    by_cases c2 : sEnd S h day 100000 (S 19 h).toNat = 100000 ∧ sLap S h day 100000 (S 19 h).toNat = 100000 ∧ sSur S h day 100000 (S 19 h).toNat = 100000
    · rw [cI_t c2, cI_t (by omega)]
    · rw [cI_f c2, cI_f (by omega)]
      by_cases c3 : sEnd S h day 100000 (S 19 h).toNat ≤ sLap S h day 100000 (S 19 h).toNat ∧ sEnd S h day 100000 (S 19 h).toNat ≤ sSur S h day 100000 (S 19 h).toNat
      · rw [cI_t c3, cI_t (by omega)]
      · rw [cI_f c3, cI_f (by omega)]
        by_cases c4 : sLap S h day 100000 (S 19 h).toNat ≤ sSur S h day 100000 (S 19 h).toNat
        · rw [cI_t c4, cI_t (by omega)]
        · rw [cI_f c4, cI_f (by omega)]
end SC
end
section
/-! the reference: its object and rows, as the state -/
def mLen : Nat → Nat
  | 1 => 20
  | 3 => 40
  | 4 => 40
  | 5 => 40
  | 6 => 40
  | 7 => 40
  | 11 => 20
  | 12 => 20
  | 13 => 20
  | 15 => 30
  | 16 => 30
  | 17 => 30
  | 18 => 30
  | 19 => 30
  | 20 => 480
  | 21 => 480
  | 22 => 480
  | 23 => 30
  | 24 => 240
  | 25 => 240
  | 26 => 30
  | 30 => 30
  | 31 => 30
  | _ => 0
def mFs (mad : Nat → Nat) (S : St) : List Value := [.int (iI (S 0 0)), .ref (mad 1), .int (iI (S 2 0)), .ref (mad 3), .ref (mad 4), .ref (mad 5), .ref (mad 6), .ref (mad 7), .int (iI (S 8 0)), .int (iI (S 9 0)), .int (iI (S 10 0)), .ref (mad 11), .ref (mad 12), .ref (mad 13), .int (iI (S 14 0)), .ref (mad 15), .ref (mad 16), .ref (mad 17), .ref (mad 18), .ref (mad 19), .ref (mad 20), .ref (mad 21), .ref (mad 22), .ref (mad 23), .ref (mad 24), .ref (mad 25), .ref (mad 26), .int (iI (S 27 0)), .int (iI (S 28 0)), .long (lI (S 29 0)), .ref (mad 30), .ref (mad 31)]
def mE (g : GG) (S : St) (k : Nat) : va_E := if k = 26 then .inl (g.2.2.2.1, 30, .inl (fun j => iI (S k (j : Int)))) else if k = 30 ∨ k = 31 then .inl (g.2.2.1, 30, .inr (.inl (fun j => lI (S k (j : Int))))) else .inl (g.2.1, mLen k, .inl (fun j => iI (S k (j : Int))))
def RepM (g : GG) (mad : Nat → Nat) (S : St) (H : Heap) : Prop := va_at g.1 vwCl (mad 0, .inr (7, mFs mad S)) H ∧ ∀ k, k < 32 → 0 < mLen k → va_at g.1 vwCl (mad k, mE g S k) H
def mInj (mad : Nat → Nat) : Prop := ∀ a b, a < 32 → b < 32 → (a = 0 ∨ 0 < mLen a) → (b = 0 ∨ 0 < mLen b) → mad a = mad b → a = b
def PM (mad : Nat → Nat) : Nat → Prop := fun q => ∃ k, k < 32 ∧ (k = 0 ∨ 0 < mLen k) ∧ mad k = q
theorem mE_congr {g : GG} {S S' : St} {k : Nat} (h : S' k = S k) : mE g S' k = mE g S k := by unfold mE; rw [h]
theorem RepM.obj {g : GG} {mad : Nat → Nat} {S S' : St} {H H1 : Heap} (hM : RepM g mad S H) (hi : mInj mad) (h1 : va_at g.1 vwCl (mad 0, .inr (7, mFs mad S')) H1) (hS : ∀ j, j < 32 → 0 < mLen j → S' j = S j) (ho : ∀ q : Nat, q ≠ mad 0 → H1[q]? = H[q]?) : RepM g mad S' H1 := by
  refine ⟨h1, fun k hk h0 => ?_⟩
  rw [mE_congr (hS k hk h0)]
  refine (hM.2 k hk h0).kept (ho _ (fun e => ?_))
  have := hi k 0 hk (by decide) (Or.inr h0) (Or.inl rfl) e
  subst this
  exact absurd h0 (by decide)
theorem RepM.arr {g : GG} {mad : Nat → Nat} {S S' : St} {H H1 : Heap} (hM : RepM g mad S H) (hi : mInj mad) {k : Nat} (hk : k < 32) (h0 : 0 < mLen k) (h1 : va_at g.1 vwCl (mad k, mE g S' k) H1) (hf : mFs mad S' = mFs mad S) (hS : ∀ j, j ≠ k → S' j = S j) (ho : ∀ q : Nat, q ≠ mad k → H1[q]? = H[q]?) : RepM g mad S' H1 := by
  refine ⟨?_, fun j hj hj0 => ?_⟩
  · rw [hf]
    refine hM.1.kept (ho _ (fun e => ?_))
    have := hi 0 k (by decide) hk (Or.inl rfl) (Or.inr h0) e
    subst this
    exact absurd h0 (by decide)
  · by_cases e : j = k
    · subst e; exact h1
    · rw [mE_congr (hS j e)]
      exact (hM.2 j hj hj0).kept (ho _ (fun z => e (hi j k hj hk (Or.inr hj0) (Or.inr h0) z)))
theorem RepM.kept {g : GG} {mad : Nat → Nat} {S : St} {H H1 : Heap} (hM : RepM g mad S H) (h : ∀ q, PM mad q → H1[q]? = H[q]?) : RepM g mad S H1 :=
  ⟨hM.1.kept (h _ ⟨0, by decide, Or.inl rfl, rfl⟩), fun k hk h0 => (hM.2 k hk h0).kept (h _ ⟨k, hk, Or.inr h0, rfl⟩)⟩
section QM
variable {p : Program} {l : Launch} {e : Env} {R : Room} {s : State} {m : MethodId} {args : Array Value} {below : List Frame} {meth : Method} {c : Code} {H : Heap} {locs : List Loc} {cells slots : Nat} {Q : State → Prop}
variable {cc : ByteArray} {pc : Nat} {ls : Array Slot} {rest : List Value} {g : GG}
/-- an int out of a row of the reference -/
theorem q_mld (hexec : p.tables.exec = Jvm.exec) (hb : c.code = cc) (hK : KK g s) {mad : Nat → Nat} {S : St} (hM : RepM g mad S H) (k n : Nat) (hk : k < 32 ∧ 0 < mLen k ∧ n < 2147483648) (he : mE g S k = .inl (g.2.1, n, .inl (fun j => iI (S k (j : Int))))) {z : Int} (hz : 0 ≤ z ∧ z < n) (hdg : decode cc pc = .ok (.iaload, 1)) (kk : W p l e R s m args below meth c H locs cells slots Q (F0 m (pc + 1) ls (.int (iI (S k z)) :: rest))) : W p l e R s m args below meth c H locs cells slots Q (F0 m pc ls (.int (iI z) :: .ref (mad k) :: rest)) := by
  have h := hM.2 k hk.1 hk.2.1
  rw [he] at h
  exact q_iald (f := S k) hexec hb hK h hk.2.2 hz hdg kk
theorem q_mldz (hexec : p.tables.exec = Jvm.exec) (hb : c.code = cc) (hK : KK g s) {mad : Nat → Nat} {S : St} (hM : RepM g mad S H) {z : Int} (hz : 0 ≤ z ∧ z < (30 : Nat)) (hdg : decode cc pc = .ok (.baload, 1)) (kk : W p l e R s m args below meth c H locs cells slots Q (F0 m (pc + 1) ls (.int (iI (S 26 z)) :: rest))) : W p l e R s m args below meth c H locs cells slots Q (F0 m pc ls (.int (iI z) :: .ref (mad 26) :: rest)) := by
  have h := hM.2 26 (by decide) (by decide)
  exact q_zald (f := S 26) hexec hb hK h (by decide) hz hdg kk
theorem q_mldj (hexec : p.tables.exec = Jvm.exec) (hb : c.code = cc) (hK : KK g s) {mad : Nat → Nat} {S : St} (hM : RepM g mad S H) (k : Nat) (hk : k = 30 ∨ k = 31) {z : Int} (hz : 0 ≤ z ∧ z < (30 : Nat)) (hdg : decode cc pc = .ok (.laload, 1)) (kk : W p l e R s m args below meth c H locs cells slots Q (F0 m (pc + 1) ls (.long (lI (S k z)) :: rest))) : W p l e R s m args below meth c H locs cells slots Q (F0 m pc ls (.int (iI z) :: .ref (mad k) :: rest)) := by
  rcases hk with rfl | rfl
  · have h := hM.2 30 (by decide) (by decide)
    exact q_lald (f := S 30) hexec hb hK h (by decide) hz hdg kk
  · have h := hM.2 31 (by decide) (by decide)
    exact q_lald (f := S 31) hexec hb hK h (by decide) hz hdg kk
/-- a number of the reference is written -/
theorem q_mput {own : String} {index : Nat} {Ts : List Cond} {A : Nat → Prop} {mad : Nat → Nat} {S : St} (hexec : p.tables.exec = Jvm.exec) (hb : c.code = cc) (hts : ∀ w ∈ Ts, w.before args s = true) (hin : ∀ w ∈ wsX60, w ∈ Ts) (hown : s.vm.findClass own = some m.cls) (hK : KK g s) (hM : RepM g mad S H) (hi : mInj mad) (hS : va_S A s.heap H locs) (hA : A (mad 0)) (k : Nat) (hk : k < 32) (hsc : mLen k = 0) (hlink : (Cond.fieldLink own index "TavernBenchModel" (TX6 k).2.1 (TX6 k).2.2.1).before args s = true) (hsame : ∀ x, s.fieldFound? (TX6 k).1 (TX6 k).2.1 (TX6 k).2.2.1 = some x → s.fieldFound? "TavernBenchModel" (TX6 k).2.1 (TX6 k).2.2.1 = some x) (hfin : (TX6 k).2.2.2 = false) (hd : parseFieldDescriptor (TX6 k).2.2.1 = some .int) (z : Int) (hset : (mFs mad S).set k (.int (iI z)) = mFs mad (up S k 0 z)) (hdg : decode cc pc = .ok (.putfield index, 3)) (kk : ∀ (H1 : Heap) (locs1 : List Loc), RepM g mad (up S k 0 z) H1 → va_S A s.heap H1 locs1 → W p l e R s m args below meth c H1 locs1 cells slots Q (F0 m (pc + 3) ls rest)) : W p l e R s m args below meth c H locs cells slots Q (F0 m pc ls (.int (iI z) :: .ref (mad 0) :: rest)) :=
  q_put hexec hb hts hin tyX6 tyX6_ok nmX6 hown hK hM.1 rfl k hk hlink hsame hfin hd rfl rfl hk hdg (fun H1 i h1 z1 o1 => kk H1 _ (hM.obj hi (by rw [← hset]; exact h1) (fun j _ h0 => up_ne S 0 z (fun e => by rw [e, hsc] at h0; exact absurd h0 (by decide))) o1) (hS.put z1 o1 hA))
theorem q_mputj {own : String} {index : Nat} {Ts : List Cond} {A : Nat → Prop} {mad : Nat → Nat} {S : St} (hexec : p.tables.exec = Jvm.exec) (hb : c.code = cc) (hts : ∀ w ∈ Ts, w.before args s = true) (hin : ∀ w ∈ wsX60, w ∈ Ts) (hown : s.vm.findClass own = some m.cls) (hK : KK g s) (hM : RepM g mad S H) (hi : mInj mad) (hS : va_S A s.heap H locs) (hA : A (mad 0)) (k : Nat) (hk : k < 32) (hsc : mLen k = 0) (hlink : (Cond.fieldLink own index "TavernBenchModel" (TX6 k).2.1 (TX6 k).2.2.1).before args s = true) (hsame : ∀ x, s.fieldFound? (TX6 k).1 (TX6 k).2.1 (TX6 k).2.2.1 = some x → s.fieldFound? "TavernBenchModel" (TX6 k).2.1 (TX6 k).2.2.1 = some x) (hfin : (TX6 k).2.2.2 = false) (hd : parseFieldDescriptor (TX6 k).2.2.1 = some .long) (z : Int) (hset : (mFs mad S).set k (.long (lI z)) = mFs mad (up S k 0 z)) (hdg : decode cc pc = .ok (.putfield index, 3)) (kk : ∀ (H1 : Heap) (locs1 : List Loc), RepM g mad (up S k 0 z) H1 → va_S A s.heap H1 locs1 → W p l e R s m args below meth c H1 locs1 cells slots Q (F0 m (pc + 3) ls rest)) : W p l e R s m args below meth c H locs cells slots Q (F0 m pc ls (.long (lI z) :: .ref (mad 0) :: rest)) :=
  q_put hexec hb hts hin tyX6 tyX6_ok nmX6 hown hK hM.1 rfl k hk hlink hsame hfin hd rfl rfl hk hdg (fun H1 i h1 z1 o1 => kk H1 _ (hM.obj hi (by rw [← hset]; exact h1) (fun j _ h0 => up_ne S 0 z (fun e => by rw [e, hsc] at h0; exact absurd h0 (by decide))) o1) (hS.put z1 o1 hA))
/-- an int is written into a row -/
theorem q_mst {A : Nat → Prop} {mad : Nat → Nat} {S : St} (hexec : p.tables.exec = Jvm.exec) (hb : c.code = cc) (hK : KK g s) (hM : RepM g mad S H) (hi : mInj mad) (hS : va_S A s.heap H locs) (k n : Nat) (hA : A (mad k)) (hk : k < 32 ∧ 0 < mLen k ∧ n < 2147483648) (z v : Int) (he : ∀ S' : St, mE g S' k = .inl (g.2.1, n, .inl (fun j => iI (S' k (j : Int))))) (hf : mFs mad (up S k z v) = mFs mad S) (hz : 0 ≤ z ∧ z < n) (hdg : decode cc pc = .ok (.iastore, 1)) (kk : ∀ (H1 : Heap) (locs1 : List Loc), RepM g mad (up S k z v) H1 → va_S A s.heap H1 locs1 → W p l e R s m args below meth c H1 locs1 cells slots Q (F0 m (pc + 1) ls rest)) : W p l e R s m args below meth c H locs cells slots Q (F0 m pc ls (.int (iI v) :: .int (iI z) :: .ref (mad k) :: rest)) := by
  have h := hM.2 k hk.1 hk.2.1
  rw [he S] at h
  refine q_iast (f := S k) hexec hb hK h hk.2.2 hz hdg (fun H1 i h1 z1 o1 => kk H1 _ (hM.arr hi hk.1 hk.2.1 ?_ hf (fun j hj => up_ne S z v hj) o1) (hS.put z1 o1 hA))
  rw [he (up S k z v)]
  simp only [up, if_true]
  exact h1
theorem q_mstz {A : Nat → Prop} {mad : Nat → Nat} {S : St} (hexec : p.tables.exec = Jvm.exec) (hb : c.code = cc) (hK : KK g s) (hM : RepM g mad S H) (hi : mInj mad) (hS : va_S A s.heap H locs) (hA : A (mad 26)) (z v : Int) (hv : v = 0 ∨ v = 1) (hz : 0 ≤ z ∧ z < (30 : Nat)) (hdg : decode cc pc = .ok (.bastore, 1)) (kk : ∀ (H1 : Heap) (locs1 : List Loc), RepM g mad (up S 26 z v) H1 → va_S A s.heap H1 locs1 → W p l e R s m args below meth c H1 locs1 cells slots Q (F0 m (pc + 1) ls rest)) : W p l e R s m args below meth c H locs cells slots Q (F0 m pc ls (.int (iI v) :: .int (iI z) :: .ref (mad 26) :: rest)) := by
  have h := hM.2 26 (by decide) (by decide)
  refine q_zast (f := S 26) hexec hb hK h (by decide) hz hv hdg (fun H1 i h1 z1 o1 => kk H1 _ (hM.arr hi (by decide) (by decide) ?_ rfl (fun j hj => up_ne S z v hj) o1) (hS.put z1 o1 hA))
  show va_at g.1 vwCl (mad 26, .inl (g.2.2.2.1, 30, .inl (fun j => iI (up S 26 z v 26 (j : Int))))) H1
  simp only [up, if_true]
  exact h1
theorem q_mstj {A : Nat → Prop} {mad : Nat → Nat} {S : St} (hexec : p.tables.exec = Jvm.exec) (hb : c.code = cc) (hK : KK g s) (hM : RepM g mad S H) (hi : mInj mad) (hS : va_S A s.heap H locs) (k : Nat) (hA : A (mad k)) (z v : Int) (hk : k < 32 ∧ 0 < mLen k) (he : ∀ S' : St, mE g S' k = .inl (g.2.2.1, 30, .inr (.inl (fun j => lI (S' k (j : Int)))))) (hf : mFs mad (up S k z v) = mFs mad S) (hz : 0 ≤ z ∧ z < (30 : Nat)) (hdg : decode cc pc = .ok (.lastore, 1)) (kk : ∀ (H1 : Heap) (locs1 : List Loc), RepM g mad (up S k z v) H1 → va_S A s.heap H1 locs1 → W p l e R s m args below meth c H1 locs1 cells slots Q (F0 m (pc + 1) ls rest)) : W p l e R s m args below meth c H locs cells slots Q (F0 m pc ls (.long (lI v) :: .int (iI z) :: .ref (mad k) :: rest)) := by
  have h := hM.2 k hk.1 hk.2
  rw [he S] at h
  refine q_last (f := S k) hexec hb hK h (by decide) hz hdg (fun H1 i h1 z1 o1 => kk H1 _ (hM.arr hi hk.1 hk.2 ?_ hf (fun j hj => up_ne S z v hj) o1) (hS.put z1 o1 hA))
  rw [he (up S k z v)]
  simp only [up, if_true]
  exact h1
theorem q_lcmp (hexec : p.tables.exec = Jvm.exec) (hb : c.code = cc) {a b : Int} (ra : R64 a) (rb : R64 b) (hdg : decode cc pc = .ok (.lcmp, 1)) (k : W p l e R s m args below meth c H locs cells slots Q (F0 m (pc + 1) ls (.int (iI (sg a b)) :: rest))) : W p l e R s m args below meth c H locs cells slots Q (F0 m pc ls (.long (lI b) :: .long (lI a) :: rest)) := by
  refine W.lcmp hexec hb hdg ?_
  have e1 : lg_cmp (lI a) (lI b) = iI (sg a b) := by
    unfold lg_cmp sg
    by_cases h : a < b
    · rw [if_neg (fun z => by have := (lI_lt rb ra).mp z; omega), if_neg (fun z => by have := (lI_eq ra rb).mp z; omega), if_pos h]; decide
    · by_cases h2 : a = b
      · rw [if_neg (fun z => by have := (lI_lt rb ra).mp z; omega), if_pos (by rw [h2]), if_neg h, if_pos h2]; decide
      · rw [if_pos ((lI_lt rb ra).mpr (by omega)), if_neg h, if_neg h2]; decide
  rw [e1]
  exact k
/-- a loop that writes -/
theorem q_loopW {σ : Type} {nL : Nat} {A : Nat → Prop} (I : σ → Heap → Prop) (μ : σ → Nat) (lc : σ → List (Nat × Value)) (x0 : σ) (h0 : I x0 H) (hS : va_S A s.heap H locs) (hl : lv_has ls nL (lc x0))
    (step : ∀ (x : σ) (H1 : Heap) (locs1 : List Loc), I x H1 → va_S A s.heap H1 locs1 → (∀ (y : σ) (H2 : Heap) (locs2 : List Loc), I y H2 → va_S A s.heap H2 locs2 → μ y < μ x → ∀ ls' : Array Slot, lv_has ls' nL (lc y) → W p l e R s m args below meth c H2 locs2 cells slots Q (F0 m pc ls' [])) → ∀ ls' : Array Slot, lv_has ls' nL (lc x) → W p l e R s m args below meth c H1 locs1 cells slots Q (F0 m pc ls' [])) : W p l e R s m args below meth c H locs cells slots Q (F0 m pc ls []) := by
  have key : ∀ k : Nat, ∀ (x : σ) (H1 : Heap) (locs1 : List Loc), I x H1 → va_S A s.heap H1 locs1 → μ x < k → ∀ ls' : Array Slot, lv_has ls' nL (lc x) → W p l e R s m args below meth c H1 locs1 cells slots Q (F0 m pc ls' []) := by
    intro k
    induction k with
    | zero => intro x _ _ _ _ h; exact absurd h (Nat.not_lt_zero _)
    | succ k ih => exact fun x H1 locs1 hx h1 hk ls' hl' => step x H1 locs1 hx h1 (fun y H2 locs2 hy h2 hm ls2 hl2 => ih y H2 locs2 hy h2 (by omega) ls2 hl2) ls' hl'
  exact key (μ x0 + 1) x0 H locs h0 hS (Nat.lt_succ_self _) ls hl
end QM
end
section
/-! the class: its objects as the state, each at the address of its role -/
abbrev AD : Type := Nat → Int → Int → Nat
def clen (S : St) (k : Int) : Int := if k = 0 then S 2 0 else if k = 1 then S 10 0 else S 14 0
def hlen (S : St) (i j : Int) : Int := if j = 0 then S 19 i else S 23 i
def capN (n : Int) : Nat := if n ≤ 10 then 10 else if n ≤ 15 then 15 else if n ≤ 22 then 22 else if n ≤ 33 then 33 else 49
def bfA (e0 ba : Nat) (n : Int) : Nat := if n = 0 then e0 else ba
abbrev lstE (e0 ba : Nat) (n : Int) : va_E := .inr (0, [.int (iI n), .ref (bfA e0 ba n), .int (iI n)])
abbrev arrF (n : Int) (el : Int → Nat) : Nat → Option Nat := fun j => if (j : Int) < n then some (el (j : Int)) else none
abbrev arrE (g : GG) (n : Int) (el : Int → Nat) : va_E := .inl (g.2.2.2.2, capN n, .inr (.inr (.inr (.inr (arrF n el)))))
def cFs (ad : AD) (S : St) : List Value := [.ref (ad 3 0 0), .ref (ad 3 1 0), .ref (ad 3 2 0), .ref (ad 1 0 0), .ref (ad 2 0 0), .int (iI (S 0 0)), .int (iI (S 8 0)), .int (iI (S 9 0)), .int (iI (S 28 0)), .int (iI (S 27 0)), .long (lI (S 29 0))]
abbrev lawFs (a b c d e : Int) : List Value := [.int (iI a), .int (iI b), .int (iI c), .int (iI d), .int (iI e)]
abbrev objFs (S : St) (i : Int) : List Value := [.int (iI (S 11 i)), .int (iI (S 12 i)), .int (iI (S 13 i))]
abbrev hFs (ad : AD) (S : St) (i : Int) : List Value := [.int (iI (S 15 i)), .int (iI (S 16 i)), .int (iI (S 17 i)), .int (iI (S 18 i)), .ref (ad 8 i 0), .ref (ad 8 i 1), .int (iI (S 26 i))]
abbrev evFs (S : St) (i j : Int) : List Value := [.int (iI (S 20 (16 * i + j))), .int (iI (S 21 (16 * i + j))), .int (iI (S 22 (16 * i + j))), .int (iI (S 40 (16 * i + j)))]
abbrev woFs (S : St) (i j : Int) : List Value := [.int (iI (S 24 (8 * i + j))), .int (iI (S 25 (8 * i + j)))]
def elA (ad : AD) (i : Int) : Int → Nat := fun q => if i = 0 then ad 5 q 0 else if i = 1 then ad 6 q 0 else ad 7 q 0
def elB (ad : AD) (i j : Int) : Int → Nat := fun q => if j = 0 then ad 10 i q else ad 11 i q
/-- what lies at a role's address -/
def cE (g : GG) (e0 : Nat) (ad : AD) (S : St) (r : Nat) (i j : Int) : va_E :=
  if r = 0 then .inr (6, cFs ad S) else if r = 1 then .inl (g.2.1, 20, .inl (fun q => iI (S 1 (q : Int)))) else if r = 2 then .inr (3, lawFs 0 0 0 0 0)
  else if r = 3 then lstE e0 (ad 4 i 0) (clen S i) else if r = 4 then arrE g (clen S i) (elA ad i)
  else if r = 5 then .inr (3, lawFs (S 3 i) (S 4 i) (S 5 i) (S 6 i) (S 7 i)) else if r = 6 then .inr (4, objFs S i) else if r = 7 then .inr (2, hFs ad S i)
  else if r = 8 then lstE e0 (ad 9 i j) (hlen S i j) else if r = 9 then arrE g (hlen S i j) (elB ad i j)
  else if r = 10 then .inr (1, evFs S i j) else .inr (5, woFs S i j)
/-- the roles that are held -/
def live (S : St) (r : Nat) (i j : Int) : Prop :=
  ((r = 0 ∨ r = 1 ∨ r = 2) ∧ i = 0 ∧ j = 0) ∨ (r = 3 ∧ (0 ≤ i ∧ i ≤ 2) ∧ j = 0) ∨ (r = 4 ∧ (0 ≤ i ∧ i ≤ 2) ∧ j = 0 ∧ 0 < clen S i) ∨
  (r = 5 ∧ (0 ≤ i ∧ i < S 2 0) ∧ j = 0) ∨ (r = 6 ∧ (0 ≤ i ∧ i < S 10 0) ∧ j = 0) ∨ (r = 7 ∧ (0 ≤ i ∧ i < S 14 0) ∧ j = 0) ∨
  (r = 8 ∧ (0 ≤ i ∧ i < S 14 0) ∧ 0 ≤ j ∧ j ≤ 1) ∨ (r = 9 ∧ (0 ≤ i ∧ i < S 14 0) ∧ (0 ≤ j ∧ j ≤ 1) ∧ 0 < hlen S i j) ∨
  (r = 10 ∧ (0 ≤ i ∧ i < S 14 0) ∧ 0 ≤ j ∧ j < S 19 i) ∨ (r = 11 ∧ (0 ≤ i ∧ i < S 14 0) ∧ 0 ≤ j ∧ j < S 23 i)
def RepC (g : GG) (e0 : Nat) (P : Nat → Prop) (ad : AD) (S : St) (H : Heap) : Prop :=
  (∀ r i j, live S r i j → va_at g.1 vwCl (ad r i j, cE g e0 ad S r i j) H ∧ P (ad r i j)) ∧
  (∀ r i j r' i' j', live S r i j → live S r' i' j' → ad r i j = ad r' i' j' → r = r' ∧ i = i' ∧ j = j')
section RC
variable {g : GG} {e0 : Nat} {P : Nat → Prop} {ad : AD} {S : St} {H : Heap}
theorem live0 (S : St) : live S 0 0 0 := Or.inl ⟨Or.inl rfl, rfl, rfl⟩
theorem live1 (S : St) : live S 1 0 0 := Or.inl ⟨Or.inr (Or.inl rfl), rfl, rfl⟩
theorem live2 (S : St) : live S 2 0 0 := Or.inl ⟨Or.inr (Or.inr rfl), rfl, rfl⟩
theorem live3 (S : St) {k : Int} (h : 0 ≤ k ∧ k ≤ 2) : live S 3 k 0 := Or.inr (Or.inl ⟨rfl, h, rfl⟩)
theorem live4 {S : St} {k : Int} (h : 0 ≤ k ∧ k ≤ 2) (h2 : 0 < clen S k) : live S 4 k 0 := Or.inr (Or.inr (Or.inl ⟨rfl, h, rfl, h2⟩))
theorem live5 {S : St} {k : Int} (h : 0 ≤ k ∧ k < S 2 0) : live S 5 k 0 := Or.inr (Or.inr (Or.inr (Or.inl ⟨rfl, h, rfl⟩)))
theorem live6 {S : St} {k : Int} (h : 0 ≤ k ∧ k < S 10 0) : live S 6 k 0 := Or.inr (Or.inr (Or.inr (Or.inr (Or.inl ⟨rfl, h, rfl⟩))))
theorem live7 {S : St} {k : Int} (h : 0 ≤ k ∧ k < S 14 0) : live S 7 k 0 := Or.inr (Or.inr (Or.inr (Or.inr (Or.inr (Or.inl ⟨rfl, h, rfl⟩)))))
theorem live8 {S : St} {k j : Int} (h : 0 ≤ k ∧ k < S 14 0) (h2 : 0 ≤ j ∧ j ≤ 1) : live S 8 k j := Or.inr (Or.inr (Or.inr (Or.inr (Or.inr (Or.inr (Or.inl ⟨rfl, h, h2⟩))))))
theorem live9 {S : St} {k j : Int} (h : 0 ≤ k ∧ k < S 14 0) (h2 : 0 ≤ j ∧ j ≤ 1) (h3 : 0 < hlen S k j) : live S 9 k j := Or.inr (Or.inr (Or.inr (Or.inr (Or.inr (Or.inr (Or.inr (Or.inl ⟨rfl, h, h2, h3⟩)))))))
theorem live10 {S : St} {k j : Int} (h : 0 ≤ k ∧ k < S 14 0) (h2 : 0 ≤ j ∧ j < S 19 k) : live S 10 k j := Or.inr (Or.inr (Or.inr (Or.inr (Or.inr (Or.inr (Or.inr (Or.inr (Or.inl ⟨rfl, h, h2⟩))))))))
theorem live11 {S : St} {k j : Int} (h : 0 ≤ k ∧ k < S 14 0) (h2 : 0 ≤ j ∧ j < S 23 k) : live S 11 k j := Or.inr (Or.inr (Or.inr (Or.inr (Or.inr (Or.inr (Or.inr (Or.inr (Or.inr ⟨rfl, h, h2⟩))))))))
theorem RepC.obj (h : RepC g e0 P ad S H) : va_at g.1 vwCl (ad 0 0 0, .inr (6, cFs ad S)) H := (h.1 0 0 0 (live0 S)).1
theorem RepC.feasts (h : RepC g e0 P ad S H) : va_at g.1 vwCl (ad 1 0 0, .inl (g.2.1, 20, .inl (fun q => iI (S 1 (q : Int))))) H := (h.1 1 0 0 (live1 S)).1
theorem RepC.shut (h : RepC g e0 P ad S H) : va_at g.1 vwCl (ad 2 0 0, .inr (3, lawFs 0 0 0 0 0)) H := (h.1 2 0 0 (live2 S)).1
theorem RepC.lst (h : RepC g e0 P ad S H) {k : Int} (hk : 0 ≤ k ∧ k ≤ 2) : va_at g.1 vwCl (ad 3 k 0, lstE e0 (ad 4 k 0) (clen S k)) H := (h.1 3 k 0 (live3 S hk)).1
theorem RepC.arr (h : RepC g e0 P ad S H) {k : Int} (hk : 0 ≤ k ∧ k ≤ 2) (h0 : 0 < clen S k) : va_at g.1 vwCl (ad 4 k 0, arrE g (clen S k) (elA ad k)) H := (h.1 4 k 0 (live4 hk h0)).1
theorem RepC.law (h : RepC g e0 P ad S H) {k : Int} (hk : 0 ≤ k ∧ k < S 2 0) : va_at g.1 vwCl (ad 5 k 0, .inr (3, lawFs (S 3 k) (S 4 k) (S 5 k) (S 6 k) (S 7 k))) H := (h.1 5 k 0 (live5 hk)).1
theorem RepC.objector (h : RepC g e0 P ad S H) {k : Int} (hk : 0 ≤ k ∧ k < S 10 0) : va_at g.1 vwCl (ad 6 k 0, .inr (4, objFs S k)) H := (h.1 6 k 0 (live6 hk)).1
theorem RepC.house (h : RepC g e0 P ad S H) {k : Int} (hk : 0 ≤ k ∧ k < S 14 0) : va_at g.1 vwCl (ad 7 k 0, .inr (2, hFs ad S k)) H := (h.1 7 k 0 (live7 hk)).1
theorem RepC.hlst (h : RepC g e0 P ad S H) {k j : Int} (hk : 0 ≤ k ∧ k < S 14 0) (hj : 0 ≤ j ∧ j ≤ 1) : va_at g.1 vwCl (ad 8 k j, lstE e0 (ad 9 k j) (hlen S k j)) H := (h.1 8 k j (live8 hk hj)).1
theorem RepC.harr (h : RepC g e0 P ad S H) {k j : Int} (hk : 0 ≤ k ∧ k < S 14 0) (hj : 0 ≤ j ∧ j ≤ 1) (h0 : 0 < hlen S k j) : va_at g.1 vwCl (ad 9 k j, arrE g (hlen S k j) (elB ad k j)) H := (h.1 9 k j (live9 hk hj h0)).1
theorem RepC.event (h : RepC g e0 P ad S H) {k j : Int} (hk : 0 ≤ k ∧ k < S 14 0) (hj : 0 ≤ j ∧ j < S 19 k) : va_at g.1 vwCl (ad 10 k j, .inr (1, evFs S k j)) H := (h.1 10 k j (live10 hk hj)).1
theorem RepC.worth (h : RepC g e0 P ad S H) {k j : Int} (hk : 0 ≤ k ∧ k < S 14 0) (hj : 0 ≤ j ∧ j < S 23 k) : va_at g.1 vwCl (ad 11 k j, .inr (5, woFs S k j)) H := (h.1 11 k j (live11 hk hj)).1
theorem va_at.lt' {D : va_G} {cl : List vw_C} {q : Nat × va_E} {H : Heap} (h : va_at D cl q H) : q.1 < H.size := va_at.lt h
/-- some cells anew: touched roles T; all others as they were -/
theorem RepC.ext {S' : St} {ad' : AD} {P' : Nat → Prop} {H1 : Heap} (hC : RepC g e0 P ad S H) (T : Nat → Int → Int → Prop)
    (h1 : ∀ r i j, live S' r i j → ¬ T r i j → live S r i j ∧ ad' r i j = ad r i j ∧ cE g e0 ad' S' r i j = cE g e0 ad S r i j)
    (hW : ∀ q : Nat, q < H.size → (∀ r i j, live S r i j → T r i j → q ≠ ad r i j) → H1[q]? = H[q]?)
    (h2 : ∀ r i j, live S' r i j → T r i j → va_at g.1 vwCl (ad' r i j, cE g e0 ad' S' r i j) H1 ∧ (H.size ≤ ad' r i j ∨ ∃ r1 i1 j1, live S r1 i1 j1 ∧ T r1 i1 j1 ∧ ad' r i j = ad r1 i1 j1))
    (h3 : ∀ r i j r' i' j', live S' r i j → T r i j → live S' r' i' j' → T r' i' j' → ad' r i j = ad' r' i' j' → r = r' ∧ i = i' ∧ j = j')
    (hP : ∀ q, P q → P' q) (hN : ∀ q, H.size ≤ q → P' q) : RepC g e0 P' ad' S' H1 := by
  have apart : ∀ r i j r' i' j', live S' r i j → T r i j → live S' r' i' j' → ¬ T r' i' j' → ad' r i j ≠ ad' r' i' j' := by
    intro r i j r' i' j' a b c d e
    obtain ⟨l1, e1, -⟩ := h1 r' i' j' c d
    rw [e1] at e
    rcases (h2 r i j a b).2 with z | ⟨r1, i1, j1, l2, t2, e2⟩
    · have := va_at.lt (hC.1 r' i' j' l1).1
      have h5 : ad r' i' j' < H.size := this
      omega
    · rw [e2] at e
      obtain ⟨x1, x2, x3⟩ := hC.2 _ _ _ _ _ _ l2 l1 e
      subst x1; subst x2; subst x3
      exact d t2
  refine ⟨fun r i j hl => ?_, fun r i j r' i' j' hl hl' e => ?_⟩
  · by_cases t : T r i j
    · refine ⟨(h2 r i j hl t).1, ?_⟩
      rcases (h2 r i j hl t).2 with z | ⟨r1, i1, j1, l2, -, e2⟩
      · exact hN _ z
      · rw [e2]; exact hP _ (hC.1 _ _ _ l2).2
    · obtain ⟨l1, e1, e2⟩ := h1 r i j hl t
      rw [e1, e2]
      have h5 := hC.1 r i j l1
      refine ⟨h5.1.kept (hW _ (va_at.lt h5.1) (fun r1 i1 j1 l2 t2 e3 => ?_)), hP _ h5.2⟩
      obtain ⟨x1, x2, x3⟩ := hC.2 _ _ _ _ _ _ l1 l2 e3
      subst x1; subst x2; subst x3
      exact t t2
  · by_cases t : T r i j
    · by_cases t' : T r' i' j'
      · exact h3 _ _ _ _ _ _ hl t hl' t' e
      · exact absurd e (apart _ _ _ _ _ _ hl t hl' t')
    · by_cases t' : T r' i' j'
      · exact absurd e.symm (apart _ _ _ _ _ _ hl' t' hl t)
      · obtain ⟨l1, e1, -⟩ := h1 r i j hl t
        obtain ⟨l2, e2, -⟩ := h1 r' i' j' hl' t'
        rw [e1, e2] at e
        exact hC.2 _ _ _ _ _ _ l1 l2 e
theorem RepC.kept {H1 : Heap} (h : RepC g e0 P ad S H) (hq : ∀ q, P q → H1[q]? = H[q]?) : RepC g e0 P ad S H1 :=
  ⟨fun r i j hl => ⟨(h.1 r i j hl).1.kept (hq _ (h.1 r i j hl).2), (h.1 r i j hl).2⟩, h.2⟩
/-- the law of a place in the list; without any: the one that is shut -/
def lawA (ad : AD) (z : Int) : Nat := if z < 0 then ad 2 0 0 else ad 5 z 0
def lawF (S : St) (k : Nat) (z : Int) : Int := if z < 0 then 0 else S k z
theorem RepC.lawAt (h : RepC g e0 P ad S H) {z : Int} (hz : z < S 2 0) : va_at g.1 vwCl (lawA ad z, .inr (3, lawFs (lawF S 3 z) (lawF S 4 z) (lawF S 5 z) (lawF S 6 z) (lawF S 7 z))) H := by
  unfold lawA lawF
  by_cases c : z < 0
  · simp only [c, if_true]
    exact h.shut
  · simp only [c, if_false]
    exact h.law ⟨by omega, hz⟩
end RC
section RCQ
variable {p : Program} {l : Launch} {e : Env} {R : Room} {s : State} {m : MethodId} {args : Array Value} {below : List Frame} {meth : Method} {c : Code} {H : Heap} {locs : List Loc} {cells slots : Nat} {Q : State → Prop}
variable {cc : ByteArray} {pc : Nat} {ls : Array Slot} {rest : List Value} {g : GG}
theorem q_cast {own C : String} {T : u_T} {N ci index a : Nat} (hexec : p.tables.exec = Jvm.exec) (hb : c.code = cc) (hown : s.vm.findClass own = some m.cls) (hlink : (Cond.classLink own index C).before args s = true) (hK : KK g s) {fs : List Value} (hO : va_at g.1 vwCl (a, .inr (ci, fs)) H) (hc : vwCl[ci]? = some (C, T, N)) (hdg : decode cc pc = .ok (.checkcast index, 3)) (k : W p l e R s m args below meth c H locs cells slots Q (F0 m (pc + 3) ls (.ref a :: rest))) : W p l e R s m args below meth c H locs cells slots Q (F0 m pc ls (.ref a :: rest)) :=
  va_castS hexec hb hown hlink (hK.1.1 ci _ hc).2 (va_recv hK.1 (va_P1 hO) hc (q0 := 0) rfl) hdg k
variable {y : MethodName} {bytes : ByteArray} {maxL nL n index : Nat} {ret : Option FieldType} {ws : List Cond} {rm : Room} {Ts : List Cond} {own C : String} {b : Nat} {As st0 : List Value} {P : Heap → Prop}
theorem q_cVr {a : Nat} {nL : Nat} (S : CallFix p m c cc nL s args Ts own) (hM : MetQ l y ws rm g (.ref b :: As) P (some a)) (cw : CallW R s args own C index y bytes maxL ret ws rm 0 0 n) (hp : PreV s H C b (RPc (.ref b :: As) P g) As) (hn : As.length = n) (hl : ls.size = nL) (hst : st0 = As.reverse ++ .ref b :: rest) (hW : (rest.map fun v => v.category).sum ≤ 8) (hf : cells ≤ R.cells ∧ slots ≤ R.slots) (hdg : decode cc pc = .ok (.invokevirtual index, 3)) (kk : W p l e R s m args below meth c H locs cells slots Q (F0 m (pc + 3) ls (.ref a :: rest))) : W p l e R s m args below meth c H locs cells slots Q (F0 m pc ls st0) :=
  q_cVq S hM cw hp hn hl hst hW hf hdg kk
theorem q_cNi {z : Int} {nL : Nat} {host : String} (S : CallFix p m c cc nL s args Ts own) (hM : MetI l y ws rm g As P z) (cw : va_CN R s args own index y host bytes maxL ret ws rm 0 0 n ∧ (Cond.static y).before args s = true ∧ True) (hp : PreS s H (RPc As P g) As) (hn : As.length = n) (hl : ls.size = nL) (hst : st0 = As.reverse ++ rest) (hW : (rest.map fun v => v.category).sum ≤ 8) (hf : cells ≤ R.cells ∧ slots ≤ R.slots) (hdg : decode cc pc = .ok (.invokestatic index, 3)) (kk : W p l e R s m args below meth c H locs cells slots Q (F0 m (pc + 3) ls (.int (iI z) :: rest))) : W p l e R s m args below meth c H locs cells slots Q (F0 m pc ls st0) := by
  intro T hT X
  obtain ⟨v, st₀, t, T', L, h0, X', hL, e1, -, ⟨r, hv, hp2, hh⟩, st⟩ := va_runSN S hM cw hp rfl hn hl hst (lv_room hW) hdg hf T hT X
  cases hv
  obtain ⟨t2, a1, b1⟩ := kk T' (by rw [e1, hh, h0]) (Stand.forget X' (fun q h => (hL q h).elim))
  rw [hp2] at st
  exact ⟨t2, st t2 a1, b1⟩
theorem q_mmax {x y' : Int} {own : String} {index : Nat} (hexec : p.tables.exec = Jvm.exec) (hb : c.code = cc) (hml : c.maxLocals = ls.size) (hown : s.vm.findClass own = some m.cls) (hlink : (Cond.methodLink own index Lib.Math.max.name).before args s = true) (hstat : (Cond.static Lib.Math.max.name).before args s = true) (hini : (Cond.initialized "java/lang/Math").before args s = true) (hcode : (Cond.code Lib.Math.max.name Lib.Math.max.code 2 (some .int)).before args s = true) (hframes : 1 ≤ R.frames) (hlocals : (rest.map fun v => v.category).sum + 13 ≤ R.locals) (hc : cells ≤ R.cells) (hs : slots ≤ R.slots) (hdg : decode cc pc = .ok (.invokestatic index, 3)) (rx : R32 x) (ry : R32 y') (kk : W p l e R s m args below meth c H locs cells slots Q (F0 m (pc + 3) ls (.int (iI (max x y')) :: rest))) : W p l e R s m args below meth c H locs cells slots Q (F0 m pc ls (.int (iI y') :: .int (iI x) :: rest)) := by
  refine va_mmax hexec hb hml hown hlink hstat hini hcode hframes hlocals hc hs hdg ?_
  have e1 : (if iI x < iI y' then iI y' else iI x) = iI (max x y') := by
    by_cases h : x < y'
    · rw [if_pos ((iI_lt rx ry).mpr h), show max x y' = y' by omega]
    · rw [if_neg (fun z => h ((iI_lt rx ry).mp z)), show max x y' = x by omega]
  rw [e1]
  exact kk
theorem q_mmin {x y' : Int} {own : String} {index : Nat} (hexec : p.tables.exec = Jvm.exec) (hb : c.code = cc) (hml : c.maxLocals = ls.size) (hown : s.vm.findClass own = some m.cls) (hlink : (Cond.methodLink own index Lib.Math.min.name).before args s = true) (hstat : (Cond.static Lib.Math.min.name).before args s = true) (hini : (Cond.initialized "java/lang/Math").before args s = true) (hcode : (Cond.code Lib.Math.min.name Lib.Math.min.code 2 (some .int)).before args s = true) (hframes : 1 ≤ R.frames) (hlocals : (rest.map fun v => v.category).sum + 13 ≤ R.locals) (hc : cells ≤ R.cells) (hs : slots ≤ R.slots) (hdg : decode cc pc = .ok (.invokestatic index, 3)) (rx : R32 x) (ry : R32 y') (kk : W p l e R s m args below meth c H locs cells slots Q (F0 m (pc + 3) ls (.int (iI (min x y')) :: rest))) : W p l e R s m args below meth c H locs cells slots Q (F0 m pc ls (.int (iI y') :: .int (iI x) :: rest)) := by
  refine va_mmin hexec hb hml hown hlink hstat hini hcode hframes hlocals hc hs hdg ?_
  have e1 : (if iI y' < iI x then iI y' else iI x) = iI (min x y') := by
    by_cases h : y' < x
    · rw [if_pos ((iI_lt ry rx).mpr h), show min x y' = y' by omega]
    · rw [if_neg (fun z => h ((iI_lt ry rx).mp z)), show min x y' = x by omega]
  rw [e1]
  exact kk
end RCQ
end
section
theorem sur_min {S : St} {h day a : Int} {n : Nat} (h1 : S 21 (16 * h + (n : Int)) = 6) (h2 : S 20 (16 * h + (n : Int)) ≤ day) : sSur S h day a (n + 1) = min (sSur S h day a n) (S 20 (16 * h + (n : Int))) := by
  by_cases y : S 20 (16 * h + (n : Int)) < sSur S h day a n
  · have e : sSur S h day a (n + 1) = S 20 (16 * h + (n : Int)) := mn_t (q := qSur S h day) (f := fun j => S 20 (16 * h + j)) ⟨h1, h2⟩ y
    rw [e]; omega
  · have e : sSur S h day a (n + 1) = sSur S h day a n := mn_f (q := qSur S h day) (f := fun j => S 20 (16 * h + j)) (fun z => y z.2)
    rw [e]; omega
theorem capN_le {n : Int} (h0 : 0 ≤ n) (h : n ≤ 49) : n ≤ capN n ∧ capN n ≤ 49 ∧ 10 ≤ capN n := by
  unfold capN
  repeat' split
  all_goals omega

set_option maxHeartbeats 4000000 in
set_option maxRecDepth 100000 in
theorem c0_size (l : Launch) (g : GG) (eA : Nat) (la ba : Nat) (n : Int)    : MetI l yJx4a65c_size_8abf5 wsJx4a65c_size_8abf5 ({ frames := 0, cells := 0, slots := 0, locals := 0 }) g [.ref la] (fun H => va_at g.1 vwCl (la, lstE eA ba n) H) n := by
  refine Met.ofW (cc := cJx4a65c_size_8abf5) (maxL := 1) (ret := (some .int)) (by decide) rfl ?_
  intro p e s m args below meth c s₁ B hml hv
  obtain ⟨rfl, hC, hK⟩ := hv
  have hx := B.exec
  have hb := B.bytes
  have hr := B.returns
  have hts := atoms_spec (ws := wsJx4a65c_size_8abf5) B.pre
  have hown : s.vm.findClass RJx4a65c = some m.cls := findClass_of_methodNamed B.named
  have hlocks := B.notSynchronized
  have inJx4a65c : ∀ w ∈ wsJx4a65c0, w ∈ wsJx4a65c_size_8abf5 := by decide +kernel
  have hl := lv_entry ([.ref la]) (n := 1) (Nat.le_of_ble_eq_true rfl)
  rw [lg_entry_eq]
  generalize (lg_sl ([.ref la]) ++ List.replicate (1 - (lg_sl ([.ref la])).length) Slot.unset).toArray = ls at hl ⊢
  have hl : lv_has ls 1 [(0, .ref la)] := hl
  refine lv_aload_n hx hb dJx4a65c_size_8abf5_0 rfl (lv_at hl 0 rfl) ?_
  refine q_get (v := .int (iI n)) (C := RJx4a65c) (T := TJx4a65c) (N := 3) hx hb hts inJx4a65c hown hK hC rfl 2 (by decide) (hts (.fieldLink RJx4a65c 48 "java/util/ArrayList" "size" "I") (by decide +kernel)) (fun _ h9 => h9) rfl dJx4a65c_size_8abf5_1 ?_
  refine q_reti hx hb hr hlocks dJx4a65c_size_8abf5_4 ?_
  first | rfl | exact bI_e1 (by omega) | exact bI_e0 (by omega) | exact bI_iff (by omega) | omega

set_option maxHeartbeats 4000000 in
set_option maxRecDepth 100000 in
theorem c0_isEmpty (l : Launch) (g : GG) (eA : Nat) (la ba : Nat) (n : Int)   (rn : R32 n) : MetI l yJx4a65c_isEmpty_aae02 wsJx4a65c_isEmpty_aae02 ({ frames := 0, cells := 0, slots := 0, locals := 0 }) g [.ref la] (fun H => va_at g.1 vwCl (la, lstE eA ba n) H) (bI (n = 0)) := by
  refine Met.ofW (cc := cJx4a65c_isEmpty_aae02) (maxL := 1) (ret := (some .boolean)) (by decide) rfl ?_
  intro p e s m args below meth c s₁ B hml hv
  obtain ⟨rfl, hC, hK⟩ := hv
  have hx := B.exec
  have hb := B.bytes
  have hr := B.returns
  have hts := atoms_spec (ws := wsJx4a65c_isEmpty_aae02) B.pre
  have hown : s.vm.findClass RJx4a65c = some m.cls := findClass_of_methodNamed B.named
  have hlocks := B.notSynchronized
  have inJx4a65c : ∀ w ∈ wsJx4a65c0, w ∈ wsJx4a65c_isEmpty_aae02 := by decide +kernel
  have hl := lv_entry ([.ref la]) (n := 1) (Nat.le_of_ble_eq_true rfl)
  rw [lg_entry_eq]
  generalize (lg_sl ([.ref la]) ++ List.replicate (1 - (lg_sl ([.ref la])).length) Slot.unset).toArray = ls at hl ⊢
  have hl : lv_has ls 1 [(0, .ref la)] := hl
  refine lv_aload_n hx hb dJx4a65c_isEmpty_aae02_0 rfl (lv_at hl 0 rfl) ?_
  refine q_get (v := .int (iI n)) (C := RJx4a65c) (T := TJx4a65c) (N := 3) hx hb hts inJx4a65c hown hK hC rfl 2 (by decide) (hts (.fieldLink RJx4a65c 48 "java/util/ArrayList" "size" "I") (by decide +kernel)) (fun _ h9 => h9) rfl dJx4a65c_isEmpty_aae02_1 ?_
  refine q_if_ne (tgt := 11) hx hb dJx4a65c_isEmpty_aae02_4 (by decide) rn (fun c4 => ?_) (fun c4 => ?_)
  · refine lv_iconst (v := iI 0) hx hb dJx4a65c_isEmpty_aae02_11 rfl ?_
    refine q_retz hx hb hr hlocks (Or.inl rfl) dJx4a65c_isEmpty_aae02_12 ?_
    first | rfl | exact bI_e1 (by omega) | exact bI_e0 (by omega) | exact bI_iff (by omega) | omega
  · refine lv_iconst (v := iI 1) hx hb dJx4a65c_isEmpty_aae02_7 rfl ?_
    refine lv_goto (tgt := 12) hx hb dJx4a65c_isEmpty_aae02_8 (by decide) ?_
    refine q_retz hx hb hr hlocks (Or.inr rfl) dJx4a65c_isEmpty_aae02_12 ?_
    first | rfl | exact bI_e1 (by omega) | exact bI_e0 (by omega) | exact bI_iff (by omega) | omega

set_option maxHeartbeats 4000000 in
set_option maxRecDepth 100000 in
theorem cj_checkIndex (l : Launch) (g : GG) (i : Int) (n : Int) (r_i : R32 i) (r_n : R32 n) (hi : 0 ≤ i ∧ i < n) : MetI l yJ3_checkIndex_8e157 wsJ3_checkIndex_8e157 ({ frames := 0, cells := 0, slots := 0, locals := 0 }) g [.int (iI i), .int (iI n), .null] (fun _ => True) i := by
  refine Met.ofW (cc := cJ3_checkIndex_8e157) (maxL := 3) (ret := (some .int)) (by decide) rfl ?_
  intro p e s m args below meth c s₁ B hml hv
  obtain ⟨rfl, _, hK⟩ := hv
  have hx := B.exec
  have hb := B.bytes
  have hr := B.returns
  have hts := atoms_spec (ws := wsJ3_checkIndex_8e157) B.pre
  have hown : s.vm.findClass RJ3 = some m.cls := findClass_of_methodNamed B.named
  have hlocks := B.notSynchronized
  have hl := lv_entry ([.int (iI i), .int (iI n), .null]) (n := 3) (Nat.le_of_ble_eq_true rfl)
  rw [lg_entry_eq]
  generalize (lg_sl ([.int (iI i), .int (iI n), .null]) ++ List.replicate (3 - (lg_sl ([.int (iI i), .int (iI n), .null])).length) Slot.unset).toArray = ls at hl ⊢
  have hl : lv_has ls 3 [(0, .int (iI i)), (1, .int (iI n)), (2, .null)] := hl
  refine lv_iload_n hx hb dJ3_checkIndex_8e157_0 rfl (lv_at hl 0 rfl) ?_
  refine q_if_lt (tgt := 9) hx hb dJ3_checkIndex_8e157_1 (by decide) r_i (fun c1 => ?_) (fun c1 => ?_)
  · exact absurd c1 (by omega)
  · refine lv_iload_n hx hb dJ3_checkIndex_8e157_4 rfl (lv_at hl 0 rfl) ?_
    refine lv_iload_n hx hb dJ3_checkIndex_8e157_5 rfl (lv_at hl 1 rfl) ?_
    refine q_icmp_lt (tgt := 16) hx hb dJ3_checkIndex_8e157_6 (by decide) r_i r_n (fun c6 => ?_) (fun c6 => ?_)
    · refine lv_iload_n hx hb dJ3_checkIndex_8e157_16 rfl (lv_at hl 0 rfl) ?_
      refine q_reti hx hb hr hlocks dJ3_checkIndex_8e157_17 ?_
      first | rfl | exact bI_e1 (by omega) | exact bI_e0 (by omega) | exact bI_iff (by omega) | omega
    · exact absurd c6 (by omega)

set_option maxHeartbeats 4000000 in
set_option maxRecDepth 100000 in
theorem cj_checkIndex2 (l : Launch) (g : GG) (i : Int) (n : Int) (r_i : R32 i) (r_n : R32 n) (hi : 0 ≤ i ∧ i < n) : MetI l yJ15_checkIndex_7cf53 wsJ15_checkIndex_7cf53 ({ frames := 1, cells := 0, slots := 0, locals := 22 }) g [.int (iI i), .int (iI n)] (fun _ => True) i := by
  refine Met.ofW (cc := cJ15_checkIndex_7cf53) (maxL := 2) (ret := (some .int)) (by decide) rfl ?_
  intro p e s m args below meth c s₁ B hml hv
  obtain ⟨rfl, _, hK⟩ := hv
  have hx := B.exec
  have hb := B.bytes
  have hr := B.returns
  have hts := atoms_spec (ws := wsJ15_checkIndex_7cf53) B.pre
  have hown : s.vm.findClass RJ15 = some m.cls := findClass_of_methodNamed B.named
  have hlocks := B.notSynchronized
  have hl := lv_entry ([.int (iI i), .int (iI n)]) (n := 2) (Nat.le_of_ble_eq_true rfl)
  rw [lg_entry_eq]
  generalize (lg_sl ([.int (iI i), .int (iI n)]) ++ List.replicate (2 - (lg_sl ([.int (iI i), .int (iI n)])).length) Slot.unset).toArray = ls at hl ⊢
  have hl : lv_has ls 2 [(0, .int (iI i)), (1, .int (iI n))] := hl
  refine lv_iload_n hx hb dJ15_checkIndex_7cf53_0 rfl (lv_at hl 0 rfl) ?_
  refine lv_iload_n hx hb dJ15_checkIndex_7cf53_1 rfl (lv_at hl 1 rfl) ?_
  refine lv_null hx hb dJ15_checkIndex_7cf53_2 ?_
  refine q_cSi (As := [.int (iI i), .int (iI n), .null]) (rest := []) ⟨hx, hb, hml, hown, hts⟩ (cj_checkIndex l g i n r_i r_n hi) (va_cwS 3 hts gJ15_checkIndex_7cf53_J3_checkIndex_8e157 rfl rfl rfl (by decide +kernel) ⟨Nat.le_of_ble_eq_true rfl, Nat.le_of_ble_eq_true rfl⟩) (q_pS hK trivial) rfl hl.1 rfl (Nat.le_of_ble_eq_true rfl) ⟨Nat.zero_le _, Nat.zero_le _⟩ dJ15_checkIndex_7cf53_3 ?_
  refine q_reti hx hb hr hlocks dJ15_checkIndex_7cf53_6 ?_
  first | rfl | exact bI_e1 (by omega) | exact bI_e0 (by omega) | exact bI_iff (by omega) | omega

set_option maxHeartbeats 4000000 in
set_option maxRecDepth 100000 in
theorem c0_elementData (l : Launch) (g : GG) (eA : Nat) (la ba : Nat) (n : Int) (el : Int → Nat) (i : Int) (r_i : R32 i) (hi : 0 ≤ i ∧ i < n) (hn : n ≤ 49) : MetQ l yJx4a65c_elementData_915e3 wsJx4a65c_elementData_915e3 ({ frames := 0, cells := 0, slots := 0, locals := 0 }) g [.ref la, .int (iI i)] (fun H => va_at g.1 vwCl (la, lstE eA ba n) H ∧ va_at g.1 vwCl (ba, arrE g n el) H) (some (el i)) := by
  refine Met.ofW (cc := cJx4a65c_elementData_915e3) (maxL := 2) (ret := (some (.object "java/lang/Object"))) (by decide) rfl ?_
  intro p e s m args below meth c s₁ B hml hv
  obtain ⟨rfl, hC, hK⟩ := hv
  have hx := B.exec
  have hb := B.bytes
  have hr := B.returns
  have hts := atoms_spec (ws := wsJx4a65c_elementData_915e3) B.pre
  have hown : s.vm.findClass RJx4a65c = some m.cls := findClass_of_methodNamed B.named
  have hlocks := B.notSynchronized
  have inJx4a65c : ∀ w ∈ wsJx4a65c0, w ∈ wsJx4a65c_elementData_915e3 := by decide +kernel
  have hl := lv_entry ([.ref la, .int (iI i)]) (n := 2) (Nat.le_of_ble_eq_true rfl)
  rw [lg_entry_eq]
  generalize (lg_sl ([.ref la, .int (iI i)]) ++ List.replicate (2 - (lg_sl ([.ref la, .int (iI i)])).length) Slot.unset).toArray = ls at hl ⊢
  have hl : lv_has ls 2 [(0, .ref la), (1, .int (iI i))] := hl
  have hcp := capN_le (n := n) (by omega) hn
  refine lv_aload_n hx hb dJx4a65c_elementData_915e3_0 rfl (lv_at hl 0 rfl) ?_
  refine q_get (v := .ref ba) (C := RJx4a65c) (T := TJx4a65c) (N := 3) hx hb hts inJx4a65c hown hK hC.1 rfl 1 (by decide) (hts (.fieldLink RJx4a65c 9 "java/util/ArrayList" "elementData" "[Ljava/lang/Object;") (by decide +kernel)) (fun _ h9 => h9) (by show some (Value.ref (bfA eA ba n)) = some (Value.ref ba); rw [show bfA eA ba n = ba from if_neg (by omega)]) dJx4a65c_elementData_915e3_1 ?_
  refine lv_iload_n hx hb dJx4a65c_elementData_915e3_4 rfl (lv_at hl 1 rfl) ?_
  refine q_aldq hx hb hK hC.2 (by omega) ⟨by omega, by omega⟩ dJx4a65c_elementData_915e3_5 ?_
  refine q_retq (v := (arrF n el (i).toNat)) hx hb hr (Or.inl ⟨_, rfl⟩) hlocks dJx4a65c_elementData_915e3_6 ?_
  show arrF n el i.toNat = some (el i)
  unfold arrF
  rw [show ((i.toNat : Nat) : Int) = i from Int.toNat_of_nonneg hi.1, if_pos hi.2]

set_option maxHeartbeats 4000000 in
set_option maxRecDepth 100000 in
theorem c0_get (l : Launch) (g : GG) (eA : Nat) (la ba : Nat) (n : Int) (el : Int → Nat) (i : Int) (r_i : R32 i) (hi : 0 ≤ i ∧ i < n) (hn : n ≤ 49) : MetQ l yJx4a65c_get_915e3 wsJx4a65c_get_915e3 ({ frames := 2, cells := 0, slots := 0, locals := 43 }) g [.ref la, .int (iI i)] (fun H => va_at g.1 vwCl (la, lstE eA ba n) H ∧ va_at g.1 vwCl (ba, arrE g n el) H) (some (el i)) := by
  refine Met.ofW (cc := cJx4a65c_get_915e3) (maxL := 2) (ret := (some (.object "java/lang/Object"))) (by decide) rfl ?_
  intro p e s m args below meth c s₁ B hml hv
  obtain ⟨rfl, hC, hK⟩ := hv
  have hx := B.exec
  have hb := B.bytes
  have hr := B.returns
  have hts := atoms_spec (ws := wsJx4a65c_get_915e3) B.pre
  have hown : s.vm.findClass RJx4a65c = some m.cls := findClass_of_methodNamed B.named
  have hlocks := B.notSynchronized
  have inJx4a65c : ∀ w ∈ wsJx4a65c0, w ∈ wsJx4a65c_get_915e3 := by decide +kernel
  have hl := lv_entry ([.ref la, .int (iI i)]) (n := 2) (Nat.le_of_ble_eq_true rfl)
  rw [lg_entry_eq]
  generalize (lg_sl ([.ref la, .int (iI i)]) ++ List.replicate (2 - (lg_sl ([.ref la, .int (iI i)])).length) Slot.unset).toArray = ls at hl ⊢
  have hl : lv_has ls 2 [(0, .ref la), (1, .int (iI i))] := hl
  refine lv_iload_n hx hb dJx4a65c_get_915e3_0 rfl (lv_at hl 1 rfl) ?_
  refine lv_aload_n hx hb dJx4a65c_get_915e3_1 rfl (lv_at hl 0 rfl) ?_
  refine q_get (v := .int (iI n)) (C := RJx4a65c) (T := TJx4a65c) (N := 3) hx hb hts inJx4a65c hown hK hC.1 rfl 2 (by decide) (hts (.fieldLink RJx4a65c 48 "java/util/ArrayList" "size" "I") (by decide +kernel)) (fun _ h9 => h9) rfl dJx4a65c_get_915e3_2 ?_
  refine q_cSi (As := [.int (iI i), .int (iI n)]) (rest := []) ⟨hx, hb, hml, hown, hts⟩ (cj_checkIndex2 l g i n r_i (by omega) hi) (va_cwS 2 hts gJx4a65c_get_915e3_J15_checkIndex_7cf53 rfl rfl rfl (by decide +kernel) ⟨Nat.le_of_ble_eq_true rfl, Nat.le_of_ble_eq_true rfl⟩) (q_pS hK trivial) rfl hl.1 rfl (Nat.le_of_ble_eq_true rfl) ⟨Nat.zero_le _, Nat.zero_le _⟩ dJx4a65c_get_915e3_5 ?_
  refine lv_pop hx hb dJx4a65c_get_915e3_8 rfl ?_
  refine lv_aload_n hx hb dJx4a65c_get_915e3_9 rfl (lv_at hl 0 rfl) ?_
  refine lv_iload_n hx hb dJx4a65c_get_915e3_10 rfl (lv_at hl 1 rfl) ?_
  refine q_cVr (As := [.int (iI i)]) (rest := []) ⟨hx, hb, hml, hown, hts⟩ (c0_elementData l g eA la ba n el i r_i hi hn) (cwV 1 hts gJx4a65c_get_915e3_Jx4a65c_elementData_915e3 rfl rfl rfl (by decide +kernel) ⟨Nat.le_of_ble_eq_true rfl, Nat.le_of_ble_eq_true rfl⟩) (q_pV hK hC.1 rfl hC) rfl hl.1 rfl (Nat.le_of_ble_eq_true rfl) ⟨Nat.zero_le _, Nat.zero_le _⟩ dJx4a65c_get_915e3_11 ?_
  refine q_retq (v := (some (el i))) hx hb hr (Or.inl ⟨_, rfl⟩) hlocks dJx4a65c_get_915e3_14 ?_
  rfl

set_option maxHeartbeats 4000000 in
set_option maxRecDepth 100000 in
theorem c5_isIn (l : Launch) (g : GG) (v : Int) (lo : Int) (hi : Int) (r_v : R32 v) (r_lo : R32 lo) (r_hi : R32 hi)  : MetI l yX5_isIn wsX5_isIn ({ frames := 0, cells := 0, slots := 0, locals := 0 }) g [.int (iI v), .int (iI lo), .int (iI hi)] (fun _ => True) (bI (lo ≤ v ∧ v ≤ hi)) := by
  refine Met.ofW (cc := cX5_isIn) (maxL := 3) (ret := (some .boolean)) (by decide) rfl ?_
  intro p e s m args below meth c s₁ B hml hv
  obtain ⟨rfl, _, hK⟩ := hv
  have hx := B.exec
  have hb := B.bytes
  have hr := B.returns
  have hts := atoms_spec (ws := wsX5_isIn) B.pre
  have hown : s.vm.findClass RX5 = some m.cls := findClass_of_methodNamed B.named
  have hlocks := B.notSynchronized
  have hl := lv_entry ([.int (iI v), .int (iI lo), .int (iI hi)]) (n := 3) (Nat.le_of_ble_eq_true rfl)
  rw [lg_entry_eq]
  generalize (lg_sl ([.int (iI v), .int (iI lo), .int (iI hi)]) ++ List.replicate (3 - (lg_sl ([.int (iI v), .int (iI lo), .int (iI hi)])).length) Slot.unset).toArray = ls at hl ⊢
  have hl : lv_has ls 3 [(0, .int (iI v)), (1, .int (iI lo)), (2, .int (iI hi))] := hl
  refine lv_iload_n hx hb dX5_isIn_0 rfl (lv_at hl 0 rfl) ?_
  refine lv_iload_n hx hb dX5_isIn_1 rfl (lv_at hl 1 rfl) ?_
  refine q_icmp_lt (tgt := 14) hx hb dX5_isIn_2 (by decide) r_v r_lo (fun c2 => ?_) (fun c2 => ?_)
  · refine lv_iconst (v := iI 0) hx hb dX5_isIn_14 rfl ?_
    refine q_retz hx hb hr hlocks (Or.inl rfl) dX5_isIn_15 ?_
    first | rfl | exact bI_e1 (by omega) | exact bI_e0 (by omega) | exact bI_iff (by omega) | omega
  · refine lv_iload_n hx hb dX5_isIn_5 rfl (lv_at hl 0 rfl) ?_
    refine lv_iload_n hx hb dX5_isIn_6 rfl (lv_at hl 2 rfl) ?_
    refine q_icmp_gt (tgt := 14) hx hb dX5_isIn_7 (by decide) r_v r_hi (fun c7 => ?_) (fun c7 => ?_)
    · refine lv_iconst (v := iI 0) hx hb dX5_isIn_14 rfl ?_
      refine q_retz hx hb hr hlocks (Or.inl rfl) dX5_isIn_15 ?_
      first | rfl | exact bI_e1 (by omega) | exact bI_e0 (by omega) | exact bI_iff (by omega) | omega
    · refine lv_iconst (v := iI 1) hx hb dX5_isIn_10 rfl ?_
      refine lv_goto (tgt := 15) hx hb dX5_isIn_11 (by decide) ?_
      refine q_retz hx hb hr hlocks (Or.inr rfl) dX5_isIn_15 ?_
      first | rfl | exact bI_e1 (by omega) | exact bI_e0 (by omega) | exact bI_iff (by omega) | omega

set_option maxHeartbeats 4000000 in
set_option maxRecDepth 100000 in
theorem c5_isDay (l : Launch) (g : GG) (d : Int) (r_d : R32 d)  : MetI l yX5_isDay wsX5_isDay ({ frames := 1, cells := 0, slots := 0, locals := 22 }) g [.int (iI d)] (fun _ => True) (bI (isD d)) := by
  refine Met.ofW (cc := cX5_isDay) (maxL := 1) (ret := (some .boolean)) (by decide) rfl ?_
  intro p e s m args below meth c s₁ B hml hv
  obtain ⟨rfl, _, hK⟩ := hv
  have hx := B.exec
  have hb := B.bytes
  have hr := B.returns
  have hts := atoms_spec (ws := wsX5_isDay) B.pre
  have hown : s.vm.findClass RX5 = some m.cls := findClass_of_methodNamed B.named
  have hlocks := B.notSynchronized
  have hl := lv_entry ([.int (iI d)]) (n := 1) (Nat.le_of_ble_eq_true rfl)
  rw [lg_entry_eq]
  generalize (lg_sl ([.int (iI d)]) ++ List.replicate (1 - (lg_sl ([.int (iI d)])).length) Slot.unset).toArray = ls at hl ⊢
  have hl : lv_has ls 1 [(0, .int (iI d))] := hl
  refine lv_iload_n hx hb dX5_isDay_0 rfl (lv_at hl 0 rfl) ?_
  refine lv_iconst (v := iI 0) hx hb dX5_isDay_1 rfl ?_
  refine q_sipush hx hb 3999 dX5_isDay_2 (by decide +kernel) ?_
  refine q_cSi (As := [.int (iI d), .int (iI 0), .int (iI 3999)]) (rest := []) ⟨hx, hb, hml, hown, hts⟩ (c5_isIn l g d 0 3999 r_d (by decide) (by decide) ) (va_cwS 3 hts gX5_isDay_X5_isIn rfl rfl rfl (by decide +kernel) ⟨Nat.le_of_ble_eq_true rfl, Nat.le_of_ble_eq_true rfl⟩) (q_pS hK trivial) rfl hl.1 rfl (Nat.le_of_ble_eq_true rfl) ⟨Nat.zero_le _, Nat.zero_le _⟩ dX5_isDay_5 ?_
  refine q_retz hx hb hr hlocks (bI_01 _) dX5_isDay_8 ?_
  first | rfl | exact bI_e1 (by omega) | exact bI_e0 (by omega) | exact bI_iff (by omega) | omega

set_option maxHeartbeats 4000000 in
set_option maxRecDepth 100000 in
theorem c5_isKind (l : Launch) (g : GG) (d : Int) (r_d : R32 d)  : MetI l yX5_isKind wsX5_isKind ({ frames := 1, cells := 0, slots := 0, locals := 22 }) g [.int (iI d)] (fun _ => True) (bI (0 ≤ d ∧ d ≤ 2)) := by
  refine Met.ofW (cc := cX5_isKind) (maxL := 1) (ret := (some .boolean)) (by decide) rfl ?_
  intro p e s m args below meth c s₁ B hml hv
  obtain ⟨rfl, _, hK⟩ := hv
  have hx := B.exec
  have hb := B.bytes
  have hr := B.returns
  have hts := atoms_spec (ws := wsX5_isKind) B.pre
  have hown : s.vm.findClass RX5 = some m.cls := findClass_of_methodNamed B.named
  have hlocks := B.notSynchronized
  have hl := lv_entry ([.int (iI d)]) (n := 1) (Nat.le_of_ble_eq_true rfl)
  rw [lg_entry_eq]
  generalize (lg_sl ([.int (iI d)]) ++ List.replicate (1 - (lg_sl ([.int (iI d)])).length) Slot.unset).toArray = ls at hl ⊢
  have hl : lv_has ls 1 [(0, .int (iI d))] := hl
  refine lv_iload_n hx hb dX5_isKind_0 rfl (lv_at hl 0 rfl) ?_
  refine lv_iconst (v := iI 0) hx hb dX5_isKind_1 rfl ?_
  refine lv_iconst (v := iI 2) hx hb dX5_isKind_2 rfl ?_
  refine q_cSi (As := [.int (iI d), .int (iI 0), .int (iI 2)]) (rest := []) ⟨hx, hb, hml, hown, hts⟩ (c5_isIn l g d 0 2 r_d (by decide) (by decide) ) (va_cwS 3 hts gX5_isKind_X5_isIn rfl rfl rfl (by decide +kernel) ⟨Nat.le_of_ble_eq_true rfl, Nat.le_of_ble_eq_true rfl⟩) (q_pS hK trivial) rfl hl.1 rfl (Nat.le_of_ble_eq_true rfl) ⟨Nat.zero_le _, Nat.zero_le _⟩ dX5_isKind_3 ?_
  refine q_retz hx hb hr hlocks (bI_01 _) dX5_isKind_6 ?_
  first | rfl | exact bI_e1 (by omega) | exact bI_e0 (by omega) | exact bI_iff (by omega) | omega

set_option maxHeartbeats 4000000 in
set_option maxRecDepth 100000 in
theorem c5_isWorth (l : Launch) (g : GG) (d : Int) (r_d : R32 d)  : MetI l yX5_isWorth wsX5_isWorth ({ frames := 1, cells := 0, slots := 0, locals := 22 }) g [.int (iI d)] (fun _ => True) (bI (1 ≤ d ∧ d ≤ 100000)) := by
  refine Met.ofW (cc := cX5_isWorth) (maxL := 1) (ret := (some .boolean)) (by decide) rfl ?_
  intro p e s m args below meth c s₁ B hml hv
  obtain ⟨rfl, _, hK⟩ := hv
  have hx := B.exec
  have hb := B.bytes
  have hr := B.returns
  have hts := atoms_spec (ws := wsX5_isWorth) B.pre
  have hown : s.vm.findClass RX5 = some m.cls := findClass_of_methodNamed B.named
  have hlocks := B.notSynchronized
  have hl := lv_entry ([.int (iI d)]) (n := 1) (Nat.le_of_ble_eq_true rfl)
  rw [lg_entry_eq]
  generalize (lg_sl ([.int (iI d)]) ++ List.replicate (1 - (lg_sl ([.int (iI d)])).length) Slot.unset).toArray = ls at hl ⊢
  have hl : lv_has ls 1 [(0, .int (iI d))] := hl
  refine lv_iload_n hx hb dX5_isWorth_0 rfl (lv_at hl 0 rfl) ?_
  refine lv_iconst (v := iI 1) hx hb dX5_isWorth_1 rfl ?_
  refine q_ldc hx hb 100000 hown (hts (.constant RX5 194 (100000)) (by decide +kernel)) (by decide +kernel) dX5_isWorth_2 ?_
  refine q_cSi (As := [.int (iI d), .int (iI 1), .int (iI 100000)]) (rest := []) ⟨hx, hb, hml, hown, hts⟩ (c5_isIn l g d 1 100000 r_d (by decide) (by decide) ) (va_cwS 3 hts gX5_isWorth_X5_isIn rfl rfl rfl (by decide +kernel) ⟨Nat.le_of_ble_eq_true rfl, Nat.le_of_ble_eq_true rfl⟩) (q_pS hK trivial) rfl hl.1 rfl (Nat.le_of_ble_eq_true rfl) ⟨Nat.zero_le _, Nat.zero_le _⟩ dX5_isWorth_4 ?_
  refine q_retz hx hb hr hlocks (bI_01 _) dX5_isWorth_7 ?_
  first | rfl | exact bI_e1 (by omega) | exact bI_e0 (by omega) | exact bI_iff (by omega) | omega

set_option maxHeartbeats 4000000 in
set_option maxRecDepth 100000 in
theorem c5_isPlace (l : Launch) (g : GG) (x : Int) (y : Int) (r_x : R32 x) (r_y : R32 y)  : MetI l yX5_isPlace wsX5_isPlace ({ frames := 1, cells := 0, slots := 0, locals := 22 }) g [.int (iI x), .int (iI y)] (fun _ => True) (bI (isP x y)) := by
  refine Met.ofW (cc := cX5_isPlace) (maxL := 2) (ret := (some .boolean)) (by decide) rfl ?_
  intro p e s m args below meth c s₁ B hml hv
  obtain ⟨rfl, _, hK⟩ := hv
  have hx := B.exec
  have hb := B.bytes
  have hr := B.returns
  have hts := atoms_spec (ws := wsX5_isPlace) B.pre
  have hown : s.vm.findClass RX5 = some m.cls := findClass_of_methodNamed B.named
  have hlocks := B.notSynchronized
  have hl := lv_entry ([.int (iI x), .int (iI y)]) (n := 2) (Nat.le_of_ble_eq_true rfl)
  rw [lg_entry_eq]
  generalize (lg_sl ([.int (iI x), .int (iI y)]) ++ List.replicate (2 - (lg_sl ([.int (iI x), .int (iI y)])).length) Slot.unset).toArray = ls at hl ⊢
  have hl : lv_has ls 2 [(0, .int (iI x)), (1, .int (iI y))] := hl
  refine lv_iload_n hx hb dX5_isPlace_0 rfl (lv_at hl 0 rfl) ?_
  refine lv_iconst (v := iI 0) hx hb dX5_isPlace_1 rfl ?_
  refine q_sipush hx hb 999 dX5_isPlace_2 (by decide +kernel) ?_
  refine q_cSi (As := [.int (iI x), .int (iI 0), .int (iI 999)]) (rest := []) ⟨hx, hb, hml, hown, hts⟩ (c5_isIn l g x 0 999 r_x (by decide) (by decide) ) (va_cwS 3 hts gX5_isPlace_X5_isIn rfl rfl rfl (by decide +kernel) ⟨Nat.le_of_ble_eq_true rfl, Nat.le_of_ble_eq_true rfl⟩) (q_pS hK trivial) rfl hl.1 rfl (Nat.le_of_ble_eq_true rfl) ⟨Nat.zero_le _, Nat.zero_le _⟩ dX5_isPlace_5 ?_
  refine q_ifb_eq (tgt := 26) hx hb dX5_isPlace_8 (by decide) (fun c8 => ?_) (fun c8 => ?_)
  · refine lv_iconst (v := iI 0) hx hb dX5_isPlace_26 rfl ?_
    refine q_retz hx hb hr hlocks (Or.inl rfl) dX5_isPlace_27 ?_
    first | rfl | exact bI_e1 (by omega) | exact bI_e0 (by omega) | exact bI_iff (by omega) | omega
  · refine lv_iload_n hx hb dX5_isPlace_11 rfl (lv_at hl 1 rfl) ?_
    refine lv_iconst (v := iI 0) hx hb dX5_isPlace_12 rfl ?_
    refine q_sipush hx hb 999 dX5_isPlace_13 (by decide +kernel) ?_
    refine q_cSi (As := [.int (iI y), .int (iI 0), .int (iI 999)]) (rest := []) ⟨hx, hb, hml, hown, hts⟩ (c5_isIn l g y 0 999 r_y (by decide) (by decide) ) (va_cwS 3 hts gX5_isPlace_X5_isIn rfl rfl rfl (by decide +kernel) ⟨Nat.le_of_ble_eq_true rfl, Nat.le_of_ble_eq_true rfl⟩) (q_pS hK trivial) rfl hl.1 rfl (Nat.le_of_ble_eq_true rfl) ⟨Nat.zero_le _, Nat.zero_le _⟩ dX5_isPlace_16 ?_
    refine q_ifb_eq (tgt := 26) hx hb dX5_isPlace_19 (by decide) (fun c19 => ?_) (fun c19 => ?_)
    · refine lv_iconst (v := iI 0) hx hb dX5_isPlace_26 rfl ?_
      refine q_retz hx hb hr hlocks (Or.inl rfl) dX5_isPlace_27 ?_
      first | rfl | exact bI_e1 (by omega) | exact bI_e0 (by omega) | exact bI_iff (by omega) | omega
    · refine lv_iconst (v := iI 1) hx hb dX5_isPlace_22 rfl ?_
      refine lv_goto (tgt := 27) hx hb dX5_isPlace_23 (by decide) ?_
      refine q_retz hx hb hr hlocks (Or.inr rfl) dX5_isPlace_27 ?_
      first | rfl | exact bI_e1 (by omega) | exact bI_e0 (by omega) | exact bI_iff (by omega) | omega

set_option maxHeartbeats 4000000 in
set_option maxRecDepth 100000 in
theorem c5_areHours (l : Launch) (g : GG) (f : Int) (t : Int) (r_f : R32 f) (r_t : R32 t)  : MetI l yX5_areHours wsX5_areHours ({ frames := 1, cells := 0, slots := 0, locals := 22 }) g [.int (iI f), .int (iI t)] (fun _ => True) (bI ((f = 0 ∧ t = 0) ∨ ((0 ≤ f ∧ f ≤ 1439) ∧ f < t ∧ t ≤ 1800))) := by
  refine Met.ofW (cc := cX5_areHours) (maxL := 3) (ret := (some .boolean)) (by decide) rfl ?_
  intro p e s m args below meth c s₁ B hml hv
  obtain ⟨rfl, _, hK⟩ := hv
  have hx := B.exec
  have hb := B.bytes
  have hr := B.returns
  have hts := atoms_spec (ws := wsX5_areHours) B.pre
  have hown : s.vm.findClass RX5 = some m.cls := findClass_of_methodNamed B.named
  have hlocks := B.notSynchronized
  have hl := lv_entry ([.int (iI f), .int (iI t)]) (n := 3) (Nat.le_of_ble_eq_true rfl)
  rw [lg_entry_eq]
  generalize (lg_sl ([.int (iI f), .int (iI t)]) ++ List.replicate (3 - (lg_sl ([.int (iI f), .int (iI t)])).length) Slot.unset).toArray = ls at hl ⊢
  have hl : lv_has ls 3 [(0, .int (iI f)), (1, .int (iI t))] := hl
  refine lv_iload_n hx hb dX5_areHours_0 rfl (lv_at hl 0 rfl) ?_
  refine q_if_ne (tgt := 12) hx hb dX5_areHours_1 (by decide) r_f (fun c1 => ?_) (fun c1 => ?_)
  · refine lv_iconst (v := iI 0) hx hb dX5_areHours_12 rfl ?_
    refine lv_istore_n (lv' := [(2, .int (iI 0)), (0, .int (iI f)), (1, .int (iI t))]) hx hb dX5_areHours_13 rfl hl (by decide) rfl (fun ls hl => ?_)
    refine lv_iload_n hx hb dX5_areHours_14 rfl (lv_at hl 0 rfl) ?_
    refine q_if_ne (tgt := 42) hx hb dX5_areHours_15 (by decide) (by decide) (fun c15 => ?_) (fun c15 => ?_)
    · exact absurd c15 (by decide)
    refine lv_iload_n hx hb dX5_areHours_18 rfl (lv_at hl 1 rfl) ?_
    refine lv_iconst (v := iI 0) hx hb dX5_areHours_19 rfl ?_
    refine q_sipush hx hb 1439 dX5_areHours_20 (by decide +kernel) ?_
    refine q_cSi (As := [.int (iI f), .int (iI 0), .int (iI 1439)]) (rest := []) ⟨hx, hb, hml, hown, hts⟩ (c5_isIn l g f 0 1439 r_f (by decide) (by decide) ) (va_cwS 3 hts gX5_areHours_X5_isIn rfl rfl rfl (by decide +kernel) ⟨Nat.le_of_ble_eq_true rfl, Nat.le_of_ble_eq_true rfl⟩) (q_pS hK trivial) rfl hl.1 rfl (Nat.le_of_ble_eq_true rfl) ⟨Nat.zero_le _, Nat.zero_le _⟩ dX5_areHours_23 ?_
    refine q_ifb_eq (tgt := 46) hx hb dX5_areHours_26 (by decide) (fun c26 => ?_) (fun c26 => ?_)
    · refine lv_iconst (v := iI 0) hx hb dX5_areHours_46 rfl ?_
      refine q_retz hx hb hr hlocks (Or.inl rfl) dX5_areHours_47 ?_
      first | rfl | exact bI_e1 (by omega) | exact bI_e0 (by omega) | exact bI_iff (by omega) | omega
    · refine lv_iload_n hx hb dX5_areHours_29 rfl (lv_at hl 2 rfl) ?_
      refine lv_iload_n hx hb dX5_areHours_30 rfl (lv_at hl 1 rfl) ?_
      refine lv_iconst (v := iI 1) hx hb dX5_areHours_31 rfl ?_
      refine q_iadd hx hb dX5_areHours_32 ?_
      refine q_sipush hx hb 1800 dX5_areHours_33 (by decide +kernel) ?_
      refine q_cSi (As := [.int (iI t), .int (iI (f + 1)), .int (iI 1800)]) (rest := []) ⟨hx, hb, hml, hown, hts⟩ (c5_isIn l g t (f + 1) 1800 r_t (by omega) (by decide) ) (va_cwS 3 hts gX5_areHours_X5_isIn rfl rfl rfl (by decide +kernel) ⟨Nat.le_of_ble_eq_true rfl, Nat.le_of_ble_eq_true rfl⟩) (q_pS hK trivial) rfl hl.1 rfl (Nat.le_of_ble_eq_true rfl) ⟨Nat.zero_le _, Nat.zero_le _⟩ dX5_areHours_36 ?_
      refine q_ifb_eq (tgt := 46) hx hb dX5_areHours_39 (by decide) (fun c39 => ?_) (fun c39 => ?_)
      · refine lv_iconst (v := iI 0) hx hb dX5_areHours_46 rfl ?_
        refine q_retz hx hb hr hlocks (Or.inl rfl) dX5_areHours_47 ?_
        first | rfl | exact bI_e1 (by omega) | exact bI_e0 (by omega) | exact bI_iff (by omega) | omega
      · refine lv_iconst (v := iI 1) hx hb dX5_areHours_42 rfl ?_
        refine lv_goto (tgt := 47) hx hb dX5_areHours_43 (by decide) ?_
        refine q_retz hx hb hr hlocks (Or.inr rfl) dX5_areHours_47 ?_
        first | rfl | exact bI_e1 (by omega) | exact bI_e0 (by omega) | exact bI_iff (by omega) | omega
  · refine lv_iload_n hx hb dX5_areHours_4 rfl (lv_at hl 1 rfl) ?_
    refine q_if_ne (tgt := 12) hx hb dX5_areHours_5 (by decide) r_t (fun c5 => ?_) (fun c5 => ?_)
    · refine lv_iconst (v := iI 0) hx hb dX5_areHours_12 rfl ?_
      refine lv_istore_n (lv' := [(2, .int (iI 0)), (0, .int (iI f)), (1, .int (iI t))]) hx hb dX5_areHours_13 rfl hl (by decide) rfl (fun ls hl => ?_)
      refine lv_iload_n hx hb dX5_areHours_14 rfl (lv_at hl 0 rfl) ?_
      refine q_if_ne (tgt := 42) hx hb dX5_areHours_15 (by decide) (by decide) (fun c15_1 => ?_) (fun c15_1 => ?_)
      · exact absurd c15_1 (by decide)
      refine lv_iload_n hx hb dX5_areHours_18 rfl (lv_at hl 1 rfl) ?_
      refine lv_iconst (v := iI 0) hx hb dX5_areHours_19 rfl ?_
      refine q_sipush hx hb 1439 dX5_areHours_20 (by decide +kernel) ?_
      refine q_cSi (As := [.int (iI f), .int (iI 0), .int (iI 1439)]) (rest := []) ⟨hx, hb, hml, hown, hts⟩ (c5_isIn l g f 0 1439 r_f (by decide) (by decide) ) (va_cwS 3 hts gX5_areHours_X5_isIn rfl rfl rfl (by decide +kernel) ⟨Nat.le_of_ble_eq_true rfl, Nat.le_of_ble_eq_true rfl⟩) (q_pS hK trivial) rfl hl.1 rfl (Nat.le_of_ble_eq_true rfl) ⟨Nat.zero_le _, Nat.zero_le _⟩ dX5_areHours_23 ?_
      refine q_ifb_eq (tgt := 46) hx hb dX5_areHours_26 (by decide) (fun c26_1 => ?_) (fun c26_1 => ?_)
      · refine lv_iconst (v := iI 0) hx hb dX5_areHours_46 rfl ?_
        refine q_retz hx hb hr hlocks (Or.inl rfl) dX5_areHours_47 ?_
        first | rfl | exact bI_e1 (by omega) | exact bI_e0 (by omega) | exact bI_iff (by omega) | omega
      · refine lv_iload_n hx hb dX5_areHours_29 rfl (lv_at hl 2 rfl) ?_
        refine lv_iload_n hx hb dX5_areHours_30 rfl (lv_at hl 1 rfl) ?_
        refine lv_iconst (v := iI 1) hx hb dX5_areHours_31 rfl ?_
        refine q_iadd hx hb dX5_areHours_32 ?_
        refine q_sipush hx hb 1800 dX5_areHours_33 (by decide +kernel) ?_
        refine q_cSi (As := [.int (iI t), .int (iI (f + 1)), .int (iI 1800)]) (rest := []) ⟨hx, hb, hml, hown, hts⟩ (c5_isIn l g t (f + 1) 1800 r_t (by omega) (by decide) ) (va_cwS 3 hts gX5_areHours_X5_isIn rfl rfl rfl (by decide +kernel) ⟨Nat.le_of_ble_eq_true rfl, Nat.le_of_ble_eq_true rfl⟩) (q_pS hK trivial) rfl hl.1 rfl (Nat.le_of_ble_eq_true rfl) ⟨Nat.zero_le _, Nat.zero_le _⟩ dX5_areHours_36 ?_
        refine q_ifb_eq (tgt := 46) hx hb dX5_areHours_39 (by decide) (fun c39_1 => ?_) (fun c39_1 => ?_)
        · refine lv_iconst (v := iI 0) hx hb dX5_areHours_46 rfl ?_
          refine q_retz hx hb hr hlocks (Or.inl rfl) dX5_areHours_47 ?_
          first | rfl | exact bI_e1 (by omega) | exact bI_e0 (by omega) | exact bI_iff (by omega) | omega
        · refine lv_iconst (v := iI 1) hx hb dX5_areHours_42 rfl ?_
          refine lv_goto (tgt := 47) hx hb dX5_areHours_43 (by decide) ?_
          refine q_retz hx hb hr hlocks (Or.inr rfl) dX5_areHours_47 ?_
          first | rfl | exact bI_e1 (by omega) | exact bI_e0 (by omega) | exact bI_iff (by omega) | omega
    · refine lv_iconst (v := iI 1) hx hb dX5_areHours_8 rfl ?_
      refine lv_goto (tgt := 13) hx hb dX5_areHours_9 (by decide) ?_
      refine lv_istore_n (lv' := [(2, .int (iI 1)), (0, .int (iI f)), (1, .int (iI t))]) hx hb dX5_areHours_13 rfl hl (by decide) rfl (fun ls hl => ?_)
      refine lv_iload_n hx hb dX5_areHours_14 rfl (lv_at hl 0 rfl) ?_
      refine q_if_ne (tgt := 42) hx hb dX5_areHours_15 (by decide) (by decide) (fun c15_2 => ?_) (fun c15_2 => ?_)
      rotate_left
      · exact absurd c15_2 (by decide)
      refine lv_iconst (v := iI 1) hx hb dX5_areHours_42 rfl ?_
      refine lv_goto (tgt := 47) hx hb dX5_areHours_43 (by decide) ?_
      refine q_retz hx hb hr hlocks (Or.inr rfl) dX5_areHours_47 ?_
      first | rfl | exact bI_e1 (by omega) | exact bI_e0 (by omega) | exact bI_iff (by omega) | omega

set_option maxHeartbeats 4000000 in
set_option maxRecDepth 100000 in
theorem c5_isEvent (l : Launch) (g : GG) (k : Int) (v : Int) (r_k : R32 k) (r_v : R32 v)  : MetI l yX5_isEvent wsX5_isEvent ({ frames := 1, cells := 0, slots := 0, locals := 22 }) g [.int (iI k), .int (iI v)] (fun _ => True) (bI (vEv k v)) := by
  refine Met.ofW (cc := cX5_isEvent) (maxL := 2) (ret := (some .boolean)) (by decide) rfl ?_
  intro p e s m args below meth c s₁ B hml hv
  obtain ⟨rfl, _, hK⟩ := hv
  have hx := B.exec
  have hb := B.bytes
  have hr := B.returns
  have hts := atoms_spec (ws := wsX5_isEvent) B.pre
  have hown : s.vm.findClass RX5 = some m.cls := findClass_of_methodNamed B.named
  have hlocks := B.notSynchronized
  have hl := lv_entry ([.int (iI k), .int (iI v)]) (n := 2) (Nat.le_of_ble_eq_true rfl)
  rw [lg_entry_eq]
  generalize (lg_sl ([.int (iI k), .int (iI v)]) ++ List.replicate (2 - (lg_sl ([.int (iI k), .int (iI v)])).length) Slot.unset).toArray = ls at hl ⊢
  have hl : lv_has ls 2 [(0, .int (iI k)), (1, .int (iI v))] := hl
  refine lv_iload_n hx hb dX5_isEvent_0 rfl (lv_at hl 0 rfl) ?_
  rcases (show k < 0 ∨ 4 < k ∨ k = 0 ∨ k = 1 ∨ k = 2 ∨ k = 3 ∨ k = 4 by omega) with c1 | c1 | c1 | c1 | c1 | c1 | c1
  · refine q_tabOut (tgt := 53) hx hb dX5_isEvent_1 r_k (Or.inl c1) (by decide) ?_
    refine lv_iload_n hx hb dX5_isEvent_53 rfl (lv_at hl 0 rfl) ?_
    refine lv_iconst (v := iI 0) hx hb dX5_isEvent_54 rfl ?_
    refine q_bipush hx hb 6 dX5_isEvent_55 (by decide +kernel) ?_
    refine q_cSi (As := [.int (iI k), .int (iI 0), .int (iI 6)]) (rest := []) ⟨hx, hb, hml, hown, hts⟩ (c5_isIn l g k 0 6 r_k (by decide) (by decide) ) (va_cwS 3 hts gX5_isEvent_X5_isIn rfl rfl rfl (by decide +kernel) ⟨Nat.le_of_ble_eq_true rfl, Nat.le_of_ble_eq_true rfl⟩) (q_pS hK trivial) rfl hl.1 rfl (Nat.le_of_ble_eq_true rfl) ⟨Nat.zero_le _, Nat.zero_le _⟩ dX5_isEvent_57 ?_
    refine q_retz hx hb hr hlocks (bI_01 _) dX5_isEvent_60 ?_
    first | rfl | exact bI_e1 (by omega) | exact bI_e0 (by omega) | exact bI_iff (by omega) | omega
  · refine q_tabOut (tgt := 53) hx hb dX5_isEvent_1 r_k (Or.inr c1) (by decide) ?_
    refine lv_iload_n hx hb dX5_isEvent_53 rfl (lv_at hl 0 rfl) ?_
    refine lv_iconst (v := iI 0) hx hb dX5_isEvent_54 rfl ?_
    refine q_bipush hx hb 6 dX5_isEvent_55 (by decide +kernel) ?_
    refine q_cSi (As := [.int (iI k), .int (iI 0), .int (iI 6)]) (rest := []) ⟨hx, hb, hml, hown, hts⟩ (c5_isIn l g k 0 6 r_k (by decide) (by decide) ) (va_cwS 3 hts gX5_isEvent_X5_isIn rfl rfl rfl (by decide +kernel) ⟨Nat.le_of_ble_eq_true rfl, Nat.le_of_ble_eq_true rfl⟩) (q_pS hK trivial) rfl hl.1 rfl (Nat.le_of_ble_eq_true rfl) ⟨Nat.zero_le _, Nat.zero_le _⟩ dX5_isEvent_57 ?_
    refine q_retz hx hb hr hlocks (bI_01 _) dX5_isEvent_60 ?_
    first | rfl | exact bI_e1 (by omega) | exact bI_e0 (by omega) | exact bI_iff (by omega) | omega
  · refine q_tabIn (off := 35) (tgt := 36) (k := 0) hx hb dX5_isEvent_1 r_k c1 (by decide) (by decide) (by decide +kernel) (by decide) ?_
    refine lv_iload_n hx hb dX5_isEvent_36 rfl (lv_at hl 1 rfl) ?_
    refine lv_iconst (v := iI 0) hx hb dX5_isEvent_37 rfl ?_
    refine q_bipush hx hb 99 dX5_isEvent_38 (by decide +kernel) ?_
    refine q_cSi (As := [.int (iI v), .int (iI 0), .int (iI 99)]) (rest := []) ⟨hx, hb, hml, hown, hts⟩ (c5_isIn l g v 0 99 r_v (by decide) (by decide) ) (va_cwS 3 hts gX5_isEvent_X5_isIn rfl rfl rfl (by decide +kernel) ⟨Nat.le_of_ble_eq_true rfl, Nat.le_of_ble_eq_true rfl⟩) (q_pS hK trivial) rfl hl.1 rfl (Nat.le_of_ble_eq_true rfl) ⟨Nat.zero_le _, Nat.zero_le _⟩ dX5_isEvent_40 ?_
    refine q_retz hx hb hr hlocks (bI_01 _) dX5_isEvent_43 ?_
    first | rfl | exact bI_e1 (by omega) | exact bI_e0 (by omega) | exact bI_iff (by omega) | omega
  · refine q_tabIn (off := 35) (tgt := 36) (k := 1) hx hb dX5_isEvent_1 r_k c1 (by decide) (by decide) (by decide +kernel) (by decide) ?_
    refine lv_iload_n hx hb dX5_isEvent_36 rfl (lv_at hl 1 rfl) ?_
    refine lv_iconst (v := iI 0) hx hb dX5_isEvent_37 rfl ?_
    refine q_bipush hx hb 99 dX5_isEvent_38 (by decide +kernel) ?_
    refine q_cSi (As := [.int (iI v), .int (iI 0), .int (iI 99)]) (rest := []) ⟨hx, hb, hml, hown, hts⟩ (c5_isIn l g v 0 99 r_v (by decide) (by decide) ) (va_cwS 3 hts gX5_isEvent_X5_isIn rfl rfl rfl (by decide +kernel) ⟨Nat.le_of_ble_eq_true rfl, Nat.le_of_ble_eq_true rfl⟩) (q_pS hK trivial) rfl hl.1 rfl (Nat.le_of_ble_eq_true rfl) ⟨Nat.zero_le _, Nat.zero_le _⟩ dX5_isEvent_40 ?_
    refine q_retz hx hb hr hlocks (bI_01 _) dX5_isEvent_43 ?_
    first | rfl | exact bI_e1 (by omega) | exact bI_e0 (by omega) | exact bI_iff (by omega) | omega
  · refine q_tabIn (off := 52) (tgt := 53) (k := 2) hx hb dX5_isEvent_1 r_k c1 (by decide) (by decide) (by decide +kernel) (by decide) ?_
    refine lv_iload_n hx hb dX5_isEvent_53 rfl (lv_at hl 0 rfl) ?_
    refine lv_iconst (v := iI 0) hx hb dX5_isEvent_54 rfl ?_
    refine q_bipush hx hb 6 dX5_isEvent_55 (by decide +kernel) ?_
    refine q_cSi (As := [.int (iI k), .int (iI 0), .int (iI 6)]) (rest := []) ⟨hx, hb, hml, hown, hts⟩ (c5_isIn l g k 0 6 r_k (by decide) (by decide) ) (va_cwS 3 hts gX5_isEvent_X5_isIn rfl rfl rfl (by decide +kernel) ⟨Nat.le_of_ble_eq_true rfl, Nat.le_of_ble_eq_true rfl⟩) (q_pS hK trivial) rfl hl.1 rfl (Nat.le_of_ble_eq_true rfl) ⟨Nat.zero_le _, Nat.zero_le _⟩ dX5_isEvent_57 ?_
    refine q_retz hx hb hr hlocks (bI_01 _) dX5_isEvent_60 ?_
    first | rfl | exact bI_e1 (by omega) | exact bI_e0 (by omega) | exact bI_iff (by omega) | omega
  · refine q_tabIn (off := 52) (tgt := 53) (k := 3) hx hb dX5_isEvent_1 r_k c1 (by decide) (by decide) (by decide +kernel) (by decide) ?_
    refine lv_iload_n hx hb dX5_isEvent_53 rfl (lv_at hl 0 rfl) ?_
    refine lv_iconst (v := iI 0) hx hb dX5_isEvent_54 rfl ?_
    refine q_bipush hx hb 6 dX5_isEvent_55 (by decide +kernel) ?_
    refine q_cSi (As := [.int (iI k), .int (iI 0), .int (iI 6)]) (rest := []) ⟨hx, hb, hml, hown, hts⟩ (c5_isIn l g k 0 6 r_k (by decide) (by decide) ) (va_cwS 3 hts gX5_isEvent_X5_isIn rfl rfl rfl (by decide +kernel) ⟨Nat.le_of_ble_eq_true rfl, Nat.le_of_ble_eq_true rfl⟩) (q_pS hK trivial) rfl hl.1 rfl (Nat.le_of_ble_eq_true rfl) ⟨Nat.zero_le _, Nat.zero_le _⟩ dX5_isEvent_57 ?_
    refine q_retz hx hb hr hlocks (bI_01 _) dX5_isEvent_60 ?_
    first | rfl | exact bI_e1 (by omega) | exact bI_e0 (by omega) | exact bI_iff (by omega) | omega
  · refine q_tabIn (off := 43) (tgt := 44) (k := 4) hx hb dX5_isEvent_1 r_k c1 (by decide) (by decide) (by decide +kernel) (by decide) ?_
    refine lv_iload_n hx hb dX5_isEvent_44 rfl (lv_at hl 1 rfl) ?_
    refine lv_iconst (v := iI 0) hx hb dX5_isEvent_45 rfl ?_
    refine q_sipush hx hb 1439 dX5_isEvent_46 (by decide +kernel) ?_
    refine q_cSi (As := [.int (iI v), .int (iI 0), .int (iI 1439)]) (rest := []) ⟨hx, hb, hml, hown, hts⟩ (c5_isIn l g v 0 1439 r_v (by decide) (by decide) ) (va_cwS 3 hts gX5_isEvent_X5_isIn rfl rfl rfl (by decide +kernel) ⟨Nat.le_of_ble_eq_true rfl, Nat.le_of_ble_eq_true rfl⟩) (q_pS hK trivial) rfl hl.1 rfl (Nat.le_of_ble_eq_true rfl) ⟨Nat.zero_le _, Nat.zero_le _⟩ dX5_isEvent_49 ?_
    refine q_retz hx hb hr hlocks (bI_01 _) dX5_isEvent_52 ?_
    first | rfl | exact bI_e1 (by omega) | exact bI_e0 (by omega) | exact bI_iff (by omega) | omega

set_option maxHeartbeats 4000000 in
set_option maxRecDepth 100000 in
theorem c5_squareOfDistance (l : Launch) (g : GG) (x : Int) (y : Int) (x2 : Int) (y2 : Int) (r_x : R32 x) (r_y : R32 y) (r_x2 : R32 x2) (r_y2 : R32 y2)  : MetI l yX5_squareOfDistance wsX5_squareOfDistance ({ frames := 0, cells := 0, slots := 0, locals := 0 }) g [.int (iI x), .int (iI y), .int (iI x2), .int (iI y2)] (fun _ => True) (off2 x y x2 y2) := by
  refine Met.ofW (cc := cX5_squareOfDistance) (maxL := 4) (ret := (some .int)) (by decide) rfl ?_
  intro p e s m args below meth c s₁ B hml hv
  obtain ⟨rfl, _, hK⟩ := hv
  have hx := B.exec
  have hb := B.bytes
  have hr := B.returns
  have hts := atoms_spec (ws := wsX5_squareOfDistance) B.pre
  have hown : s.vm.findClass RX5 = some m.cls := findClass_of_methodNamed B.named
  have hlocks := B.notSynchronized
  have hl := lv_entry ([.int (iI x), .int (iI y), .int (iI x2), .int (iI y2)]) (n := 4) (Nat.le_of_ble_eq_true rfl)
  rw [lg_entry_eq]
  generalize (lg_sl ([.int (iI x), .int (iI y), .int (iI x2), .int (iI y2)]) ++ List.replicate (4 - (lg_sl ([.int (iI x), .int (iI y), .int (iI x2), .int (iI y2)])).length) Slot.unset).toArray = ls at hl ⊢
  have hl : lv_has ls 4 [(0, .int (iI x)), (1, .int (iI y)), (2, .int (iI x2)), (3, .int (iI y2))] := hl
  refine lv_iload_n hx hb dX5_squareOfDistance_0 rfl (lv_at hl 0 rfl) ?_
  refine lv_iload_n hx hb dX5_squareOfDistance_1 rfl (lv_at hl 2 rfl) ?_
  refine q_isub hx hb dX5_squareOfDistance_2 ?_
  refine lv_iload_n hx hb dX5_squareOfDistance_3 rfl (lv_at hl 0 rfl) ?_
  refine lv_iload_n hx hb dX5_squareOfDistance_4 rfl (lv_at hl 2 rfl) ?_
  refine q_isub hx hb dX5_squareOfDistance_5 ?_
  refine q_imul hx hb dX5_squareOfDistance_6 ?_
  refine lv_iload_n hx hb dX5_squareOfDistance_7 rfl (lv_at hl 1 rfl) ?_
  refine lv_iload_n hx hb dX5_squareOfDistance_8 rfl (lv_at hl 3 rfl) ?_
  refine q_isub hx hb dX5_squareOfDistance_9 ?_
  refine lv_iload_n hx hb dX5_squareOfDistance_10 rfl (lv_at hl 1 rfl) ?_
  refine lv_iload_n hx hb dX5_squareOfDistance_11 rfl (lv_at hl 3 rfl) ?_
  refine q_isub hx hb dX5_squareOfDistance_12 ?_
  refine q_imul hx hb dX5_squareOfDistance_13 ?_
  refine q_iadd hx hb dX5_squareOfDistance_14 ?_
  refine q_reti hx hb hr hlocks dX5_squareOfDistance_15 ?_
  first | rfl | exact bI_e1 (by omega) | exact bI_e0 (by omega) | exact bI_iff (by omega) | omega

/-- the first offence of a number, by its address -/
noncomputable def sNumb (S : St) (h v : Int) : Nat → Int
  | 0 => -1
  | n + 1 => cI (sNumb S h v n < 0 ∧ qTold S h v n) (n : Int) (sNumb S h v n)
theorem sNumb_s (S : St) (h v : Int) (n : Nat) : sNumb S h v (n + 1) = cI (sNumb S h v n < 0 ∧ qTold S h v n) (n : Int) (sNumb S h v n) := rfl
theorem sNumb_0 {S : St} {h v : Int} {n : Nat} (hn : ¬ exN (qTold S h v) n) : sNumb S h v n = -1 := by
  induction n with
  | zero => rfl
  | succ n ih =>
    rw [sNumb_s, cI_f (fun z => hn ⟨n, by omega, z.2⟩)]
    exact ih (fun z => hn (exN_s.mpr (Or.inl z)))
theorem sNumb_1 {S : St} {h v : Int} {n : Nat} (h1 : ¬ exN (qTold S h v) n) (h2 : qTold S h v n) : ∀ k, sNumb S h v (n + 1 + k) = (n : Int) := by
  intro k
  induction k with
  | zero =>
    show sNumb S h v (n + 1) = _
    rw [sNumb_s, cI_t ⟨by rw [sNumb_0 h1]; decide, h2⟩]
  | succ k ih =>
    show sNumb S h v (n + 1 + k + 1) = _
    rw [sNumb_s, cI_f (fun z => by have z1 := z.1; rw [ih] at z1; omega), ih]
theorem sNumb_b (S : St) (h v : Int) (n : Nat) : (sNumb S h v n = -1 ∧ ¬ exN (qTold S h v) n) ∨ (0 ≤ sNumb S h v n ∧ sNumb S h v n < n ∧ qTold S h v (sNumb S h v n).toNat) := by
  induction n with
  | zero => exact Or.inl ⟨rfl, exN_0⟩
  | succ n ih =>
    rw [sNumb_s]
    by_cases c : sNumb S h v n < 0 ∧ qTold S h v n
    · rw [cI_t c]; exact Or.inr ⟨by omega, by omega, by simpa using c.2⟩
    · rw [cI_f c]
      rcases ih with ⟨a, b⟩ | ⟨a, b, d⟩
      · exact Or.inl ⟨a, fun z => (exN_s.mp z).elim b (fun y => c ⟨by omega, y⟩)⟩
      · exact Or.inr ⟨a, by omega, d⟩
def evA (ad : AD) (h z : Int) : Option Nat := if z < 0 then none else some (ad 10 h z)

set_option maxHeartbeats 4000000 in
set_option maxRecDepth 100000 in
theorem c1_offenceNumbered (l : Launch) (g : GG) (eA : Nat) (P : Nat → Prop) (ad : AD) (S : St) (hRS : ∀ k z, k < 26 → R32 (S k z)) (h : Int) (h0 : 0 ≤ h ∧ h < S 14 0) (v : Int) (r_v : R32 v) (h19 : 0 ≤ S 19 h ∧ S 19 h ≤ 16) : MetQ l yX1_offenceNumbered wsX1_offenceNumbered ({ frames := 3, cells := 0, slots := 0, locals := 64 }) g [.ref (ad 7 h 0), .int (iI v)] (fun H => RepC g eA P ad S H) (evA ad h (sNumb S h v (S 19 h).toNat)) := by
  refine Met.ofW (cc := cX1_offenceNumbered) (maxL := 4) (ret := (some (.object "TavernBench$Event"))) (by decide) rfl ?_
  intro p e s m args below meth c s₁ B hml hv
  obtain ⟨rfl, hC, hK⟩ := hv
  have hx := B.exec
  have hb := B.bytes
  have hr := B.returns
  have hts := atoms_spec (ws := wsX1_offenceNumbered) B.pre
  have hown : s.vm.findClass RX1 = some m.cls := findClass_of_methodNamed B.named
  have hlocks := B.notSynchronized
  have inX0 : ∀ w ∈ wsX00, w ∈ wsX1_offenceNumbered := by decide +kernel
  have inX1 : ∀ w ∈ wsX10, w ∈ wsX1_offenceNumbered := by decide +kernel
  have hl := lv_entry ([.ref (ad 7 h 0), .int (iI v)]) (n := 4) (Nat.le_of_ble_eq_true rfl)
  rw [lg_entry_eq]
  generalize (lg_sl ([.ref (ad 7 h 0), .int (iI v)]) ++ List.replicate (4 - (lg_sl ([.ref (ad 7 h 0), .int (iI v)])).length) Slot.unset).toArray = ls at hl ⊢
  have hl : lv_has ls 4 [(0, .ref (ad 7 h 0)), (1, .int (iI v))] := hl
  refine lv_iconst (v := iI 0) hx hb dX1_offenceNumbered_0 rfl ?_
  refine lv_istore_n (lv' := [(2, .int (iI 0)), (0, .ref (ad 7 h 0)), (1, .int (iI v))]) hx hb dX1_offenceNumbered_1 rfl hl (by decide) rfl (fun ls hl => ?_)
  have e0 : (((0 : Nat) : Int) : Int) = 0 := by
    rfl
  refine q_loop (nL := 4) (fun (u : Nat) => u ≤ (S 19 h).toNat ∧ ¬ exN (qTold S h v) u) (fun u => (S 19 h).toNat - u) (fun (u : Nat) => [(0, .ref (ad 7 h 0)), (1, .int (iI v)), (2, .int (iI ((u : Nat) : Int)))]) 0 ⟨Nat.zero_le _, exN_0⟩ (lv_sub hl [1, 2, 0] (by simp only [e0]; rfl)) (fun u hu2 ihu ls hl => ?_)
  have hl : lv_has ls 4 [(0, .ref (ad 7 h 0)), (1, .int (iI v)), (2, .int (iI ((u : Nat) : Int)))] := hl
  have hu1 : u ≤ (S 19 h).toNat := hu2.1
  refine lv_iload_n hx hb dX1_offenceNumbered_2 rfl (lv_at hl 2 rfl) ?_
  refine lv_aload_n hx hb dX1_offenceNumbered_3 rfl (lv_at hl 0 rfl) ?_
  refine q_get (v := .ref (ad 8 h 0)) (C := RX1) (T := TX1) (N := 7) hx hb hts inX1 hown hK (hC.house (k := h) h0) rfl 4 (by decide) (hts (.fieldLink RX1 27 "TavernBench$House" "events" "Ljava/util/ArrayList;") (by decide +kernel)) (fun _ h9 => h9) rfl dX1_offenceNumbered_4 ?_
  refine q_cVi (As := []) (rest := [.int (iI ((u : Nat) : Int))]) ⟨hx, hb, hml, hown, hts⟩ (c0_size l g eA (ad 8 h 0) (ad 9 h 0) (S 19 h)) (cwV 0 hts gX1_offenceNumbered_Jx4a65c_size_8abf5 rfl rfl rfl (by decide +kernel) ⟨Nat.le_of_ble_eq_true rfl, Nat.le_of_ble_eq_true rfl⟩) (q_pV hK (hC.hlst (k := h) (j := 0) h0 (by decide)) rfl (hC.hlst (k := h) (j := 0) h0 (by decide))) rfl hl.1 rfl (Nat.le_of_ble_eq_true rfl) ⟨Nat.zero_le _, Nat.zero_le _⟩ dX1_offenceNumbered_7 ?_
  refine q_icmp_ge (tgt := 48) hx hb dX1_offenceNumbered_10 (by decide) (by omega) (hRS _ _ (by decide)) (fun c10 => ?_) (fun c10 => ?_)
  · refine lv_null hx hb dX1_offenceNumbered_48 ?_
    refine q_retq (v := none) hx hb hr (Or.inl ⟨_, rfl⟩) hlocks dX1_offenceNumbered_49 ?_
    have eu : u = (S 19 h).toNat := by omega
    rw [eu] at hu2
    rw [sNumb_0 hu2.2]
    rfl
  · refine lv_aload_n hx hb dX1_offenceNumbered_13 rfl (lv_at hl 0 rfl) ?_
    refine q_get (v := .ref (ad 8 h 0)) (C := RX1) (T := TX1) (N := 7) hx hb hts inX1 hown hK (hC.house (k := h) h0) rfl 4 (by decide) (hts (.fieldLink RX1 27 "TavernBench$House" "events" "Ljava/util/ArrayList;") (by decide +kernel)) (fun _ h9 => h9) rfl dX1_offenceNumbered_14 ?_
    refine lv_iload_n hx hb dX1_offenceNumbered_17 rfl (lv_at hl 2 rfl) ?_
    refine q_cVr (As := [.int (iI ((u : Nat) : Int))]) (rest := []) ⟨hx, hb, hml, hown, hts⟩ (c0_get l g eA (ad 8 h 0) (ad 9 h 0) (S 19 h) (fun q => ad 10 h q) ((u : Nat) : Int) (by omega) ⟨by omega, by omega⟩ (by omega)) (cwV 1 hts gX1_offenceNumbered_Jx4a65c_get_915e3 rfl rfl rfl (by decide +kernel) ⟨Nat.le_of_ble_eq_true rfl, Nat.le_of_ble_eq_true rfl⟩) (q_pV hK (hC.hlst (k := h) (j := 0) h0 (by decide)) rfl ⟨(hC.hlst (k := h) (j := 0) h0 (by decide)), (hC.harr (k := h) (j := 0) h0 (by decide) (by show 0 < S 19 h; omega))⟩) rfl hl.1 rfl (Nat.le_of_ble_eq_true rfl) ⟨Nat.zero_le _, Nat.zero_le _⟩ dX1_offenceNumbered_18 ?_
    refine q_cast (C := RX0) (T := TX0) (N := 4) hx hb hown (hts (.classLink RX1 47 RX0) (by decide +kernel)) hK (hC.event (k := h) (j := ((u : Nat) : Int)) h0 ⟨by omega, by omega⟩) rfl dX1_offenceNumbered_21 ?_
    refine lv_astore_n (lv' := [(3, .ref (ad 10 h ((u : Nat) : Int))), (0, .ref (ad 7 h 0)), (1, .int (iI v)), (2, .int (iI ((u : Nat) : Int)))]) hx hb dX1_offenceNumbered_24 rfl hl (by decide) rfl (fun ls hl => ?_)
    refine lv_aload_n hx hb dX1_offenceNumbered_25 rfl (lv_at hl 0 rfl) ?_
    refine q_get (v := .int (iI (S 21 (16 * h + ((u : Nat) : Int))))) (C := RX0) (T := TX0) (N := 4) hx hb hts inX0 hown hK (hC.event (k := h) (j := ((u : Nat) : Int)) h0 ⟨by omega, by omega⟩) rfl 1 (by decide) (hts (.fieldLink RX1 69 "TavernBench$Event" "kind" "I") (by decide +kernel)) (fun _ h9 => h9) rfl dX1_offenceNumbered_26 ?_
    refine q_if_ne (tgt := 42) hx hb dX1_offenceNumbered_29 (by decide) (hRS _ _ (by decide)) (fun c29 => ?_) (fun c29 => ?_)
    · refine lv_iinc (v := iI (((u : Nat) : Int) + 1)) (lv' := [(2, .int (iI (((u : Nat) : Int) + 1))), (3, .ref (ad 10 h ((u : Nat) : Int))), (0, .ref (ad 7 h 0)), (1, .int (iI v))]) hx hb dX1_offenceNumbered_42 hl (k := 3) rfl (iI_add _ _) (by decide) rfl (fun ls hl => ?_)
      refine lv_goto (tgt := 2) hx hb dX1_offenceNumbered_45 (by decide) ?_
      have e0 : ((((u + 1) : Nat) : Int) : Int) = ((u : Nat) : Int) + 1 := by
        omega
      exact ihu (u + 1) ⟨by omega, fun z => (exN_s.mp z).elim hu2.2 (fun y => by first | exact absurd y.1 (by assumption) | exact absurd y.2 (by assumption))⟩ (by show (S 19 h).toNat - (u + 1) < (S 19 h).toNat - u; omega) ls (lv_sub hl [2, 3, 0] (by simp only [e0]; rfl))
    · refine lv_aload_n hx hb dX1_offenceNumbered_32 rfl (lv_at hl 0 rfl) ?_
      refine q_get (v := .int (iI (S 22 (16 * h + ((u : Nat) : Int))))) (C := RX0) (T := TX0) (N := 4) hx hb hts inX0 hown hK (hC.event (k := h) (j := ((u : Nat) : Int)) h0 ⟨by omega, by omega⟩) rfl 2 (by decide) (hts (.fieldLink RX1 70 "TavernBench$Event" "v" "I") (by decide +kernel)) (fun _ h9 => h9) rfl dX1_offenceNumbered_33 ?_
      refine lv_iload_n hx hb dX1_offenceNumbered_36 rfl (lv_at hl 2 rfl) ?_
      refine q_icmp_ne (tgt := 42) hx hb dX1_offenceNumbered_37 (by decide) (hRS _ _ (by decide)) r_v (fun c37 => ?_) (fun c37 => ?_)
      · refine lv_iinc (v := iI (((u : Nat) : Int) + 1)) (lv' := [(2, .int (iI (((u : Nat) : Int) + 1))), (3, .ref (ad 10 h ((u : Nat) : Int))), (0, .ref (ad 7 h 0)), (1, .int (iI v))]) hx hb dX1_offenceNumbered_42 hl (k := 3) rfl (iI_add _ _) (by decide) rfl (fun ls hl => ?_)
        refine lv_goto (tgt := 2) hx hb dX1_offenceNumbered_45 (by decide) ?_
        have e0 : ((((u + 1) : Nat) : Int) : Int) = ((u : Nat) : Int) + 1 := by
          omega
        exact ihu (u + 1) ⟨by omega, fun z => (exN_s.mp z).elim hu2.2 (fun y => by first | exact absurd y.1 (by assumption) | exact absurd y.2 (by assumption))⟩ (by show (S 19 h).toNat - (u + 1) < (S 19 h).toNat - u; omega) ls (lv_sub hl [2, 3, 0] (by simp only [e0]; rfl))
      · refine lv_aload_n hx hb dX1_offenceNumbered_40 rfl (lv_at hl 0 rfl) ?_
        refine q_retq (v := (some (ad 10 h ((u : Nat) : Int)))) hx hb hr (Or.inl ⟨_, rfl⟩) hlocks dX1_offenceNumbered_41 ?_
        show some (ad 10 h ((u : Nat) : Int)) = evA ad h (sNumb S h v (S 19 h).toNat)
        have hk := sNumb_1 (n := u) hu2.2 ⟨by assumption, by assumption⟩ ((S 19 h).toNat - (u + 1))
        rw [Nat.add_sub_cancel' (by omega)] at hk
        rw [hk]
        unfold evA
        rw [if_neg (by omega)]

set_option maxHeartbeats 4000000 in
set_option maxRecDepth 100000 in
theorem c1_offencesCounted (l : Launch) (g : GG) (eA : Nat) (P : Nat → Prop) (ad : AD) (S : St) (hI : Inv S) (hQ : InvC S) (h : Int) (h0 : 0 ≤ h ∧ h < S 14 0) (day : Int) (asked : Int) (r_day : R32 day) (r_asked : R32 asked) (hd : isD day) : MetI l yX1_offencesCounted wsX1_offencesCounted ({ frames := 3, cells := 0, slots := 0, locals := 64 }) g [.ref (ad 7 h 0), .int (iI day), .int (iI asked)] (fun H => RepC g eA P ad S H) (sOffC S h day asked (S 19 h).toNat) := by
  refine Met.ofW (cc := cX1_offencesCounted) (maxL := 7) (ret := (some .int)) (by decide) rfl ?_
  intro p e s m args below meth c s₁ B hml hv
  obtain ⟨rfl, hC, hK⟩ := hv
  have hx := B.exec
  have hb := B.bytes
  have hr := B.returns
  have hts := atoms_spec (ws := wsX1_offencesCounted) B.pre
  have hown : s.vm.findClass RX1 = some m.cls := findClass_of_methodNamed B.named
  have hlocks := B.notSynchronized
  have inX0 : ∀ w ∈ wsX00, w ∈ wsX1_offencesCounted := by decide +kernel
  have inX1 : ∀ w ∈ wsX10, w ∈ wsX1_offencesCounted := by decide +kernel
  have hl := lv_entry ([.ref (ad 7 h 0), .int (iI day), .int (iI asked)]) (n := 7) (Nat.le_of_ble_eq_true rfl)
  rw [lg_entry_eq]
  generalize (lg_sl ([.ref (ad 7 h 0), .int (iI day), .int (iI asked)]) ++ List.replicate (7 - (lg_sl ([.ref (ad 7 h 0), .int (iI day), .int (iI asked)])).length) Slot.unset).toArray = ls at hl ⊢
  have hl : lv_has ls 7 [(0, .ref (ad 7 h 0)), (1, .int (iI day)), (2, .int (iI asked))] := hl
  have hH := hI.house h0.1 h0.2
  have hN := hI.nums
  refine lv_iconst (v := iI 0) hx hb dX1_offencesCounted_0 rfl ?_
  refine lv_istore_n (lv' := [(3, .int (iI 0)), (0, .ref (ad 7 h 0)), (1, .int (iI day)), (2, .int (iI asked))]) hx hb dX1_offencesCounted_1 rfl hl (by decide) rfl (fun ls hl => ?_)
  refine lv_iconst (v := iI 0) hx hb dX1_offencesCounted_2 rfl ?_
  refine lv_istore (lv' := [(4, .int (iI 0)), (3, .int (iI 0)), (0, .ref (ad 7 h 0)), (1, .int (iI day)), (2, .int (iI asked))]) hx hb dX1_offencesCounted_3 hl (by decide) rfl (fun ls hl => ?_)
  have e0 : (sOffC S h day asked 0 : Int) = 0 := by
    rfl
  have e1 : (((0 : Nat) : Int) : Int) = 0 := by
    rfl
  refine q_loopN (nL := 7) ((S 19 h).toNat) (fun (u : Nat) => [(0, .ref (ad 7 h 0)), (1, .int (iI day)), (2, .int (iI asked)), (3, .int (iI (sOffC S h day asked u))), (4, .int (iI ((u : Nat) : Int)))]) (lv_sub hl [2, 3, 4, 1, 0] (by simp only [e0, e1]; rfl)) (fun u hu ihu ls hl => ?_)
  have hl : lv_has ls 7 [(0, .ref (ad 7 h 0)), (1, .int (iI day)), (2, .int (iI asked)), (3, .int (iI (sOffC S h day asked u))), (4, .int (iI ((u : Nat) : Int)))] := hl
  refine lv_iload hx hb dX1_offencesCounted_5 (lv_at hl 4 rfl) ?_
  refine lv_aload_n hx hb dX1_offencesCounted_7 rfl (lv_at hl 0 rfl) ?_
  refine q_get (v := .ref (ad 8 h 0)) (C := RX1) (T := TX1) (N := 7) hx hb hts inX1 hown hK (hC.house (k := h) h0) rfl 4 (by decide) (hts (.fieldLink RX1 27 "TavernBench$House" "events" "Ljava/util/ArrayList;") (by decide +kernel)) (fun _ h9 => h9) rfl dX1_offencesCounted_8 ?_
  refine q_cVi (As := []) (rest := [.int (iI ((u : Nat) : Int))]) ⟨hx, hb, hml, hown, hts⟩ (c0_size l g eA (ad 8 h 0) (ad 9 h 0) (S 19 h)) (cwV 0 hts gX1_offencesCounted_Jx4a65c_size_8abf5 rfl rfl rfl (by decide +kernel) ⟨Nat.le_of_ble_eq_true rfl, Nat.le_of_ble_eq_true rfl⟩) (q_pV hK (hC.hlst (k := h) (j := 0) h0 (by decide)) rfl (hC.hlst (k := h) (j := 0) h0 (by decide))) rfl hl.1 rfl (Nat.le_of_ble_eq_true rfl) ⟨Nat.zero_le _, Nat.zero_le _⟩ dX1_offencesCounted_11 ?_
  refine q_icmp_ge (tgt := 91) hx hb dX1_offencesCounted_14 (by decide) (by omega) (hI.R (by decide)) (fun c14 => ?_) (fun c14 => ?_)
  · refine lv_iload_n hx hb dX1_offencesCounted_91 rfl (lv_at hl 3 rfl) ?_
    refine q_reti hx hb hr hlocks dX1_offencesCounted_92 ?_
    have e : u = (S 19 h).toNat := by omega
    rw [e]
  · refine lv_aload_n hx hb dX1_offencesCounted_17 rfl (lv_at hl 0 rfl) ?_
    refine q_get (v := .ref (ad 8 h 0)) (C := RX1) (T := TX1) (N := 7) hx hb hts inX1 hown hK (hC.house (k := h) h0) rfl 4 (by decide) (hts (.fieldLink RX1 27 "TavernBench$House" "events" "Ljava/util/ArrayList;") (by decide +kernel)) (fun _ h9 => h9) rfl dX1_offencesCounted_18 ?_
    refine lv_iload hx hb dX1_offencesCounted_21 (lv_at hl 4 rfl) ?_
    refine q_cVr (As := [.int (iI ((u : Nat) : Int))]) (rest := []) ⟨hx, hb, hml, hown, hts⟩ (c0_get l g eA (ad 8 h 0) (ad 9 h 0) (S 19 h) (fun q => ad 10 h q) ((u : Nat) : Int) (by omega) ⟨by omega, by omega⟩ (by omega)) (cwV 1 hts gX1_offencesCounted_Jx4a65c_get_915e3 rfl rfl rfl (by decide +kernel) ⟨Nat.le_of_ble_eq_true rfl, Nat.le_of_ble_eq_true rfl⟩) (q_pV hK (hC.hlst (k := h) (j := 0) h0 (by decide)) rfl ⟨(hC.hlst (k := h) (j := 0) h0 (by decide)), (hC.harr (k := h) (j := 0) h0 (by decide) (by show 0 < S 19 h; omega))⟩) rfl hl.1 rfl (Nat.le_of_ble_eq_true rfl) ⟨Nat.zero_le _, Nat.zero_le _⟩ dX1_offencesCounted_23 ?_
    refine q_cast (C := RX0) (T := TX0) (N := 4) hx hb hown (hts (.classLink RX1 47 RX0) (by decide +kernel)) hK (hC.event (k := h) (j := ((u : Nat) : Int)) h0 ⟨by omega, by omega⟩) rfl dX1_offencesCounted_26 ?_
    refine lv_astore (lv' := [(5, .ref (ad 10 h ((u : Nat) : Int))), (0, .ref (ad 7 h 0)), (1, .int (iI day)), (2, .int (iI asked)), (3, .int (iI (sOffC S h day asked u))), (4, .int (iI ((u : Nat) : Int)))]) hx hb dX1_offencesCounted_29 hl (by decide) rfl (fun ls hl => ?_)
    have hv := hI.ev h0.1 h0.2 (j := ((u : Nat) : Int)) (by omega) (by omega)
    have hq := hQ h h0.1 h0.2 u (by omega)
    refine q_aload hx hb dX1_offencesCounted_31 (lv_at hl 0 rfl) ?_
    refine q_get (v := .int (iI (S 20 (16 * h + ((u : Nat) : Int))))) (C := RX0) (T := TX0) (N := 4) hx hb hts inX0 hown hK (hC.event (k := h) (j := ((u : Nat) : Int)) h0 ⟨by omega, by omega⟩) rfl 0 (by decide) (hts (.fieldLink RX1 87 "TavernBench$Event" "day" "I") (by decide +kernel)) (fun _ h9 => h9) rfl dX1_offencesCounted_33 ?_
    refine lv_iload_n hx hb dX1_offencesCounted_36 rfl (lv_at hl 2 rfl) ?_
    refine q_sipush hx hb 1825 dX1_offencesCounted_37 (by decide +kernel) ?_
    refine q_isub hx hb dX1_offencesCounted_40 ?_
    refine q_icmp_lt (tgt := 57) hx hb dX1_offencesCounted_41 (by decide) (hI.R (by decide)) (by omega) (fun c41 => ?_) (fun c41 => ?_)
    · refine lv_iconst (v := iI 0) hx hb dX1_offencesCounted_57 rfl ?_
      refine lv_istore (lv' := [(6, .int (iI 0)), (5, .ref (ad 10 h ((u : Nat) : Int))), (0, .ref (ad 7 h 0)), (1, .int (iI day)), (2, .int (iI asked)), (3, .int (iI (sOffC S h day asked u))), (4, .int (iI ((u : Nat) : Int)))]) hx hb dX1_offencesCounted_58 hl (by decide) rfl (fun ls hl => ?_)
      refine lv_iload hx hb dX1_offencesCounted_60 (lv_at hl 0 rfl) ?_
      refine q_if_eq (tgt := 85) hx hb dX1_offencesCounted_62 (by decide) (by decide) (fun c62 => ?_) (fun c62 => ?_)
      rotate_left
      · exact absurd c62 (by decide)
      refine lv_iinc (v := iI (((u : Nat) : Int) + 1)) (lv' := [(4, .int (iI (((u : Nat) : Int) + 1))), (6, .int (iI 0)), (5, .ref (ad 10 h ((u : Nat) : Int))), (0, .ref (ad 7 h 0)), (1, .int (iI day)), (2, .int (iI asked)), (3, .int (iI (sOffC S h day asked u)))]) hx hb dX1_offencesCounted_85 hl (k := 6) rfl (iI_add _ _) (by decide) rfl (fun ls hl => ?_)
      refine lv_goto (tgt := 5) hx hb dX1_offencesCounted_88 (by decide) ?_
      have e0 : (sOffC S h day asked (u + 1) : Int) = sOffC S h day asked u := by
        first | exact cnt_1 ⟨⟨⟨by assumption, by assumption⟩, by assumption⟩, by assumption⟩ | (refine (cnt_0 (fun z => ?_)).trans (Int.add_zero _); first | exact absurd z.1.1.1 (Int.not_le.mpr (by assumption)) | exact absurd z.1.1.2 (Int.not_le.mpr (by assumption)) | exact absurd z.1.2 (by assumption) | exact absurd z.2 (Int.not_lt.mpr (by assumption)))
      have e1 : ((((u + 1) : Nat) : Int) : Int) = ((u : Nat) : Int) + 1 := by
        omega
      exact ihu (by omega) ls (lv_sub hl [3, 4, 5, 6, 0] (by simp only [e0, e1]; rfl))
    · refine q_aload hx hb dX1_offencesCounted_44 (lv_at hl 0 rfl) ?_
      refine q_get (v := .int (iI (S 20 (16 * h + ((u : Nat) : Int))))) (C := RX0) (T := TX0) (N := 4) hx hb hts inX0 hown hK (hC.event (k := h) (j := ((u : Nat) : Int)) h0 ⟨by omega, by omega⟩) rfl 0 (by decide) (hts (.fieldLink RX1 87 "TavernBench$Event" "day" "I") (by decide +kernel)) (fun _ h9 => h9) rfl dX1_offencesCounted_46 ?_
      refine lv_iload_n hx hb dX1_offencesCounted_49 rfl (lv_at hl 2 rfl) ?_
      refine q_icmp_gt (tgt := 57) hx hb dX1_offencesCounted_50 (by decide) (hI.R (by decide)) r_day (fun c50 => ?_) (fun c50 => ?_)
      · refine lv_iconst (v := iI 0) hx hb dX1_offencesCounted_57 rfl ?_
        refine lv_istore (lv' := [(6, .int (iI 0)), (5, .ref (ad 10 h ((u : Nat) : Int))), (0, .ref (ad 7 h 0)), (1, .int (iI day)), (2, .int (iI asked)), (3, .int (iI (sOffC S h day asked u))), (4, .int (iI ((u : Nat) : Int)))]) hx hb dX1_offencesCounted_58 hl (by decide) rfl (fun ls hl => ?_)
        refine lv_iload hx hb dX1_offencesCounted_60 (lv_at hl 0 rfl) ?_
        refine q_if_eq (tgt := 85) hx hb dX1_offencesCounted_62 (by decide) (by decide) (fun c62_1 => ?_) (fun c62_1 => ?_)
        rotate_left
        · exact absurd c62_1 (by decide)
        refine lv_iinc (v := iI (((u : Nat) : Int) + 1)) (lv' := [(4, .int (iI (((u : Nat) : Int) + 1))), (6, .int (iI 0)), (5, .ref (ad 10 h ((u : Nat) : Int))), (0, .ref (ad 7 h 0)), (1, .int (iI day)), (2, .int (iI asked)), (3, .int (iI (sOffC S h day asked u)))]) hx hb dX1_offencesCounted_85 hl (k := 6) rfl (iI_add _ _) (by decide) rfl (fun ls hl => ?_)
        refine lv_goto (tgt := 5) hx hb dX1_offencesCounted_88 (by decide) ?_
        have e0 : (sOffC S h day asked (u + 1) : Int) = sOffC S h day asked u := by
          first | exact cnt_1 ⟨⟨⟨by assumption, by assumption⟩, by assumption⟩, by assumption⟩ | (refine (cnt_0 (fun z => ?_)).trans (Int.add_zero _); first | exact absurd z.1.1.1 (Int.not_le.mpr (by assumption)) | exact absurd z.1.1.2 (Int.not_le.mpr (by assumption)) | exact absurd z.1.2 (by assumption) | exact absurd z.2 (Int.not_lt.mpr (by assumption)))
        have e1 : ((((u + 1) : Nat) : Int) : Int) = ((u : Nat) : Int) + 1 := by
          omega
        exact ihu (by omega) ls (lv_sub hl [3, 4, 5, 6, 0] (by simp only [e0, e1]; rfl))
      · refine lv_iconst (v := iI 1) hx hb dX1_offencesCounted_53 rfl ?_
        refine lv_goto (tgt := 58) hx hb dX1_offencesCounted_54 (by decide) ?_
        refine lv_istore (lv' := [(6, .int (iI 1)), (5, .ref (ad 10 h ((u : Nat) : Int))), (0, .ref (ad 7 h 0)), (1, .int (iI day)), (2, .int (iI asked)), (3, .int (iI (sOffC S h day asked u))), (4, .int (iI ((u : Nat) : Int)))]) hx hb dX1_offencesCounted_58 hl (by decide) rfl (fun ls hl => ?_)
        refine lv_iload hx hb dX1_offencesCounted_60 (lv_at hl 0 rfl) ?_
        refine q_if_eq (tgt := 85) hx hb dX1_offencesCounted_62 (by decide) (by decide) (fun c62_2 => ?_) (fun c62_2 => ?_)
        · exact absurd c62_2 (by decide)
        refine q_aload hx hb dX1_offencesCounted_65 (lv_at hl 1 rfl) ?_
        refine q_get (v := .int (iI (S 21 (16 * h + ((u : Nat) : Int))))) (C := RX0) (T := TX0) (N := 4) hx hb hts inX0 hown hK (hC.event (k := h) (j := ((u : Nat) : Int)) h0 ⟨by omega, by omega⟩) rfl 1 (by decide) (hts (.fieldLink RX1 69 "TavernBench$Event" "kind" "I") (by decide +kernel)) (fun _ h9 => h9) rfl dX1_offencesCounted_67 ?_
        refine q_if_ne (tgt := 85) hx hb dX1_offencesCounted_70 (by decide) (hI.R (by decide)) (fun c70 => ?_) (fun c70 => ?_)
        · refine lv_iinc (v := iI (((u : Nat) : Int) + 1)) (lv' := [(4, .int (iI (((u : Nat) : Int) + 1))), (6, .int (iI 1)), (5, .ref (ad 10 h ((u : Nat) : Int))), (0, .ref (ad 7 h 0)), (1, .int (iI day)), (2, .int (iI asked)), (3, .int (iI (sOffC S h day asked u)))]) hx hb dX1_offencesCounted_85 hl (k := 6) rfl (iI_add _ _) (by decide) rfl (fun ls hl => ?_)
          refine lv_goto (tgt := 5) hx hb dX1_offencesCounted_88 (by decide) ?_
          have e0 : (sOffC S h day asked (u + 1) : Int) = sOffC S h day asked u := by
            first | exact cnt_1 ⟨⟨⟨by assumption, by assumption⟩, by assumption⟩, by assumption⟩ | (refine (cnt_0 (fun z => ?_)).trans (Int.add_zero _); first | exact absurd z.1.1.1 (Int.not_le.mpr (by assumption)) | exact absurd z.1.1.2 (Int.not_le.mpr (by assumption)) | exact absurd z.1.2 (by assumption) | exact absurd z.2 (Int.not_lt.mpr (by assumption)))
          have e1 : ((((u + 1) : Nat) : Int) : Int) = ((u : Nat) : Int) + 1 := by
            omega
          exact ihu (by omega) ls (lv_sub hl [3, 4, 5, 6, 0] (by simp only [e0, e1]; rfl))
        · refine q_aload hx hb dX1_offencesCounted_73 (lv_at hl 1 rfl) ?_
          refine q_get (v := .int (iI (S 40 (16 * h + ((u : Nat) : Int))))) (C := RX0) (T := TX0) (N := 4) hx hb hts inX0 hown hK (hC.event (k := h) (j := ((u : Nat) : Int)) h0 ⟨by omega, by omega⟩) rfl 3 (by decide) (hts (.fieldLink RX1 52 "TavernBench$Event" "quashedFrom" "I") (by decide +kernel)) (fun _ h9 => h9) rfl dX1_offencesCounted_75 ?_
          refine lv_iload_n hx hb dX1_offencesCounted_78 rfl (lv_at hl 4 rfl) ?_
          refine q_icmp_le (tgt := 85) hx hb dX1_offencesCounted_79 (by decide) (by omega) r_asked (fun c79 => ?_) (fun c79 => ?_)
          · refine lv_iinc (v := iI (((u : Nat) : Int) + 1)) (lv' := [(4, .int (iI (((u : Nat) : Int) + 1))), (6, .int (iI 1)), (5, .ref (ad 10 h ((u : Nat) : Int))), (0, .ref (ad 7 h 0)), (1, .int (iI day)), (2, .int (iI asked)), (3, .int (iI (sOffC S h day asked u)))]) hx hb dX1_offencesCounted_85 hl (k := 6) rfl (iI_add _ _) (by decide) rfl (fun ls hl => ?_)
            refine lv_goto (tgt := 5) hx hb dX1_offencesCounted_88 (by decide) ?_
            have e0 : (sOffC S h day asked (u + 1) : Int) = sOffC S h day asked u := by
              first | exact cnt_1 ⟨⟨⟨by assumption, by assumption⟩, by assumption⟩, by assumption⟩ | (refine (cnt_0 (fun z => ?_)).trans (Int.add_zero _); first | exact absurd z.1.1.1 (Int.not_le.mpr (by assumption)) | exact absurd z.1.1.2 (Int.not_le.mpr (by assumption)) | exact absurd z.1.2 (by assumption) | exact absurd z.2 (Int.not_lt.mpr (by assumption)))
            have e1 : ((((u + 1) : Nat) : Int) : Int) = ((u : Nat) : Int) + 1 := by
              omega
            exact ihu (by omega) ls (lv_sub hl [3, 4, 5, 6, 0] (by simp only [e0, e1]; rfl))
          · refine lv_iinc (v := iI ((sOffC S h day asked u) + 1)) (lv' := [(3, .int (iI ((sOffC S h day asked u) + 1))), (6, .int (iI 1)), (5, .ref (ad 10 h ((u : Nat) : Int))), (0, .ref (ad 7 h 0)), (1, .int (iI day)), (2, .int (iI asked)), (4, .int (iI ((u : Nat) : Int)))]) hx hb dX1_offencesCounted_82 hl (k := 5) rfl (iI_add _ _) (by decide) rfl (fun ls hl => ?_)
            refine lv_iinc (v := iI (((u : Nat) : Int) + 1)) (lv' := [(4, .int (iI (((u : Nat) : Int) + 1))), (3, .int (iI ((sOffC S h day asked u) + 1))), (6, .int (iI 1)), (5, .ref (ad 10 h ((u : Nat) : Int))), (0, .ref (ad 7 h 0)), (1, .int (iI day)), (2, .int (iI asked))]) hx hb dX1_offencesCounted_85 hl (k := 6) rfl (iI_add _ _) (by decide) rfl (fun ls hl => ?_)
            refine lv_goto (tgt := 5) hx hb dX1_offencesCounted_88 (by decide) ?_
            have e0 : (sOffC S h day asked (u + 1) : Int) = (sOffC S h day asked u) + 1 := by
              first | exact cnt_1 ⟨⟨⟨by assumption, by assumption⟩, by assumption⟩, by assumption⟩ | (refine (cnt_0 (fun z => ?_)).trans (Int.add_zero _); first | exact absurd z.1.1.1 (Int.not_le.mpr (by assumption)) | exact absurd z.1.1.2 (Int.not_le.mpr (by assumption)) | exact absurd z.1.2 (by assumption) | exact absurd z.2 (Int.not_lt.mpr (by assumption)))
            have e1 : ((((u + 1) : Nat) : Int) : Int) = ((u : Nat) : Int) + 1 := by
              omega
            exact ihu (by omega) ls (lv_sub hl [4, 5, 6, 1, 0] (by simp only [e0, e1]; rfl))

set_option maxHeartbeats 4000000 in
set_option maxRecDepth 100000 in
theorem c1_endedFrom (l : Launch) (g : GG) (eA : Nat) (P : Nat → Prop) (ad : AD) (S : St) (hI : Inv S) (hQ : InvC S) (h : Int) (h0 : 0 ≤ h ∧ h < S 14 0) (asked : Int) (r_asked : R32 asked) (hd : isD asked) : MetI l yX1_endedFrom wsX1_endedFrom ({ frames := 4, cells := 0, slots := 0, locals := 90 }) g [.ref (ad 7 h 0), .int (iI asked)] (fun H => RepC g eA P ad S H) (sEndC S h asked (S 19 h).toNat) := by
  refine Met.ofW (cc := cX1_endedFrom) (maxL := 6) (ret := (some .int)) (by decide) rfl ?_
  intro p e s m args below meth c s₁ B hml hv
  obtain ⟨rfl, hC, hK⟩ := hv
  have hx := B.exec
  have hb := B.bytes
  have hr := B.returns
  have hts := atoms_spec (ws := wsX1_endedFrom) B.pre
  have hown : s.vm.findClass RX1 = some m.cls := findClass_of_methodNamed B.named
  have hlocks := B.notSynchronized
  have inX0 : ∀ w ∈ wsX00, w ∈ wsX1_endedFrom := by decide +kernel
  have inX1 : ∀ w ∈ wsX10, w ∈ wsX1_endedFrom := by decide +kernel
  have hl := lv_entry ([.ref (ad 7 h 0), .int (iI asked)]) (n := 6) (Nat.le_of_ble_eq_true rfl)
  rw [lg_entry_eq]
  generalize (lg_sl ([.ref (ad 7 h 0), .int (iI asked)]) ++ List.replicate (6 - (lg_sl ([.ref (ad 7 h 0), .int (iI asked)])).length) Slot.unset).toArray = ls at hl ⊢
  have hl : lv_has ls 6 [(0, .ref (ad 7 h 0)), (1, .int (iI asked))] := hl
  have hH := hI.house h0.1 h0.2
  have hN := hI.nums
  refine q_ldc hx hb 1000000 hown (hts (.constant RX1 86 (1000000)) (by decide +kernel)) (by decide +kernel) dX1_endedFrom_0 ?_
  refine lv_istore_n (lv' := [(2, .int (iI 1000000)), (0, .ref (ad 7 h 0)), (1, .int (iI asked))]) hx hb dX1_endedFrom_2 rfl hl (by decide) rfl (fun ls hl => ?_)
  refine lv_iconst (v := iI 0) hx hb dX1_endedFrom_3 rfl ?_
  refine lv_istore_n (lv' := [(3, .int (iI 0)), (2, .int (iI 1000000)), (0, .ref (ad 7 h 0)), (1, .int (iI asked))]) hx hb dX1_endedFrom_4 rfl hl (by decide) rfl (fun ls hl => ?_)
  have e0 : (sEndC S h asked 0 : Int) = 1000000 := by
    rfl
  have e1 : (((0 : Nat) : Int) : Int) = 0 := by
    rfl
  refine q_loopN (nL := 6) ((S 19 h).toNat) (fun (u : Nat) => [(0, .ref (ad 7 h 0)), (1, .int (iI asked)), (2, .int (iI (sEndC S h asked u))), (3, .int (iI ((u : Nat) : Int)))]) (lv_sub hl [2, 3, 1, 0] (by simp only [e0, e1]; rfl)) (fun u hu ihu ls hl => ?_)
  have hl : lv_has ls 6 [(0, .ref (ad 7 h 0)), (1, .int (iI asked)), (2, .int (iI (sEndC S h asked u))), (3, .int (iI ((u : Nat) : Int)))] := hl
  have hE : 0 ≤ sEndC S h asked u ∧ sEndC S h asked u ≤ 1000000 := mn_b (by decide) (fun k hk _ => by have := hI.ev h0.1 h0.2 (j := k) (by omega) (by omega); show 0 ≤ S 20 (16 * h + k); omega)
  refine lv_iload_n hx hb dX1_endedFrom_5 rfl (lv_at hl 3 rfl) ?_
  refine lv_aload_n hx hb dX1_endedFrom_6 rfl (lv_at hl 0 rfl) ?_
  refine q_get (v := .ref (ad 8 h 0)) (C := RX1) (T := TX1) (N := 7) hx hb hts inX1 hown hK (hC.house (k := h) h0) rfl 4 (by decide) (hts (.fieldLink RX1 27 "TavernBench$House" "events" "Ljava/util/ArrayList;") (by decide +kernel)) (fun _ h9 => h9) rfl dX1_endedFrom_7 ?_
  refine q_cVi (As := []) (rest := [.int (iI ((u : Nat) : Int))]) ⟨hx, hb, hml, hown, hts⟩ (c0_size l g eA (ad 8 h 0) (ad 9 h 0) (S 19 h)) (cwV 0 hts gX1_endedFrom_Jx4a65c_size_8abf5 rfl rfl rfl (by decide +kernel) ⟨Nat.le_of_ble_eq_true rfl, Nat.le_of_ble_eq_true rfl⟩) (q_pV hK (hC.hlst (k := h) (j := 0) h0 (by decide)) rfl (hC.hlst (k := h) (j := 0) h0 (by decide))) rfl hl.1 rfl (Nat.le_of_ble_eq_true rfl) ⟨Nat.zero_le _, Nat.zero_le _⟩ dX1_endedFrom_10 ?_
  refine q_icmp_ge (tgt := 93) hx hb dX1_endedFrom_13 (by decide) (by omega) (hI.R (by decide)) (fun c13 => ?_) (fun c13 => ?_)
  · refine lv_iload_n hx hb dX1_endedFrom_93 rfl (lv_at hl 2 rfl) ?_
    refine q_reti hx hb hr hlocks dX1_endedFrom_94 ?_
    have e : u = (S 19 h).toNat := by omega
    rw [e]
  · refine lv_aload_n hx hb dX1_endedFrom_16 rfl (lv_at hl 0 rfl) ?_
    refine q_get (v := .ref (ad 8 h 0)) (C := RX1) (T := TX1) (N := 7) hx hb hts inX1 hown hK (hC.house (k := h) h0) rfl 4 (by decide) (hts (.fieldLink RX1 27 "TavernBench$House" "events" "Ljava/util/ArrayList;") (by decide +kernel)) (fun _ h9 => h9) rfl dX1_endedFrom_17 ?_
    refine lv_iload_n hx hb dX1_endedFrom_20 rfl (lv_at hl 3 rfl) ?_
    refine q_cVr (As := [.int (iI ((u : Nat) : Int))]) (rest := []) ⟨hx, hb, hml, hown, hts⟩ (c0_get l g eA (ad 8 h 0) (ad 9 h 0) (S 19 h) (fun q => ad 10 h q) ((u : Nat) : Int) (by omega) ⟨by omega, by omega⟩ (by omega)) (cwV 1 hts gX1_endedFrom_Jx4a65c_get_915e3 rfl rfl rfl (by decide +kernel) ⟨Nat.le_of_ble_eq_true rfl, Nat.le_of_ble_eq_true rfl⟩) (q_pV hK (hC.hlst (k := h) (j := 0) h0 (by decide)) rfl ⟨(hC.hlst (k := h) (j := 0) h0 (by decide)), (hC.harr (k := h) (j := 0) h0 (by decide) (by show 0 < S 19 h; omega))⟩) rfl hl.1 rfl (Nat.le_of_ble_eq_true rfl) ⟨Nat.zero_le _, Nat.zero_le _⟩ dX1_endedFrom_21 ?_
    refine q_cast (C := RX0) (T := TX0) (N := 4) hx hb hown (hts (.classLink RX1 47 RX0) (by decide +kernel)) hK (hC.event (k := h) (j := ((u : Nat) : Int)) h0 ⟨by omega, by omega⟩) rfl dX1_endedFrom_24 ?_
    refine lv_astore (lv' := [(4, .ref (ad 10 h ((u : Nat) : Int))), (0, .ref (ad 7 h 0)), (1, .int (iI asked)), (2, .int (iI (sEndC S h asked u))), (3, .int (iI ((u : Nat) : Int)))]) hx hb dX1_endedFrom_27 hl (by decide) rfl (fun ls hl => ?_)
    have hv := hI.ev h0.1 h0.2 (j := ((u : Nat) : Int)) (by omega) (by omega)
    have hq := hQ h h0.1 h0.2 u (by omega)
    refine q_aload hx hb dX1_endedFrom_29 (lv_at hl 0 rfl) ?_
    refine q_get (v := .int (iI (S 21 (16 * h + ((u : Nat) : Int))))) (C := RX0) (T := TX0) (N := 4) hx hb hts inX0 hown hK (hC.event (k := h) (j := ((u : Nat) : Int)) h0 ⟨by omega, by omega⟩) rfl 1 (by decide) (hts (.fieldLink RX1 69 "TavernBench$Event" "kind" "I") (by decide +kernel)) (fun _ h9 => h9) rfl dX1_endedFrom_31 ?_
    refine q_if_ne (tgt := 59) hx hb dX1_endedFrom_34 (by decide) (hI.R (by decide)) (fun c34 => ?_) (fun c34 => ?_)
    · refine lv_iconst (v := iI 0) hx hb dX1_endedFrom_59 rfl ?_
      refine lv_istore (lv' := [(5, .int (iI 0)), (4, .ref (ad 10 h ((u : Nat) : Int))), (0, .ref (ad 7 h 0)), (1, .int (iI asked)), (2, .int (iI (sEndC S h asked u))), (3, .int (iI ((u : Nat) : Int)))]) hx hb dX1_endedFrom_60 hl (by decide) rfl (fun ls hl => ?_)
      refine lv_iload hx hb dX1_endedFrom_62 (lv_at hl 0 rfl) ?_
      refine q_if_eq (tgt := 87) hx hb dX1_endedFrom_64 (by decide) (by decide) (fun c64 => ?_) (fun c64 => ?_)
      rotate_left
      · exact absurd c64 (by decide)
      refine lv_iinc (v := iI (((u : Nat) : Int) + 1)) (lv' := [(3, .int (iI (((u : Nat) : Int) + 1))), (5, .int (iI 0)), (4, .ref (ad 10 h ((u : Nat) : Int))), (0, .ref (ad 7 h 0)), (1, .int (iI asked)), (2, .int (iI (sEndC S h asked u)))]) hx hb dX1_endedFrom_87 hl (k := 5) rfl (iI_add _ _) (by decide) rfl (fun ls hl => ?_)
      refine lv_goto (tgt := 5) hx hb dX1_endedFrom_90 (by decide) ?_
      have e0 : (sEndC S h asked (u + 1) : Int) = sEndC S h asked u := by
        first | exact mn_t ⟨⟨by assumption, by assumption⟩, by assumption⟩ (by assumption) | exact mn_f (fun z => absurd z.1.1.1 (by assumption)) | exact mn_f (fun z => absurd z.1.1.2 (Int.not_le.mpr (by assumption))) | exact mn_f (fun z => absurd z.2 (Int.not_lt.mpr (by assumption))) | exact mn_f (fun z => absurd z.1.2 (Int.not_le.mpr (by assumption)))
      have e1 : ((((u + 1) : Nat) : Int) : Int) = ((u : Nat) : Int) + 1 := by
        omega
      exact ihu (by omega) ls (lv_sub hl [3, 4, 5, 0] (by simp only [e0, e1]; rfl))
    · refine q_aload hx hb dX1_endedFrom_37 (lv_at hl 0 rfl) ?_
      refine q_get (v := .int (iI (S 20 (16 * h + ((u : Nat) : Int))))) (C := RX0) (T := TX0) (N := 4) hx hb hts inX0 hown hK (hC.event (k := h) (j := ((u : Nat) : Int)) h0 ⟨by omega, by omega⟩) rfl 0 (by decide) (hts (.fieldLink RX1 87 "TavernBench$Event" "day" "I") (by decide +kernel)) (fun _ h9 => h9) rfl dX1_endedFrom_39 ?_
      refine lv_iload_n hx hb dX1_endedFrom_42 rfl (lv_at hl 2 rfl) ?_
      refine q_icmp_gt (tgt := 59) hx hb dX1_endedFrom_43 (by decide) (hI.R (by decide)) r_asked (fun c43 => ?_) (fun c43 => ?_)
      · refine lv_iconst (v := iI 0) hx hb dX1_endedFrom_59 rfl ?_
        refine lv_istore (lv' := [(5, .int (iI 0)), (4, .ref (ad 10 h ((u : Nat) : Int))), (0, .ref (ad 7 h 0)), (1, .int (iI asked)), (2, .int (iI (sEndC S h asked u))), (3, .int (iI ((u : Nat) : Int)))]) hx hb dX1_endedFrom_60 hl (by decide) rfl (fun ls hl => ?_)
        refine lv_iload hx hb dX1_endedFrom_62 (lv_at hl 0 rfl) ?_
        refine q_if_eq (tgt := 87) hx hb dX1_endedFrom_64 (by decide) (by decide) (fun c64_1 => ?_) (fun c64_1 => ?_)
        rotate_left
        · exact absurd c64_1 (by decide)
        refine lv_iinc (v := iI (((u : Nat) : Int) + 1)) (lv' := [(3, .int (iI (((u : Nat) : Int) + 1))), (5, .int (iI 0)), (4, .ref (ad 10 h ((u : Nat) : Int))), (0, .ref (ad 7 h 0)), (1, .int (iI asked)), (2, .int (iI (sEndC S h asked u)))]) hx hb dX1_endedFrom_87 hl (k := 5) rfl (iI_add _ _) (by decide) rfl (fun ls hl => ?_)
        refine lv_goto (tgt := 5) hx hb dX1_endedFrom_90 (by decide) ?_
        have e0 : (sEndC S h asked (u + 1) : Int) = sEndC S h asked u := by
          first | exact mn_t ⟨⟨by assumption, by assumption⟩, by assumption⟩ (by assumption) | exact mn_f (fun z => absurd z.1.1.1 (by assumption)) | exact mn_f (fun z => absurd z.1.1.2 (Int.not_le.mpr (by assumption))) | exact mn_f (fun z => absurd z.2 (Int.not_lt.mpr (by assumption))) | exact mn_f (fun z => absurd z.1.2 (Int.not_le.mpr (by assumption)))
        have e1 : ((((u + 1) : Nat) : Int) : Int) = ((u : Nat) : Int) + 1 := by
          omega
        exact ihu (by omega) ls (lv_sub hl [3, 4, 5, 0] (by simp only [e0, e1]; rfl))
      · refine q_aload hx hb dX1_endedFrom_46 (lv_at hl 0 rfl) ?_
        refine q_get (v := .int (iI (S 20 (16 * h + ((u : Nat) : Int))))) (C := RX0) (T := TX0) (N := 4) hx hb hts inX0 hown hK (hC.event (k := h) (j := ((u : Nat) : Int)) h0 ⟨by omega, by omega⟩) rfl 0 (by decide) (hts (.fieldLink RX1 87 "TavernBench$Event" "day" "I") (by decide +kernel)) (fun _ h9 => h9) rfl dX1_endedFrom_48 ?_
        refine lv_iload_n hx hb dX1_endedFrom_51 rfl (lv_at hl 3 rfl) ?_
        refine q_icmp_ge (tgt := 59) hx hb dX1_endedFrom_52 (by decide) (hI.R (by decide)) (by omega) (fun c52 => ?_) (fun c52 => ?_)
        · refine lv_iconst (v := iI 0) hx hb dX1_endedFrom_59 rfl ?_
          refine lv_istore (lv' := [(5, .int (iI 0)), (4, .ref (ad 10 h ((u : Nat) : Int))), (0, .ref (ad 7 h 0)), (1, .int (iI asked)), (2, .int (iI (sEndC S h asked u))), (3, .int (iI ((u : Nat) : Int)))]) hx hb dX1_endedFrom_60 hl (by decide) rfl (fun ls hl => ?_)
          refine lv_iload hx hb dX1_endedFrom_62 (lv_at hl 0 rfl) ?_
          refine q_if_eq (tgt := 87) hx hb dX1_endedFrom_64 (by decide) (by decide) (fun c64_2 => ?_) (fun c64_2 => ?_)
          rotate_left
          · exact absurd c64_2 (by decide)
          refine lv_iinc (v := iI (((u : Nat) : Int) + 1)) (lv' := [(3, .int (iI (((u : Nat) : Int) + 1))), (5, .int (iI 0)), (4, .ref (ad 10 h ((u : Nat) : Int))), (0, .ref (ad 7 h 0)), (1, .int (iI asked)), (2, .int (iI (sEndC S h asked u)))]) hx hb dX1_endedFrom_87 hl (k := 5) rfl (iI_add _ _) (by decide) rfl (fun ls hl => ?_)
          refine lv_goto (tgt := 5) hx hb dX1_endedFrom_90 (by decide) ?_
          have e0 : (sEndC S h asked (u + 1) : Int) = sEndC S h asked u := by
            first | exact mn_t ⟨⟨by assumption, by assumption⟩, by assumption⟩ (by assumption) | exact mn_f (fun z => absurd z.1.1.1 (by assumption)) | exact mn_f (fun z => absurd z.1.1.2 (Int.not_le.mpr (by assumption))) | exact mn_f (fun z => absurd z.2 (Int.not_lt.mpr (by assumption))) | exact mn_f (fun z => absurd z.1.2 (Int.not_le.mpr (by assumption)))
          have e1 : ((((u + 1) : Nat) : Int) : Int) = ((u : Nat) : Int) + 1 := by
            omega
          exact ihu (by omega) ls (lv_sub hl [3, 4, 5, 0] (by simp only [e0, e1]; rfl))
        · refine lv_iconst (v := iI 1) hx hb dX1_endedFrom_55 rfl ?_
          refine lv_goto (tgt := 60) hx hb dX1_endedFrom_56 (by decide) ?_
          refine lv_istore (lv' := [(5, .int (iI 1)), (4, .ref (ad 10 h ((u : Nat) : Int))), (0, .ref (ad 7 h 0)), (1, .int (iI asked)), (2, .int (iI (sEndC S h asked u))), (3, .int (iI ((u : Nat) : Int)))]) hx hb dX1_endedFrom_60 hl (by decide) rfl (fun ls hl => ?_)
          refine lv_iload hx hb dX1_endedFrom_62 (lv_at hl 0 rfl) ?_
          refine q_if_eq (tgt := 87) hx hb dX1_endedFrom_64 (by decide) (by decide) (fun c64_3 => ?_) (fun c64_3 => ?_)
          · exact absurd c64_3 (by decide)
          refine lv_aload_n hx hb dX1_endedFrom_67 rfl (lv_at hl 2 rfl) ?_
          refine q_aload hx hb dX1_endedFrom_68 (lv_at hl 1 rfl) ?_
          refine q_get (v := .int (iI (S 20 (16 * h + ((u : Nat) : Int))))) (C := RX0) (T := TX0) (N := 4) hx hb hts inX0 hown hK (hC.event (k := h) (j := ((u : Nat) : Int)) h0 ⟨by omega, by omega⟩) rfl 0 (by decide) (hts (.fieldLink RX1 87 "TavernBench$Event" "day" "I") (by decide +kernel)) (fun _ h9 => h9) rfl dX1_endedFrom_70 ?_
          refine lv_iload_n hx hb dX1_endedFrom_73 rfl (lv_at hl 3 rfl) ?_
          refine q_cVi (As := [.int (iI (S 20 (16 * h + ((u : Nat) : Int)))), .int (iI asked)]) (rest := []) ⟨hx, hb, hml, hown, hts⟩ (c1_offencesCounted l g eA P ad S hI hQ h h0 (S 20 (16 * h + ((u : Nat) : Int))) asked (hI.R (by decide)) r_asked (by omega)) (cwV 2 hts gX1_endedFrom_X1_offencesCounted rfl rfl rfl (by decide +kernel) ⟨Nat.le_of_ble_eq_true rfl, Nat.le_of_ble_eq_true rfl⟩) (q_pV hK (hC.house (k := h) h0) rfl hC) rfl hl.1 rfl (Nat.le_of_ble_eq_true rfl) ⟨Nat.zero_le _, Nat.zero_le _⟩ dX1_endedFrom_74 ?_
          have hcl := cnt_le (qOffC S h (S 20 (16 * h + ((u : Nat) : Int))) asked) (S 19 h).toNat
          have hso : R32 (sOffC S h (S 20 (16 * h + ((u : Nat) : Int))) asked (S 19 h).toNat) := by show R32 (cnt _ _); omega
          refine lv_iconst (v := iI 3) hx hb dX1_endedFrom_77 rfl ?_
          refine q_icmp_lt (tgt := 87) hx hb dX1_endedFrom_78 (by decide) hso (by decide) (fun c78 => ?_) (fun c78 => ?_)
          · refine lv_iinc (v := iI (((u : Nat) : Int) + 1)) (lv' := [(3, .int (iI (((u : Nat) : Int) + 1))), (5, .int (iI 1)), (4, .ref (ad 10 h ((u : Nat) : Int))), (0, .ref (ad 7 h 0)), (1, .int (iI asked)), (2, .int (iI (sEndC S h asked u)))]) hx hb dX1_endedFrom_87 hl (k := 5) rfl (iI_add _ _) (by decide) rfl (fun ls hl => ?_)
            refine lv_goto (tgt := 5) hx hb dX1_endedFrom_90 (by decide) ?_
            have e0 : (sEndC S h asked (u + 1) : Int) = sEndC S h asked u := by
              first | exact mn_t ⟨⟨by assumption, by assumption⟩, by assumption⟩ (by assumption) | exact mn_f (fun z => absurd z.1.1.1 (by assumption)) | exact mn_f (fun z => absurd z.1.1.2 (Int.not_le.mpr (by assumption))) | exact mn_f (fun z => absurd z.2 (Int.not_lt.mpr (by assumption))) | exact mn_f (fun z => absurd z.1.2 (Int.not_le.mpr (by assumption)))
            have e1 : ((((u + 1) : Nat) : Int) : Int) = ((u : Nat) : Int) + 1 := by
              omega
            exact ihu (by omega) ls (lv_sub hl [3, 4, 5, 0] (by simp only [e0, e1]; rfl))
          · refine q_aload hx hb dX1_endedFrom_81 (lv_at hl 1 rfl) ?_
            refine q_get (v := .int (iI (S 20 (16 * h + ((u : Nat) : Int))))) (C := RX0) (T := TX0) (N := 4) hx hb hts inX0 hown hK (hC.event (k := h) (j := ((u : Nat) : Int)) h0 ⟨by omega, by omega⟩) rfl 0 (by decide) (hts (.fieldLink RX1 87 "TavernBench$Event" "day" "I") (by decide +kernel)) (fun _ h9 => h9) rfl dX1_endedFrom_83 ?_
            refine lv_istore_n (lv' := [(2, .int (iI (S 20 (16 * h + ((u : Nat) : Int))))), (5, .int (iI 1)), (4, .ref (ad 10 h ((u : Nat) : Int))), (0, .ref (ad 7 h 0)), (1, .int (iI asked)), (3, .int (iI ((u : Nat) : Int)))]) hx hb dX1_endedFrom_86 rfl hl (by decide) rfl (fun ls hl => ?_)
            refine lv_iinc (v := iI (((u : Nat) : Int) + 1)) (lv' := [(3, .int (iI (((u : Nat) : Int) + 1))), (2, .int (iI (S 20 (16 * h + ((u : Nat) : Int))))), (5, .int (iI 1)), (4, .ref (ad 10 h ((u : Nat) : Int))), (0, .ref (ad 7 h 0)), (1, .int (iI asked))]) hx hb dX1_endedFrom_87 hl (k := 5) rfl (iI_add _ _) (by decide) rfl (fun ls hl => ?_)
            refine lv_goto (tgt := 5) hx hb dX1_endedFrom_90 (by decide) ?_
            have e0 : (sEndC S h asked (u + 1) : Int) = S 20 (16 * h + ((u : Nat) : Int)) := by
              first | exact mn_t ⟨⟨by assumption, by assumption⟩, by assumption⟩ (by assumption) | exact mn_f (fun z => absurd z.1.1.1 (by assumption)) | exact mn_f (fun z => absurd z.1.1.2 (Int.not_le.mpr (by assumption))) | exact mn_f (fun z => absurd z.2 (Int.not_lt.mpr (by assumption))) | exact mn_f (fun z => absurd z.1.2 (Int.not_le.mpr (by assumption)))
            have e1 : ((((u + 1) : Nat) : Int) : Int) = ((u : Nat) : Int) + 1 := by
              omega
            exact ihu (by omega) ls (lv_sub hl [4, 5, 1, 0] (by simp only [e0, e1]; rfl))

abbrev qTr (S : St) (h a b : Int) (q : Nat) : Prop := S 21 (16 * h + q) = 3 ∧ (a ≤ S 20 (16 * h + q) ∧ S 20 (16 * h + q) ≤ b)

set_option maxHeartbeats 4000000 in
set_option maxRecDepth 100000 in
theorem c1_isTransferred (l : Launch) (g : GG) (eA : Nat) (P : Nat → Prop) (ad : AD) (S : St) (hI : Inv S) (hQ : InvC S) (h : Int) (h0 : 0 ≤ h ∧ h < S 14 0) (a : Int) (b : Int) (r_a : R32 a) (r_b : R32 b)  : MetI l yX1_isTransferred wsX1_isTransferred ({ frames := 3, cells := 0, slots := 0, locals := 64 }) g [.ref (ad 7 h 0), .int (iI a), .int (iI b)] (fun H => RepC g eA P ad S H) (bI (exN (qTr S h a b) (S 19 h).toNat)) := by
  refine Met.ofW (cc := cX1_isTransferred) (maxL := 5) (ret := (some .boolean)) (by decide) rfl ?_
  intro p e s m args below meth c s₁ B hml hv
  obtain ⟨rfl, hC, hK⟩ := hv
  have hx := B.exec
  have hb := B.bytes
  have hr := B.returns
  have hts := atoms_spec (ws := wsX1_isTransferred) B.pre
  have hown : s.vm.findClass RX1 = some m.cls := findClass_of_methodNamed B.named
  have hlocks := B.notSynchronized
  have inX0 : ∀ w ∈ wsX00, w ∈ wsX1_isTransferred := by decide +kernel
  have inX1 : ∀ w ∈ wsX10, w ∈ wsX1_isTransferred := by decide +kernel
  have hl := lv_entry ([.ref (ad 7 h 0), .int (iI a), .int (iI b)]) (n := 5) (Nat.le_of_ble_eq_true rfl)
  rw [lg_entry_eq]
  generalize (lg_sl ([.ref (ad 7 h 0), .int (iI a), .int (iI b)]) ++ List.replicate (5 - (lg_sl ([.ref (ad 7 h 0), .int (iI a), .int (iI b)])).length) Slot.unset).toArray = ls at hl ⊢
  have hl : lv_has ls 5 [(0, .ref (ad 7 h 0)), (1, .int (iI a)), (2, .int (iI b))] := hl
  have hH := hI.house h0.1 h0.2
  have hN := hI.nums
  refine lv_iconst (v := iI 0) hx hb dX1_isTransferred_0 rfl ?_
  refine lv_istore_n (lv' := [(3, .int (iI 0)), (0, .ref (ad 7 h 0)), (1, .int (iI a)), (2, .int (iI b))]) hx hb dX1_isTransferred_1 rfl hl (by decide) rfl (fun ls hl => ?_)
  have e0 : (((0 : Nat) : Int) : Int) = 0 := by
    rfl
  refine q_loop (nL := 5) (fun (u : Nat) => u ≤ (S 19 h).toNat ∧ ¬ exN (qTr S h a b) u) (fun u => (S 19 h).toNat - u) (fun (u : Nat) => [(0, .ref (ad 7 h 0)), (1, .int (iI a)), (2, .int (iI b)), (3, .int (iI ((u : Nat) : Int)))]) 0 ⟨Nat.zero_le _, exN_0⟩ (lv_sub hl [1, 2, 3, 0] (by simp only [e0]; rfl)) (fun u hu2 ihu ls hl => ?_)
  have hl : lv_has ls 5 [(0, .ref (ad 7 h 0)), (1, .int (iI a)), (2, .int (iI b)), (3, .int (iI ((u : Nat) : Int)))] := hl
  have hu1 : u ≤ (S 19 h).toNat := hu2.1
  refine lv_iload_n hx hb dX1_isTransferred_2 rfl (lv_at hl 3 rfl) ?_
  refine lv_aload_n hx hb dX1_isTransferred_3 rfl (lv_at hl 0 rfl) ?_
  refine q_get (v := .ref (ad 8 h 0)) (C := RX1) (T := TX1) (N := 7) hx hb hts inX1 hown hK (hC.house (k := h) h0) rfl 4 (by decide) (hts (.fieldLink RX1 27 "TavernBench$House" "events" "Ljava/util/ArrayList;") (by decide +kernel)) (fun _ h9 => h9) rfl dX1_isTransferred_4 ?_
  refine q_cVi (As := []) (rest := [.int (iI ((u : Nat) : Int))]) ⟨hx, hb, hml, hown, hts⟩ (c0_size l g eA (ad 8 h 0) (ad 9 h 0) (S 19 h)) (cwV 0 hts gX1_isTransferred_Jx4a65c_size_8abf5 rfl rfl rfl (by decide +kernel) ⟨Nat.le_of_ble_eq_true rfl, Nat.le_of_ble_eq_true rfl⟩) (q_pV hK (hC.hlst (k := h) (j := 0) h0 (by decide)) rfl (hC.hlst (k := h) (j := 0) h0 (by decide))) rfl hl.1 rfl (Nat.le_of_ble_eq_true rfl) ⟨Nat.zero_le _, Nat.zero_le _⟩ dX1_isTransferred_7 ?_
  refine q_icmp_ge (tgt := 56) hx hb dX1_isTransferred_10 (by decide) (by omega) (hI.R (by decide)) (fun c10 => ?_) (fun c10 => ?_)
  · refine lv_iconst (v := iI 0) hx hb dX1_isTransferred_56 rfl ?_
    refine q_retz hx hb hr hlocks (Or.inl rfl) dX1_isTransferred_57 ?_
    have eu : u = (S 19 h).toNat := by omega
    rw [eu] at hu2
    exact bI_e0 hu2.2
  · refine lv_aload_n hx hb dX1_isTransferred_13 rfl (lv_at hl 0 rfl) ?_
    refine q_get (v := .ref (ad 8 h 0)) (C := RX1) (T := TX1) (N := 7) hx hb hts inX1 hown hK (hC.house (k := h) h0) rfl 4 (by decide) (hts (.fieldLink RX1 27 "TavernBench$House" "events" "Ljava/util/ArrayList;") (by decide +kernel)) (fun _ h9 => h9) rfl dX1_isTransferred_14 ?_
    refine lv_iload_n hx hb dX1_isTransferred_17 rfl (lv_at hl 3 rfl) ?_
    refine q_cVr (As := [.int (iI ((u : Nat) : Int))]) (rest := []) ⟨hx, hb, hml, hown, hts⟩ (c0_get l g eA (ad 8 h 0) (ad 9 h 0) (S 19 h) (fun q => ad 10 h q) ((u : Nat) : Int) (by omega) ⟨by omega, by omega⟩ (by omega)) (cwV 1 hts gX1_isTransferred_Jx4a65c_get_915e3 rfl rfl rfl (by decide +kernel) ⟨Nat.le_of_ble_eq_true rfl, Nat.le_of_ble_eq_true rfl⟩) (q_pV hK (hC.hlst (k := h) (j := 0) h0 (by decide)) rfl ⟨(hC.hlst (k := h) (j := 0) h0 (by decide)), (hC.harr (k := h) (j := 0) h0 (by decide) (by show 0 < S 19 h; omega))⟩) rfl hl.1 rfl (Nat.le_of_ble_eq_true rfl) ⟨Nat.zero_le _, Nat.zero_le _⟩ dX1_isTransferred_18 ?_
    refine q_cast (C := RX0) (T := TX0) (N := 4) hx hb hown (hts (.classLink RX1 47 RX0) (by decide +kernel)) hK (hC.event (k := h) (j := ((u : Nat) : Int)) h0 ⟨by omega, by omega⟩) rfl dX1_isTransferred_21 ?_
    refine lv_astore (lv' := [(4, .ref (ad 10 h ((u : Nat) : Int))), (0, .ref (ad 7 h 0)), (1, .int (iI a)), (2, .int (iI b)), (3, .int (iI ((u : Nat) : Int)))]) hx hb dX1_isTransferred_24 hl (by decide) rfl (fun ls hl => ?_)
    refine q_aload hx hb dX1_isTransferred_26 (lv_at hl 0 rfl) ?_
    refine q_get (v := .int (iI (S 21 (16 * h + ((u : Nat) : Int))))) (C := RX0) (T := TX0) (N := 4) hx hb hts inX0 hown hK (hC.event (k := h) (j := ((u : Nat) : Int)) h0 ⟨by omega, by omega⟩) rfl 1 (by decide) (hts (.fieldLink RX1 69 "TavernBench$Event" "kind" "I") (by decide +kernel)) (fun _ h9 => h9) rfl dX1_isTransferred_28 ?_
    refine lv_iconst (v := iI 3) hx hb dX1_isTransferred_31 rfl ?_
    refine q_icmp_ne (tgt := 50) hx hb dX1_isTransferred_32 (by decide) (hI.R (by decide)) (by decide) (fun c32 => ?_) (fun c32 => ?_)
    · refine lv_iinc (v := iI (((u : Nat) : Int) + 1)) (lv' := [(3, .int (iI (((u : Nat) : Int) + 1))), (4, .ref (ad 10 h ((u : Nat) : Int))), (0, .ref (ad 7 h 0)), (1, .int (iI a)), (2, .int (iI b))]) hx hb dX1_isTransferred_50 hl (k := 4) rfl (iI_add _ _) (by decide) rfl (fun ls hl => ?_)
      refine lv_goto (tgt := 2) hx hb dX1_isTransferred_53 (by decide) ?_
      have e0 : ((((u + 1) : Nat) : Int) : Int) = ((u : Nat) : Int) + 1 := by
        omega
      exact ihu (u + 1) ⟨by omega, fun z => (exN_s.mp z).elim hu2.2 (fun y => by first | exact absurd y.1 (by assumption) | exact absurd y.2 (by assumption))⟩ (by show (S 19 h).toNat - (u + 1) < (S 19 h).toNat - u; omega) ls (lv_sub hl [2, 3, 4, 0] (by simp only [e0]; rfl))
    · refine q_aload hx hb dX1_isTransferred_35 (lv_at hl 0 rfl) ?_
      refine q_get (v := .int (iI (S 20 (16 * h + ((u : Nat) : Int))))) (C := RX0) (T := TX0) (N := 4) hx hb hts inX0 hown hK (hC.event (k := h) (j := ((u : Nat) : Int)) h0 ⟨by omega, by omega⟩) rfl 0 (by decide) (hts (.fieldLink RX1 87 "TavernBench$Event" "day" "I") (by decide +kernel)) (fun _ h9 => h9) rfl dX1_isTransferred_37 ?_
      refine lv_iload_n hx hb dX1_isTransferred_40 rfl (lv_at hl 2 rfl) ?_
      refine lv_iload_n hx hb dX1_isTransferred_41 rfl (lv_at hl 3 rfl) ?_
      refine q_cNi (As := [.int (iI (S 20 (16 * h + ((u : Nat) : Int)))), .int (iI a), .int (iI b)]) (rest := []) ⟨hx, hb, hml, hown, hts⟩ (c5_isIn l g (S 20 (16 * h + ((u : Nat) : Int))) a b (hI.R (by decide)) r_a r_b ) ⟨va_cnB 3 hts gX1_isTransferred_X5_isIn_n97 rfl rfl rfl hK.2 (hts (.initialized RX5) (by decide +kernel)) (by decide +kernel) ⟨Nat.le_of_ble_eq_true rfl, Nat.le_of_ble_eq_true rfl⟩, hts (.static yX5_isIn) (by decide +kernel), trivial⟩ (q_pS hK trivial) rfl hl.1 rfl (Nat.le_of_ble_eq_true rfl) ⟨Nat.zero_le _, Nat.zero_le _⟩ dX1_isTransferred_42 ?_
      refine q_ifb_eq (tgt := 50) hx hb dX1_isTransferred_45 (by decide) (fun c45 => ?_) (fun c45 => ?_)
      · refine lv_iinc (v := iI (((u : Nat) : Int) + 1)) (lv' := [(3, .int (iI (((u : Nat) : Int) + 1))), (4, .ref (ad 10 h ((u : Nat) : Int))), (0, .ref (ad 7 h 0)), (1, .int (iI a)), (2, .int (iI b))]) hx hb dX1_isTransferred_50 hl (k := 4) rfl (iI_add _ _) (by decide) rfl (fun ls hl => ?_)
        refine lv_goto (tgt := 2) hx hb dX1_isTransferred_53 (by decide) ?_
        have e0 : ((((u + 1) : Nat) : Int) : Int) = ((u : Nat) : Int) + 1 := by
          omega
        exact ihu (u + 1) ⟨by omega, fun z => (exN_s.mp z).elim hu2.2 (fun y => by first | exact absurd y.1 (by assumption) | exact absurd y.2 (by assumption))⟩ (by show (S 19 h).toNat - (u + 1) < (S 19 h).toNat - u; omega) ls (lv_sub hl [2, 3, 4, 0] (by simp only [e0]; rfl))
      · refine lv_iconst (v := iI 1) hx hb dX1_isTransferred_48 rfl ?_
        refine q_retz hx hb hr hlocks (Or.inr rfl) dX1_isTransferred_49 ?_
        exact bI_e1 ⟨u, by omega, by assumption, by assumption⟩

set_option maxHeartbeats 4000000 in
set_option maxRecDepth 100000 in
theorem c1_lapsedFrom (l : Launch) (g : GG) (eA : Nat) (P : Nat → Prop) (ad : AD) (S : St) (hI : Inv S) (hQ : InvC S) (h : Int) (h0 : 0 ≤ h ∧ h < S 14 0) (asked : Int) (r_asked : R32 asked) (hd : isD asked) : MetI l yX1_lapsedFrom wsX1_lapsedFrom ({ frames := 4, cells := 0, slots := 0, locals := 88 }) g [.ref (ad 7 h 0), .int (iI asked)] (fun H => RepC g eA P ad S H) (sLap S h asked 1000000 (S 19 h).toNat) := by
  refine Met.ofW (cc := cX1_lapsedFrom) (maxL := 7) (ret := (some .int)) (by decide) rfl ?_
  intro p e s m args below meth c s₁ B hml hv
  obtain ⟨rfl, hC, hK⟩ := hv
  have hx := B.exec
  have hb := B.bytes
  have hr := B.returns
  have hts := atoms_spec (ws := wsX1_lapsedFrom) B.pre
  have hown : s.vm.findClass RX1 = some m.cls := findClass_of_methodNamed B.named
  have hlocks := B.notSynchronized
  have inX0 : ∀ w ∈ wsX00, w ∈ wsX1_lapsedFrom := by decide +kernel
  have inX1 : ∀ w ∈ wsX10, w ∈ wsX1_lapsedFrom := by decide +kernel
  have hl := lv_entry ([.ref (ad 7 h 0), .int (iI asked)]) (n := 7) (Nat.le_of_ble_eq_true rfl)
  rw [lg_entry_eq]
  generalize (lg_sl ([.ref (ad 7 h 0), .int (iI asked)]) ++ List.replicate (7 - (lg_sl ([.ref (ad 7 h 0), .int (iI asked)])).length) Slot.unset).toArray = ls at hl ⊢
  have hl : lv_has ls 7 [(0, .ref (ad 7 h 0)), (1, .int (iI asked))] := hl
  have hH := hI.house h0.1 h0.2
  have hN := hI.nums
  refine q_ldc hx hb 1000000 hown (hts (.constant RX1 86 (1000000)) (by decide +kernel)) (by decide +kernel) dX1_lapsedFrom_0 ?_
  refine lv_istore_n (lv' := [(2, .int (iI 1000000)), (0, .ref (ad 7 h 0)), (1, .int (iI asked))]) hx hb dX1_lapsedFrom_2 rfl hl (by decide) rfl (fun ls hl => ?_)
  refine lv_iconst (v := iI 0) hx hb dX1_lapsedFrom_3 rfl ?_
  refine lv_istore_n (lv' := [(3, .int (iI 0)), (2, .int (iI 1000000)), (0, .ref (ad 7 h 0)), (1, .int (iI asked))]) hx hb dX1_lapsedFrom_4 rfl hl (by decide) rfl (fun ls hl => ?_)
  have e0 : (sLap S h asked 1000000 0 : Int) = 1000000 := by
    rfl
  have e1 : (((0 : Nat) : Int) : Int) = 0 := by
    rfl
  refine q_loopN (nL := 7) ((S 19 h).toNat) (fun (u : Nat) => [(0, .ref (ad 7 h 0)), (1, .int (iI asked)), (2, .int (iI (sLap S h asked 1000000 u))), (3, .int (iI ((u : Nat) : Int)))]) (lv_sub hl [2, 3, 1, 0] (by simp only [e0, e1]; rfl)) (fun u hu ihu ls hl => ?_)
  have hl : lv_has ls 7 [(0, .ref (ad 7 h 0)), (1, .int (iI asked)), (2, .int (iI (sLap S h asked 1000000 u))), (3, .int (iI ((u : Nat) : Int)))] := hl
  have hE := hI.lapB h0 (a := 1000000) (day := asked) (by decide) (n := u) (by omega)
  refine lv_iload_n hx hb dX1_lapsedFrom_5 rfl (lv_at hl 3 rfl) ?_
  refine lv_aload_n hx hb dX1_lapsedFrom_6 rfl (lv_at hl 0 rfl) ?_
  refine q_get (v := .ref (ad 8 h 0)) (C := RX1) (T := TX1) (N := 7) hx hb hts inX1 hown hK (hC.house (k := h) h0) rfl 4 (by decide) (hts (.fieldLink RX1 27 "TavernBench$House" "events" "Ljava/util/ArrayList;") (by decide +kernel)) (fun _ h9 => h9) rfl dX1_lapsedFrom_7 ?_
  refine q_cVi (As := []) (rest := [.int (iI ((u : Nat) : Int))]) ⟨hx, hb, hml, hown, hts⟩ (c0_size l g eA (ad 8 h 0) (ad 9 h 0) (S 19 h)) (cwV 0 hts gX1_lapsedFrom_Jx4a65c_size_8abf5 rfl rfl rfl (by decide +kernel) ⟨Nat.le_of_ble_eq_true rfl, Nat.le_of_ble_eq_true rfl⟩) (q_pV hK (hC.hlst (k := h) (j := 0) h0 (by decide)) rfl (hC.hlst (k := h) (j := 0) h0 (by decide))) rfl hl.1 rfl (Nat.le_of_ble_eq_true rfl) ⟨Nat.zero_le _, Nat.zero_le _⟩ dX1_lapsedFrom_10 ?_
  refine q_icmp_ge (tgt := 97) hx hb dX1_lapsedFrom_13 (by decide) (by omega) (hI.R (by decide)) (fun c13 => ?_) (fun c13 => ?_)
  · refine lv_iload_n hx hb dX1_lapsedFrom_97 rfl (lv_at hl 2 rfl) ?_
    refine q_reti hx hb hr hlocks dX1_lapsedFrom_98 ?_
    have e : u = (S 19 h).toNat := by omega
    rw [e]
  · refine lv_aload_n hx hb dX1_lapsedFrom_16 rfl (lv_at hl 0 rfl) ?_
    refine q_get (v := .ref (ad 8 h 0)) (C := RX1) (T := TX1) (N := 7) hx hb hts inX1 hown hK (hC.house (k := h) h0) rfl 4 (by decide) (hts (.fieldLink RX1 27 "TavernBench$House" "events" "Ljava/util/ArrayList;") (by decide +kernel)) (fun _ h9 => h9) rfl dX1_lapsedFrom_17 ?_
    refine lv_iload_n hx hb dX1_lapsedFrom_20 rfl (lv_at hl 3 rfl) ?_
    refine q_cVr (As := [.int (iI ((u : Nat) : Int))]) (rest := []) ⟨hx, hb, hml, hown, hts⟩ (c0_get l g eA (ad 8 h 0) (ad 9 h 0) (S 19 h) (fun q => ad 10 h q) ((u : Nat) : Int) (by omega) ⟨by omega, by omega⟩ (by omega)) (cwV 1 hts gX1_lapsedFrom_Jx4a65c_get_915e3 rfl rfl rfl (by decide +kernel) ⟨Nat.le_of_ble_eq_true rfl, Nat.le_of_ble_eq_true rfl⟩) (q_pV hK (hC.hlst (k := h) (j := 0) h0 (by decide)) rfl ⟨(hC.hlst (k := h) (j := 0) h0 (by decide)), (hC.harr (k := h) (j := 0) h0 (by decide) (by show 0 < S 19 h; omega))⟩) rfl hl.1 rfl (Nat.le_of_ble_eq_true rfl) ⟨Nat.zero_le _, Nat.zero_le _⟩ dX1_lapsedFrom_21 ?_
    refine q_cast (C := RX0) (T := TX0) (N := 4) hx hb hown (hts (.classLink RX1 47 RX0) (by decide +kernel)) hK (hC.event (k := h) (j := ((u : Nat) : Int)) h0 ⟨by omega, by omega⟩) rfl dX1_lapsedFrom_24 ?_
    refine lv_astore (lv' := [(4, .ref (ad 10 h ((u : Nat) : Int))), (0, .ref (ad 7 h 0)), (1, .int (iI asked)), (2, .int (iI (sLap S h asked 1000000 u))), (3, .int (iI ((u : Nat) : Int)))]) hx hb dX1_lapsedFrom_27 hl (by decide) rfl (fun ls hl => ?_)
    have hv := hI.ev h0.1 h0.2 (j := ((u : Nat) : Int)) (by omega) (by omega)
    have hq := hQ h h0.1 h0.2 u (by omega)
    have htr : exN (qTr S h (S 20 (16 * h + ((u : Nat) : Int))) (S 20 (16 * h + ((u : Nat) : Int)) + 28 - 1)) (S 19 h).toNat ↔ exN (sTrans S h u) (S 19 h).toNat := by
      constructor
      · rintro ⟨q, q1, q2, q3, q4⟩; exact ⟨q, q1, q2, q3, by omega⟩
      · rintro ⟨q, q1, q2, q3, q4⟩; exact ⟨q, q1, q2, q3, by omega⟩
    refine q_aload hx hb dX1_lapsedFrom_29 (lv_at hl 0 rfl) ?_
    refine q_get (v := .int (iI (S 20 (16 * h + ((u : Nat) : Int))))) (C := RX0) (T := TX0) (N := 4) hx hb hts inX0 hown hK (hC.event (k := h) (j := ((u : Nat) : Int)) h0 ⟨by omega, by omega⟩) rfl 0 (by decide) (hts (.fieldLink RX1 87 "TavernBench$Event" "day" "I") (by decide +kernel)) (fun _ h9 => h9) rfl dX1_lapsedFrom_31 ?_
    refine q_bipush hx hb 28 dX1_lapsedFrom_34 (by decide +kernel) ?_
    refine q_iadd hx hb dX1_lapsedFrom_36 ?_
    refine lv_istore (lv' := [(5, .int (iI ((S 20 (16 * h + ((u : Nat) : Int))) + 28))), (4, .ref (ad 10 h ((u : Nat) : Int))), (0, .ref (ad 7 h 0)), (1, .int (iI asked)), (2, .int (iI (sLap S h asked 1000000 u))), (3, .int (iI ((u : Nat) : Int)))]) hx hb dX1_lapsedFrom_37 hl (by decide) rfl (fun ls hl => ?_)
    refine q_aload hx hb dX1_lapsedFrom_39 (lv_at hl 1 rfl) ?_
    refine q_get (v := .int (iI (S 21 (16 * h + ((u : Nat) : Int))))) (C := RX0) (T := TX0) (N := 4) hx hb hts inX0 hown hK (hC.event (k := h) (j := ((u : Nat) : Int)) h0 ⟨by omega, by omega⟩) rfl 1 (by decide) (hts (.fieldLink RX1 69 "TavernBench$Event" "kind" "I") (by decide +kernel)) (fun _ h9 => h9) rfl dX1_lapsedFrom_41 ?_
    refine lv_iconst (v := iI 2) hx hb dX1_lapsedFrom_44 rfl ?_
    refine q_icmp_ne (tgt := 58) hx hb dX1_lapsedFrom_45 (by decide) (hI.R (by decide)) (by decide) (fun c45 => ?_) (fun c45 => ?_)
    · refine lv_iconst (v := iI 0) hx hb dX1_lapsedFrom_58 rfl ?_
      refine lv_istore (lv' := [(6, .int (iI 0)), (5, .int (iI ((S 20 (16 * h + ((u : Nat) : Int))) + 28))), (4, .ref (ad 10 h ((u : Nat) : Int))), (0, .ref (ad 7 h 0)), (1, .int (iI asked)), (2, .int (iI (sLap S h asked 1000000 u))), (3, .int (iI ((u : Nat) : Int)))]) hx hb dX1_lapsedFrom_59 hl (by decide) rfl (fun ls hl => ?_)
      refine lv_iload hx hb dX1_lapsedFrom_61 (lv_at hl 0 rfl) ?_
      refine q_if_eq (tgt := 91) hx hb dX1_lapsedFrom_63 (by decide) (by decide) (fun c63 => ?_) (fun c63 => ?_)
      rotate_left
      · exact absurd c63 (by decide)
      refine lv_iinc (v := iI (((u : Nat) : Int) + 1)) (lv' := [(3, .int (iI (((u : Nat) : Int) + 1))), (6, .int (iI 0)), (5, .int (iI ((S 20 (16 * h + ((u : Nat) : Int))) + 28))), (4, .ref (ad 10 h ((u : Nat) : Int))), (0, .ref (ad 7 h 0)), (1, .int (iI asked)), (2, .int (iI (sLap S h asked 1000000 u)))]) hx hb dX1_lapsedFrom_91 hl (k := 6) rfl (iI_add _ _) (by decide) rfl (fun ls hl => ?_)
      refine lv_goto (tgt := 5) hx hb dX1_lapsedFrom_94 (by decide) ?_
      have e0 : (sLap S h asked 1000000 (u + 1) : Int) = sLap S h asked 1000000 u := by
        first | exact sLap_t ⟨⟨by assumption, fun z => c85 (htr.mpr z)⟩, by assumption⟩ (by assumption) | exact sLap_f (fun z => absurd z.1.1.1 (by assumption)) | exact sLap_f (fun z => absurd z.1.2 (Int.not_le.mpr (by assumption))) | exact sLap_f (fun z => absurd z.2 (Int.not_lt.mpr (by assumption))) | exact sLap_f (fun z => z.1.1.2 (htr.mp (by assumption)))
      have e1 : ((((u + 1) : Nat) : Int) : Int) = ((u : Nat) : Int) + 1 := by
        omega
      exact ihu (by omega) ls (lv_sub hl [4, 5, 6, 0] (by simp only [e0, e1]; rfl))
    · refine lv_iload hx hb dX1_lapsedFrom_48 (lv_at hl 0 rfl) ?_
      refine lv_iload_n hx hb dX1_lapsedFrom_50 rfl (lv_at hl 3 rfl) ?_
      refine q_icmp_gt (tgt := 58) hx hb dX1_lapsedFrom_51 (by decide) (by omega) r_asked (fun c51 => ?_) (fun c51 => ?_)
      · refine lv_iconst (v := iI 0) hx hb dX1_lapsedFrom_58 rfl ?_
        refine lv_istore (lv' := [(6, .int (iI 0)), (5, .int (iI ((S 20 (16 * h + ((u : Nat) : Int))) + 28))), (4, .ref (ad 10 h ((u : Nat) : Int))), (0, .ref (ad 7 h 0)), (1, .int (iI asked)), (2, .int (iI (sLap S h asked 1000000 u))), (3, .int (iI ((u : Nat) : Int)))]) hx hb dX1_lapsedFrom_59 hl (by decide) rfl (fun ls hl => ?_)
        refine lv_iload hx hb dX1_lapsedFrom_61 (lv_at hl 0 rfl) ?_
        refine q_if_eq (tgt := 91) hx hb dX1_lapsedFrom_63 (by decide) (by decide) (fun c63_1 => ?_) (fun c63_1 => ?_)
        rotate_left
        · exact absurd c63_1 (by decide)
        refine lv_iinc (v := iI (((u : Nat) : Int) + 1)) (lv' := [(3, .int (iI (((u : Nat) : Int) + 1))), (6, .int (iI 0)), (5, .int (iI ((S 20 (16 * h + ((u : Nat) : Int))) + 28))), (4, .ref (ad 10 h ((u : Nat) : Int))), (0, .ref (ad 7 h 0)), (1, .int (iI asked)), (2, .int (iI (sLap S h asked 1000000 u)))]) hx hb dX1_lapsedFrom_91 hl (k := 6) rfl (iI_add _ _) (by decide) rfl (fun ls hl => ?_)
        refine lv_goto (tgt := 5) hx hb dX1_lapsedFrom_94 (by decide) ?_
        have e0 : (sLap S h asked 1000000 (u + 1) : Int) = sLap S h asked 1000000 u := by
          first | exact sLap_t ⟨⟨by assumption, fun z => c85 (htr.mpr z)⟩, by assumption⟩ (by assumption) | exact sLap_f (fun z => absurd z.1.1.1 (by assumption)) | exact sLap_f (fun z => absurd z.1.2 (Int.not_le.mpr (by assumption))) | exact sLap_f (fun z => absurd z.2 (Int.not_lt.mpr (by assumption))) | exact sLap_f (fun z => z.1.1.2 (htr.mp (by assumption)))
        have e1 : ((((u + 1) : Nat) : Int) : Int) = ((u : Nat) : Int) + 1 := by
          omega
        exact ihu (by omega) ls (lv_sub hl [4, 5, 6, 0] (by simp only [e0, e1]; rfl))
      · refine lv_iconst (v := iI 1) hx hb dX1_lapsedFrom_54 rfl ?_
        refine lv_goto (tgt := 59) hx hb dX1_lapsedFrom_55 (by decide) ?_
        refine lv_istore (lv' := [(6, .int (iI 1)), (5, .int (iI ((S 20 (16 * h + ((u : Nat) : Int))) + 28))), (4, .ref (ad 10 h ((u : Nat) : Int))), (0, .ref (ad 7 h 0)), (1, .int (iI asked)), (2, .int (iI (sLap S h asked 1000000 u))), (3, .int (iI ((u : Nat) : Int)))]) hx hb dX1_lapsedFrom_59 hl (by decide) rfl (fun ls hl => ?_)
        refine lv_iload hx hb dX1_lapsedFrom_61 (lv_at hl 0 rfl) ?_
        refine q_if_eq (tgt := 91) hx hb dX1_lapsedFrom_63 (by decide) (by decide) (fun c63_2 => ?_) (fun c63_2 => ?_)
        · exact absurd c63_2 (by decide)
        refine lv_iload hx hb dX1_lapsedFrom_66 (lv_at hl 1 rfl) ?_
        refine lv_iload_n hx hb dX1_lapsedFrom_68 rfl (lv_at hl 5 rfl) ?_
        refine q_icmp_ge (tgt := 91) hx hb dX1_lapsedFrom_69 (by decide) (by omega) (by omega) (fun c69 => ?_) (fun c69 => ?_)
        · refine lv_iinc (v := iI (((u : Nat) : Int) + 1)) (lv' := [(3, .int (iI (((u : Nat) : Int) + 1))), (6, .int (iI 1)), (5, .int (iI ((S 20 (16 * h + ((u : Nat) : Int))) + 28))), (4, .ref (ad 10 h ((u : Nat) : Int))), (0, .ref (ad 7 h 0)), (1, .int (iI asked)), (2, .int (iI (sLap S h asked 1000000 u)))]) hx hb dX1_lapsedFrom_91 hl (k := 6) rfl (iI_add _ _) (by decide) rfl (fun ls hl => ?_)
          refine lv_goto (tgt := 5) hx hb dX1_lapsedFrom_94 (by decide) ?_
          have e0 : (sLap S h asked 1000000 (u + 1) : Int) = sLap S h asked 1000000 u := by
            first | exact sLap_t ⟨⟨by assumption, fun z => c85 (htr.mpr z)⟩, by assumption⟩ (by assumption) | exact sLap_f (fun z => absurd z.1.1.1 (by assumption)) | exact sLap_f (fun z => absurd z.1.2 (Int.not_le.mpr (by assumption))) | exact sLap_f (fun z => absurd z.2 (Int.not_lt.mpr (by assumption))) | exact sLap_f (fun z => z.1.1.2 (htr.mp (by assumption)))
          have e1 : ((((u + 1) : Nat) : Int) : Int) = ((u : Nat) : Int) + 1 := by
            omega
          exact ihu (by omega) ls (lv_sub hl [4, 5, 6, 0] (by simp only [e0, e1]; rfl))
        · refine lv_aload_n hx hb dX1_lapsedFrom_72 rfl (lv_at hl 3 rfl) ?_
          refine q_aload hx hb dX1_lapsedFrom_73 (lv_at hl 2 rfl) ?_
          refine q_get (v := .int (iI (S 20 (16 * h + ((u : Nat) : Int))))) (C := RX0) (T := TX0) (N := 4) hx hb hts inX0 hown hK (hC.event (k := h) (j := ((u : Nat) : Int)) h0 ⟨by omega, by omega⟩) rfl 0 (by decide) (hts (.fieldLink RX1 87 "TavernBench$Event" "day" "I") (by decide +kernel)) (fun _ h9 => h9) rfl dX1_lapsedFrom_75 ?_
          refine lv_iload hx hb dX1_lapsedFrom_78 (lv_at hl 1 rfl) ?_
          refine lv_iconst (v := iI 1) hx hb dX1_lapsedFrom_80 rfl ?_
          refine q_isub hx hb dX1_lapsedFrom_81 ?_
          refine q_cVi (As := [.int (iI (S 20 (16 * h + ((u : Nat) : Int)))), .int (iI (((S 20 (16 * h + ((u : Nat) : Int))) + 28) - 1))]) (rest := []) ⟨hx, hb, hml, hown, hts⟩ (c1_isTransferred l g eA P ad S hI hQ h h0 (S 20 (16 * h + ((u : Nat) : Int))) (((S 20 (16 * h + ((u : Nat) : Int))) + 28) - 1) (hI.R (by decide)) (by omega) ) (cwV 2 hts gX1_lapsedFrom_X1_isTransferred rfl rfl rfl (by decide +kernel) ⟨Nat.le_of_ble_eq_true rfl, Nat.le_of_ble_eq_true rfl⟩) (q_pV hK (hC.house (k := h) h0) rfl hC) rfl hl.1 rfl (Nat.le_of_ble_eq_true rfl) ⟨Nat.zero_le _, Nat.zero_le _⟩ dX1_lapsedFrom_82 ?_
          refine q_ifb_ne (tgt := 91) hx hb dX1_lapsedFrom_85 (by decide) (fun c85 => ?_) (fun c85 => ?_)
          · refine lv_iinc (v := iI (((u : Nat) : Int) + 1)) (lv' := [(3, .int (iI (((u : Nat) : Int) + 1))), (6, .int (iI 1)), (5, .int (iI ((S 20 (16 * h + ((u : Nat) : Int))) + 28))), (4, .ref (ad 10 h ((u : Nat) : Int))), (0, .ref (ad 7 h 0)), (1, .int (iI asked)), (2, .int (iI (sLap S h asked 1000000 u)))]) hx hb dX1_lapsedFrom_91 hl (k := 6) rfl (iI_add _ _) (by decide) rfl (fun ls hl => ?_)
            refine lv_goto (tgt := 5) hx hb dX1_lapsedFrom_94 (by decide) ?_
            have e0 : (sLap S h asked 1000000 (u + 1) : Int) = sLap S h asked 1000000 u := by
              first | exact sLap_t ⟨⟨by assumption, fun z => c85 (htr.mpr z)⟩, by assumption⟩ (by assumption) | exact sLap_f (fun z => absurd z.1.1.1 (by assumption)) | exact sLap_f (fun z => absurd z.1.2 (Int.not_le.mpr (by assumption))) | exact sLap_f (fun z => absurd z.2 (Int.not_lt.mpr (by assumption))) | exact sLap_f (fun z => z.1.1.2 (htr.mp (by assumption)))
            have e1 : ((((u + 1) : Nat) : Int) : Int) = ((u : Nat) : Int) + 1 := by
              omega
            exact ihu (by omega) ls (lv_sub hl [4, 5, 6, 0] (by simp only [e0, e1]; rfl))
          · refine lv_iload hx hb dX1_lapsedFrom_88 (lv_at hl 1 rfl) ?_
            refine lv_istore_n (lv' := [(2, .int (iI ((S 20 (16 * h + ((u : Nat) : Int))) + 28))), (6, .int (iI 1)), (5, .int (iI ((S 20 (16 * h + ((u : Nat) : Int))) + 28))), (4, .ref (ad 10 h ((u : Nat) : Int))), (0, .ref (ad 7 h 0)), (1, .int (iI asked)), (3, .int (iI ((u : Nat) : Int)))]) hx hb dX1_lapsedFrom_90 rfl hl (by decide) rfl (fun ls hl => ?_)
            refine lv_iinc (v := iI (((u : Nat) : Int) + 1)) (lv' := [(3, .int (iI (((u : Nat) : Int) + 1))), (2, .int (iI ((S 20 (16 * h + ((u : Nat) : Int))) + 28))), (6, .int (iI 1)), (5, .int (iI ((S 20 (16 * h + ((u : Nat) : Int))) + 28))), (4, .ref (ad 10 h ((u : Nat) : Int))), (0, .ref (ad 7 h 0)), (1, .int (iI asked))]) hx hb dX1_lapsedFrom_91 hl (k := 6) rfl (iI_add _ _) (by decide) rfl (fun ls hl => ?_)
            refine lv_goto (tgt := 5) hx hb dX1_lapsedFrom_94 (by decide) ?_
            have e0 : (sLap S h asked 1000000 (u + 1) : Int) = (S 20 (16 * h + ((u : Nat) : Int))) + 28 := by
              first | exact sLap_t ⟨⟨by assumption, fun z => c85 (htr.mpr z)⟩, by assumption⟩ (by assumption) | exact sLap_f (fun z => absurd z.1.1.1 (by assumption)) | exact sLap_f (fun z => absurd z.1.2 (Int.not_le.mpr (by assumption))) | exact sLap_f (fun z => absurd z.2 (Int.not_lt.mpr (by assumption))) | exact sLap_f (fun z => z.1.1.2 (htr.mp (by assumption)))
            have e1 : ((((u + 1) : Nat) : Int) : Int) = ((u : Nat) : Int) + 1 := by
              omega
            exact ihu (by omega) ls (lv_sub hl [5, 6, 1, 0] (by simp only [e0, e1]; rfl))

set_option maxHeartbeats 4000000 in
set_option maxRecDepth 100000 in
theorem c1_surplusFrom (l : Launch) (g : GG) (eA : Nat) (P : Nat → Prop) (ad : AD) (S : St) (hI : Inv S) (hQ : InvC S) (h : Int) (h0 : 0 ≤ h ∧ h < S 14 0) (asked : Int) (r_asked : R32 asked)  : MetI l yX1_surplusFrom wsX1_surplusFrom ({ frames := 3, cells := 0, slots := 0, locals := 64 }) g [.ref (ad 7 h 0), .int (iI asked)] (fun H => RepC g eA P ad S H) (sSur S h asked 1000000 (S 19 h).toNat) := by
  refine Met.ofW (cc := cX1_surplusFrom) (maxL := 5) (ret := (some .int)) (by decide) rfl ?_
  intro p e s m args below meth c s₁ B hml hv
  obtain ⟨rfl, hC, hK⟩ := hv
  have hx := B.exec
  have hb := B.bytes
  have hr := B.returns
  have hts := atoms_spec (ws := wsX1_surplusFrom) B.pre
  have hown : s.vm.findClass RX1 = some m.cls := findClass_of_methodNamed B.named
  have hlocks := B.notSynchronized
  have inX0 : ∀ w ∈ wsX00, w ∈ wsX1_surplusFrom := by decide +kernel
  have inX1 : ∀ w ∈ wsX10, w ∈ wsX1_surplusFrom := by decide +kernel
  have hl := lv_entry ([.ref (ad 7 h 0), .int (iI asked)]) (n := 5) (Nat.le_of_ble_eq_true rfl)
  rw [lg_entry_eq]
  generalize (lg_sl ([.ref (ad 7 h 0), .int (iI asked)]) ++ List.replicate (5 - (lg_sl ([.ref (ad 7 h 0), .int (iI asked)])).length) Slot.unset).toArray = ls at hl ⊢
  have hl : lv_has ls 5 [(0, .ref (ad 7 h 0)), (1, .int (iI asked))] := hl
  have hH := hI.house h0.1 h0.2
  have hN := hI.nums
  refine q_ldc hx hb 1000000 hown (hts (.constant RX1 86 (1000000)) (by decide +kernel)) (by decide +kernel) dX1_surplusFrom_0 ?_
  refine lv_istore_n (lv' := [(2, .int (iI 1000000)), (0, .ref (ad 7 h 0)), (1, .int (iI asked))]) hx hb dX1_surplusFrom_2 rfl hl (by decide) rfl (fun ls hl => ?_)
  refine lv_iconst (v := iI 0) hx hb dX1_surplusFrom_3 rfl ?_
  refine lv_istore_n (lv' := [(3, .int (iI 0)), (2, .int (iI 1000000)), (0, .ref (ad 7 h 0)), (1, .int (iI asked))]) hx hb dX1_surplusFrom_4 rfl hl (by decide) rfl (fun ls hl => ?_)
  have e0 : (sSur S h asked 1000000 0 : Int) = 1000000 := by
    rfl
  have e1 : (((0 : Nat) : Int) : Int) = 0 := by
    rfl
  refine q_loopN (nL := 5) ((S 19 h).toNat) (fun (u : Nat) => [(0, .ref (ad 7 h 0)), (1, .int (iI asked)), (2, .int (iI (sSur S h asked 1000000 u))), (3, .int (iI ((u : Nat) : Int)))]) (lv_sub hl [2, 3, 1, 0] (by simp only [e0, e1]; rfl)) (fun u hu ihu ls hl => ?_)
  have hl : lv_has ls 5 [(0, .ref (ad 7 h 0)), (1, .int (iI asked)), (2, .int (iI (sSur S h asked 1000000 u))), (3, .int (iI ((u : Nat) : Int)))] := hl
  have hE := hI.surB h0 (a := 1000000) (day := asked) (by decide) (n := u) (by omega)
  refine lv_iload_n hx hb dX1_surplusFrom_5 rfl (lv_at hl 3 rfl) ?_
  refine lv_aload_n hx hb dX1_surplusFrom_6 rfl (lv_at hl 0 rfl) ?_
  refine q_get (v := .ref (ad 8 h 0)) (C := RX1) (T := TX1) (N := 7) hx hb hts inX1 hown hK (hC.house (k := h) h0) rfl 4 (by decide) (hts (.fieldLink RX1 27 "TavernBench$House" "events" "Ljava/util/ArrayList;") (by decide +kernel)) (fun _ h9 => h9) rfl dX1_surplusFrom_7 ?_
  refine q_cVi (As := []) (rest := [.int (iI ((u : Nat) : Int))]) ⟨hx, hb, hml, hown, hts⟩ (c0_size l g eA (ad 8 h 0) (ad 9 h 0) (S 19 h)) (cwV 0 hts gX1_surplusFrom_Jx4a65c_size_8abf5 rfl rfl rfl (by decide +kernel) ⟨Nat.le_of_ble_eq_true rfl, Nat.le_of_ble_eq_true rfl⟩) (q_pV hK (hC.hlst (k := h) (j := 0) h0 (by decide)) rfl (hC.hlst (k := h) (j := 0) h0 (by decide))) rfl hl.1 rfl (Nat.le_of_ble_eq_true rfl) ⟨Nat.zero_le _, Nat.zero_le _⟩ dX1_surplusFrom_10 ?_
  refine q_icmp_ge (tgt := 64) hx hb dX1_surplusFrom_13 (by decide) (by omega) (hI.R (by decide)) (fun c13 => ?_) (fun c13 => ?_)
  · refine lv_iload_n hx hb dX1_surplusFrom_64 rfl (lv_at hl 2 rfl) ?_
    refine q_reti hx hb hr hlocks dX1_surplusFrom_65 ?_
    have e : u = (S 19 h).toNat := by omega
    rw [e]
  · refine lv_aload_n hx hb dX1_surplusFrom_16 rfl (lv_at hl 0 rfl) ?_
    refine q_get (v := .ref (ad 8 h 0)) (C := RX1) (T := TX1) (N := 7) hx hb hts inX1 hown hK (hC.house (k := h) h0) rfl 4 (by decide) (hts (.fieldLink RX1 27 "TavernBench$House" "events" "Ljava/util/ArrayList;") (by decide +kernel)) (fun _ h9 => h9) rfl dX1_surplusFrom_17 ?_
    refine lv_iload_n hx hb dX1_surplusFrom_20 rfl (lv_at hl 3 rfl) ?_
    refine q_cVr (As := [.int (iI ((u : Nat) : Int))]) (rest := []) ⟨hx, hb, hml, hown, hts⟩ (c0_get l g eA (ad 8 h 0) (ad 9 h 0) (S 19 h) (fun q => ad 10 h q) ((u : Nat) : Int) (by omega) ⟨by omega, by omega⟩ (by omega)) (cwV 1 hts gX1_surplusFrom_Jx4a65c_get_915e3 rfl rfl rfl (by decide +kernel) ⟨Nat.le_of_ble_eq_true rfl, Nat.le_of_ble_eq_true rfl⟩) (q_pV hK (hC.hlst (k := h) (j := 0) h0 (by decide)) rfl ⟨(hC.hlst (k := h) (j := 0) h0 (by decide)), (hC.harr (k := h) (j := 0) h0 (by decide) (by show 0 < S 19 h; omega))⟩) rfl hl.1 rfl (Nat.le_of_ble_eq_true rfl) ⟨Nat.zero_le _, Nat.zero_le _⟩ dX1_surplusFrom_21 ?_
    refine q_cast (C := RX0) (T := TX0) (N := 4) hx hb hown (hts (.classLink RX1 47 RX0) (by decide +kernel)) hK (hC.event (k := h) (j := ((u : Nat) : Int)) h0 ⟨by omega, by omega⟩) rfl dX1_surplusFrom_24 ?_
    refine lv_astore (lv' := [(4, .ref (ad 10 h ((u : Nat) : Int))), (0, .ref (ad 7 h 0)), (1, .int (iI asked)), (2, .int (iI (sSur S h asked 1000000 u))), (3, .int (iI ((u : Nat) : Int)))]) hx hb dX1_surplusFrom_27 hl (by decide) rfl (fun ls hl => ?_)
    have hv := hI.ev h0.1 h0.2 (j := ((u : Nat) : Int)) (by omega) (by omega)
    have hq := hQ h h0.1 h0.2 u (by omega)
    refine q_aload hx hb dX1_surplusFrom_29 (lv_at hl 0 rfl) ?_
    refine q_get (v := .int (iI (S 21 (16 * h + ((u : Nat) : Int))))) (C := RX0) (T := TX0) (N := 4) hx hb hts inX0 hown hK (hC.event (k := h) (j := ((u : Nat) : Int)) h0 ⟨by omega, by omega⟩) rfl 1 (by decide) (hts (.fieldLink RX1 69 "TavernBench$Event" "kind" "I") (by decide +kernel)) (fun _ h9 => h9) rfl dX1_surplusFrom_31 ?_
    refine q_bipush hx hb 6 dX1_surplusFrom_34 (by decide +kernel) ?_
    refine q_icmp_ne (tgt := 58) hx hb dX1_surplusFrom_36 (by decide) (hI.R (by decide)) (by decide) (fun c36 => ?_) (fun c36 => ?_)
    · refine lv_iinc (v := iI (((u : Nat) : Int) + 1)) (lv' := [(3, .int (iI (((u : Nat) : Int) + 1))), (4, .ref (ad 10 h ((u : Nat) : Int))), (0, .ref (ad 7 h 0)), (1, .int (iI asked)), (2, .int (iI (sSur S h asked 1000000 u)))]) hx hb dX1_surplusFrom_58 hl (k := 4) rfl (iI_add _ _) (by decide) rfl (fun ls hl => ?_)
      refine lv_goto (tgt := 5) hx hb dX1_surplusFrom_61 (by decide) ?_
      have e0 : (sSur S h asked 1000000 (u + 1) : Int) = sSur S h asked 1000000 u := by
        first | exact mn_f (fun z => absurd z.1.1 (by assumption)) | exact mn_f (fun z => absurd z.1.2 (Int.not_le.mpr (by assumption))) | exact sur_min (by assumption) (by assumption)
      have e1 : ((((u + 1) : Nat) : Int) : Int) = ((u : Nat) : Int) + 1 := by
        omega
      exact ihu (by omega) ls (lv_sub hl [2, 3, 4, 0] (by simp only [e0, e1]; rfl))
    · refine q_aload hx hb dX1_surplusFrom_39 (lv_at hl 0 rfl) ?_
      refine q_get (v := .int (iI (S 20 (16 * h + ((u : Nat) : Int))))) (C := RX0) (T := TX0) (N := 4) hx hb hts inX0 hown hK (hC.event (k := h) (j := ((u : Nat) : Int)) h0 ⟨by omega, by omega⟩) rfl 0 (by decide) (hts (.fieldLink RX1 87 "TavernBench$Event" "day" "I") (by decide +kernel)) (fun _ h9 => h9) rfl dX1_surplusFrom_41 ?_
      refine lv_iload_n hx hb dX1_surplusFrom_44 rfl (lv_at hl 2 rfl) ?_
      refine q_icmp_gt (tgt := 58) hx hb dX1_surplusFrom_45 (by decide) (hI.R (by decide)) r_asked (fun c45 => ?_) (fun c45 => ?_)
      · refine lv_iinc (v := iI (((u : Nat) : Int) + 1)) (lv' := [(3, .int (iI (((u : Nat) : Int) + 1))), (4, .ref (ad 10 h ((u : Nat) : Int))), (0, .ref (ad 7 h 0)), (1, .int (iI asked)), (2, .int (iI (sSur S h asked 1000000 u)))]) hx hb dX1_surplusFrom_58 hl (k := 4) rfl (iI_add _ _) (by decide) rfl (fun ls hl => ?_)
        refine lv_goto (tgt := 5) hx hb dX1_surplusFrom_61 (by decide) ?_
        have e0 : (sSur S h asked 1000000 (u + 1) : Int) = sSur S h asked 1000000 u := by
          first | exact mn_f (fun z => absurd z.1.1 (by assumption)) | exact mn_f (fun z => absurd z.1.2 (Int.not_le.mpr (by assumption))) | exact sur_min (by assumption) (by assumption)
        have e1 : ((((u + 1) : Nat) : Int) : Int) = ((u : Nat) : Int) + 1 := by
          omega
        exact ihu (by omega) ls (lv_sub hl [2, 3, 4, 0] (by simp only [e0, e1]; rfl))
      · refine lv_iload_n hx hb dX1_surplusFrom_48 rfl (lv_at hl 3 rfl) ?_
        refine q_aload hx hb dX1_surplusFrom_49 (lv_at hl 0 rfl) ?_
        refine q_get (v := .int (iI (S 20 (16 * h + ((u : Nat) : Int))))) (C := RX0) (T := TX0) (N := 4) hx hb hts inX0 hown hK (hC.event (k := h) (j := ((u : Nat) : Int)) h0 ⟨by omega, by omega⟩) rfl 0 (by decide) (hts (.fieldLink RX1 87 "TavernBench$Event" "day" "I") (by decide +kernel)) (fun _ h9 => h9) rfl dX1_surplusFrom_51 ?_
        refine q_mmin hx hb (hml.trans hl.1.symm) hown (hts (.methodLink RX1 55 Lib.Math.min.name) (by decide +kernel)) (hts (.static Lib.Math.min.name) (by decide +kernel)) (hts (.initialized "java/lang/Math") (by decide +kernel)) (hts (.code Lib.Math.min.name Lib.Math.min.code 2 (some .int)) (by decide +kernel)) (Nat.le_of_ble_eq_true rfl) (Nat.le_of_ble_eq_true rfl) (Nat.zero_le _) (Nat.zero_le _) dX1_surplusFrom_54 (by omega) (hI.R (by decide)) ?_
        refine lv_istore_n (lv' := [(2, .int (iI (min (sSur S h asked 1000000 u) (S 20 (16 * h + ((u : Nat) : Int)))))), (4, .ref (ad 10 h ((u : Nat) : Int))), (0, .ref (ad 7 h 0)), (1, .int (iI asked)), (3, .int (iI ((u : Nat) : Int)))]) hx hb dX1_surplusFrom_57 rfl hl (by decide) rfl (fun ls hl => ?_)
        refine lv_iinc (v := iI (((u : Nat) : Int) + 1)) (lv' := [(3, .int (iI (((u : Nat) : Int) + 1))), (2, .int (iI (min (sSur S h asked 1000000 u) (S 20 (16 * h + ((u : Nat) : Int)))))), (4, .ref (ad 10 h ((u : Nat) : Int))), (0, .ref (ad 7 h 0)), (1, .int (iI asked))]) hx hb dX1_surplusFrom_58 hl (k := 4) rfl (iI_add _ _) (by decide) rfl (fun ls hl => ?_)
        refine lv_goto (tgt := 5) hx hb dX1_surplusFrom_61 (by decide) ?_
        have e0 : (sSur S h asked 1000000 (u + 1) : Int) = min (sSur S h asked 1000000 u) (S 20 (16 * h + ((u : Nat) : Int))) := by
          first | exact mn_f (fun z => absurd z.1.1 (by assumption)) | exact mn_f (fun z => absurd z.1.2 (Int.not_le.mpr (by assumption))) | exact sur_min (by assumption) (by assumption)
        have e1 : ((((u + 1) : Nat) : Int) : Int) = ((u : Nat) : Int) + 1 := by
          omega
        exact ihu (by omega) ls (lv_sub hl [3, 4, 1, 0] (by simp only [e0, e1]; rfl))
end
section
theorem zz_probe : 1 + 1 = 2 := rfl
end
