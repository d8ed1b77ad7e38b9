section
/-- a private method of a class that the tables say can be made, by its rows of tables_1 -/
def lw_okq (q : MethodName × Nat) : Prop := (q.1.cls ≠ "java/lang/invoke/MethodHandle" ∧ q.1.cls ≠ "java/lang/invoke/VarHandle") ∧ Cond.instantiable q.1.cls q.2 ∈ tables_1 ∧ Cond.privateMethod q.1 ∈ tables_1 ∧ Cond.instanceMethod q.1 ∈ tables_1
theorem lw_p0 : lw_okq (⟨"TruckLoads$Load", "palletsWithSomeCell", "()I"⟩, 6) := ⟨⟨by decide +kernel, by decide +kernel⟩, List.mem_of_getElem? (i := 28) (by decide +kernel), List.mem_of_getElem? (i := 184) (by decide +kernel), List.mem_of_getElem? (i := 185) (by decide +kernel)⟩
theorem lw_p1 : lw_okq (⟨"TruckLoads$Load", "fitsSomeCell", "(LTruckLoads$Pallet;)Z"⟩, 6) := ⟨⟨by decide +kernel, by decide +kernel⟩, List.mem_of_getElem? (i := 28) (by decide +kernel), List.mem_of_getElem? (i := 188) (by decide +kernel), List.mem_of_getElem? (i := 189) (by decide +kernel)⟩
theorem lw_p2 : lw_okq (⟨"TruckLoads$Load", "heightBars", "(LTruckLoads$Pallet;I)Z"⟩, 6) := ⟨⟨by decide +kernel, by decide +kernel⟩, List.mem_of_getElem? (i := 28) (by decide +kernel), List.mem_of_getElem? (i := 192) (by decide +kernel), List.mem_of_getElem? (i := 193) (by decide +kernel)⟩
theorem lw_p3 : lw_okq (⟨"TruckLoads$Load", "hasCell", "(I)Z"⟩, 6) := ⟨⟨by decide +kernel, by decide +kernel⟩, List.mem_of_getElem? (i := 28) (by decide +kernel), List.mem_of_getElem? (i := 196) (by decide +kernel), List.mem_of_getElem? (i := 197) (by decide +kernel)⟩
theorem lw_p4 : lw_okq (⟨"TruckLoads$Load", "coldBars", "(LTruckLoads$Pallet;I)Z"⟩, 6) := ⟨⟨by decide +kernel, by decide +kernel⟩, List.mem_of_getElem? (i := 28) (by decide +kernel), List.mem_of_getElem? (i := 200) (by decide +kernel), List.mem_of_getElem? (i := 201) (by decide +kernel)⟩
theorem lw_p5 : lw_okq (⟨"TruckLoads$Load", "standing", "()I"⟩, 6) := ⟨⟨by decide +kernel, by decide +kernel⟩, List.mem_of_getElem? (i := 28) (by decide +kernel), List.mem_of_getElem? (i := 209) (by decide +kernel), List.mem_of_getElem? (i := 210) (by decide +kernel)⟩
theorem lw_p6 : lw_okq (⟨"TruckLoads$Pallet", "stands", "()Z"⟩, 6) := ⟨⟨by decide +kernel, by decide +kernel⟩, List.mem_of_getElem? (i := 62) (by decide +kernel), List.mem_of_getElem? (i := 213) (by decide +kernel), List.mem_of_getElem? (i := 214) (by decide +kernel)⟩
theorem lw_p7 : lw_okq (⟨"java/lang/Throwable", "fillInStackTrace", "(I)Ljava/lang/Throwable;"⟩, 6) := ⟨⟨by decide +kernel, by decide +kernel⟩, List.mem_of_getElem? (i := 274) (by decide +kernel), List.mem_of_getElem? (i := 272) (by decide +kernel), List.mem_of_getElem? (i := 273) (by decide +kernel)⟩
theorem lw_p8 : lw_okq (⟨"TruckLoads$Load", "isTaken", "(I)Z"⟩, 6) := ⟨⟨by decide +kernel, by decide +kernel⟩, List.mem_of_getElem? (i := 28) (by decide +kernel), List.mem_of_getElem? (i := 326) (by decide +kernel), List.mem_of_getElem? (i := 327) (by decide +kernel)⟩
theorem lw_p9 : lw_okq (⟨"TruckLoads$Axles", "set", "(IIII)V"⟩, 4) := ⟨⟨by decide +kernel, by decide +kernel⟩, List.mem_of_getElem? (i := 42) (by decide +kernel), List.mem_of_getElem? (i := 354) (by decide +kernel), List.mem_of_getElem? (i := 355) (by decide +kernel)⟩
theorem lw_p10 : lw_okq (⟨"TruckLoads", "requireShut", "()V"⟩, 5) := ⟨⟨by decide +kernel, by decide +kernel⟩, List.mem_of_getElem? (i := 20) (by decide +kernel), List.mem_of_getElem? (i := 366) (by decide +kernel), List.mem_of_getElem? (i := 367) (by decide +kernel)⟩
theorem lw_p11 : lw_okq (⟨"TruckLoads$Pallet", "set", "(IZZII)V"⟩, 6) := ⟨⟨by decide +kernel, by decide +kernel⟩, List.mem_of_getElem? (i := 62) (by decide +kernel), List.mem_of_getElem? (i := 387) (by decide +kernel), List.mem_of_getElem? (i := 388) (by decide +kernel)⟩
theorem lw_p12 : lw_okq (⟨"TruckLoads", "requireNoSeal", "()V"⟩, 5) := ⟨⟨by decide +kernel, by decide +kernel⟩, List.mem_of_getElem? (i := 20) (by decide +kernel), List.mem_of_getElem? (i := 398) (by decide +kernel), List.mem_of_getElem? (i := 399) (by decide +kernel)⟩
theorem lw_p13 : lw_okq (⟨"TruckLoads$Seals", "isOn", "()Z"⟩, 3) := ⟨⟨by decide +kernel, by decide +kernel⟩, List.mem_of_getElem? (i := 142) (by decide +kernel), List.mem_of_getElem? (i := 402) (by decide +kernel), List.mem_of_getElem? (i := 403) (by decide +kernel)⟩
theorem lw_p14 : lw_okq (⟨"TruckLoads$Search", "run", "(LTruckLoads$Load;)V"⟩, 3) := ⟨⟨by decide +kernel, by decide +kernel⟩, List.mem_of_getElem? (i := 126) (by decide +kernel), List.mem_of_getElem? (i := 407) (by decide +kernel), List.mem_of_getElem? (i := 408) (by decide +kernel)⟩
theorem lw_p15 : lw_okq (⟨"TruckLoads$Load", "takeAllOut", "()V"⟩, 6) := ⟨⟨by decide +kernel, by decide +kernel⟩, List.mem_of_getElem? (i := 28) (by decide +kernel), List.mem_of_getElem? (i := 411) (by decide +kernel), List.mem_of_getElem? (i := 412) (by decide +kernel)⟩
def lw_privs_1 : List (MethodName × Nat) := [(⟨"TruckLoads$Load", "palletsWithSomeCell", "()I"⟩, 6), (⟨"TruckLoads$Load", "fitsSomeCell", "(LTruckLoads$Pallet;)Z"⟩, 6), (⟨"TruckLoads$Load", "heightBars", "(LTruckLoads$Pallet;I)Z"⟩, 6), (⟨"TruckLoads$Load", "hasCell", "(I)Z"⟩, 6), (⟨"TruckLoads$Load", "coldBars", "(LTruckLoads$Pallet;I)Z"⟩, 6), (⟨"TruckLoads$Load", "standing", "()I"⟩, 6), (⟨"TruckLoads$Pallet", "stands", "()Z"⟩, 6), (⟨"java/lang/Throwable", "fillInStackTrace", "(I)Ljava/lang/Throwable;"⟩, 6), (⟨"TruckLoads$Load", "isTaken", "(I)Z"⟩, 6), (⟨"TruckLoads$Axles", "set", "(IIII)V"⟩, 4), (⟨"TruckLoads", "requireShut", "()V"⟩, 5), (⟨"TruckLoads$Pallet", "set", "(IZZII)V"⟩, 6), (⟨"TruckLoads", "requireNoSeal", "()V"⟩, 5), (⟨"TruckLoads$Seals", "isOn", "()Z"⟩, 3), (⟨"TruckLoads$Search", "run", "(LTruckLoads$Load;)V"⟩, 3), (⟨"TruckLoads$Load", "takeAllOut", "()V"⟩, 6)]
theorem lw_r1 : ∀ q ∈ lw_privs_1, lw_okq q := List.forall_mem_cons.mpr ⟨lw_p0, List.forall_mem_cons.mpr ⟨lw_p1, List.forall_mem_cons.mpr ⟨lw_p2, List.forall_mem_cons.mpr ⟨lw_p3, List.forall_mem_cons.mpr ⟨lw_p4, List.forall_mem_cons.mpr ⟨lw_p5, List.forall_mem_cons.mpr ⟨lw_p6, List.forall_mem_cons.mpr ⟨lw_p7, List.forall_mem_cons.mpr ⟨lw_p8, List.forall_mem_cons.mpr ⟨lw_p9, List.forall_mem_cons.mpr ⟨lw_p10, List.forall_mem_cons.mpr ⟨lw_p11, List.forall_mem_cons.mpr ⟨lw_p12, List.forall_mem_cons.mpr ⟨lw_p13, List.forall_mem_cons.mpr ⟨lw_p14, List.forall_mem_cons.mpr ⟨lw_p15, fun _ h => absurd h List.not_mem_nil⟩⟩⟩⟩⟩⟩⟩⟩⟩⟩⟩⟩⟩⟩⟩⟩
theorem lw_p16 : lw_okq (⟨"TruckLoads$Search", "tryFrom", "(LTruckLoads$Load;I)V"⟩, 3) := ⟨⟨by decide +kernel, by decide +kernel⟩, List.mem_of_getElem? (i := 126) (by decide +kernel), List.mem_of_getElem? (i := 415) (by decide +kernel), List.mem_of_getElem? (i := 416) (by decide +kernel)⟩
theorem lw_p17 : lw_okq (⟨"TruckLoads$Search", "isHopeless", "(LTruckLoads$Load;I)Z"⟩, 3) := ⟨⟨by decide +kernel, by decide +kernel⟩, List.mem_of_getElem? (i := 126) (by decide +kernel), List.mem_of_getElem? (i := 419) (by decide +kernel), List.mem_of_getElem? (i := 420) (by decide +kernel)⟩
theorem lw_p18 : lw_okq (⟨"TruckLoads$Load", "weight", "()I"⟩, 6) := ⟨⟨by decide +kernel, by decide +kernel⟩, List.mem_of_getElem? (i := 28) (by decide +kernel), List.mem_of_getElem? (i := 424) (by decide +kernel), List.mem_of_getElem? (i := 425) (by decide +kernel)⟩
theorem lw_p19 : lw_okq (⟨"TruckLoads$Axles", "share", "(III)I"⟩, 4) := ⟨⟨by decide +kernel, by decide +kernel⟩, List.mem_of_getElem? (i := 42) (by decide +kernel), List.mem_of_getElem? (i := 428) (by decide +kernel), List.mem_of_getElem? (i := 429) (by decide +kernel)⟩
theorem lw_p20 : lw_okq (⟨"TruckLoads$Load", "onAxle", "(I)I"⟩, 6) := ⟨⟨by decide +kernel, by decide +kernel⟩, List.mem_of_getElem? (i := 28) (by decide +kernel), List.mem_of_getElem? (i := 433) (by decide +kernel), List.mem_of_getElem? (i := 434) (by decide +kernel)⟩
theorem lw_p21 : lw_okq (⟨"TruckLoads$Axles", "bear", "(II)Z"⟩, 4) := ⟨⟨by decide +kernel, by decide +kernel⟩, List.mem_of_getElem? (i := 42) (by decide +kernel), List.mem_of_getElem? (i := 438) (by decide +kernel), List.mem_of_getElem? (i := 439) (by decide +kernel)⟩
theorem lw_p22 : lw_okq (⟨"TruckLoads$Axles", "span", "()I"⟩, 4) := ⟨⟨by decide +kernel, by decide +kernel⟩, List.mem_of_getElem? (i := 42) (by decide +kernel), List.mem_of_getElem? (i := 442) (by decide +kernel), List.mem_of_getElem? (i := 443) (by decide +kernel)⟩
theorem lw_p23 : lw_okq (⟨"TruckLoads$Search", "keep", "(LTruckLoads$Load;)V"⟩, 3) := ⟨⟨by decide +kernel, by decide +kernel⟩, List.mem_of_getElem? (i := 126) (by decide +kernel), List.mem_of_getElem? (i := 446) (by decide +kernel), List.mem_of_getElem? (i := 447) (by decide +kernel)⟩
theorem lw_p24 : lw_okq (⟨"TruckLoads$Search", "tryIn", "(LTruckLoads$Load;II)V"⟩, 3) := ⟨⟨by decide +kernel, by decide +kernel⟩, List.mem_of_getElem? (i := 126) (by decide +kernel), List.mem_of_getElem? (i := 450) (by decide +kernel), List.mem_of_getElem? (i := 451) (by decide +kernel)⟩
theorem lw_p25 : lw_okq (⟨"TruckLoads$Load", "firstBarButAxles", "(LTruckLoads$Pallet;I)I"⟩, 6) := ⟨⟨by decide +kernel, by decide +kernel⟩, List.mem_of_getElem? (i := 28) (by decide +kernel), List.mem_of_getElem? (i := 454) (by decide +kernel), List.mem_of_getElem? (i := 455) (by decide +kernel)⟩
theorem lw_p26 : lw_okq (⟨"TruckLoads$Load", "othersBar", "(LTruckLoads$Pallet;I)Z"⟩, 6) := ⟨⟨by decide +kernel, by decide +kernel⟩, List.mem_of_getElem? (i := 28) (by decide +kernel), List.mem_of_getElem? (i := 458) (by decide +kernel), List.mem_of_getElem? (i := 459) (by decide +kernel)⟩
theorem lw_p27 : lw_okq (⟨"TruckLoads$Load", "dangerBars", "(LTruckLoads$Pallet;I)Z"⟩, 6) := ⟨⟨by decide +kernel, by decide +kernel⟩, List.mem_of_getElem? (i := 28) (by decide +kernel), List.mem_of_getElem? (i := 463) (by decide +kernel), List.mem_of_getElem? (i := 464) (by decide +kernel)⟩
theorem lw_p28 : lw_okq (⟨"TruckLoads$Load", "stopsBar", "(LTruckLoads$Pallet;II)Z"⟩, 6) := ⟨⟨by decide +kernel, by decide +kernel⟩, List.mem_of_getElem? (i := 28) (by decide +kernel), List.mem_of_getElem? (i := 470) (by decide +kernel), List.mem_of_getElem? (i := 471) (by decide +kernel)⟩
theorem lw_p29 : lw_okq (⟨"TruckLoads$Load", "placeByRule", "()V"⟩, 6) := ⟨⟨by decide +kernel, by decide +kernel⟩, List.mem_of_getElem? (i := 28) (by decide +kernel), List.mem_of_getElem? (i := 474) (by decide +kernel), List.mem_of_getElem? (i := 475) (by decide +kernel)⟩
theorem lw_p30 : lw_okq (⟨"TruckLoads$Load", "placeFrom", "(ILTruckLoads$Pallet;)I"⟩, 6) := ⟨⟨by decide +kernel, by decide +kernel⟩, List.mem_of_getElem? (i := 28) (by decide +kernel), List.mem_of_getElem? (i := 479) (by decide +kernel), List.mem_of_getElem? (i := 480) (by decide +kernel)⟩
theorem lw_p31 : lw_okq (⟨"TruckLoads", "knownPallet", "(I)LTruckLoads$Pallet;"⟩, 5) := ⟨⟨by decide +kernel, by decide +kernel⟩, List.mem_of_getElem? (i := 20) (by decide +kernel), List.mem_of_getElem? (i := 492) (by decide +kernel), List.mem_of_getElem? (i := 493) (by decide +kernel)⟩
def lw_privs_2 : List (MethodName × Nat) := [(⟨"TruckLoads$Search", "tryFrom", "(LTruckLoads$Load;I)V"⟩, 3), (⟨"TruckLoads$Search", "isHopeless", "(LTruckLoads$Load;I)Z"⟩, 3), (⟨"TruckLoads$Load", "weight", "()I"⟩, 6), (⟨"TruckLoads$Axles", "share", "(III)I"⟩, 4), (⟨"TruckLoads$Load", "onAxle", "(I)I"⟩, 6), (⟨"TruckLoads$Axles", "bear", "(II)Z"⟩, 4), (⟨"TruckLoads$Axles", "span", "()I"⟩, 4), (⟨"TruckLoads$Search", "keep", "(LTruckLoads$Load;)V"⟩, 3), (⟨"TruckLoads$Search", "tryIn", "(LTruckLoads$Load;II)V"⟩, 3), (⟨"TruckLoads$Load", "firstBarButAxles", "(LTruckLoads$Pallet;I)I"⟩, 6), (⟨"TruckLoads$Load", "othersBar", "(LTruckLoads$Pallet;I)Z"⟩, 6), (⟨"TruckLoads$Load", "dangerBars", "(LTruckLoads$Pallet;I)Z"⟩, 6), (⟨"TruckLoads$Load", "stopsBar", "(LTruckLoads$Pallet;II)Z"⟩, 6), (⟨"TruckLoads$Load", "placeByRule", "()V"⟩, 6), (⟨"TruckLoads$Load", "placeFrom", "(ILTruckLoads$Pallet;)I"⟩, 6), (⟨"TruckLoads", "knownPallet", "(I)LTruckLoads$Pallet;"⟩, 5)]
theorem lw_r2 : ∀ q ∈ lw_privs_2, lw_okq q := List.forall_mem_cons.mpr ⟨lw_p16, List.forall_mem_cons.mpr ⟨lw_p17, List.forall_mem_cons.mpr ⟨lw_p18, List.forall_mem_cons.mpr ⟨lw_p19, List.forall_mem_cons.mpr ⟨lw_p20, List.forall_mem_cons.mpr ⟨lw_p21, List.forall_mem_cons.mpr ⟨lw_p22, List.forall_mem_cons.mpr ⟨lw_p23, List.forall_mem_cons.mpr ⟨lw_p24, List.forall_mem_cons.mpr ⟨lw_p25, List.forall_mem_cons.mpr ⟨lw_p26, List.forall_mem_cons.mpr ⟨lw_p27, List.forall_mem_cons.mpr ⟨lw_p28, List.forall_mem_cons.mpr ⟨lw_p29, List.forall_mem_cons.mpr ⟨lw_p30, List.forall_mem_cons.mpr ⟨lw_p31, fun _ h => absurd h List.not_mem_nil⟩⟩⟩⟩⟩⟩⟩⟩⟩⟩⟩⟩⟩⟩⟩⟩
theorem lw_p32 : lw_okq (⟨"TruckLoads$Load", "firstBar", "(LTruckLoads$Pallet;I)I"⟩, 6) := ⟨⟨by decide +kernel, by decide +kernel⟩, List.mem_of_getElem? (i := 28) (by decide +kernel), List.mem_of_getElem? (i := 513) (by decide +kernel), List.mem_of_getElem? (i := 514) (by decide +kernel)⟩
theorem lw_p33 : lw_okq (⟨"TruckLoads$Load", "axlesBar", "(LTruckLoads$Pallet;I)Z"⟩, 6) := ⟨⟨by decide +kernel, by decide +kernel⟩, List.mem_of_getElem? (i := 28) (by decide +kernel), List.mem_of_getElem? (i := 517) (by decide +kernel), List.mem_of_getElem? (i := 518) (by decide +kernel)⟩
theorem lw_p34 : lw_okq (⟨"TruckLoads$Load", "barFromAllCells", "(LTruckLoads$Pallet;)I"⟩, 6) := ⟨⟨by decide +kernel, by decide +kernel⟩, List.mem_of_getElem? (i := 28) (by decide +kernel), List.mem_of_getElem? (i := 568) (by decide +kernel), List.mem_of_getElem? (i := 569) (by decide +kernel)⟩
theorem lw_p35 : lw_okq (⟨"TruckLoads$Seals", "wasOn", "(I)Z"⟩, 3) := ⟨⟨by decide +kernel, by decide +kernel⟩, List.mem_of_getElem? (i := 142) (by decide +kernel), List.mem_of_getElem? (i := 597) (by decide +kernel), List.mem_of_getElem? (i := 598) (by decide +kernel)⟩
theorem lw_p36 : lw_okq (⟨"TruckLoads$Seals", "putOn", "(I)V"⟩, 3) := ⟨⟨by decide +kernel, by decide +kernel⟩, List.mem_of_getElem? (i := 142) (by decide +kernel), List.mem_of_getElem? (i := 601) (by decide +kernel), List.mem_of_getElem? (i := 602) (by decide +kernel)⟩
theorem lw_p37 : lw_okq (⟨"TruckLoads$Seals", "takeOff", "()I"⟩, 3) := ⟨⟨by decide +kernel, by decide +kernel⟩, List.mem_of_getElem? (i := 142) (by decide +kernel), List.mem_of_getElem? (i := 613) (by decide +kernel), List.mem_of_getElem? (i := 614) (by decide +kernel)⟩
theorem lw_p38 : lw_okq (⟨"TruckLoads$Load", "fromDoors", "(II)I"⟩, 6) := ⟨⟨by decide +kernel, by decide +kernel⟩, List.mem_of_getElem? (i := 28) (by decide +kernel), List.mem_of_getElem? (i := 625) (by decide +kernel), List.mem_of_getElem? (i := 626) (by decide +kernel)⟩
theorem lw_p39 : lw_okq (⟨"TruckLoads$Load", "standingFor", "(II)I"⟩, 6) := ⟨⟨by decide +kernel, by decide +kernel⟩, List.mem_of_getElem? (i := 28) (by decide +kernel), List.mem_of_getElem? (i := 629) (by decide +kernel), List.mem_of_getElem? (i := 630) (by decide +kernel)⟩
theorem lw_p40 : lw_okq (⟨"TruckLoadsModel", "standsAt", "(I)I"⟩, 21) := ⟨⟨by decide +kernel, by decide +kernel⟩, List.mem_of_getElem? (i := 641) (by decide +kernel), List.mem_of_getElem? (i := 722) (by decide +kernel), List.mem_of_getElem? (i := 723) (by decide +kernel)⟩
theorem lw_p41 : lw_okq (⟨"TruckLoadsModel", "solveExactly", "()V"⟩, 21) := ⟨⟨by decide +kernel, by decide +kernel⟩, List.mem_of_getElem? (i := 641) (by decide +kernel), List.mem_of_getElem? (i := 738) (by decide +kernel), List.mem_of_getElem? (i := 739) (by decide +kernel)⟩
theorem lw_p42 : lw_okq (⟨"TruckLoadsModel", "nextPlace", "(I)I"⟩, 21) := ⟨⟨by decide +kernel, by decide +kernel⟩, List.mem_of_getElem? (i := 641) (by decide +kernel), List.mem_of_getElem? (i := 742) (by decide +kernel), List.mem_of_getElem? (i := 743) (by decide +kernel)⟩
theorem lw_p43 : lw_okq (⟨"TruckLoadsModel", "fits", "(I)Z"⟩, 21) := ⟨⟨by decide +kernel, by decide +kernel⟩, List.mem_of_getElem? (i := 641) (by decide +kernel), List.mem_of_getElem? (i := 746) (by decide +kernel), List.mem_of_getElem? (i := 747) (by decide +kernel)⟩
theorem lw_p44 : lw_okq (⟨"TruckLoadsModel", "keepsOff", "(III)Z"⟩, 21) := ⟨⟨by decide +kernel, by decide +kernel⟩, List.mem_of_getElem? (i := 641) (by decide +kernel), List.mem_of_getElem? (i := 750) (by decide +kernel), List.mem_of_getElem? (i := 751) (by decide +kernel)⟩
theorem lw_p45 : lw_okq (⟨"TruckLoadsModel", "standing", "()I"⟩, 21) := ⟨⟨by decide +kernel, by decide +kernel⟩, List.mem_of_getElem? (i := 641) (by decide +kernel), List.mem_of_getElem? (i := 754) (by decide +kernel), List.mem_of_getElem? (i := 755) (by decide +kernel)⟩
theorem lw_p46 : lw_okq (⟨"TruckLoadsModel", "standingWeight", "()I"⟩, 21) := ⟨⟨by decide +kernel, by decide +kernel⟩, List.mem_of_getElem? (i := 641) (by decide +kernel), List.mem_of_getElem? (i := 758) (by decide +kernel), List.mem_of_getElem? (i := 759) (by decide +kernel)⟩
theorem lw_p47 : lw_okq (⟨"TruckLoadsModel", "axlesBear", "()Z"⟩, 21) := ⟨⟨by decide +kernel, by decide +kernel⟩, List.mem_of_getElem? (i := 641) (by decide +kernel), List.mem_of_getElem? (i := 762) (by decide +kernel), List.mem_of_getElem? (i := 763) (by decide +kernel)⟩
def lw_privs_3 : List (MethodName × Nat) := [(⟨"TruckLoads$Load", "firstBar", "(LTruckLoads$Pallet;I)I"⟩, 6), (⟨"TruckLoads$Load", "axlesBar", "(LTruckLoads$Pallet;I)Z"⟩, 6), (⟨"TruckLoads$Load", "barFromAllCells", "(LTruckLoads$Pallet;)I"⟩, 6), (⟨"TruckLoads$Seals", "wasOn", "(I)Z"⟩, 3), (⟨"TruckLoads$Seals", "putOn", "(I)V"⟩, 3), (⟨"TruckLoads$Seals", "takeOff", "()I"⟩, 3), (⟨"TruckLoads$Load", "fromDoors", "(II)I"⟩, 6), (⟨"TruckLoads$Load", "standingFor", "(II)I"⟩, 6), (⟨"TruckLoadsModel", "standsAt", "(I)I"⟩, 21), (⟨"TruckLoadsModel", "solveExactly", "()V"⟩, 21), (⟨"TruckLoadsModel", "nextPlace", "(I)I"⟩, 21), (⟨"TruckLoadsModel", "fits", "(I)Z"⟩, 21), (⟨"TruckLoadsModel", "keepsOff", "(III)Z"⟩, 21), (⟨"TruckLoadsModel", "standing", "()I"⟩, 21), (⟨"TruckLoadsModel", "standingWeight", "()I"⟩, 21), (⟨"TruckLoadsModel", "axlesBear", "()Z"⟩, 21)]
theorem lw_r3 : ∀ q ∈ lw_privs_3, lw_okq q := List.forall_mem_cons.mpr ⟨lw_p32, List.forall_mem_cons.mpr ⟨lw_p33, List.forall_mem_cons.mpr ⟨lw_p34, List.forall_mem_cons.mpr ⟨lw_p35, List.forall_mem_cons.mpr ⟨lw_p36, List.forall_mem_cons.mpr ⟨lw_p37, List.forall_mem_cons.mpr ⟨lw_p38, List.forall_mem_cons.mpr ⟨lw_p39, List.forall_mem_cons.mpr ⟨lw_p40, List.forall_mem_cons.mpr ⟨lw_p41, List.forall_mem_cons.mpr ⟨lw_p42, List.forall_mem_cons.mpr ⟨lw_p43, List.forall_mem_cons.mpr ⟨lw_p44, List.forall_mem_cons.mpr ⟨lw_p45, List.forall_mem_cons.mpr ⟨lw_p46, List.forall_mem_cons.mpr ⟨lw_p47, fun _ h => absurd h List.not_mem_nil⟩⟩⟩⟩⟩⟩⟩⟩⟩⟩⟩⟩⟩⟩⟩⟩
theorem lw_p48 : lw_okq (⟨"TruckLoadsModel", "load", "(I)I"⟩, 21) := ⟨⟨by decide +kernel, by decide +kernel⟩, List.mem_of_getElem? (i := 641) (by decide +kernel), List.mem_of_getElem? (i := 766) (by decide +kernel), List.mem_of_getElem? (i := 767) (by decide +kernel)⟩
theorem lw_p49 : lw_okq (⟨"TruckLoadsModel", "solveByRule", "()V"⟩, 21) := ⟨⟨by decide +kernel, by decide +kernel⟩, List.mem_of_getElem? (i := 641) (by decide +kernel), List.mem_of_getElem? (i := 770) (by decide +kernel), List.mem_of_getElem? (i := 771) (by decide +kernel)⟩
theorem lw_p50 : lw_okq (⟨"TruckLoadsModel", "isPallet", "(I)Z"⟩, 21) := ⟨⟨by decide +kernel, by decide +kernel⟩, List.mem_of_getElem? (i := 641) (by decide +kernel), List.mem_of_getElem? (i := 786) (by decide +kernel), List.mem_of_getElem? (i := 787) (by decide +kernel)⟩
theorem lw_p51 : lw_okq (⟨"TruckLoadsModel", "bars", "(II)I"⟩, 21) := ⟨⟨by decide +kernel, by decide +kernel⟩, List.mem_of_getElem? (i := 641) (by decide +kernel), List.mem_of_getElem? (i := 790) (by decide +kernel), List.mem_of_getElem? (i := 791) (by decide +kernel)⟩
theorem lw_p52 : lw_okq (⟨"TruckLoadsModel", "axlesBearAt", "(II)Z"⟩, 21) := ⟨⟨by decide +kernel, by decide +kernel⟩, List.mem_of_getElem? (i := 641) (by decide +kernel), List.mem_of_getElem? (i := 794) (by decide +kernel), List.mem_of_getElem? (i := 795) (by decide +kernel)⟩
theorem lw_p53 : lw_okq (⟨"TruckLoadsModel", "isLeft", "(III)Z"⟩, 21) := ⟨⟨by decide +kernel, by decide +kernel⟩, List.mem_of_getElem? (i := 641) (by decide +kernel), List.mem_of_getElem? (i := 813) (by decide +kernel), List.mem_of_getElem? (i := 814) (by decide +kernel)⟩
def lw_privs_4 : List (MethodName × Nat) := [(⟨"TruckLoadsModel", "load", "(I)I"⟩, 21), (⟨"TruckLoadsModel", "solveByRule", "()V"⟩, 21), (⟨"TruckLoadsModel", "isPallet", "(I)Z"⟩, 21), (⟨"TruckLoadsModel", "bars", "(II)I"⟩, 21), (⟨"TruckLoadsModel", "axlesBearAt", "(II)Z"⟩, 21), (⟨"TruckLoadsModel", "isLeft", "(III)Z"⟩, 21)]
theorem lw_r4 : ∀ q ∈ lw_privs_4, lw_okq q := List.forall_mem_cons.mpr ⟨lw_p48, List.forall_mem_cons.mpr ⟨lw_p49, List.forall_mem_cons.mpr ⟨lw_p50, List.forall_mem_cons.mpr ⟨lw_p51, List.forall_mem_cons.mpr ⟨lw_p52, List.forall_mem_cons.mpr ⟨lw_p53, fun _ h => absurd h List.not_mem_nil⟩⟩⟩⟩⟩⟩
def lw_privs : List (MethodName × Nat) := lw_privs_1 ++ (lw_privs_2 ++ (lw_privs_3 ++ (lw_privs_4)))
def lw_tbl : List Cond := k2_sels lw_privs ++ tables_1
theorem lw_privs_ok : ∀ q ∈ lw_privs, lw_okq q := by
  show ∀ q ∈ lw_privs_1 ++ (lw_privs_2 ++ (lw_privs_3 ++ (lw_privs_4))), lw_okq q
  exact List.forall_mem_append.mpr ⟨lw_r1, List.forall_mem_append.mpr ⟨lw_r2, List.forall_mem_append.mpr ⟨lw_r3, lw_r4⟩⟩⟩
end
section
/-- where a method has thrown q: the class by its name, the cell, what was written, the world -/
def vx_T (XC : String → State → State → Prop) (st : State) (q : Addr) (t : State) (mc ms : Nat) (free : Addr → Prop) : Prop :=
  ∃ (E : String) (ce : Cell) (L : List Loc), XC E st t ∧ t.heap[q]? = some ce ∧ ce.vm = .none ∧ st.vm.findClass E = some ce.cls ∧ st.WarmedH t.vm ∧ st.sameButNew ({ t with vm := st.vm } : State) L mc ms ∧ ∀ z ∈ L, free z.base
def vx_Q (Qc : Array Value → State → Outcome → State → Prop) (XC : String → State → State → Prop) (mc ms : Nat) (free : Addr → Prop) : Array Value → State → Outcome → State → Prop := fun a st o t =>
  (Qc a st o t ∧ ∃ L, FrameEnd st o t L mc ms ∧ ∀ q ∈ L, free q.base) ∨ ∃ q, o = .threw q ∧ vx_T XC st q t mc ms free
theorem vx_cls {s : State} {T : State} {vm₁ : Vm} {E : String} {k : ClassId} (hW : s.WarmedH vm₁) (h : (T.setVm vm₁).vm.findClass E = some k) : s.vm.findClass E = some k := by
  have h1 : vm₁.findClass E = some k := h
  rw [hW.alike.findClass] at h1
  exact h1
/-- the method's frame g, with q thrown over it -/
def vx_W (p : Program) (l : Launch) (e : Env) (R : Room) (s : State) (m : MethodId) (args : Array Value) (below : List Frame) (meth : Method) (c : Code) (H : Heap) (locs : List Loc) (cells slots : Nat) (Q : State → Prop) (g : JFrame) (q : Addr) : Prop :=
  ∀ T : State, T.heap = H → Stand p l e R s m args below meth c T locs cells slots → ∃ t, Steps p.tables e below ((T.setTop g).pushFrame (.throwing q)) t ∧ Q t
section Rows
variable {p : Program} {l : Launch} {e : Env} {R : Room} {s : State} {m : MethodId} {args : Array Value} {below : List Frame} {meth : Method} {c : Code} {H : Heap} {locs : List Loc} {cells slots : Nat} {Q : State → Prop}
variable {mc ms : Nat} {free : Addr → Prop} {A0 A1 : Nat → Prop} {H0 : Heap} {a : Array Value} {pc : Nat} {ls : Array Slot} {st0 rest : List Value}
end Rows
section Ends
variable {p : Program} {l : Launch} {e : Env} {R : Room} {s : State} {m : MethodId} {args : Array Value} {below : List Frame} {meth : Method} {c : Code} {H : Heap} {locs : List Loc} {cells slots : Nat} {Q : State → Prop}
variable {mc ms : Nat} {free : Addr → Prop} {A0 A1 : Nat → Prop} {H0 : Heap} {a : Array Value} {ls : Array Slot} {st0 rest : List Value}
variable {Qc : Array Value → State → Outcome → State → Prop} {XC : String → State → State → Prop}
/-- what a body that may throw owes at its end -/
def vx_MQ (below : List Frame) (Qc : Array Value → State → Outcome → State → Prop) (XC : String → State → State → Prop) (a : Array Value) (s : State) (mc ms : Nat) (free : Addr → Prop) : State → Prop := fun t =>
  ∃ o, t.status = .running ∧ Ended t below o ∧ vx_Q Qc XC mc ms free a s o t
/-- not caught here: it goes on to the caller -/
theorem vx_widen {g : JFrame} {q : Addr} {k n : Nat} (h1 : cells ≤ k) (h2 : slots ≤ n) (kk : vx_W p l e R s m args below meth c H locs k n Q g q) : vx_W p l e R s m args below meth c H locs cells slots Q g q := fun T hT X => kk T hT (stand_widen X h1 h2)
theorem vx_frame {U : State} {k n : Nat} (h : s.sameButNew ({ U with vm := s.vm } : State) locs k n) : s.heap.size ≤ U.heap.size ∧ ∀ q : Nat, q < s.heap.size → (∀ z ∈ locs, z.base ≠ q) → U.heap[q]? = s.heap[q]? := by
  obtain ⟨-, h2, -, -, -, h6⟩ := h
  refine ⟨h2, fun q hq hz => ?_⟩
  obtain ⟨c9, e1, e2, e3, e4⟩ := h6 q _ (Array.getElem?_eq_getElem hq)
  have hs : c9.slots = (s.heap[q]).slots := Array.ext_getElem? fun i => e4 i fun hm => hz _ hm rfl
  have h9 : c9 = s.heap[q] := by
    rw [hs] at e2
    exact e2
  have e5 : U.heap[q]? = some c9 := e1
  rw [e5, h9, Array.getElem?_eq_getElem hq]
/-- the words of a throw but the four that speak of the heap -/
def vx_no (w : Cond) : Bool := decide (w ≠ .isRef (.static Bundle.tN "UNASSIGNED_STACK" Bundle.steD)) && decide (w ≠ .isRef (.static Bundle.tN "SUPPRESSED_SENTINEL" Bundle.listD)) && decide (w ≠ .laysStatic Bundle.tN "UNASSIGNED_STACK" Bundle.steD) && decide (w ≠ .laysStatic Bundle.tN "SUPPRESSED_SENTINEL" Bundle.listD)
def vx_atS (own : String) (ic : Nat) (X : String) (names : List String) : List Cond := (Bundle.ownAtoms own ic X names).filter vx_no
/-- a word that the tables alone decide, or a good one -/
def vx_ot (w : Cond) : Bool := w.onTables || goodWord w
theorem vx_ot_at {args a' : Array Value} {s U : State} {w : Cond} (hW : s.WarmedH U.vm) (hvm : s.vm = U.vm) (hg : vx_ot w = true) (h : w.before args s = true) : w.before a' U = true := by
  simp only [vx_ot, Bool.or_eq_true] at hg
  rcases hg with hg | hg
  · exact va_tabs hg hvm h
  · exact word_at hW (good_of_word hg) h
/-- a list's words: the good ones out of the method's own list, the others by premises of their own -/
theorem vx_hat {args : Array Value} {s : State} {L B : List Cond} (h1 : ∀ w ∈ L.filter goodWord, w.before args s = true) (h2 : ∀ w ∈ L.filter (fun w => !goodWord w), w ∈ B) (h3 : ∀ w ∈ B, w.before args s = true) : ∀ w ∈ L, w.before args s = true := by
  intro w hw
  by_cases g : goodWord w = true
  · exact h1 w (List.mem_filter.mpr ⟨hw, g⟩)
  · refine h3 w (h2 w (List.mem_filter.mpr ⟨hw, ?_⟩))
    show (!goodWord w) = true
    cases hgw : goodWord w
    · rfl
    · exact absurd hgw g
theorem vx_c {args : Array Value} {s : State} {w : Cond} {B : List Cond} (h : w.before args s = true) (t : ∀ w ∈ B, w.before args s = true) : ∀ w' ∈ w :: B, w'.before args s = true := fun w' h' => (List.mem_cons.mp h').elim (fun e => by rw [e]; exact h) (t w')
theorem vx_n {args : Array Value} {s : State} : ∀ w ∈ ([] : List Cond), w.before args s = true := fun _ h => nomatch h
theorem vx_own {args : Array Value} {s : State} {L : List Cond} (h1 : ∀ w ∈ L.filter vx_no, w.before args s = true)
    (hU : (Cond.isRef (.static Bundle.tN "UNASSIGNED_STACK" Bundle.steD)).before args s = true) (hN : (Cond.isRef (.static Bundle.tN "SUPPRESSED_SENTINEL" Bundle.listD)).before args s = true)
    (lU : (Cond.laysStatic Bundle.tN "UNASSIGNED_STACK" Bundle.steD).before args s = true) (lN : (Cond.laysStatic Bundle.tN "SUPPRESSED_SENTINEL" Bundle.listD).before args s = true) : ∀ w ∈ L, w.before args s = true := by
  intro w hw
  by_cases e1 : w = .isRef (.static Bundle.tN "UNASSIGNED_STACK" Bundle.steD)
  · rw [e1]; exact hU
  · by_cases e2 : w = .isRef (.static Bundle.tN "SUPPRESSED_SENTINEL" Bundle.listD)
    · rw [e2]; exact hN
    · by_cases e3 : w = .laysStatic Bundle.tN "UNASSIGNED_STACK" Bundle.steD
      · rw [e3]; exact lU
      · by_cases e4 : w = .laysStatic Bundle.tN "SUPPRESSED_SENTINEL" Bundle.listD
        · rw [e4]; exact lN
        · exact h1 w (List.mem_filter.mpr ⟨hw, by unfold vx_no; rw [decide_eq_true e1, decide_eq_true e2, decide_eq_true e3, decide_eq_true e4]; rfl⟩)
/-- where a static field lies, its class's statics cell in H -/
def vx_L (C n d : String) (A : Nat → Prop) (U : State) (H : Heap) : Prop := ∃ (c : ClassId) (k : Class) (i : Nat) (f : Field) (a : Nat) (cell : Cell), U.vm.findClass C = some c ∧ U.fieldFound? C n d = some (c, k, i, f) ∧ f.isStatic = true ∧ k.statics = some a ∧ H[a]? = some cell ∧ cell.vm.isStatics = true ∧ cell.cls = c ∧ f.slot < cell.slots.size ∧ k.staticTypes[f.slot]? = some f.type ∧ ¬ A a
theorem vx_L.moved {C n d : String} {A : Nat → Prop} {u U : State} {H : Heap} (hvm : u.vm.Alike U.vm) (h : vx_L C n d A u H) : vx_L C n d A U H := by
  obtain ⟨c, k, i, f, a, cell, h1, h2, h3, h4, h5, h6, h7, h8, h9, h10⟩ := h
  obtain ⟨k', hi', he⟩ := State.fieldFound?_setVm hvm h2
  exact ⟨c, k', i, f, a, cell, by rw [hvm.findClass]; exact h1, hi', h3, by rw [he]; exact h4, h5, h6, h7, h8, by rw [he]; exact h9, h10⟩
theorem vx_L.kept {C n d : String} {A : Nat → Prop} {U : State} {H H1 : Heap} (h : vx_L C n d A U H) (hq : ∀ a : Nat, a < H.size → ¬ A a → H1[a]? = H[a]?) : vx_L C n d A U H1 := by
  obtain ⟨c, k, i, f, a, cell, h1, h2, h3, h4, h5, h6, h7, h8, h9, h10⟩ := h
  exact ⟨c, k, i, f, a, cell, h1, h2, h3, h4, by rw [hq a (Array.getElem?_eq_some_iff.mp h5).1 h10]; exact h5, h6, h7, h8, h9, h10⟩
theorem vx_L.narrow {C n d : String} {A B : Nat → Prop} {U : State} {H : Heap} (h : vx_L C n d A U H) (hAB : ∀ q, B q → A q) : vx_L C n d B U H := by
  obtain ⟨c, k, i, f, a, cell, h1, h2, h3, h4, h5, h6, h7, h8, h9, h10⟩ := h
  exact ⟨c, k, i, f, a, cell, h1, h2, h3, h4, h5, h6, h7, h8, h9, fun z => h10 (hAB _ z)⟩
theorem vx_L.word {C n d : String} {A : Nat → Prop} {s : State} {args : Array Value} (h : vx_L C n d A s s.heap) : (Cond.laysStatic C n d).before args s = true := by
  obtain ⟨c, k, i, f, a, cell, h1, h2, h3, h4, h5, h6, h7, h8, h9, -⟩ := h
  show (Cond.laysStatic C n d).holds args s none s [] = true
  exact Cond.laysStatic_of h1 h2 h3 h4 h5 h6 h7 h8 h9
/-- .. and what it holds: null or some reference -/
def vx_Zq (C n d : String) (A : Nat → Prop) (U : State) (H : Heap) : Prop := va_Zq C n d A U H ∧ vx_L C n d A U H
theorem vx_Zq.moved {C n d : String} {A : Nat → Prop} {u U : State} {H : Heap} (hvm : u.vm.Alike U.vm) (h : vx_Zq C n d A u H) : vx_Zq C n d A U H := ⟨va_Zq.moved hvm h.1, vx_L.moved hvm h.2⟩
theorem vx_Zq.kept {C n d : String} {A : Nat → Prop} {U : State} {H H1 : Heap} (h : vx_Zq C n d A U H) (hq : ∀ a : Nat, a < H.size → ¬ A a → H1[a]? = H[a]?) : vx_Zq C n d A U H1 := ⟨va_Zq.kept h.1 hq, vx_L.kept h.2 hq⟩
theorem vx_Zq.narrow {C n d : String} {A B : Nat → Prop} {U : State} {H : Heap} (h : vx_Zq C n d A U H) (hAB : ∀ q, B q → A q) : vx_Zq C n d B U H := ⟨va_Zq.narrow h.1 hAB, vx_L.narrow h.2 hAB⟩
theorem vx_Zqof {args : Array Value} {s : State} {C n d : String} {A : Nat → Prop} (hl : (Cond.laysStatic C n d).before args s = true) (hini : (Cond.initialized C).before args s = true) (h : (Cond.isRef (.static C n d)).before args s = true) (hA : ∀ a : Nat, a < s.heap.size → ¬ A a) : vx_Zq C n d A s s.heap := by
  refine ⟨va_Zqof hl hini h hA, ?_⟩
  obtain ⟨c, k, i, f, a, cell, h1, h2, h3, h4, h5, h6, h7, h8, h9⟩ := Cond.laysStatic_spec hl
  exact ⟨c, k, i, f, a, cell, h1, h2, h3, h4, h5, h6, h7, h8, h9, hA a (Array.getElem?_eq_some_iff.mp h5).1⟩
theorem vx_isRef {C n d : String} {v : Value} {A : Nat → Prop} {s : State} {args : Array Value} (h : va_Z C n d v A s s.heap) (hv : v.isRef = true) : (Cond.isRef (.static C n d)).before args s = true := by
  obtain ⟨cf, kf, fi, f, a, cell, h1, h2, h3, h4, h5, h6, h7, -⟩ := h
  have he : (Term.static C n d).eval args s none [] s = some v := by
    simp [Term.eval, State.fieldNamed?, h1, h2, h4, h5, h6, h7]
  simp only [Cond.before, Cond.holds, Cond.value, he]
  cases v <;> simp_all [Value.isRef]
theorem vx_isRefq {C n d : String} {A : Nat → Prop} {s : State} {args : Array Value} (h : va_Zq C n d A s s.heap) : (Cond.isRef (.static C n d)).before args s = true := by
  rcases h with h | ⟨t, h⟩
  · exact vx_isRef h rfl
  · exact vx_isRef h rfl
/-- the same frame, seen from here: as if the method were called anew in this heap -/
theorem vx_rebase {T : State} (X : Stand p l e R s m args below meth c T locs cells slots) {R' : Room} (hf : R'.frames ≤ R.frames) (hl : R'.locals ≤ R.locals) (hc : cells + R'.cells ≤ R.cells) (hs : slots + R'.slots ≤ R.slots) :
    Stand p l e R' ((T.setVm s.vm).setFrames (.invoking m args :: below)) m args below meth c T [] 0 0 := by
  have htop : (T.setVm s.vm).topJava?.isSome := X.here.top
  have hF : ((T.setVm s.vm).setFrames (.invoking m args :: below)).frames = .invoking m args :: below := State.frames_setFrames _ (State.cur_lt_of_top htop)
  obtain ⟨g₀, hg0⟩ := Option.isSome_iff_exists.mp htop
  obtain ⟨r, hr⟩ := State.topJava?_eq_some.mp hg0
  have hl9 : e.platform.stackLimits (T.setVm s.vm).me = e.platform.stackLimits s.me := X.limits
  have hb9 : (T.setVm s.vm).me.stackBytes = s.me.stackBytes := X.bytes
  refine ⟨X.admits, X.cas, X.clock, hF, ?_, X.hears, X.method, X.code, X.here, X.tail, X.warmed, ?_, ?_, ?_⟩
  · have h := X.room
    have hU : ((T.setVm s.vm).setFrames (.invoking m args :: below)).localsInUse = s.localsInUse := by
      rw [State.localsInUse_invoking hF (meth := meth) (c := c) X.method X.code, State.localsInUse_invoking X.frames X.method X.code]
    simp only [State.hasRoom, Bool.and_eq_true, decide_eq_true_eq] at h ⊢
    obtain ⟨⟨⟨⟨h1, h2, h3, h4, h5, h6⟩, h7⟩, h8⟩, h9⟩ := h
    rw [X.frames, List.length_cons] at h2 h3
    have q1 := X.heapSize
    have q2 := X.used
    simp only [hF, hU, List.length_cons, State.stackLimits_setFrames, State.stackBytes_setFrames, hl9, hb9]
    refine ⟨⟨⟨⟨by omega, by omega, by omega, by omega, by omega, h6⟩, ?_⟩, ?_⟩, X.book⟩
    · show T.heap.size + R'.cells ≤ e.platform.maxCells
      omega
    · show T.slotsUsed + R'.slots ≤ e.platform.maxSlots
      omega
  · rw [State.stackLimits_setFrames]; rfl
  · rw [State.stackBytes_setFrames]; rfl
  · refine ⟨?_, Nat.le_refl _, Nat.le_refl _, ?_, ?_, fun a c9 h9 => ⟨c9, h9, rfl, rfl, fun _ _ => rfl⟩⟩
    · obtain ⟨t, ht, -⟩ := State.frames_cons hr
      show T.setVm s.vm = { ((T.setVm s.vm).setFrames (.invoking m args :: below)).setFrames (T.setVm s.vm).frames with heap := T.heap, slotsUsed := T.slotsUsed }
      rw [State.setFrames_setFrames, State.setFrames_self ht]
      rfl
    · show T.slotsUsed = T.slotsUsed + ((T.heap.toList.drop T.heap.size).map (·.slots.size)).sum
      rw [List.drop_eq_nil_of_le (Nat.le_of_eq Array.length_toList)]
      rfl
    · show ((T.heap.toList.drop T.heap.size).map (·.slots.size)).sum ≤ 0
      rw [List.drop_eq_nil_of_le (Nat.le_of_eq Array.length_toList)]
      exact Nat.le_refl _
/-- 'throw new E("text")': new; dup; ldc; invokespecial; athrow -/
theorem vx_throwS {cc : ByteArray} {pc : Nat} (hexec : p.tables.exec = Jvm.exec) (hb : c.code = cc) (hl : l.stackTraces = false) {own cls text : String} {names : List String} {ik is ic mc ms sa : Nat} {A : Nat → Prop}
    (hown : s.vm.findClass own = some m.cls) (hcls : Bundle.fit cls = true) (hnames : ∀ n ∈ names, Bundle.fit n = true)
    (hk : (Cond.classLink own ik cls).before args s = true) (hini : (Cond.initialized cls).before args s = true) (hstr : vk_R own is text sa s) (hat : ∀ w ∈ vx_atS own ic cls names, w.before args s = true)
    (hgood : ∀ w ∈ Cond.classLink own ik cls :: Cond.initialized cls :: vx_atS own ic cls names, vx_ot w = true)
    (hU : vx_Zq Bundle.tN "UNASSIGNED_STACK" Bundle.steD A s s.heap) (hN : vx_Zq Bundle.tN "SUPPRESSED_SENTINEL" Bundle.listD A s s.heap) (hS : va_S A s.heap H locs) (hsize : ls.size = c.maxLocals)
    (d0 : decode cc pc = .ok (.new ik, 3)) (d3 : decode cc (pc + 3) = .ok (.dup, 1)) (d4 : decode cc (pc + 4) = .ok (.ldc is, 2)) (d6 : decode cc (pc + 6) = .ok (.invokespecial ic, 3)) (d9 : decode cc (pc + 9) = .ok (.athrow, 1))
    (hout : ∀ x ∈ c.exceptionTable.toList, covers x (pc + 9) = false)
    (hRframes : names.length + 3 < R.frames) (hRlocals : (rest.map fun v => v.category).sum + (13 * (names.length + 1) + 43) ≤ R.locals) (hRcells : cells + 1 ≤ R.cells) (hRslots : slots + 6 ≤ R.slots) (hlocks : meth.locks = false)
    (hx : ∀ t : State, s.vm.Alike t.vm → H.size ≤ t.heap.size → (∀ q : Nat, q < H.size → t.heap[q]? = H[q]?) → XC cls s t)
    (hf : ∀ z ∈ locs, free z.base) (hc : cells + 1 ≤ mc) (hs : slots + 6 ≤ ms) :
    W p l e R s m args below meth c H locs cells slots (vx_MQ below Qc XC args s mc ms free) (F0 m pc ls rest) := by
  intro T hT X
  have htr : e.platform.stackTraces = false := (show e.platform.stackTraces = l.stackTraces by rw [X.admits.platform]).trans hl
  have Y := vx_rebase X (R' := { frames := R.frames, locals := R.locals, cells := 1, slots := 6 }) (Nat.le_refl _) (Nat.le_refl _) hRcells hRslots
  obtain ⟨s', hA⟩ : ∃ z, z = (T.setVm s.vm).setFrames (.invoking m args :: below) := ⟨_, rfl⟩
  rw [← hA] at Y
  have hvm : s'.vm = s.vm := by rw [hA]; rfl
  have hhp : s'.heap = H := by rw [hA]; exact hT
  have hW0 : s.WarmedH s'.vm := by rw [hvm]; exact State.WarmedH.refl s
  have hat' : ∀ w ∈ vx_atS own ic cls names, w.before args s' = true := fun w hw => vx_ot_at hW0 hvm.symm (hgood w (List.mem_cons_of_mem _ (List.mem_cons_of_mem _ hw))) (hat w hw)
  have hk' : (Cond.classLink own ik cls).before args s' = true := vx_ot_at hW0 hvm.symm (hgood _ List.mem_cons_self) hk
  have hini' : (Cond.initialized cls).before args s' = true := vx_ot_at hW0 hvm.symm (hgood _ (List.mem_cons_of_mem _ List.mem_cons_self)) hini
  have hU' : vx_Zq Bundle.tN "UNASSIGNED_STACK" Bundle.steD A s' s'.heap := by rw [hhp]; exact vx_Zq.moved hW0.alike (hU.kept hS.2.1)
  have hN' : vx_Zq Bundle.tN "SUPPRESSED_SENTINEL" Bundle.listD A s' s'.heap := by rw [hhp]; exact vx_Zq.moved hW0.alike (hN.kept hS.2.1)
  have h : ∀ w ∈ Bundle.ownAtoms own ic cls names, w.before args s' = true := vx_own hat' (vx_isRefq hU'.1) (vx_isRefq hN'.1) hU'.2.word hN'.2.word
  have hown' : s'.vm.findClass own = some m.cls := by rw [hvm]; exact hown
  have hins : (Cond.instantiable cls 6).before args s' = true := h _ (by simp [Bundle.ownAtoms])
  obtain ⟨vm₁, cX, kX, hfX, hkX, -, -, X₁, st1⟩ := Y.newCold hexec (own := own) (C := cls) (index := ik) (n := 6) hown' hk' hins hini'
    (g := F0 m pc ls rest) rfl (by rw [hb]; exact d0) (Nat.le_refl _) (Nat.le_refl _)
  generalize hT1 : (T.setVm vm₁).pushCell { cls := cX, slots := kX.instanceTypes.map defaultValue, vm := .none } = T1 at X₁ st1
  have hcat : (Value.ref T.heap.size).category = 1 := rfl
  have hcellA : T1.heap[T.heap.size]? = some (freshCell cX kX) := by rw [← hT1]; exact State.heap_pushCell_size _ _
  have d3' : decode c.code (pc + 3) = .ok (.dup, 1) := by rw [hb]; exact d3
  have d4' : decode c.code (pc + 4) = .ok (.ldc is, 2) := by rw [hb]; exact d4
  have hstr' : vk_R own is text sa s' := vk_R.warm hW0 hstr
  obtain ⟨U, hsteps, hrun, hend, hW, hsame, ce, hce, hO⟩ := X₁.ctorThrowS hexec htr (own := own) (cls := cls) (names := names) (ic := ic) hown' hcls hnames h (fun x hx => nomatch hx) hfX hkX hcellA (by rw [hhp, hT]; exact Nat.le_refl _) (msg := .ref sa) rfl
    (g := { method := m, pc := pc + 6, locals := ls, stack := .ref sa :: .ref T.heap.size :: .ref T.heap.size :: rest, locked := none }) rfl hsize rfl rfl (rest := rest) rfl
    (by rw [hb]; exact d6) (by rw [hb]; exact d9) hout hRframes (by simp only [List.map_cons, List.sum_cons, hcat]; omega) hlocks
  obtain ⟨f1, f2⟩ := vx_frame hsame
  rw [hhp] at f1 f2
  have hWs : s.WarmedH U.vm := State.WarmedH.trans hW0 hW
  have hcl : s.vm.findClass cls = some ce.cls := by
    have h9 := hO.cls
    rw [hvm] at h9
    exact h9
  have hall : s.sameButNew ({ U with vm := s.vm } : State) locs mc ms := by
    subst hA
    obtain ⟨e1, e2⟩ := hsame
    rw [State.setFrames_setFrames] at e1
    have h2 : (T.setVm s.vm).sameButNew ({ U with vm := s.vm } : State) [] (0 + 1) (0 + 6) := ⟨e1, e2⟩
    have h3 := X.same.trans h2
    rw [List.append_nil] at h3
    exact h3.mono hc hs
  refine ⟨U, ?_, .threw T.heap.size, hrun, hend, Or.inr ⟨T.heap.size, rfl, cls, ce, locs, hx U hWs.alike f1 (fun q hq => f2 q hq (fun z hz => nomatch hz)), hce, hO.vm, hcl, hWs, hall, hf⟩⟩
  refine st1 _ ?_
  show Steps p.tables e below (T1.setTop { method := m, pc := pc + 3, locals := ls, stack := .ref T.heap.size :: rest, locked := none }) _
  jvm_step X₁.here [X₁.here.top, hexec, d3', Value.category]
  exact X₁.ldcString hexec (own := own) (text := text) (index := is) (a := sa) hown' hstr'.1 hstr'.2
    (g := { method := m, pc := pc + 4, locals := ls, stack := .ref T.heap.size :: .ref T.heap.size :: rest, locked := none }) rfl d4' _ hsteps
end Ends
end
section
def RX0 : String := "TruckLoads$Axles"
def TX0 : u_T := fun k => match k with
  | 0 => ("TruckLoads$Axles", "first", "I", false)
  | 1 => ("TruckLoads$Axles", "second", "I", false)
  | 2 => ("TruckLoads$Axles", "limit", "I", false)
  | _ => ("TruckLoads$Axles", "limit2", "I", false)
def tyX0 : Nat → FieldType := fun k => match k with
  | 0 => .int
  | 1 => .int
  | 2 => .int
  | _ => .int
theorem nmX0 : ∀ a, a < 4 → ∀ b, b < 4 → a ≠ b → (TX0 a).2.1 ≠ (TX0 b).2.1 := by decide +kernel
theorem tyX0_ok : ∀ k, k < 4 → parseFieldDescriptor (TX0 k).2.2.1 = some (tyX0 k) := by decide +kernel
abbrev cX0_init : ByteArray := prog_2_method_1_code
def yX0_init : MethodName := ⟨RX0, "<init>", "()V"⟩
abbrev cX0_set : ByteArray := prog_2_method_2_code
def yX0_set : MethodName := ⟨RX0, "set", "(IIII)V"⟩
abbrev cX0_span : ByteArray := prog_2_method_3_code
def yX0_span : MethodName := ⟨RX0, "span", "()I"⟩
abbrev cX0_share : ByteArray := prog_2_method_4_code
def yX0_share : MethodName := ⟨RX0, "share", "(III)I"⟩
abbrev cX0_bear : ByteArray := prog_2_method_5_code
def yX0_bear : MethodName := ⟨RX0, "bear", "(II)Z"⟩
def RX1 : String := "TruckLoads$Load"
def TX1 : u_T := fun k => match k with
  | 0 => ("TruckLoads$Load", "cells", "I", true)
  | 1 => ("TruckLoads$Load", "heights", "[I", true)
  | 2 => ("TruckLoads$Load", "colds", "[Z", true)
  | 3 => ("TruckLoads$Load", "row", "[LTruckLoads$Pallet;", true)
  | 4 => ("TruckLoads$Load", "axles", "LTruckLoads$Axles;", true)
  | _ => ("TruckLoads$Load", "pallets", "I", false)
def tyX1 : Nat → FieldType := fun k => match k with
  | 0 => .int
  | 1 => .array .int
  | 2 => .array .boolean
  | 3 => .array (.object "TruckLoads$Pallet")
  | 4 => .object "TruckLoads$Axles"
  | _ => .int
theorem nmX1 : ∀ a, a < 6 → ∀ b, b < 6 → a ≠ b → (TX1 a).2.1 ≠ (TX1 b).2.1 := by decide +kernel
theorem tyX1_ok : ∀ k, k < 6 → parseFieldDescriptor (TX1 k).2.2.1 = some (tyX1 k) := by decide +kernel
abbrev cX1_init : ByteArray := prog_3_method_1_code
def yX1_init : MethodName := ⟨RX1, "<init>", "(I)V"⟩
abbrev cX1_hasCell : ByteArray := prog_3_method_2_code
def yX1_hasCell : MethodName := ⟨RX1, "hasCell", "(I)Z"⟩
abbrev cX1_isTaken : ByteArray := prog_3_method_3_code
def yX1_isTaken : MethodName := ⟨RX1, "isTaken", "(I)Z"⟩
abbrev cX1_standing : ByteArray := prog_3_method_4_code
def yX1_standing : MethodName := ⟨RX1, "standing", "()I"⟩
abbrev cX1_weight : ByteArray := prog_3_method_5_code
def yX1_weight : MethodName := ⟨RX1, "weight", "()I"⟩
abbrev cX1_onAxle : ByteArray := prog_3_method_6_code
def yX1_onAxle : MethodName := ⟨RX1, "onAxle", "(I)I"⟩
abbrev cX1_palletsWithSomeCell : ByteArray := prog_3_method_7_code
def yX1_palletsWithSomeCell : MethodName := ⟨RX1, "palletsWithSomeCell", "()I"⟩
abbrev cX1_fitsSomeCell : ByteArray := prog_3_method_8_code
def yX1_fitsSomeCell : MethodName := ⟨RX1, "fitsSomeCell", "(LTruckLoads$Pallet;)Z"⟩
abbrev cX1_firstBar : ByteArray := prog_3_method_9_code
def yX1_firstBar : MethodName := ⟨RX1, "firstBar", "(LTruckLoads$Pallet;I)I"⟩
abbrev cX1_firstBarButAxles : ByteArray := prog_3_method_10_code
def yX1_firstBarButAxles : MethodName := ⟨RX1, "firstBarButAxles", "(LTruckLoads$Pallet;I)I"⟩
abbrev cX1_barFromAllCells : ByteArray := prog_3_method_11_code
def yX1_barFromAllCells : MethodName := ⟨RX1, "barFromAllCells", "(LTruckLoads$Pallet;)I"⟩
abbrev cX1_othersBar : ByteArray := prog_3_method_12_code
def yX1_othersBar : MethodName := ⟨RX1, "othersBar", "(LTruckLoads$Pallet;I)Z"⟩
abbrev cX1_heightBars : ByteArray := prog_3_method_13_code
def yX1_heightBars : MethodName := ⟨RX1, "heightBars", "(LTruckLoads$Pallet;I)Z"⟩
abbrev cX1_coldBars : ByteArray := prog_3_method_14_code
def yX1_coldBars : MethodName := ⟨RX1, "coldBars", "(LTruckLoads$Pallet;I)Z"⟩
abbrev cX1_dangerBars : ByteArray := prog_3_method_15_code
def yX1_dangerBars : MethodName := ⟨RX1, "dangerBars", "(LTruckLoads$Pallet;I)Z"⟩
abbrev cX1_stopsBar : ByteArray := prog_3_method_16_code
def yX1_stopsBar : MethodName := ⟨RX1, "stopsBar", "(LTruckLoads$Pallet;II)Z"⟩
abbrev cX1_axlesBar : ByteArray := prog_3_method_17_code
def yX1_axlesBar : MethodName := ⟨RX1, "axlesBar", "(LTruckLoads$Pallet;I)Z"⟩
abbrev cX1_takeAllOut : ByteArray := prog_3_method_18_code
def yX1_takeAllOut : MethodName := ⟨RX1, "takeAllOut", "()V"⟩
abbrev cX1_placeByRule : ByteArray := prog_3_method_19_code
def yX1_placeByRule : MethodName := ⟨RX1, "placeByRule", "()V"⟩
abbrev cX1_placeFrom : ByteArray := prog_3_method_20_code
def yX1_placeFrom : MethodName := ⟨RX1, "placeFrom", "(ILTruckLoads$Pallet;)I"⟩
abbrev cX1_fromDoors : ByteArray := prog_3_method_21_code
def yX1_fromDoors : MethodName := ⟨RX1, "fromDoors", "(II)I"⟩
abbrev cX1_standingFor : ByteArray := prog_3_method_22_code
def yX1_standingFor : MethodName := ⟨RX1, "standingFor", "(II)I"⟩
def RX2 : String := "TruckLoads$Pallet"
def TX2 : u_T := fun k => match k with
  | 0 => ("TruckLoads$Pallet", "weight", "I", false)
  | 1 => ("TruckLoads$Pallet", "cold", "Z", false)
  | 2 => ("TruckLoads$Pallet", "dangerous", "Z", false)
  | 3 => ("TruckLoads$Pallet", "stop", "I", false)
  | 4 => ("TruckLoads$Pallet", "height", "I", false)
  | _ => ("TruckLoads$Pallet", "cell", "I", false)
def tyX2 : Nat → FieldType := fun k => match k with
  | 0 => .int
  | 1 => .boolean
  | 2 => .boolean
  | 3 => .int
  | 4 => .int
  | _ => .int
theorem nmX2 : ∀ a, a < 6 → ∀ b, b < 6 → a ≠ b → (TX2 a).2.1 ≠ (TX2 b).2.1 := by decide +kernel
theorem tyX2_ok : ∀ k, k < 6 → parseFieldDescriptor (TX2 k).2.2.1 = some (tyX2 k) := by decide +kernel
abbrev cX2_init : ByteArray := prog_4_method_1_code
def yX2_init : MethodName := ⟨RX2, "<init>", "()V"⟩
abbrev cX2_set : ByteArray := prog_4_method_2_code
def yX2_set : MethodName := ⟨RX2, "set", "(IZZII)V"⟩
abbrev cX2_stands : ByteArray := prog_4_method_3_code
def yX2_stands : MethodName := ⟨RX2, "stands", "()Z"⟩
def RX3 : String := "TruckLoads$Seals"
def TX3 : u_T := fun k => match k with
  | 0 => ("TruckLoads$Seals", "numbers", "[I", true)
  | 1 => ("TruckLoads$Seals", "count", "I", false)
  | _ => ("TruckLoads$Seals", "current", "I", false)
def tyX3 : Nat → FieldType := fun k => match k with
  | 0 => .array .int
  | 1 => .int
  | _ => .int
theorem nmX3 : ∀ a, a < 3 → ∀ b, b < 3 → a ≠ b → (TX3 a).2.1 ≠ (TX3 b).2.1 := by decide +kernel
theorem tyX3_ok : ∀ k, k < 3 → parseFieldDescriptor (TX3 k).2.2.1 = some (tyX3 k) := by decide +kernel
abbrev cX3_init : ByteArray := prog_5_method_1_code
def yX3_init : MethodName := ⟨RX3, "<init>", "()V"⟩
abbrev cX3_isOn : ByteArray := prog_5_method_2_code
def yX3_isOn : MethodName := ⟨RX3, "isOn", "()Z"⟩
abbrev cX3_wasOn : ByteArray := prog_5_method_3_code
def yX3_wasOn : MethodName := ⟨RX3, "wasOn", "(I)Z"⟩
abbrev cX3_putOn : ByteArray := prog_5_method_4_code
def yX3_putOn : MethodName := ⟨RX3, "putOn", "(I)V"⟩
abbrev cX3_takeOff : ByteArray := prog_5_method_5_code
def yX3_takeOff : MethodName := ⟨RX3, "takeOff", "()I"⟩
def RX4 : String := "TruckLoads$Search"
def TX4 : u_T := fun k => match k with
  | 0 => ("TruckLoads$Search", "best", "[I", true)
  | 1 => ("TruckLoads$Search", "bestStanding", "I", false)
  | _ => ("TruckLoads$Search", "bestWeight", "I", false)
def tyX4 : Nat → FieldType := fun k => match k with
  | 0 => .array .int
  | 1 => .int
  | _ => .int
theorem nmX4 : ∀ a, a < 3 → ∀ b, b < 3 → a ≠ b → (TX4 a).2.1 ≠ (TX4 b).2.1 := by decide +kernel
theorem tyX4_ok : ∀ k, k < 3 → parseFieldDescriptor (TX4 k).2.2.1 = some (tyX4 k) := by decide +kernel
abbrev cX4_init : ByteArray := prog_6_method_1_code
def yX4_init : MethodName := ⟨RX4, "<init>", "()V"⟩
abbrev cX4_run : ByteArray := prog_6_method_2_code
def yX4_run : MethodName := ⟨RX4, "run", "(LTruckLoads$Load;)V"⟩
abbrev cX4_tryFrom : ByteArray := prog_6_method_3_code
def yX4_tryFrom : MethodName := ⟨RX4, "tryFrom", "(LTruckLoads$Load;I)V"⟩
abbrev cX4_tryIn : ByteArray := prog_6_method_4_code
def yX4_tryIn : MethodName := ⟨RX4, "tryIn", "(LTruckLoads$Load;II)V"⟩
abbrev cX4_isHopeless : ByteArray := prog_6_method_5_code
def yX4_isHopeless : MethodName := ⟨RX4, "isHopeless", "(LTruckLoads$Load;I)Z"⟩
abbrev cX4_keep : ByteArray := prog_6_method_6_code
def yX4_keep : MethodName := ⟨RX4, "keep", "(LTruckLoads$Load;)V"⟩
def RX5 : String := "TruckLoads"
def TX5 : u_T := fun k => match k with
  | 0 => ("TruckLoads", "load", "LTruckLoads$Load;", true)
  | 1 => ("TruckLoads", "search", "LTruckLoads$Search;", true)
  | 2 => ("TruckLoads", "seals", "LTruckLoads$Seals;", true)
  | 3 => ("TruckLoads", "open", "Z", false)
  | _ => ("TruckLoads", "exact", "Z", false)
def tyX5 : Nat → FieldType := fun k => match k with
  | 0 => .object "TruckLoads$Load"
  | 1 => .object "TruckLoads$Search"
  | 2 => .object "TruckLoads$Seals"
  | 3 => .boolean
  | _ => .boolean
theorem nmX5 : ∀ a, a < 5 → ∀ b, b < 5 → a ≠ b → (TX5 a).2.1 ≠ (TX5 b).2.1 := by decide +kernel
theorem tyX5_ok : ∀ k, k < 5 → parseFieldDescriptor (TX5 k).2.2.1 = some (tyX5 k) := by decide +kernel
abbrev cX5_init : ByteArray := prog_1_method_1_code
def yX5_init : MethodName := ⟨RX5, "<init>", "(I)V"⟩
abbrev cX5_cell : ByteArray := prog_1_method_2_code
def yX5_cell : MethodName := ⟨RX5, "cell", "(IIZ)V"⟩
abbrev cX5_axles : ByteArray := prog_1_method_3_code
def yX5_axles : MethodName := ⟨RX5, "axles", "(IIII)V"⟩
abbrev cX5_pallet : ByteArray := prog_1_method_4_code
def yX5_pallet : MethodName := ⟨RX5, "pallet", "(IZZII)I"⟩
abbrev cX5_solve : ByteArray := prog_1_method_5_code
def yX5_solve : MethodName := ⟨RX5, "solve", "(I)I"⟩
abbrev cX5_exact : ByteArray := prog_1_method_6_code
def yX5_exact : MethodName := ⟨RX5, "exact", "()Z"⟩
abbrev cX5_bound : ByteArray := prog_1_method_7_code
def yX5_bound : MethodName := ⟨RX5, "bound", "()I"⟩
abbrev cX5_place : ByteArray := prog_1_method_8_code
def yX5_place : MethodName := ⟨RX5, "place", "(II)I"⟩
abbrev cX5_at : ByteArray := prog_1_method_9_code
def yX5_at : MethodName := ⟨RX5, "at", "(I)I"⟩
abbrev cX5_axle : ByteArray := prog_1_method_10_code
def yX5_axle : MethodName := ⟨RX5, "axle", "(II)I"⟩
abbrev cX5_bar : ByteArray := prog_1_method_11_code
def yX5_bar : MethodName := ⟨RX5, "bar", "(I)I"⟩
abbrev cX5_change : ByteArray := prog_1_method_12_code
def yX5_change : MethodName := ⟨RX5, "change", "(II)Z"⟩
abbrev cX5_doors : ByteArray := prog_1_method_13_code
def yX5_doors : MethodName := ⟨RX5, "doors", "(Z)Z"⟩
abbrev cX5_seal : ByteArray := prog_1_method_14_code
def yX5_seal : MethodName := ⟨RX5, "seal", "(I)Z"⟩
abbrev cX5_broken : ByteArray := prog_1_method_15_code
def yX5_broken : MethodName := ⟨RX5, "broken", "()I"⟩
abbrev cX5_order : ByteArray := prog_1_method_16_code
def yX5_order : MethodName := ⟨RX5, "order", "(II)I"⟩
abbrev cX5_manifest : ByteArray := prog_1_method_17_code
def yX5_manifest : MethodName := ⟨RX5, "manifest", "(I)I"⟩
abbrev cX5_count : ByteArray := prog_1_method_18_code
def yX5_count : MethodName := ⟨RX5, "count", "(I)I"⟩
abbrev cX5_knownPallet : ByteArray := prog_1_method_19_code
def yX5_knownPallet : MethodName := ⟨RX5, "knownPallet", "(I)LTruckLoads$Pallet;"⟩
abbrev cX5_requireWithin : ByteArray := prog_1_method_20_code
def yX5_requireWithin : MethodName := ⟨RX5, "requireWithin", "(III)V"⟩
abbrev cX5_requireShut : ByteArray := prog_1_method_21_code
def yX5_requireShut : MethodName := ⟨RX5, "requireShut", "()V"⟩
abbrev cX5_requireNoSeal : ByteArray := prog_1_method_22_code
def yX5_requireNoSeal : MethodName := ⟨RX5, "requireNoSeal", "()V"⟩
abbrev cX5_sideInLowestTerms : ByteArray := prog_1_method_23_code
def yX5_sideInLowestTerms : MethodName := ⟨RX5, "sideInLowestTerms", "(III)I"⟩
def RX6 : String := "TruckLoadsModel"
def TX6 : u_T := fun k => match k with
  | 0 => ("TruckLoadsModel", "cells", "I", true)
  | 1 => ("TruckLoadsModel", "high", "[I", true)
  | 2 => ("TruckLoadsModel", "coldCell", "[Z", true)
  | 3 => ("TruckLoadsModel", "first", "I", false)
  | 4 => ("TruckLoadsModel", "second", "I", false)
  | 5 => ("TruckLoadsModel", "limit", "I", false)
  | 6 => ("TruckLoadsModel", "limit2", "I", false)
  | 7 => ("TruckLoadsModel", "pallets", "I", false)
  | 8 => ("TruckLoadsModel", "thrown", "I", false)
  | 9 => ("TruckLoadsModel", "weight", "[I", true)
  | 10 => ("TruckLoadsModel", "cold", "[Z", true)
  | 11 => ("TruckLoadsModel", "dangerous", "[Z", true)
  | 12 => ("TruckLoadsModel", "stop", "[I", true)
  | 13 => ("TruckLoadsModel", "height", "[I", true)
  | 14 => ("TruckLoadsModel", "where", "[I", true)
  | 15 => ("TruckLoadsModel", "best", "[I", true)
  | 16 => ("TruckLoadsModel", "exact", "Z", false)
  | 17 => ("TruckLoadsModel", "open", "Z", false)
  | 18 => ("TruckLoadsModel", "seal", "I", false)
  | 19 => ("TruckLoadsModel", "seals", "I", false)
  | _ => ("TruckLoadsModel", "sealed", "[I", true)
def tyX6 : Nat → FieldType := fun k => match k with
  | 0 => .int
  | 1 => .array .int
  | 2 => .array .boolean
  | 3 => .int
  | 4 => .int
  | 5 => .int
  | 6 => .int
  | 7 => .int
  | 8 => .int
  | 9 => .array .int
  | 10 => .array .boolean
  | 11 => .array .boolean
  | 12 => .array .int
  | 13 => .array .int
  | 14 => .array .int
  | 15 => .array .int
  | 16 => .boolean
  | 17 => .boolean
  | 18 => .int
  | 19 => .int
  | _ => .array .int
theorem nmX6 : ∀ a, a < 21 → ∀ b, b < 21 → a ≠ b → (TX6 a).2.1 ≠ (TX6 b).2.1 := by decide +kernel
theorem tyX6_ok : ∀ k, k < 21 → parseFieldDescriptor (TX6 k).2.2.1 = some (tyX6 k) := by decide +kernel
abbrev cX6_init : ByteArray := prog_8_method_1_code
def yX6_init : MethodName := ⟨RX6, "<init>", "(I)V"⟩
abbrev cX6_thrown : ByteArray := prog_8_method_2_code
def yX6_thrown : MethodName := ⟨RX6, "thrown", "()I"⟩
abbrev cX6_within : ByteArray := prog_8_method_3_code
def yX6_within : MethodName := ⟨RX6, "within", "(III)Z"⟩
abbrev cX6_isPallet : ByteArray := prog_8_method_4_code
def yX6_isPallet : MethodName := ⟨RX6, "isPallet", "(I)Z"⟩
abbrev cX6_cell : ByteArray := prog_8_method_5_code
def yX6_cell : MethodName := ⟨RX6, "cell", "(IIZ)V"⟩
abbrev cX6_axles : ByteArray := prog_8_method_6_code
def yX6_axles : MethodName := ⟨RX6, "axles", "(IIII)V"⟩
abbrev cX6_pallet : ByteArray := prog_8_method_7_code
def yX6_pallet : MethodName := ⟨RX6, "pallet", "(IZZII)I"⟩
abbrev cX6_standsAt : ByteArray := prog_8_method_8_code
def yX6_standsAt : MethodName := ⟨RX6, "standsAt", "(I)I"⟩
abbrev cX6_load : ByteArray := prog_8_method_9_code
def yX6_load : MethodName := ⟨RX6, "load", "(I)I"⟩
abbrev cX6_axlesBear : ByteArray := prog_8_method_10_code
def yX6_axlesBear : MethodName := ⟨RX6, "axlesBear", "()Z"⟩
abbrev cX6_keepsOff : ByteArray := prog_8_method_11_code
def yX6_keepsOff : MethodName := ⟨RX6, "keepsOff", "(III)Z"⟩
abbrev cX6_bars : ByteArray := prog_8_method_12_code
def yX6_bars : MethodName := ⟨RX6, "bars", "(II)I"⟩
abbrev cX6_axlesBearAt : ByteArray := prog_8_method_13_code
def yX6_axlesBearAt : MethodName := ⟨RX6, "axlesBearAt", "(II)Z"⟩
abbrev cX6_standing : ByteArray := prog_8_method_14_code
def yX6_standing : MethodName := ⟨RX6, "standing", "()I"⟩
abbrev cX6_standingWeight : ByteArray := prog_8_method_15_code
def yX6_standingWeight : MethodName := ⟨RX6, "standingWeight", "()I"⟩
abbrev cX6_fits : ByteArray := prog_8_method_16_code
def yX6_fits : MethodName := ⟨RX6, "fits", "(I)Z"⟩
abbrev cX6_nextPlace : ByteArray := prog_8_method_17_code
def yX6_nextPlace : MethodName := ⟨RX6, "nextPlace", "(I)I"⟩
abbrev cX6_solveExactly : ByteArray := prog_8_method_18_code
def yX6_solveExactly : MethodName := ⟨RX6, "solveExactly", "()V"⟩
abbrev cX6_solveByRule : ByteArray := prog_8_method_19_code
def yX6_solveByRule : MethodName := ⟨RX6, "solveByRule", "()V"⟩
abbrev cX6_solve : ByteArray := prog_8_method_20_code
def yX6_solve : MethodName := ⟨RX6, "solve", "(I)I"⟩
abbrev cX6_exact : ByteArray := prog_8_method_21_code
def yX6_exact : MethodName := ⟨RX6, "exact", "()Z"⟩
abbrev cX6_bound : ByteArray := prog_8_method_22_code
def yX6_bound : MethodName := ⟨RX6, "bound", "()I"⟩
abbrev cX6_place : ByteArray := prog_8_method_23_code
def yX6_place : MethodName := ⟨RX6, "place", "(II)I"⟩
abbrev cX6_at : ByteArray := prog_8_method_24_code
def yX6_at : MethodName := ⟨RX6, "at", "(I)I"⟩
abbrev cX6_common : ByteArray := prog_8_method_25_code
def yX6_common : MethodName := ⟨RX6, "common", "(II)I"⟩
abbrev cX6_axle : ByteArray := prog_8_method_26_code
def yX6_axle : MethodName := ⟨RX6, "axle", "(II)I"⟩
abbrev cX6_isLeft : ByteArray := prog_8_method_27_code
def yX6_isLeft : MethodName := ⟨RX6, "isLeft", "(III)Z"⟩
abbrev cX6_bar : ByteArray := prog_8_method_28_code
def yX6_bar : MethodName := ⟨RX6, "bar", "(I)I"⟩
abbrev cX6_change : ByteArray := prog_8_method_29_code
def yX6_change : MethodName := ⟨RX6, "change", "(II)Z"⟩
abbrev cX6_doors : ByteArray := prog_8_method_30_code
def yX6_doors : MethodName := ⟨RX6, "doors", "(Z)Z"⟩
abbrev cX6_seal : ByteArray := prog_8_method_31_code
def yX6_seal : MethodName := ⟨RX6, "seal", "(I)Z"⟩
abbrev cX6_broken : ByteArray := prog_8_method_32_code
def yX6_broken : MethodName := ⟨RX6, "broken", "()I"⟩
abbrev cX6_order : ByteArray := prog_8_method_33_code
def yX6_order : MethodName := ⟨RX6, "order", "(II)I"⟩
abbrev cX6_manifest : ByteArray := prog_8_method_34_code
def yX6_manifest : MethodName := ⟨RX6, "manifest", "(I)I"⟩
abbrev cX6_count : ByteArray := prog_8_method_35_code
def yX6_count : MethodName := ⟨RX6, "count", "(I)I"⟩
def RL : String := "TruckLoadsLaw"
abbrev cL_cell : ByteArray := method_2_code
def yL_cell : MethodName := ⟨RL, "cell", "([II)I"⟩
abbrev cL_cell_ : ByteArray := method_3_code
def yL_cell_ : MethodName := ⟨RL, "cell", "(LTruckLoads;IIZ)I"⟩
abbrev cL_axles : ByteArray := method_4_code
def yL_axles : MethodName := ⟨RL, "axles", "(LTruckLoads;IIII)I"⟩
abbrev cL_pallet : ByteArray := method_5_code
def yL_pallet : MethodName := ⟨RL, "pallet", "(LTruckLoads;IZZII[J)I"⟩
abbrev cL_solve : ByteArray := method_6_code
def yL_solve : MethodName := ⟨RL, "solve", "(LTruckLoads;I[J)I"⟩
abbrev cL_place : ByteArray := method_7_code
def yL_place : MethodName := ⟨RL, "place", "(LTruckLoads;II[J)I"⟩
abbrev cL_at : ByteArray := method_8_code
def yL_at : MethodName := ⟨RL, "at", "(LTruckLoads;I[J)I"⟩
abbrev cL_axle : ByteArray := method_9_code
def yL_axle : MethodName := ⟨RL, "axle", "(LTruckLoads;II[J)I"⟩
abbrev cL_bar : ByteArray := method_10_code
def yL_bar : MethodName := ⟨RL, "bar", "(LTruckLoads;I[J)I"⟩
abbrev cL_change : ByteArray := method_11_code
def yL_change : MethodName := ⟨RL, "change", "(LTruckLoads;II[J)I"⟩
abbrev cL_doors : ByteArray := method_12_code
def yL_doors : MethodName := ⟨RL, "doors", "(LTruckLoads;Z[J)I"⟩
abbrev cL_seal : ByteArray := method_13_code
def yL_seal : MethodName := ⟨RL, "seal", "(LTruckLoads;I[J)I"⟩
abbrev cL_broken : ByteArray := method_14_code
def yL_broken : MethodName := ⟨RL, "broken", "(LTruckLoads;[J)I"⟩
abbrev cL_order : ByteArray := method_15_code
def yL_order : MethodName := ⟨RL, "order", "(LTruckLoads;II[J)I"⟩
abbrev cL_manifest : ByteArray := method_16_code
def yL_manifest : MethodName := ⟨RL, "manifest", "(LTruckLoads;I[J)I"⟩
abbrev cL_law : ByteArray := code
def yL_law : MethodName := ⟨RL, "law", "([I)Z"⟩
end
section
theorem dX0_init_0 : decode cX0_init 0 = .ok (.aload_n 0, 1) := by decide +kernel
theorem dX0_init_1 : decode cX0_init 1 = .ok (.invokespecial 3, 3) := by decide +kernel
theorem dX0_init_4 : decode cX0_init 4 = .ok (.aload_n 0, 1) := by decide +kernel
theorem dX0_init_5 : decode cX0_init 5 = .ok (.iconst 0, 1) := by decide +kernel
theorem dX0_init_6 : decode cX0_init 6 = .ok (.putfield 9, 3) := by decide +kernel
theorem dX0_init_9 : decode cX0_init 9 = .ok (.aload_n 0, 1) := by decide +kernel
theorem dX0_init_10 : decode cX0_init 10 = .ok (.bipush 10, 2) := by decide +kernel
theorem dX0_init_12 : decode cX0_init 12 = .ok (.putfield 15, 3) := by decide +kernel
theorem dX0_init_15 : decode cX0_init 15 = .ok (.aload_n 0, 1) := by decide +kernel
theorem dX0_init_16 : decode cX0_init 16 = .ok (.sipush 10000, 3) := by decide +kernel
theorem dX0_init_19 : decode cX0_init 19 = .ok (.putfield 18, 3) := by decide +kernel
theorem dX0_init_22 : decode cX0_init 22 = .ok (.aload_n 0, 1) := by decide +kernel
theorem dX0_init_23 : decode cX0_init 23 = .ok (.sipush 10000, 3) := by decide +kernel
theorem dX0_init_26 : decode cX0_init 26 = .ok (.putfield 21, 3) := by decide +kernel
theorem dX0_init_29 : decode cX0_init 29 = .ok (.return_, 1) := by decide +kernel
theorem dX0_set_0 : decode cX0_set 0 = .ok (.aload_n 0, 1) := by decide +kernel
theorem dX0_set_1 : decode cX0_set 1 = .ok (.iload_n 1, 1) := by decide +kernel
theorem dX0_set_2 : decode cX0_set 2 = .ok (.putfield 9, 3) := by decide +kernel
theorem dX0_set_5 : decode cX0_set 5 = .ok (.aload_n 0, 1) := by decide +kernel
theorem dX0_set_6 : decode cX0_set 6 = .ok (.iload_n 2, 1) := by decide +kernel
theorem dX0_set_7 : decode cX0_set 7 = .ok (.putfield 15, 3) := by decide +kernel
theorem dX0_set_10 : decode cX0_set 10 = .ok (.aload_n 0, 1) := by decide +kernel
theorem dX0_set_11 : decode cX0_set 11 = .ok (.iload_n 3, 1) := by decide +kernel
theorem dX0_set_12 : decode cX0_set 12 = .ok (.putfield 18, 3) := by decide +kernel
theorem dX0_set_15 : decode cX0_set 15 = .ok (.aload_n 0, 1) := by decide +kernel
theorem dX0_set_16 : decode cX0_set 16 = .ok (.iload 4, 2) := by decide +kernel
theorem dX0_set_18 : decode cX0_set 18 = .ok (.putfield 21, 3) := by decide +kernel
theorem dX0_set_21 : decode cX0_set 21 = .ok (.return_, 1) := by decide +kernel
theorem dX0_span_0 : decode cX0_span 0 = .ok (.aload_n 0, 1) := by decide +kernel
theorem dX0_span_1 : decode cX0_span 1 = .ok (.getfield 15, 3) := by decide +kernel
theorem dX0_span_4 : decode cX0_span 4 = .ok (.aload_n 0, 1) := by decide +kernel
theorem dX0_span_5 : decode cX0_span 5 = .ok (.getfield 9, 3) := by decide +kernel
theorem dX0_span_8 : decode cX0_span 8 = .ok (.isub, 1) := by decide +kernel
theorem dX0_span_9 : decode cX0_span 9 = .ok (.ireturn, 1) := by decide +kernel
theorem dX0_share_0 : decode cX0_share 0 = .ok (.iload_n 1, 1) := by decide +kernel
theorem dX0_share_1 : decode cX0_share 1 = .ok (.ifCond .ne 14, 3) := by decide +kernel
theorem dX0_share_4 : decode cX0_share 4 = .ok (.iload_n 2, 1) := by decide +kernel
theorem dX0_share_5 : decode cX0_share 5 = .ok (.aload_n 0, 1) := by decide +kernel
theorem dX0_share_6 : decode cX0_share 6 = .ok (.getfield 15, 3) := by decide +kernel
theorem dX0_share_9 : decode cX0_share 9 = .ok (.iload_n 3, 1) := by decide +kernel
theorem dX0_share_10 : decode cX0_share 10 = .ok (.isub, 1) := by decide +kernel
theorem dX0_share_11 : decode cX0_share 11 = .ok (.imul, 1) := by decide +kernel
theorem dX0_share_12 : decode cX0_share 12 = .ok (.goto 11, 3) := by decide +kernel
theorem dX0_share_15 : decode cX0_share 15 = .ok (.iload_n 2, 1) := by decide +kernel
theorem dX0_share_16 : decode cX0_share 16 = .ok (.iload_n 3, 1) := by decide +kernel
theorem dX0_share_17 : decode cX0_share 17 = .ok (.aload_n 0, 1) := by decide +kernel
theorem dX0_share_18 : decode cX0_share 18 = .ok (.getfield 9, 3) := by decide +kernel
theorem dX0_share_21 : decode cX0_share 21 = .ok (.isub, 1) := by decide +kernel
theorem dX0_share_22 : decode cX0_share 22 = .ok (.imul, 1) := by decide +kernel
theorem dX0_share_23 : decode cX0_share 23 = .ok (.ireturn, 1) := by decide +kernel
theorem dX0_bear_0 : decode cX0_bear 0 = .ok (.iload_n 1, 1) := by decide +kernel
theorem dX0_bear_1 : decode cX0_bear 1 = .ok (.aload_n 0, 1) := by decide +kernel
theorem dX0_bear_2 : decode cX0_bear 2 = .ok (.getfield 18, 3) := by decide +kernel
theorem dX0_bear_5 : decode cX0_bear 5 = .ok (.aload_n 0, 1) := by decide +kernel
theorem dX0_bear_6 : decode cX0_bear 6 = .ok (.invokevirtual 24, 3) := by decide +kernel
theorem dX0_bear_9 : decode cX0_bear 9 = .ok (.imul, 1) := by decide +kernel
theorem dX0_bear_10 : decode cX0_bear 10 = .ok (.if_icmp .gt 20, 3) := by decide +kernel
theorem dX0_bear_13 : decode cX0_bear 13 = .ok (.iload_n 2, 1) := by decide +kernel
theorem dX0_bear_14 : decode cX0_bear 14 = .ok (.aload_n 0, 1) := by decide +kernel
theorem dX0_bear_15 : decode cX0_bear 15 = .ok (.getfield 21, 3) := by decide +kernel
theorem dX0_bear_18 : decode cX0_bear 18 = .ok (.aload_n 0, 1) := by decide +kernel
theorem dX0_bear_19 : decode cX0_bear 19 = .ok (.invokevirtual 24, 3) := by decide +kernel
theorem dX0_bear_22 : decode cX0_bear 22 = .ok (.imul, 1) := by decide +kernel
theorem dX0_bear_23 : decode cX0_bear 23 = .ok (.if_icmp .gt 7, 3) := by decide +kernel
theorem dX0_bear_26 : decode cX0_bear 26 = .ok (.iconst 1, 1) := by decide +kernel
theorem dX0_bear_27 : decode cX0_bear 27 = .ok (.goto 4, 3) := by decide +kernel
theorem dX0_bear_30 : decode cX0_bear 30 = .ok (.iconst 0, 1) := by decide +kernel
theorem dX0_bear_31 : decode cX0_bear 31 = .ok (.ireturn, 1) := by decide +kernel
theorem dX1_init_0 : decode cX1_init 0 = .ok (.aload_n 0, 1) := by decide +kernel
theorem dX1_init_1 : decode cX1_init 1 = .ok (.invokespecial 3, 3) := by decide +kernel
theorem dX1_init_4 : decode cX1_init 4 = .ok (.aload_n 0, 1) := by decide +kernel
theorem dX1_init_5 : decode cX1_init 5 = .ok (.iconst 0, 1) := by decide +kernel
theorem dX1_init_6 : decode cX1_init 6 = .ok (.bipush 12, 2) := by decide +kernel
theorem dX1_init_8 : decode cX1_init 8 = .ok (.iload_n 1, 1) := by decide +kernel
theorem dX1_init_9 : decode cX1_init 9 = .ok (.invokestatic 9, 3) := by decide +kernel
theorem dX1_init_12 : decode cX1_init 12 = .ok (.invokestatic 15, 3) := by decide +kernel
theorem dX1_init_15 : decode cX1_init 15 = .ok (.putfield 18, 3) := by decide +kernel
theorem dX1_init_18 : decode cX1_init 18 = .ok (.aload_n 0, 1) := by decide +kernel
theorem dX1_init_19 : decode cX1_init 19 = .ok (.bipush 12, 2) := by decide +kernel
theorem dX1_init_21 : decode cX1_init 21 = .ok (.newarray .int, 2) := by decide +kernel
theorem dX1_init_23 : decode cX1_init 23 = .ok (.putfield 24, 3) := by decide +kernel
theorem dX1_init_26 : decode cX1_init 26 = .ok (.aload_n 0, 1) := by decide +kernel
theorem dX1_init_27 : decode cX1_init 27 = .ok (.bipush 12, 2) := by decide +kernel
theorem dX1_init_29 : decode cX1_init 29 = .ok (.newarray .boolean, 2) := by decide +kernel
theorem dX1_init_31 : decode cX1_init 31 = .ok (.putfield 28, 3) := by decide +kernel
theorem dX1_init_34 : decode cX1_init 34 = .ok (.aload_n 0, 1) := by decide +kernel
theorem dX1_init_35 : decode cX1_init 35 = .ok (.bipush 8, 2) := by decide +kernel
theorem dX1_init_37 : decode cX1_init 37 = .ok (.anewarray 32, 3) := by decide +kernel
theorem dX1_init_40 : decode cX1_init 40 = .ok (.putfield 34, 3) := by decide +kernel
theorem dX1_init_43 : decode cX1_init 43 = .ok (.aload_n 0, 1) := by decide +kernel
theorem dX1_init_44 : decode cX1_init 44 = .ok (.new 38, 3) := by decide +kernel
theorem dX1_init_47 : decode cX1_init 47 = .ok (.dup, 1) := by decide +kernel
theorem dX1_init_48 : decode cX1_init 48 = .ok (.invokespecial 40, 3) := by decide +kernel
theorem dX1_init_51 : decode cX1_init 51 = .ok (.putfield 41, 3) := by decide +kernel
theorem dX1_init_54 : decode cX1_init 54 = .ok (.aload_n 0, 1) := by decide +kernel
theorem dX1_init_55 : decode cX1_init 55 = .ok (.iconst 0, 1) := by decide +kernel
theorem dX1_init_56 : decode cX1_init 56 = .ok (.putfield 45, 3) := by decide +kernel
theorem dX1_init_59 : decode cX1_init 59 = .ok (.iconst 0, 1) := by decide +kernel
theorem dX1_init_60 : decode cX1_init 60 = .ok (.istore_n 2, 1) := by decide +kernel
theorem dX1_init_61 : decode cX1_init 61 = .ok (.iload_n 2, 1) := by decide +kernel
theorem dX1_init_62 : decode cX1_init 62 = .ok (.bipush 12, 2) := by decide +kernel
theorem dX1_init_64 : decode cX1_init 64 = .ok (.if_icmp .ge 17, 3) := by decide +kernel
theorem dX1_init_67 : decode cX1_init 67 = .ok (.aload_n 0, 1) := by decide +kernel
theorem dX1_init_68 : decode cX1_init 68 = .ok (.getfield 24, 3) := by decide +kernel
theorem dX1_init_71 : decode cX1_init 71 = .ok (.iload_n 2, 1) := by decide +kernel
theorem dX1_init_72 : decode cX1_init 72 = .ok (.bipush 10, 2) := by decide +kernel
theorem dX1_init_74 : decode cX1_init 74 = .ok (.iastore, 1) := by decide +kernel
theorem dX1_init_75 : decode cX1_init 75 = .ok (.iinc 2 1, 3) := by decide +kernel
theorem dX1_init_78 : decode cX1_init 78 = .ok (.goto (-17), 3) := by decide +kernel
theorem dX1_init_81 : decode cX1_init 81 = .ok (.iconst 0, 1) := by decide +kernel
theorem dX1_init_82 : decode cX1_init 82 = .ok (.istore_n 2, 1) := by decide +kernel
theorem dX1_init_83 : decode cX1_init 83 = .ok (.iload_n 2, 1) := by decide +kernel
theorem dX1_init_84 : decode cX1_init 84 = .ok (.bipush 8, 2) := by decide +kernel
theorem dX1_init_86 : decode cX1_init 86 = .ok (.if_icmp .ge 22, 3) := by decide +kernel
theorem dX1_init_89 : decode cX1_init 89 = .ok (.aload_n 0, 1) := by decide +kernel
theorem dX1_init_90 : decode cX1_init 90 = .ok (.getfield 34, 3) := by decide +kernel
theorem dX1_init_93 : decode cX1_init 93 = .ok (.iload_n 2, 1) := by decide +kernel
theorem dX1_init_94 : decode cX1_init 94 = .ok (.new 32, 3) := by decide +kernel
theorem dX1_init_97 : decode cX1_init 97 = .ok (.dup, 1) := by decide +kernel
theorem dX1_init_98 : decode cX1_init 98 = .ok (.invokespecial 48, 3) := by decide +kernel
theorem dX1_init_101 : decode cX1_init 101 = .ok (.aastore, 1) := by decide +kernel
theorem dX1_init_102 : decode cX1_init 102 = .ok (.iinc 2 1, 3) := by decide +kernel
theorem dX1_init_105 : decode cX1_init 105 = .ok (.goto (-22), 3) := by decide +kernel
theorem dX1_init_108 : decode cX1_init 108 = .ok (.return_, 1) := by decide +kernel
theorem dX1_hasCell_0 : decode cX1_hasCell 0 = .ok (.iload_n 1, 1) := by decide +kernel
theorem dX1_hasCell_1 : decode cX1_hasCell 1 = .ok (.ifCond .lt 15, 3) := by decide +kernel
theorem dX1_hasCell_4 : decode cX1_hasCell 4 = .ok (.iload_n 1, 1) := by decide +kernel
theorem dX1_hasCell_5 : decode cX1_hasCell 5 = .ok (.aload_n 0, 1) := by decide +kernel
theorem dX1_hasCell_6 : decode cX1_hasCell 6 = .ok (.getfield 18, 3) := by decide +kernel
theorem dX1_hasCell_9 : decode cX1_hasCell 9 = .ok (.if_icmp .ge 7, 3) := by decide +kernel
theorem dX1_hasCell_12 : decode cX1_hasCell 12 = .ok (.iconst 1, 1) := by decide +kernel
theorem dX1_hasCell_13 : decode cX1_hasCell 13 = .ok (.goto 4, 3) := by decide +kernel
theorem dX1_hasCell_16 : decode cX1_hasCell 16 = .ok (.iconst 0, 1) := by decide +kernel
theorem dX1_hasCell_17 : decode cX1_hasCell 17 = .ok (.ireturn, 1) := by decide +kernel
theorem dX1_isTaken_0 : decode cX1_isTaken 0 = .ok (.iconst 0, 1) := by decide +kernel
theorem dX1_isTaken_1 : decode cX1_isTaken 1 = .ok (.istore_n 2, 1) := by decide +kernel
theorem dX1_isTaken_2 : decode cX1_isTaken 2 = .ok (.iload_n 2, 1) := by decide +kernel
theorem dX1_isTaken_3 : decode cX1_isTaken 3 = .ok (.aload_n 0, 1) := by decide +kernel
theorem dX1_isTaken_4 : decode cX1_isTaken 4 = .ok (.getfield 45, 3) := by decide +kernel
theorem dX1_isTaken_7 : decode cX1_isTaken 7 = .ok (.if_icmp .ge 24, 3) := by decide +kernel
theorem dX1_isTaken_10 : decode cX1_isTaken 10 = .ok (.aload_n 0, 1) := by decide +kernel
theorem dX1_isTaken_11 : decode cX1_isTaken 11 = .ok (.getfield 34, 3) := by decide +kernel
theorem dX1_isTaken_14 : decode cX1_isTaken 14 = .ok (.iload_n 2, 1) := by decide +kernel
theorem dX1_isTaken_15 : decode cX1_isTaken 15 = .ok (.aaload, 1) := by decide +kernel
theorem dX1_isTaken_16 : decode cX1_isTaken 16 = .ok (.getfield 49, 3) := by decide +kernel
theorem dX1_isTaken_19 : decode cX1_isTaken 19 = .ok (.iload_n 1, 1) := by decide +kernel
theorem dX1_isTaken_20 : decode cX1_isTaken 20 = .ok (.if_icmp .ne 5, 3) := by decide +kernel
theorem dX1_isTaken_23 : decode cX1_isTaken 23 = .ok (.iconst 1, 1) := by decide +kernel
theorem dX1_isTaken_24 : decode cX1_isTaken 24 = .ok (.ireturn, 1) := by decide +kernel
theorem dX1_isTaken_25 : decode cX1_isTaken 25 = .ok (.iinc 2 1, 3) := by decide +kernel
theorem dX1_isTaken_28 : decode cX1_isTaken 28 = .ok (.goto (-26), 3) := by decide +kernel
theorem dX1_isTaken_31 : decode cX1_isTaken 31 = .ok (.iconst 0, 1) := by decide +kernel
theorem dX1_isTaken_32 : decode cX1_isTaken 32 = .ok (.ireturn, 1) := by decide +kernel
theorem dX1_standing_0 : decode cX1_standing 0 = .ok (.iconst 0, 1) := by decide +kernel
theorem dX1_standing_1 : decode cX1_standing 1 = .ok (.istore_n 1, 1) := by decide +kernel
theorem dX1_standing_2 : decode cX1_standing 2 = .ok (.iconst 0, 1) := by decide +kernel
theorem dX1_standing_3 : decode cX1_standing 3 = .ok (.istore_n 2, 1) := by decide +kernel
theorem dX1_standing_4 : decode cX1_standing 4 = .ok (.iload_n 2, 1) := by decide +kernel
theorem dX1_standing_5 : decode cX1_standing 5 = .ok (.aload_n 0, 1) := by decide +kernel
theorem dX1_standing_6 : decode cX1_standing 6 = .ok (.getfield 45, 3) := by decide +kernel
theorem dX1_standing_9 : decode cX1_standing 9 = .ok (.if_icmp .ge 24, 3) := by decide +kernel
theorem dX1_standing_12 : decode cX1_standing 12 = .ok (.aload_n 0, 1) := by decide +kernel
theorem dX1_standing_13 : decode cX1_standing 13 = .ok (.getfield 34, 3) := by decide +kernel
theorem dX1_standing_16 : decode cX1_standing 16 = .ok (.iload_n 2, 1) := by decide +kernel
theorem dX1_standing_17 : decode cX1_standing 17 = .ok (.aaload, 1) := by decide +kernel
theorem dX1_standing_18 : decode cX1_standing 18 = .ok (.invokevirtual 52, 3) := by decide +kernel
theorem dX1_standing_21 : decode cX1_standing 21 = .ok (.ifCond .eq 6, 3) := by decide +kernel
theorem dX1_standing_24 : decode cX1_standing 24 = .ok (.iinc 1 1, 3) := by decide +kernel
theorem dX1_standing_27 : decode cX1_standing 27 = .ok (.iinc 2 1, 3) := by decide +kernel
theorem dX1_standing_30 : decode cX1_standing 30 = .ok (.goto (-26), 3) := by decide +kernel
theorem dX1_standing_33 : decode cX1_standing 33 = .ok (.iload_n 1, 1) := by decide +kernel
theorem dX1_standing_34 : decode cX1_standing 34 = .ok (.ireturn, 1) := by decide +kernel
theorem dX1_weight_0 : decode cX1_weight 0 = .ok (.iconst 0, 1) := by decide +kernel
theorem dX1_weight_1 : decode cX1_weight 1 = .ok (.istore_n 1, 1) := by decide +kernel
theorem dX1_weight_2 : decode cX1_weight 2 = .ok (.iconst 0, 1) := by decide +kernel
theorem dX1_weight_3 : decode cX1_weight 3 = .ok (.istore_n 2, 1) := by decide +kernel
theorem dX1_weight_4 : decode cX1_weight 4 = .ok (.iload_n 2, 1) := by decide +kernel
theorem dX1_weight_5 : decode cX1_weight 5 = .ok (.aload_n 0, 1) := by decide +kernel
theorem dX1_weight_6 : decode cX1_weight 6 = .ok (.getfield 45, 3) := by decide +kernel
theorem dX1_weight_9 : decode cX1_weight 9 = .ok (.if_icmp .ge 33, 3) := by decide +kernel
theorem dX1_weight_12 : decode cX1_weight 12 = .ok (.aload_n 0, 1) := by decide +kernel
theorem dX1_weight_13 : decode cX1_weight 13 = .ok (.getfield 34, 3) := by decide +kernel
theorem dX1_weight_16 : decode cX1_weight 16 = .ok (.iload_n 2, 1) := by decide +kernel
theorem dX1_weight_17 : decode cX1_weight 17 = .ok (.aaload, 1) := by decide +kernel
theorem dX1_weight_18 : decode cX1_weight 18 = .ok (.invokevirtual 52, 3) := by decide +kernel
theorem dX1_weight_21 : decode cX1_weight 21 = .ok (.ifCond .eq 15, 3) := by decide +kernel
theorem dX1_weight_24 : decode cX1_weight 24 = .ok (.iload_n 1, 1) := by decide +kernel
theorem dX1_weight_25 : decode cX1_weight 25 = .ok (.aload_n 0, 1) := by decide +kernel
theorem dX1_weight_26 : decode cX1_weight 26 = .ok (.getfield 34, 3) := by decide +kernel
theorem dX1_weight_29 : decode cX1_weight 29 = .ok (.iload_n 2, 1) := by decide +kernel
theorem dX1_weight_30 : decode cX1_weight 30 = .ok (.aaload, 1) := by decide +kernel
theorem dX1_weight_31 : decode cX1_weight 31 = .ok (.getfield 56, 3) := by decide +kernel
theorem dX1_weight_34 : decode cX1_weight 34 = .ok (.iadd, 1) := by decide +kernel
theorem dX1_weight_35 : decode cX1_weight 35 = .ok (.istore_n 1, 1) := by decide +kernel
theorem dX1_weight_36 : decode cX1_weight 36 = .ok (.iinc 2 1, 3) := by decide +kernel
theorem dX1_weight_39 : decode cX1_weight 39 = .ok (.goto (-35), 3) := by decide +kernel
theorem dX1_weight_42 : decode cX1_weight 42 = .ok (.iload_n 1, 1) := by decide +kernel
theorem dX1_weight_43 : decode cX1_weight 43 = .ok (.ireturn, 1) := by decide +kernel
theorem dX1_onAxle_0 : decode cX1_onAxle 0 = .ok (.iconst 0, 1) := by decide +kernel
theorem dX1_onAxle_1 : decode cX1_onAxle 1 = .ok (.istore_n 2, 1) := by decide +kernel
theorem dX1_onAxle_2 : decode cX1_onAxle 2 = .ok (.iconst 0, 1) := by decide +kernel
theorem dX1_onAxle_3 : decode cX1_onAxle 3 = .ok (.istore_n 3, 1) := by decide +kernel
theorem dX1_onAxle_4 : decode cX1_onAxle 4 = .ok (.iload_n 3, 1) := by decide +kernel
theorem dX1_onAxle_5 : decode cX1_onAxle 5 = .ok (.aload_n 0, 1) := by decide +kernel
theorem dX1_onAxle_6 : decode cX1_onAxle 6 = .ok (.getfield 45, 3) := by decide +kernel
theorem dX1_onAxle_9 : decode cX1_onAxle 9 = .ok (.if_icmp .ge 50, 3) := by decide +kernel
theorem dX1_onAxle_12 : decode cX1_onAxle 12 = .ok (.aload_n 0, 1) := by decide +kernel
theorem dX1_onAxle_13 : decode cX1_onAxle 13 = .ok (.getfield 34, 3) := by decide +kernel
theorem dX1_onAxle_16 : decode cX1_onAxle 16 = .ok (.iload_n 3, 1) := by decide +kernel
theorem dX1_onAxle_17 : decode cX1_onAxle 17 = .ok (.aaload, 1) := by decide +kernel
theorem dX1_onAxle_18 : decode cX1_onAxle 18 = .ok (.invokevirtual 52, 3) := by decide +kernel
theorem dX1_onAxle_21 : decode cX1_onAxle 21 = .ok (.ifCond .eq 32, 3) := by decide +kernel
theorem dX1_onAxle_24 : decode cX1_onAxle 24 = .ok (.iload_n 2, 1) := by decide +kernel
theorem dX1_onAxle_25 : decode cX1_onAxle 25 = .ok (.aload_n 0, 1) := by decide +kernel
theorem dX1_onAxle_26 : decode cX1_onAxle 26 = .ok (.getfield 41, 3) := by decide +kernel
theorem dX1_onAxle_29 : decode cX1_onAxle 29 = .ok (.iload_n 1, 1) := by decide +kernel
theorem dX1_onAxle_30 : decode cX1_onAxle 30 = .ok (.aload_n 0, 1) := by decide +kernel
theorem dX1_onAxle_31 : decode cX1_onAxle 31 = .ok (.getfield 34, 3) := by decide +kernel
theorem dX1_onAxle_34 : decode cX1_onAxle 34 = .ok (.iload_n 3, 1) := by decide +kernel
theorem dX1_onAxle_35 : decode cX1_onAxle 35 = .ok (.aaload, 1) := by decide +kernel
theorem dX1_onAxle_36 : decode cX1_onAxle 36 = .ok (.getfield 56, 3) := by decide +kernel
theorem dX1_onAxle_39 : decode cX1_onAxle 39 = .ok (.aload_n 0, 1) := by decide +kernel
theorem dX1_onAxle_40 : decode cX1_onAxle 40 = .ok (.getfield 34, 3) := by decide +kernel
theorem dX1_onAxle_43 : decode cX1_onAxle 43 = .ok (.iload_n 3, 1) := by decide +kernel
theorem dX1_onAxle_44 : decode cX1_onAxle 44 = .ok (.aaload, 1) := by decide +kernel
theorem dX1_onAxle_45 : decode cX1_onAxle 45 = .ok (.getfield 49, 3) := by decide +kernel
theorem dX1_onAxle_48 : decode cX1_onAxle 48 = .ok (.invokevirtual 59, 3) := by decide +kernel
theorem dX1_onAxle_51 : decode cX1_onAxle 51 = .ok (.iadd, 1) := by decide +kernel
theorem dX1_onAxle_52 : decode cX1_onAxle 52 = .ok (.istore_n 2, 1) := by decide +kernel
theorem dX1_onAxle_53 : decode cX1_onAxle 53 = .ok (.iinc 3 1, 3) := by decide +kernel
theorem dX1_onAxle_56 : decode cX1_onAxle 56 = .ok (.goto (-52), 3) := by decide +kernel
theorem dX1_onAxle_59 : decode cX1_onAxle 59 = .ok (.iload_n 2, 1) := by decide +kernel
theorem dX1_onAxle_60 : decode cX1_onAxle 60 = .ok (.ireturn, 1) := by decide +kernel
theorem dX1_palletsWithSomeCell_0 : decode cX1_palletsWithSomeCell 0 = .ok (.iconst 0, 1) := by decide +kernel
theorem dX1_palletsWithSomeCell_1 : decode cX1_palletsWithSomeCell 1 = .ok (.istore_n 1, 1) := by decide +kernel
theorem dX1_palletsWithSomeCell_2 : decode cX1_palletsWithSomeCell 2 = .ok (.iconst 0, 1) := by decide +kernel
theorem dX1_palletsWithSomeCell_3 : decode cX1_palletsWithSomeCell 3 = .ok (.istore_n 2, 1) := by decide +kernel
theorem dX1_palletsWithSomeCell_4 : decode cX1_palletsWithSomeCell 4 = .ok (.iload_n 2, 1) := by decide +kernel
theorem dX1_palletsWithSomeCell_5 : decode cX1_palletsWithSomeCell 5 = .ok (.aload_n 0, 1) := by decide +kernel
theorem dX1_palletsWithSomeCell_6 : decode cX1_palletsWithSomeCell 6 = .ok (.getfield 45, 3) := by decide +kernel
theorem dX1_palletsWithSomeCell_9 : decode cX1_palletsWithSomeCell 9 = .ok (.if_icmp .ge 25, 3) := by decide +kernel
theorem dX1_palletsWithSomeCell_12 : decode cX1_palletsWithSomeCell 12 = .ok (.aload_n 0, 1) := by decide +kernel
theorem dX1_palletsWithSomeCell_13 : decode cX1_palletsWithSomeCell 13 = .ok (.aload_n 0, 1) := by decide +kernel
theorem dX1_palletsWithSomeCell_14 : decode cX1_palletsWithSomeCell 14 = .ok (.getfield 34, 3) := by decide +kernel
theorem dX1_palletsWithSomeCell_17 : decode cX1_palletsWithSomeCell 17 = .ok (.iload_n 2, 1) := by decide +kernel
theorem dX1_palletsWithSomeCell_18 : decode cX1_palletsWithSomeCell 18 = .ok (.aaload, 1) := by decide +kernel
theorem dX1_palletsWithSomeCell_19 : decode cX1_palletsWithSomeCell 19 = .ok (.invokevirtual 63, 3) := by decide +kernel
theorem dX1_palletsWithSomeCell_22 : decode cX1_palletsWithSomeCell 22 = .ok (.ifCond .eq 6, 3) := by decide +kernel
theorem dX1_palletsWithSomeCell_25 : decode cX1_palletsWithSomeCell 25 = .ok (.iinc 1 1, 3) := by decide +kernel
theorem dX1_palletsWithSomeCell_28 : decode cX1_palletsWithSomeCell 28 = .ok (.iinc 2 1, 3) := by decide +kernel
theorem dX1_palletsWithSomeCell_31 : decode cX1_palletsWithSomeCell 31 = .ok (.goto (-27), 3) := by decide +kernel
theorem dX1_palletsWithSomeCell_34 : decode cX1_palletsWithSomeCell 34 = .ok (.iload_n 1, 1) := by decide +kernel
theorem dX1_palletsWithSomeCell_35 : decode cX1_palletsWithSomeCell 35 = .ok (.ireturn, 1) := by decide +kernel
theorem dX1_fitsSomeCell_0 : decode cX1_fitsSomeCell 0 = .ok (.iconst 0, 1) := by decide +kernel
theorem dX1_fitsSomeCell_1 : decode cX1_fitsSomeCell 1 = .ok (.istore_n 2, 1) := by decide +kernel
theorem dX1_fitsSomeCell_2 : decode cX1_fitsSomeCell 2 = .ok (.iload_n 2, 1) := by decide +kernel
theorem dX1_fitsSomeCell_3 : decode cX1_fitsSomeCell 3 = .ok (.aload_n 0, 1) := by decide +kernel
theorem dX1_fitsSomeCell_4 : decode cX1_fitsSomeCell 4 = .ok (.getfield 18, 3) := by decide +kernel
theorem dX1_fitsSomeCell_7 : decode cX1_fitsSomeCell 7 = .ok (.if_icmp .ge 29, 3) := by decide +kernel
theorem dX1_fitsSomeCell_10 : decode cX1_fitsSomeCell 10 = .ok (.aload_n 0, 1) := by decide +kernel
theorem dX1_fitsSomeCell_11 : decode cX1_fitsSomeCell 11 = .ok (.aload_n 1, 1) := by decide +kernel
theorem dX1_fitsSomeCell_12 : decode cX1_fitsSomeCell 12 = .ok (.iload_n 2, 1) := by decide +kernel
theorem dX1_fitsSomeCell_13 : decode cX1_fitsSomeCell 13 = .ok (.invokevirtual 67, 3) := by decide +kernel
theorem dX1_fitsSomeCell_16 : decode cX1_fitsSomeCell 16 = .ok (.ifCond .ne 14, 3) := by decide +kernel
theorem dX1_fitsSomeCell_19 : decode cX1_fitsSomeCell 19 = .ok (.aload_n 0, 1) := by decide +kernel
theorem dX1_fitsSomeCell_20 : decode cX1_fitsSomeCell 20 = .ok (.aload_n 1, 1) := by decide +kernel
theorem dX1_fitsSomeCell_21 : decode cX1_fitsSomeCell 21 = .ok (.iload_n 2, 1) := by decide +kernel
theorem dX1_fitsSomeCell_22 : decode cX1_fitsSomeCell 22 = .ok (.invokevirtual 71, 3) := by decide +kernel
theorem dX1_fitsSomeCell_25 : decode cX1_fitsSomeCell 25 = .ok (.ifCond .ne 5, 3) := by decide +kernel
theorem dX1_fitsSomeCell_28 : decode cX1_fitsSomeCell 28 = .ok (.iconst 1, 1) := by decide +kernel
theorem dX1_fitsSomeCell_29 : decode cX1_fitsSomeCell 29 = .ok (.ireturn, 1) := by decide +kernel
theorem dX1_fitsSomeCell_30 : decode cX1_fitsSomeCell 30 = .ok (.iinc 2 1, 3) := by decide +kernel
theorem dX1_fitsSomeCell_33 : decode cX1_fitsSomeCell 33 = .ok (.goto (-31), 3) := by decide +kernel
theorem dX1_fitsSomeCell_36 : decode cX1_fitsSomeCell 36 = .ok (.iconst 0, 1) := by decide +kernel
theorem dX1_fitsSomeCell_37 : decode cX1_fitsSomeCell 37 = .ok (.ireturn, 1) := by decide +kernel
theorem dX1_firstBar_0 : decode cX1_firstBar 0 = .ok (.aload_n 0, 1) := by decide +kernel
theorem dX1_firstBar_1 : decode cX1_firstBar 1 = .ok (.aload_n 1, 1) := by decide +kernel
theorem dX1_firstBar_2 : decode cX1_firstBar 2 = .ok (.iload_n 2, 1) := by decide +kernel
theorem dX1_firstBar_3 : decode cX1_firstBar 3 = .ok (.invokevirtual 74, 3) := by decide +kernel
theorem dX1_firstBar_6 : decode cX1_firstBar 6 = .ok (.istore_n 3, 1) := by decide +kernel
theorem dX1_firstBar_7 : decode cX1_firstBar 7 = .ok (.iload_n 3, 1) := by decide +kernel
theorem dX1_firstBar_8 : decode cX1_firstBar 8 = .ok (.ifCond .eq 5, 3) := by decide +kernel
theorem dX1_firstBar_11 : decode cX1_firstBar 11 = .ok (.iload_n 3, 1) := by decide +kernel
theorem dX1_firstBar_12 : decode cX1_firstBar 12 = .ok (.ireturn, 1) := by decide +kernel
theorem dX1_firstBar_13 : decode cX1_firstBar 13 = .ok (.aload_n 0, 1) := by decide +kernel
theorem dX1_firstBar_14 : decode cX1_firstBar 14 = .ok (.aload_n 1, 1) := by decide +kernel
theorem dX1_firstBar_15 : decode cX1_firstBar 15 = .ok (.iload_n 2, 1) := by decide +kernel
theorem dX1_firstBar_16 : decode cX1_firstBar 16 = .ok (.invokevirtual 78, 3) := by decide +kernel
theorem dX1_firstBar_19 : decode cX1_firstBar 19 = .ok (.ifCond .eq 8, 3) := by decide +kernel
theorem dX1_firstBar_22 : decode cX1_firstBar 22 = .ok (.bipush 6, 2) := by decide +kernel
theorem dX1_firstBar_24 : decode cX1_firstBar 24 = .ok (.goto 4, 3) := by decide +kernel
theorem dX1_firstBar_27 : decode cX1_firstBar 27 = .ok (.iconst 0, 1) := by decide +kernel
theorem dX1_firstBar_28 : decode cX1_firstBar 28 = .ok (.ireturn, 1) := by decide +kernel
theorem dX1_firstBarButAxles_0 : decode cX1_firstBarButAxles 0 = .ok (.aload_n 0, 1) := by decide +kernel
theorem dX1_firstBarButAxles_1 : decode cX1_firstBarButAxles 1 = .ok (.aload_n 1, 1) := by decide +kernel
theorem dX1_firstBarButAxles_2 : decode cX1_firstBarButAxles 2 = .ok (.iload_n 2, 1) := by decide +kernel
theorem dX1_firstBarButAxles_3 : decode cX1_firstBarButAxles 3 = .ok (.invokevirtual 81, 3) := by decide +kernel
theorem dX1_firstBarButAxles_6 : decode cX1_firstBarButAxles 6 = .ok (.ifCond .eq 5, 3) := by decide +kernel
theorem dX1_firstBarButAxles_9 : decode cX1_firstBarButAxles 9 = .ok (.iconst 1, 1) := by decide +kernel
theorem dX1_firstBarButAxles_10 : decode cX1_firstBarButAxles 10 = .ok (.ireturn, 1) := by decide +kernel
theorem dX1_firstBarButAxles_11 : decode cX1_firstBarButAxles 11 = .ok (.aload_n 0, 1) := by decide +kernel
theorem dX1_firstBarButAxles_12 : decode cX1_firstBarButAxles 12 = .ok (.aload_n 1, 1) := by decide +kernel
theorem dX1_firstBarButAxles_13 : decode cX1_firstBarButAxles 13 = .ok (.iload_n 2, 1) := by decide +kernel
theorem dX1_firstBarButAxles_14 : decode cX1_firstBarButAxles 14 = .ok (.invokevirtual 67, 3) := by decide +kernel
theorem dX1_firstBarButAxles_17 : decode cX1_firstBarButAxles 17 = .ok (.ifCond .eq 5, 3) := by decide +kernel
theorem dX1_firstBarButAxles_20 : decode cX1_firstBarButAxles 20 = .ok (.iconst 2, 1) := by decide +kernel
theorem dX1_firstBarButAxles_21 : decode cX1_firstBarButAxles 21 = .ok (.ireturn, 1) := by decide +kernel
theorem dX1_firstBarButAxles_22 : decode cX1_firstBarButAxles 22 = .ok (.aload_n 0, 1) := by decide +kernel
theorem dX1_firstBarButAxles_23 : decode cX1_firstBarButAxles 23 = .ok (.aload_n 1, 1) := by decide +kernel
theorem dX1_firstBarButAxles_24 : decode cX1_firstBarButAxles 24 = .ok (.iload_n 2, 1) := by decide +kernel
theorem dX1_firstBarButAxles_25 : decode cX1_firstBarButAxles 25 = .ok (.invokevirtual 71, 3) := by decide +kernel
theorem dX1_firstBarButAxles_28 : decode cX1_firstBarButAxles 28 = .ok (.ifCond .eq 5, 3) := by decide +kernel
theorem dX1_firstBarButAxles_31 : decode cX1_firstBarButAxles 31 = .ok (.iconst 3, 1) := by decide +kernel
theorem dX1_firstBarButAxles_32 : decode cX1_firstBarButAxles 32 = .ok (.ireturn, 1) := by decide +kernel
theorem dX1_firstBarButAxles_33 : decode cX1_firstBarButAxles 33 = .ok (.aload_n 0, 1) := by decide +kernel
theorem dX1_firstBarButAxles_34 : decode cX1_firstBarButAxles 34 = .ok (.aload_n 1, 1) := by decide +kernel
theorem dX1_firstBarButAxles_35 : decode cX1_firstBarButAxles 35 = .ok (.iload_n 2, 1) := by decide +kernel
theorem dX1_firstBarButAxles_36 : decode cX1_firstBarButAxles 36 = .ok (.invokevirtual 84, 3) := by decide +kernel
theorem dX1_firstBarButAxles_39 : decode cX1_firstBarButAxles 39 = .ok (.ifCond .eq 5, 3) := by decide +kernel
theorem dX1_firstBarButAxles_42 : decode cX1_firstBarButAxles 42 = .ok (.iconst 4, 1) := by decide +kernel
theorem dX1_firstBarButAxles_43 : decode cX1_firstBarButAxles 43 = .ok (.ireturn, 1) := by decide +kernel
theorem dX1_firstBarButAxles_44 : decode cX1_firstBarButAxles 44 = .ok (.aload_n 0, 1) := by decide +kernel
theorem dX1_firstBarButAxles_45 : decode cX1_firstBarButAxles 45 = .ok (.aload_n 1, 1) := by decide +kernel
theorem dX1_firstBarButAxles_46 : decode cX1_firstBarButAxles 46 = .ok (.aload_n 1, 1) := by decide +kernel
theorem dX1_firstBarButAxles_47 : decode cX1_firstBarButAxles 47 = .ok (.getfield 87, 3) := by decide +kernel
theorem dX1_firstBarButAxles_50 : decode cX1_firstBarButAxles 50 = .ok (.iload_n 2, 1) := by decide +kernel
theorem dX1_firstBarButAxles_51 : decode cX1_firstBarButAxles 51 = .ok (.invokevirtual 90, 3) := by decide +kernel
theorem dX1_firstBarButAxles_54 : decode cX1_firstBarButAxles 54 = .ok (.ifCond .eq 7, 3) := by decide +kernel
theorem dX1_firstBarButAxles_57 : decode cX1_firstBarButAxles 57 = .ok (.iconst 5, 1) := by decide +kernel
theorem dX1_firstBarButAxles_58 : decode cX1_firstBarButAxles 58 = .ok (.goto 4, 3) := by decide +kernel
theorem dX1_firstBarButAxles_61 : decode cX1_firstBarButAxles 61 = .ok (.iconst 0, 1) := by decide +kernel
theorem dX1_firstBarButAxles_62 : decode cX1_firstBarButAxles 62 = .ok (.ireturn, 1) := by decide +kernel
theorem dX1_barFromAllCells_0 : decode cX1_barFromAllCells 0 = .ok (.iconst 1, 1) := by decide +kernel
theorem dX1_barFromAllCells_1 : decode cX1_barFromAllCells 1 = .ok (.istore_n 2, 1) := by decide +kernel
theorem dX1_barFromAllCells_2 : decode cX1_barFromAllCells 2 = .ok (.iconst 0, 1) := by decide +kernel
theorem dX1_barFromAllCells_3 : decode cX1_barFromAllCells 3 = .ok (.istore_n 3, 1) := by decide +kernel
theorem dX1_barFromAllCells_4 : decode cX1_barFromAllCells 4 = .ok (.iload_n 3, 1) := by decide +kernel
theorem dX1_barFromAllCells_5 : decode cX1_barFromAllCells 5 = .ok (.aload_n 0, 1) := by decide +kernel
theorem dX1_barFromAllCells_6 : decode cX1_barFromAllCells 6 = .ok (.getfield 18, 3) := by decide +kernel
theorem dX1_barFromAllCells_9 : decode cX1_barFromAllCells 9 = .ok (.if_icmp .ge 31, 3) := by decide +kernel
theorem dX1_barFromAllCells_12 : decode cX1_barFromAllCells 12 = .ok (.aload_n 0, 1) := by decide +kernel
theorem dX1_barFromAllCells_13 : decode cX1_barFromAllCells 13 = .ok (.aload_n 1, 1) := by decide +kernel
theorem dX1_barFromAllCells_14 : decode cX1_barFromAllCells 14 = .ok (.iload_n 3, 1) := by decide +kernel
theorem dX1_barFromAllCells_15 : decode cX1_barFromAllCells 15 = .ok (.invokevirtual 94, 3) := by decide +kernel
theorem dX1_barFromAllCells_18 : decode cX1_barFromAllCells 18 = .ok (.istore 4, 2) := by decide +kernel
theorem dX1_barFromAllCells_20 : decode cX1_barFromAllCells 20 = .ok (.iload 4, 2) := by decide +kernel
theorem dX1_barFromAllCells_22 : decode cX1_barFromAllCells 22 = .ok (.ifCond .ne 5, 3) := by decide +kernel
theorem dX1_barFromAllCells_25 : decode cX1_barFromAllCells 25 = .ok (.iconst 0, 1) := by decide +kernel
theorem dX1_barFromAllCells_26 : decode cX1_barFromAllCells 26 = .ok (.ireturn, 1) := by decide +kernel
theorem dX1_barFromAllCells_27 : decode cX1_barFromAllCells 27 = .ok (.iload_n 2, 1) := by decide +kernel
theorem dX1_barFromAllCells_28 : decode cX1_barFromAllCells 28 = .ok (.iload 4, 2) := by decide +kernel
theorem dX1_barFromAllCells_30 : decode cX1_barFromAllCells 30 = .ok (.invokestatic 15, 3) := by decide +kernel
theorem dX1_barFromAllCells_33 : decode cX1_barFromAllCells 33 = .ok (.istore_n 2, 1) := by decide +kernel
theorem dX1_barFromAllCells_34 : decode cX1_barFromAllCells 34 = .ok (.iinc 3 1, 3) := by decide +kernel
theorem dX1_barFromAllCells_37 : decode cX1_barFromAllCells 37 = .ok (.goto (-33), 3) := by decide +kernel
theorem dX1_barFromAllCells_40 : decode cX1_barFromAllCells 40 = .ok (.iload_n 2, 1) := by decide +kernel
theorem dX1_barFromAllCells_41 : decode cX1_barFromAllCells 41 = .ok (.ireturn, 1) := by decide +kernel
theorem dX1_othersBar_0 : decode cX1_othersBar 0 = .ok (.aload_n 1, 1) := by decide +kernel
theorem dX1_othersBar_1 : decode cX1_othersBar 1 = .ok (.getfield 49, 3) := by decide +kernel
theorem dX1_othersBar_4 : decode cX1_othersBar 4 = .ok (.iload_n 2, 1) := by decide +kernel
theorem dX1_othersBar_5 : decode cX1_othersBar 5 = .ok (.if_icmp .eq 15, 3) := by decide +kernel
theorem dX1_othersBar_8 : decode cX1_othersBar 8 = .ok (.aload_n 0, 1) := by decide +kernel
theorem dX1_othersBar_9 : decode cX1_othersBar 9 = .ok (.iload_n 2, 1) := by decide +kernel
theorem dX1_othersBar_10 : decode cX1_othersBar 10 = .ok (.invokevirtual 97, 3) := by decide +kernel
theorem dX1_othersBar_13 : decode cX1_othersBar 13 = .ok (.ifCond .eq 7, 3) := by decide +kernel
theorem dX1_othersBar_16 : decode cX1_othersBar 16 = .ok (.iconst 1, 1) := by decide +kernel
theorem dX1_othersBar_17 : decode cX1_othersBar 17 = .ok (.goto 4, 3) := by decide +kernel
theorem dX1_othersBar_20 : decode cX1_othersBar 20 = .ok (.iconst 0, 1) := by decide +kernel
theorem dX1_othersBar_21 : decode cX1_othersBar 21 = .ok (.ireturn, 1) := by decide +kernel
theorem dX1_heightBars_0 : decode cX1_heightBars 0 = .ok (.aload_n 0, 1) := by decide +kernel
theorem dX1_heightBars_1 : decode cX1_heightBars 1 = .ok (.iload_n 2, 1) := by decide +kernel
theorem dX1_heightBars_2 : decode cX1_heightBars 2 = .ok (.invokevirtual 101, 3) := by decide +kernel
theorem dX1_heightBars_5 : decode cX1_heightBars 5 = .ok (.ifCond .eq 20, 3) := by decide +kernel
theorem dX1_heightBars_8 : decode cX1_heightBars 8 = .ok (.aload_n 0, 1) := by decide +kernel
theorem dX1_heightBars_9 : decode cX1_heightBars 9 = .ok (.getfield 24, 3) := by decide +kernel
theorem dX1_heightBars_12 : decode cX1_heightBars 12 = .ok (.iload_n 2, 1) := by decide +kernel
theorem dX1_heightBars_13 : decode cX1_heightBars 13 = .ok (.iaload, 1) := by decide +kernel
theorem dX1_heightBars_14 : decode cX1_heightBars 14 = .ok (.aload_n 1, 1) := by decide +kernel
theorem dX1_heightBars_15 : decode cX1_heightBars 15 = .ok (.getfield 104, 3) := by decide +kernel
theorem dX1_heightBars_18 : decode cX1_heightBars 18 = .ok (.if_icmp .ge 7, 3) := by decide +kernel
theorem dX1_heightBars_21 : decode cX1_heightBars 21 = .ok (.iconst 1, 1) := by decide +kernel
theorem dX1_heightBars_22 : decode cX1_heightBars 22 = .ok (.goto 4, 3) := by decide +kernel
theorem dX1_heightBars_25 : decode cX1_heightBars 25 = .ok (.iconst 0, 1) := by decide +kernel
theorem dX1_heightBars_26 : decode cX1_heightBars 26 = .ok (.ireturn, 1) := by decide +kernel
theorem dX1_coldBars_0 : decode cX1_coldBars 0 = .ok (.aload_n 0, 1) := by decide +kernel
theorem dX1_coldBars_1 : decode cX1_coldBars 1 = .ok (.iload_n 2, 1) := by decide +kernel
theorem dX1_coldBars_2 : decode cX1_coldBars 2 = .ok (.invokevirtual 101, 3) := by decide +kernel
theorem dX1_coldBars_5 : decode cX1_coldBars 5 = .ok (.ifCond .eq 23, 3) := by decide +kernel
theorem dX1_coldBars_8 : decode cX1_coldBars 8 = .ok (.aload_n 1, 1) := by decide +kernel
theorem dX1_coldBars_9 : decode cX1_coldBars 9 = .ok (.getfield 107, 3) := by decide +kernel
theorem dX1_coldBars_12 : decode cX1_coldBars 12 = .ok (.ifCond .eq 16, 3) := by decide +kernel
theorem dX1_coldBars_15 : decode cX1_coldBars 15 = .ok (.aload_n 0, 1) := by decide +kernel
theorem dX1_coldBars_16 : decode cX1_coldBars 16 = .ok (.getfield 28, 3) := by decide +kernel
theorem dX1_coldBars_19 : decode cX1_coldBars 19 = .ok (.iload_n 2, 1) := by decide +kernel
theorem dX1_coldBars_20 : decode cX1_coldBars 20 = .ok (.baload, 1) := by decide +kernel
theorem dX1_coldBars_21 : decode cX1_coldBars 21 = .ok (.ifCond .ne 7, 3) := by decide +kernel
theorem dX1_coldBars_24 : decode cX1_coldBars 24 = .ok (.iconst 1, 1) := by decide +kernel
theorem dX1_coldBars_25 : decode cX1_coldBars 25 = .ok (.goto 4, 3) := by decide +kernel
theorem dX1_coldBars_28 : decode cX1_coldBars 28 = .ok (.iconst 0, 1) := by decide +kernel
theorem dX1_coldBars_29 : decode cX1_coldBars 29 = .ok (.ireturn, 1) := by decide +kernel
theorem dX1_dangerBars_0 : decode cX1_dangerBars 0 = .ok (.iconst 0, 1) := by decide +kernel
theorem dX1_dangerBars_1 : decode cX1_dangerBars 1 = .ok (.istore_n 3, 1) := by decide +kernel
theorem dX1_dangerBars_2 : decode cX1_dangerBars 2 = .ok (.iload_n 3, 1) := by decide +kernel
theorem dX1_dangerBars_3 : decode cX1_dangerBars 3 = .ok (.aload_n 0, 1) := by decide +kernel
theorem dX1_dangerBars_4 : decode cX1_dangerBars 4 = .ok (.getfield 45, 3) := by decide +kernel
theorem dX1_dangerBars_7 : decode cX1_dangerBars 7 = .ok (.if_icmp .ge 62, 3) := by decide +kernel
theorem dX1_dangerBars_10 : decode cX1_dangerBars 10 = .ok (.aload_n 0, 1) := by decide +kernel
theorem dX1_dangerBars_11 : decode cX1_dangerBars 11 = .ok (.getfield 34, 3) := by decide +kernel
theorem dX1_dangerBars_14 : decode cX1_dangerBars 14 = .ok (.iload_n 3, 1) := by decide +kernel
theorem dX1_dangerBars_15 : decode cX1_dangerBars 15 = .ok (.aaload, 1) := by decide +kernel
theorem dX1_dangerBars_16 : decode cX1_dangerBars 16 = .ok (.astore 4, 2) := by decide +kernel
theorem dX1_dangerBars_18 : decode cX1_dangerBars 18 = .ok (.aload 4, 2) := by decide +kernel
theorem dX1_dangerBars_20 : decode cX1_dangerBars 20 = .ok (.aload_n 1, 1) := by decide +kernel
theorem dX1_dangerBars_21 : decode cX1_dangerBars 21 = .ok (.if_acmp .eq 42, 3) := by decide +kernel
theorem dX1_dangerBars_24 : decode cX1_dangerBars 24 = .ok (.aload 4, 2) := by decide +kernel
theorem dX1_dangerBars_26 : decode cX1_dangerBars 26 = .ok (.invokevirtual 52, 3) := by decide +kernel
theorem dX1_dangerBars_29 : decode cX1_dangerBars 29 = .ok (.ifCond .eq 34, 3) := by decide +kernel
theorem dX1_dangerBars_32 : decode cX1_dangerBars 32 = .ok (.aload_n 1, 1) := by decide +kernel
theorem dX1_dangerBars_33 : decode cX1_dangerBars 33 = .ok (.getfield 111, 3) := by decide +kernel
theorem dX1_dangerBars_36 : decode cX1_dangerBars 36 = .ok (.ifCond .eq 27, 3) := by decide +kernel
theorem dX1_dangerBars_39 : decode cX1_dangerBars 39 = .ok (.aload 4, 2) := by decide +kernel
theorem dX1_dangerBars_41 : decode cX1_dangerBars 41 = .ok (.getfield 111, 3) := by decide +kernel
theorem dX1_dangerBars_44 : decode cX1_dangerBars 44 = .ok (.ifCond .eq 19, 3) := by decide +kernel
theorem dX1_dangerBars_47 : decode cX1_dangerBars 47 = .ok (.aload 4, 2) := by decide +kernel
theorem dX1_dangerBars_49 : decode cX1_dangerBars 49 = .ok (.getfield 49, 3) := by decide +kernel
theorem dX1_dangerBars_52 : decode cX1_dangerBars 52 = .ok (.iload_n 2, 1) := by decide +kernel
theorem dX1_dangerBars_53 : decode cX1_dangerBars 53 = .ok (.isub, 1) := by decide +kernel
theorem dX1_dangerBars_54 : decode cX1_dangerBars 54 = .ok (.invokestatic 114, 3) := by decide +kernel
theorem dX1_dangerBars_57 : decode cX1_dangerBars 57 = .ok (.iconst 1, 1) := by decide +kernel
theorem dX1_dangerBars_58 : decode cX1_dangerBars 58 = .ok (.if_icmp .ne 5, 3) := by decide +kernel
theorem dX1_dangerBars_61 : decode cX1_dangerBars 61 = .ok (.iconst 1, 1) := by decide +kernel
theorem dX1_dangerBars_62 : decode cX1_dangerBars 62 = .ok (.ireturn, 1) := by decide +kernel
theorem dX1_dangerBars_63 : decode cX1_dangerBars 63 = .ok (.iinc 3 1, 3) := by decide +kernel
theorem dX1_dangerBars_66 : decode cX1_dangerBars 66 = .ok (.goto (-64), 3) := by decide +kernel
theorem dX1_dangerBars_69 : decode cX1_dangerBars 69 = .ok (.iconst 0, 1) := by decide +kernel
theorem dX1_dangerBars_70 : decode cX1_dangerBars 70 = .ok (.ireturn, 1) := by decide +kernel
theorem dX1_stopsBar_0 : decode cX1_stopsBar 0 = .ok (.iconst 0, 1) := by decide +kernel
theorem dX1_stopsBar_1 : decode cX1_stopsBar 1 = .ok (.istore 4, 2) := by decide +kernel
theorem dX1_stopsBar_3 : decode cX1_stopsBar 3 = .ok (.iload 4, 2) := by decide +kernel
theorem dX1_stopsBar_5 : decode cX1_stopsBar 5 = .ok (.aload_n 0, 1) := by decide +kernel
theorem dX1_stopsBar_6 : decode cX1_stopsBar 6 = .ok (.getfield 45, 3) := by decide +kernel
theorem dX1_stopsBar_9 : decode cX1_stopsBar 9 = .ok (.if_icmp .ge 70, 3) := by decide +kernel
theorem dX1_stopsBar_12 : decode cX1_stopsBar 12 = .ok (.aload_n 0, 1) := by decide +kernel
theorem dX1_stopsBar_13 : decode cX1_stopsBar 13 = .ok (.getfield 34, 3) := by decide +kernel
theorem dX1_stopsBar_16 : decode cX1_stopsBar 16 = .ok (.iload 4, 2) := by decide +kernel
theorem dX1_stopsBar_18 : decode cX1_stopsBar 18 = .ok (.aaload, 1) := by decide +kernel
theorem dX1_stopsBar_19 : decode cX1_stopsBar 19 = .ok (.astore 5, 2) := by decide +kernel
theorem dX1_stopsBar_21 : decode cX1_stopsBar 21 = .ok (.aload 5, 2) := by decide +kernel
theorem dX1_stopsBar_23 : decode cX1_stopsBar 23 = .ok (.aload_n 1, 1) := by decide +kernel
theorem dX1_stopsBar_24 : decode cX1_stopsBar 24 = .ok (.if_acmp .eq 49, 3) := by decide +kernel
theorem dX1_stopsBar_27 : decode cX1_stopsBar 27 = .ok (.aload 5, 2) := by decide +kernel
theorem dX1_stopsBar_29 : decode cX1_stopsBar 29 = .ok (.invokevirtual 52, 3) := by decide +kernel
theorem dX1_stopsBar_32 : decode cX1_stopsBar 32 = .ok (.ifCond .eq 41, 3) := by decide +kernel
theorem dX1_stopsBar_35 : decode cX1_stopsBar 35 = .ok (.aload 5, 2) := by decide +kernel
theorem dX1_stopsBar_37 : decode cX1_stopsBar 37 = .ok (.getfield 87, 3) := by decide +kernel
theorem dX1_stopsBar_40 : decode cX1_stopsBar 40 = .ok (.iload_n 2, 1) := by decide +kernel
theorem dX1_stopsBar_41 : decode cX1_stopsBar 41 = .ok (.if_icmp .ge 12, 3) := by decide +kernel
theorem dX1_stopsBar_44 : decode cX1_stopsBar 44 = .ok (.aload 5, 2) := by decide +kernel
theorem dX1_stopsBar_46 : decode cX1_stopsBar 46 = .ok (.getfield 49, 3) := by decide +kernel
theorem dX1_stopsBar_49 : decode cX1_stopsBar 49 = .ok (.iload_n 3, 1) := by decide +kernel
theorem dX1_stopsBar_50 : decode cX1_stopsBar 50 = .ok (.if_icmp .lt 21, 3) := by decide +kernel
theorem dX1_stopsBar_53 : decode cX1_stopsBar 53 = .ok (.aload 5, 2) := by decide +kernel
theorem dX1_stopsBar_55 : decode cX1_stopsBar 55 = .ok (.getfield 87, 3) := by decide +kernel
theorem dX1_stopsBar_58 : decode cX1_stopsBar 58 = .ok (.iload_n 2, 1) := by decide +kernel
theorem dX1_stopsBar_59 : decode cX1_stopsBar 59 = .ok (.if_icmp .le 14, 3) := by decide +kernel
theorem dX1_stopsBar_62 : decode cX1_stopsBar 62 = .ok (.aload 5, 2) := by decide +kernel
theorem dX1_stopsBar_64 : decode cX1_stopsBar 64 = .ok (.getfield 49, 3) := by decide +kernel
theorem dX1_stopsBar_67 : decode cX1_stopsBar 67 = .ok (.iload_n 3, 1) := by decide +kernel
theorem dX1_stopsBar_68 : decode cX1_stopsBar 68 = .ok (.if_icmp .le 5, 3) := by decide +kernel
theorem dX1_stopsBar_71 : decode cX1_stopsBar 71 = .ok (.iconst 1, 1) := by decide +kernel
theorem dX1_stopsBar_72 : decode cX1_stopsBar 72 = .ok (.ireturn, 1) := by decide +kernel
theorem dX1_stopsBar_73 : decode cX1_stopsBar 73 = .ok (.iinc 4 1, 3) := by decide +kernel
theorem dX1_stopsBar_76 : decode cX1_stopsBar 76 = .ok (.goto (-73), 3) := by decide +kernel
theorem dX1_stopsBar_79 : decode cX1_stopsBar 79 = .ok (.iconst 0, 1) := by decide +kernel
theorem dX1_stopsBar_80 : decode cX1_stopsBar 80 = .ok (.ireturn, 1) := by decide +kernel
theorem dX1_axlesBar_0 : decode cX1_axlesBar 0 = .ok (.aload_n 1, 1) := by decide +kernel
theorem dX1_axlesBar_1 : decode cX1_axlesBar 1 = .ok (.getfield 49, 3) := by decide +kernel
theorem dX1_axlesBar_4 : decode cX1_axlesBar 4 = .ok (.istore_n 3, 1) := by decide +kernel
theorem dX1_axlesBar_5 : decode cX1_axlesBar 5 = .ok (.aload_n 1, 1) := by decide +kernel
theorem dX1_axlesBar_6 : decode cX1_axlesBar 6 = .ok (.iload_n 2, 1) := by decide +kernel
theorem dX1_axlesBar_7 : decode cX1_axlesBar 7 = .ok (.putfield 49, 3) := by decide +kernel
theorem dX1_axlesBar_10 : decode cX1_axlesBar 10 = .ok (.aload_n 0, 1) := by decide +kernel
theorem dX1_axlesBar_11 : decode cX1_axlesBar 11 = .ok (.getfield 41, 3) := by decide +kernel
theorem dX1_axlesBar_14 : decode cX1_axlesBar 14 = .ok (.aload_n 0, 1) := by decide +kernel
theorem dX1_axlesBar_15 : decode cX1_axlesBar 15 = .ok (.iconst 0, 1) := by decide +kernel
theorem dX1_axlesBar_16 : decode cX1_axlesBar 16 = .ok (.invokevirtual 118, 3) := by decide +kernel
theorem dX1_axlesBar_19 : decode cX1_axlesBar 19 = .ok (.aload_n 0, 1) := by decide +kernel
theorem dX1_axlesBar_20 : decode cX1_axlesBar 20 = .ok (.iconst 1, 1) := by decide +kernel
theorem dX1_axlesBar_21 : decode cX1_axlesBar 21 = .ok (.invokevirtual 118, 3) := by decide +kernel
theorem dX1_axlesBar_24 : decode cX1_axlesBar 24 = .ok (.invokevirtual 121, 3) := by decide +kernel
theorem dX1_axlesBar_27 : decode cX1_axlesBar 27 = .ok (.istore 4, 2) := by decide +kernel
theorem dX1_axlesBar_29 : decode cX1_axlesBar 29 = .ok (.aload_n 1, 1) := by decide +kernel
theorem dX1_axlesBar_30 : decode cX1_axlesBar 30 = .ok (.iload_n 3, 1) := by decide +kernel
theorem dX1_axlesBar_31 : decode cX1_axlesBar 31 = .ok (.putfield 49, 3) := by decide +kernel
theorem dX1_axlesBar_34 : decode cX1_axlesBar 34 = .ok (.iload 4, 2) := by decide +kernel
theorem dX1_axlesBar_36 : decode cX1_axlesBar 36 = .ok (.ifCond .ne 7, 3) := by decide +kernel
theorem dX1_axlesBar_39 : decode cX1_axlesBar 39 = .ok (.iconst 1, 1) := by decide +kernel
theorem dX1_axlesBar_40 : decode cX1_axlesBar 40 = .ok (.goto 4, 3) := by decide +kernel
theorem dX1_axlesBar_43 : decode cX1_axlesBar 43 = .ok (.iconst 0, 1) := by decide +kernel
theorem dX1_axlesBar_44 : decode cX1_axlesBar 44 = .ok (.ireturn, 1) := by decide +kernel
theorem dX1_takeAllOut_0 : decode cX1_takeAllOut 0 = .ok (.iconst 0, 1) := by decide +kernel
theorem dX1_takeAllOut_1 : decode cX1_takeAllOut 1 = .ok (.istore_n 1, 1) := by decide +kernel
theorem dX1_takeAllOut_2 : decode cX1_takeAllOut 2 = .ok (.iload_n 1, 1) := by decide +kernel
theorem dX1_takeAllOut_3 : decode cX1_takeAllOut 3 = .ok (.aload_n 0, 1) := by decide +kernel
theorem dX1_takeAllOut_4 : decode cX1_takeAllOut 4 = .ok (.getfield 45, 3) := by decide +kernel
theorem dX1_takeAllOut_7 : decode cX1_takeAllOut 7 = .ok (.if_icmp .ge 19, 3) := by decide +kernel
theorem dX1_takeAllOut_10 : decode cX1_takeAllOut 10 = .ok (.aload_n 0, 1) := by decide +kernel
theorem dX1_takeAllOut_11 : decode cX1_takeAllOut 11 = .ok (.getfield 34, 3) := by decide +kernel
theorem dX1_takeAllOut_14 : decode cX1_takeAllOut 14 = .ok (.iload_n 1, 1) := by decide +kernel
theorem dX1_takeAllOut_15 : decode cX1_takeAllOut 15 = .ok (.aaload, 1) := by decide +kernel
theorem dX1_takeAllOut_16 : decode cX1_takeAllOut 16 = .ok (.iconst (-1), 1) := by decide +kernel
theorem dX1_takeAllOut_17 : decode cX1_takeAllOut 17 = .ok (.putfield 49, 3) := by decide +kernel
theorem dX1_takeAllOut_20 : decode cX1_takeAllOut 20 = .ok (.iinc 1 1, 3) := by decide +kernel
theorem dX1_takeAllOut_23 : decode cX1_takeAllOut 23 = .ok (.goto (-21), 3) := by decide +kernel
theorem dX1_takeAllOut_26 : decode cX1_takeAllOut 26 = .ok (.return_, 1) := by decide +kernel
theorem dX1_placeByRule_0 : decode cX1_placeByRule 0 = .ok (.aload_n 0, 1) := by decide +kernel
theorem dX1_placeByRule_1 : decode cX1_placeByRule 1 = .ok (.invokevirtual 125, 3) := by decide +kernel
theorem dX1_placeByRule_4 : decode cX1_placeByRule 4 = .ok (.iconst 0, 1) := by decide +kernel
theorem dX1_placeByRule_5 : decode cX1_placeByRule 5 = .ok (.istore_n 1, 1) := by decide +kernel
theorem dX1_placeByRule_6 : decode cX1_placeByRule 6 = .ok (.bipush 9, 2) := by decide +kernel
theorem dX1_placeByRule_8 : decode cX1_placeByRule 8 = .ok (.istore_n 2, 1) := by decide +kernel
theorem dX1_placeByRule_9 : decode cX1_placeByRule 9 = .ok (.iload_n 2, 1) := by decide +kernel
theorem dX1_placeByRule_10 : decode cX1_placeByRule 10 = .ok (.iconst 1, 1) := by decide +kernel
theorem dX1_placeByRule_11 : decode cX1_placeByRule 11 = .ok (.if_icmp .lt 50, 3) := by decide +kernel
theorem dX1_placeByRule_14 : decode cX1_placeByRule 14 = .ok (.iconst 0, 1) := by decide +kernel
theorem dX1_placeByRule_15 : decode cX1_placeByRule 15 = .ok (.istore_n 3, 1) := by decide +kernel
theorem dX1_placeByRule_16 : decode cX1_placeByRule 16 = .ok (.iload_n 3, 1) := by decide +kernel
theorem dX1_placeByRule_17 : decode cX1_placeByRule 17 = .ok (.aload_n 0, 1) := by decide +kernel
theorem dX1_placeByRule_18 : decode cX1_placeByRule 18 = .ok (.getfield 45, 3) := by decide +kernel
theorem dX1_placeByRule_21 : decode cX1_placeByRule 21 = .ok (.if_icmp .ge 34, 3) := by decide +kernel
theorem dX1_placeByRule_24 : decode cX1_placeByRule 24 = .ok (.aload_n 0, 1) := by decide +kernel
theorem dX1_placeByRule_25 : decode cX1_placeByRule 25 = .ok (.getfield 34, 3) := by decide +kernel
theorem dX1_placeByRule_28 : decode cX1_placeByRule 28 = .ok (.iload_n 3, 1) := by decide +kernel
theorem dX1_placeByRule_29 : decode cX1_placeByRule 29 = .ok (.aaload, 1) := by decide +kernel
theorem dX1_placeByRule_30 : decode cX1_placeByRule 30 = .ok (.getfield 87, 3) := by decide +kernel
theorem dX1_placeByRule_33 : decode cX1_placeByRule 33 = .ok (.iload_n 2, 1) := by decide +kernel
theorem dX1_placeByRule_34 : decode cX1_placeByRule 34 = .ok (.if_icmp .ne 15, 3) := by decide +kernel
theorem dX1_placeByRule_37 : decode cX1_placeByRule 37 = .ok (.aload_n 0, 1) := by decide +kernel
theorem dX1_placeByRule_38 : decode cX1_placeByRule 38 = .ok (.iload_n 1, 1) := by decide +kernel
theorem dX1_placeByRule_39 : decode cX1_placeByRule 39 = .ok (.aload_n 0, 1) := by decide +kernel
theorem dX1_placeByRule_40 : decode cX1_placeByRule 40 = .ok (.getfield 34, 3) := by decide +kernel
theorem dX1_placeByRule_43 : decode cX1_placeByRule 43 = .ok (.iload_n 3, 1) := by decide +kernel
theorem dX1_placeByRule_44 : decode cX1_placeByRule 44 = .ok (.aaload, 1) := by decide +kernel
theorem dX1_placeByRule_45 : decode cX1_placeByRule 45 = .ok (.invokevirtual 128, 3) := by decide +kernel
theorem dX1_placeByRule_48 : decode cX1_placeByRule 48 = .ok (.istore_n 1, 1) := by decide +kernel
theorem dX1_placeByRule_49 : decode cX1_placeByRule 49 = .ok (.iinc 3 1, 3) := by decide +kernel
theorem dX1_placeByRule_52 : decode cX1_placeByRule 52 = .ok (.goto (-36), 3) := by decide +kernel
theorem dX1_placeByRule_55 : decode cX1_placeByRule 55 = .ok (.iinc 2 (-1), 3) := by decide +kernel
theorem dX1_placeByRule_58 : decode cX1_placeByRule 58 = .ok (.goto (-49), 3) := by decide +kernel
theorem dX1_placeByRule_61 : decode cX1_placeByRule 61 = .ok (.return_, 1) := by decide +kernel
theorem dX1_placeFrom_0 : decode cX1_placeFrom 0 = .ok (.iload_n 1, 1) := by decide +kernel
theorem dX1_placeFrom_1 : decode cX1_placeFrom 1 = .ok (.istore_n 3, 1) := by decide +kernel
theorem dX1_placeFrom_2 : decode cX1_placeFrom 2 = .ok (.iload_n 3, 1) := by decide +kernel
theorem dX1_placeFrom_3 : decode cX1_placeFrom 3 = .ok (.aload_n 0, 1) := by decide +kernel
theorem dX1_placeFrom_4 : decode cX1_placeFrom 4 = .ok (.getfield 18, 3) := by decide +kernel
theorem dX1_placeFrom_7 : decode cX1_placeFrom 7 = .ok (.if_icmp .ge 27, 3) := by decide +kernel
theorem dX1_placeFrom_10 : decode cX1_placeFrom 10 = .ok (.aload_n 0, 1) := by decide +kernel
theorem dX1_placeFrom_11 : decode cX1_placeFrom 11 = .ok (.aload_n 2, 1) := by decide +kernel
theorem dX1_placeFrom_12 : decode cX1_placeFrom 12 = .ok (.iload_n 3, 1) := by decide +kernel
theorem dX1_placeFrom_13 : decode cX1_placeFrom 13 = .ok (.invokevirtual 74, 3) := by decide +kernel
theorem dX1_placeFrom_16 : decode cX1_placeFrom 16 = .ok (.ifCond .ne 12, 3) := by decide +kernel
theorem dX1_placeFrom_19 : decode cX1_placeFrom 19 = .ok (.aload_n 2, 1) := by decide +kernel
theorem dX1_placeFrom_20 : decode cX1_placeFrom 20 = .ok (.iload_n 3, 1) := by decide +kernel
theorem dX1_placeFrom_21 : decode cX1_placeFrom 21 = .ok (.putfield 49, 3) := by decide +kernel
theorem dX1_placeFrom_24 : decode cX1_placeFrom 24 = .ok (.iload_n 3, 1) := by decide +kernel
theorem dX1_placeFrom_25 : decode cX1_placeFrom 25 = .ok (.iconst 1, 1) := by decide +kernel
theorem dX1_placeFrom_26 : decode cX1_placeFrom 26 = .ok (.iadd, 1) := by decide +kernel
theorem dX1_placeFrom_27 : decode cX1_placeFrom 27 = .ok (.ireturn, 1) := by decide +kernel
theorem dX1_placeFrom_28 : decode cX1_placeFrom 28 = .ok (.iinc 3 1, 3) := by decide +kernel
theorem dX1_placeFrom_31 : decode cX1_placeFrom 31 = .ok (.goto (-29), 3) := by decide +kernel
theorem dX1_placeFrom_34 : decode cX1_placeFrom 34 = .ok (.iload_n 1, 1) := by decide +kernel
theorem dX1_placeFrom_35 : decode cX1_placeFrom 35 = .ok (.ireturn, 1) := by decide +kernel
theorem dX1_fromDoors_0 : decode cX1_fromDoors 0 = .ok (.iconst 0, 1) := by decide +kernel
theorem dX1_fromDoors_1 : decode cX1_fromDoors 1 = .ok (.istore_n 3, 1) := by decide +kernel
theorem dX1_fromDoors_2 : decode cX1_fromDoors 2 = .ok (.aload_n 0, 1) := by decide +kernel
theorem dX1_fromDoors_3 : decode cX1_fromDoors 3 = .ok (.getfield 18, 3) := by decide +kernel
theorem dX1_fromDoors_6 : decode cX1_fromDoors 6 = .ok (.iconst 1, 1) := by decide +kernel
theorem dX1_fromDoors_7 : decode cX1_fromDoors 7 = .ok (.isub, 1) := by decide +kernel
theorem dX1_fromDoors_8 : decode cX1_fromDoors 8 = .ok (.istore 4, 2) := by decide +kernel
theorem dX1_fromDoors_10 : decode cX1_fromDoors 10 = .ok (.iload 4, 2) := by decide +kernel
theorem dX1_fromDoors_12 : decode cX1_fromDoors 12 = .ok (.ifCond .lt 34, 3) := by decide +kernel
theorem dX1_fromDoors_15 : decode cX1_fromDoors 15 = .ok (.aload_n 0, 1) := by decide +kernel
theorem dX1_fromDoors_16 : decode cX1_fromDoors 16 = .ok (.iload_n 1, 1) := by decide +kernel
theorem dX1_fromDoors_17 : decode cX1_fromDoors 17 = .ok (.iload 4, 2) := by decide +kernel
theorem dX1_fromDoors_19 : decode cX1_fromDoors 19 = .ok (.invokevirtual 132, 3) := by decide +kernel
theorem dX1_fromDoors_22 : decode cX1_fromDoors 22 = .ok (.istore 5, 2) := by decide +kernel
theorem dX1_fromDoors_24 : decode cX1_fromDoors 24 = .ok (.iload 5, 2) := by decide +kernel
theorem dX1_fromDoors_26 : decode cX1_fromDoors 26 = .ok (.ifCond .lt 14, 3) := by decide +kernel
theorem dX1_fromDoors_29 : decode cX1_fromDoors 29 = .ok (.iload_n 3, 1) := by decide +kernel
theorem dX1_fromDoors_30 : decode cX1_fromDoors 30 = .ok (.iload_n 2, 1) := by decide +kernel
theorem dX1_fromDoors_31 : decode cX1_fromDoors 31 = .ok (.if_icmp .ne 6, 3) := by decide +kernel
theorem dX1_fromDoors_34 : decode cX1_fromDoors 34 = .ok (.iload 5, 2) := by decide +kernel
theorem dX1_fromDoors_36 : decode cX1_fromDoors 36 = .ok (.ireturn, 1) := by decide +kernel
theorem dX1_fromDoors_37 : decode cX1_fromDoors 37 = .ok (.iinc 3 1, 3) := by decide +kernel
theorem dX1_fromDoors_40 : decode cX1_fromDoors 40 = .ok (.iinc 4 (-1), 3) := by decide +kernel
theorem dX1_fromDoors_43 : decode cX1_fromDoors 43 = .ok (.goto (-33), 3) := by decide +kernel
theorem dX1_fromDoors_46 : decode cX1_fromDoors 46 = .ok (.iconst (-1), 1) := by decide +kernel
theorem dX1_fromDoors_47 : decode cX1_fromDoors 47 = .ok (.ireturn, 1) := by decide +kernel
theorem dX1_standingFor_0 : decode cX1_standingFor 0 = .ok (.iconst 0, 1) := by decide +kernel
theorem dX1_standingFor_1 : decode cX1_standingFor 1 = .ok (.istore_n 3, 1) := by decide +kernel
theorem dX1_standingFor_2 : decode cX1_standingFor 2 = .ok (.iload_n 3, 1) := by decide +kernel
theorem dX1_standingFor_3 : decode cX1_standingFor 3 = .ok (.aload_n 0, 1) := by decide +kernel
theorem dX1_standingFor_4 : decode cX1_standingFor 4 = .ok (.getfield 45, 3) := by decide +kernel
theorem dX1_standingFor_7 : decode cX1_standingFor 7 = .ok (.if_icmp .ge 37, 3) := by decide +kernel
theorem dX1_standingFor_10 : decode cX1_standingFor 10 = .ok (.aload_n 0, 1) := by decide +kernel
theorem dX1_standingFor_11 : decode cX1_standingFor 11 = .ok (.getfield 34, 3) := by decide +kernel
theorem dX1_standingFor_14 : decode cX1_standingFor 14 = .ok (.iload_n 3, 1) := by decide +kernel
theorem dX1_standingFor_15 : decode cX1_standingFor 15 = .ok (.aaload, 1) := by decide +kernel
theorem dX1_standingFor_16 : decode cX1_standingFor 16 = .ok (.getfield 49, 3) := by decide +kernel
theorem dX1_standingFor_19 : decode cX1_standingFor 19 = .ok (.iload_n 2, 1) := by decide +kernel
theorem dX1_standingFor_20 : decode cX1_standingFor 20 = .ok (.if_icmp .ne 18, 3) := by decide +kernel
theorem dX1_standingFor_23 : decode cX1_standingFor 23 = .ok (.aload_n 0, 1) := by decide +kernel
theorem dX1_standingFor_24 : decode cX1_standingFor 24 = .ok (.getfield 34, 3) := by decide +kernel
theorem dX1_standingFor_27 : decode cX1_standingFor 27 = .ok (.iload_n 3, 1) := by decide +kernel
theorem dX1_standingFor_28 : decode cX1_standingFor 28 = .ok (.aaload, 1) := by decide +kernel
theorem dX1_standingFor_29 : decode cX1_standingFor 29 = .ok (.getfield 87, 3) := by decide +kernel
theorem dX1_standingFor_32 : decode cX1_standingFor 32 = .ok (.iload_n 1, 1) := by decide +kernel
theorem dX1_standingFor_33 : decode cX1_standingFor 33 = .ok (.if_icmp .ne 5, 3) := by decide +kernel
theorem dX1_standingFor_36 : decode cX1_standingFor 36 = .ok (.iload_n 3, 1) := by decide +kernel
theorem dX1_standingFor_37 : decode cX1_standingFor 37 = .ok (.ireturn, 1) := by decide +kernel
theorem dX1_standingFor_38 : decode cX1_standingFor 38 = .ok (.iinc 3 1, 3) := by decide +kernel
theorem dX1_standingFor_41 : decode cX1_standingFor 41 = .ok (.goto (-39), 3) := by decide +kernel
theorem dX1_standingFor_44 : decode cX1_standingFor 44 = .ok (.iconst (-1), 1) := by decide +kernel
theorem dX1_standingFor_45 : decode cX1_standingFor 45 = .ok (.ireturn, 1) := by decide +kernel
theorem dX2_init_0 : decode cX2_init 0 = .ok (.aload_n 0, 1) := by decide +kernel
theorem dX2_init_1 : decode cX2_init 1 = .ok (.invokespecial 3, 3) := by decide +kernel
theorem dX2_init_4 : decode cX2_init 4 = .ok (.aload_n 0, 1) := by decide +kernel
theorem dX2_init_5 : decode cX2_init 5 = .ok (.iconst 1, 1) := by decide +kernel
theorem dX2_init_6 : decode cX2_init 6 = .ok (.putfield 9, 3) := by decide +kernel
theorem dX2_init_9 : decode cX2_init 9 = .ok (.aload_n 0, 1) := by decide +kernel
theorem dX2_init_10 : decode cX2_init 10 = .ok (.iconst 0, 1) := by decide +kernel
theorem dX2_init_11 : decode cX2_init 11 = .ok (.putfield 15, 3) := by decide +kernel
theorem dX2_init_14 : decode cX2_init 14 = .ok (.aload_n 0, 1) := by decide +kernel
theorem dX2_init_15 : decode cX2_init 15 = .ok (.iconst 0, 1) := by decide +kernel
theorem dX2_init_16 : decode cX2_init 16 = .ok (.putfield 19, 3) := by decide +kernel
theorem dX2_init_19 : decode cX2_init 19 = .ok (.aload_n 0, 1) := by decide +kernel
theorem dX2_init_20 : decode cX2_init 20 = .ok (.iconst 1, 1) := by decide +kernel
theorem dX2_init_21 : decode cX2_init 21 = .ok (.putfield 22, 3) := by decide +kernel
theorem dX2_init_24 : decode cX2_init 24 = .ok (.aload_n 0, 1) := by decide +kernel
theorem dX2_init_25 : decode cX2_init 25 = .ok (.iconst 1, 1) := by decide +kernel
theorem dX2_init_26 : decode cX2_init 26 = .ok (.putfield 25, 3) := by decide +kernel
theorem dX2_init_29 : decode cX2_init 29 = .ok (.aload_n 0, 1) := by decide +kernel
theorem dX2_init_30 : decode cX2_init 30 = .ok (.iconst (-1), 1) := by decide +kernel
theorem dX2_init_31 : decode cX2_init 31 = .ok (.putfield 28, 3) := by decide +kernel
theorem dX2_init_34 : decode cX2_init 34 = .ok (.return_, 1) := by decide +kernel
theorem dX2_set_0 : decode cX2_set 0 = .ok (.aload_n 0, 1) := by decide +kernel
theorem dX2_set_1 : decode cX2_set 1 = .ok (.iload_n 1, 1) := by decide +kernel
theorem dX2_set_2 : decode cX2_set 2 = .ok (.putfield 9, 3) := by decide +kernel
theorem dX2_set_5 : decode cX2_set 5 = .ok (.aload_n 0, 1) := by decide +kernel
theorem dX2_set_6 : decode cX2_set 6 = .ok (.iload_n 2, 1) := by decide +kernel
theorem dX2_set_7 : decode cX2_set 7 = .ok (.putfield 15, 3) := by decide +kernel
theorem dX2_set_10 : decode cX2_set 10 = .ok (.aload_n 0, 1) := by decide +kernel
theorem dX2_set_11 : decode cX2_set 11 = .ok (.iload_n 3, 1) := by decide +kernel
theorem dX2_set_12 : decode cX2_set 12 = .ok (.putfield 19, 3) := by decide +kernel
theorem dX2_set_15 : decode cX2_set 15 = .ok (.aload_n 0, 1) := by decide +kernel
theorem dX2_set_16 : decode cX2_set 16 = .ok (.iload 4, 2) := by decide +kernel
theorem dX2_set_18 : decode cX2_set 18 = .ok (.putfield 22, 3) := by decide +kernel
theorem dX2_set_21 : decode cX2_set 21 = .ok (.aload_n 0, 1) := by decide +kernel
theorem dX2_set_22 : decode cX2_set 22 = .ok (.iload 5, 2) := by decide +kernel
theorem dX2_set_24 : decode cX2_set 24 = .ok (.putfield 25, 3) := by decide +kernel
theorem dX2_set_27 : decode cX2_set 27 = .ok (.return_, 1) := by decide +kernel
theorem dX2_stands_0 : decode cX2_stands 0 = .ok (.aload_n 0, 1) := by decide +kernel
theorem dX2_stands_1 : decode cX2_stands 1 = .ok (.getfield 28, 3) := by decide +kernel
theorem dX2_stands_4 : decode cX2_stands 4 = .ok (.iconst (-1), 1) := by decide +kernel
theorem dX2_stands_5 : decode cX2_stands 5 = .ok (.if_icmp .eq 7, 3) := by decide +kernel
theorem dX2_stands_8 : decode cX2_stands 8 = .ok (.iconst 1, 1) := by decide +kernel
theorem dX2_stands_9 : decode cX2_stands 9 = .ok (.goto 4, 3) := by decide +kernel
theorem dX2_stands_12 : decode cX2_stands 12 = .ok (.iconst 0, 1) := by decide +kernel
theorem dX2_stands_13 : decode cX2_stands 13 = .ok (.ireturn, 1) := by decide +kernel
theorem dX3_init_0 : decode cX3_init 0 = .ok (.aload_n 0, 1) := by decide +kernel
theorem dX3_init_1 : decode cX3_init 1 = .ok (.invokespecial 3, 3) := by decide +kernel
theorem dX3_init_4 : decode cX3_init 4 = .ok (.aload_n 0, 1) := by decide +kernel
theorem dX3_init_5 : decode cX3_init 5 = .ok (.bipush 10, 2) := by decide +kernel
theorem dX3_init_7 : decode cX3_init 7 = .ok (.newarray .int, 2) := by decide +kernel
theorem dX3_init_9 : decode cX3_init 9 = .ok (.putfield 9, 3) := by decide +kernel
theorem dX3_init_12 : decode cX3_init 12 = .ok (.aload_n 0, 1) := by decide +kernel
theorem dX3_init_13 : decode cX3_init 13 = .ok (.iconst 0, 1) := by decide +kernel
theorem dX3_init_14 : decode cX3_init 14 = .ok (.putfield 15, 3) := by decide +kernel
theorem dX3_init_17 : decode cX3_init 17 = .ok (.aload_n 0, 1) := by decide +kernel
theorem dX3_init_18 : decode cX3_init 18 = .ok (.iconst 0, 1) := by decide +kernel
theorem dX3_init_19 : decode cX3_init 19 = .ok (.putfield 19, 3) := by decide +kernel
theorem dX3_init_22 : decode cX3_init 22 = .ok (.return_, 1) := by decide +kernel
theorem dX3_isOn_0 : decode cX3_isOn 0 = .ok (.aload_n 0, 1) := by decide +kernel
theorem dX3_isOn_1 : decode cX3_isOn 1 = .ok (.getfield 19, 3) := by decide +kernel
theorem dX3_isOn_4 : decode cX3_isOn 4 = .ok (.ifCond .eq 7, 3) := by decide +kernel
theorem dX3_isOn_7 : decode cX3_isOn 7 = .ok (.iconst 1, 1) := by decide +kernel
theorem dX3_isOn_8 : decode cX3_isOn 8 = .ok (.goto 4, 3) := by decide +kernel
theorem dX3_isOn_11 : decode cX3_isOn 11 = .ok (.iconst 0, 1) := by decide +kernel
theorem dX3_isOn_12 : decode cX3_isOn 12 = .ok (.ireturn, 1) := by decide +kernel
theorem dX3_wasOn_0 : decode cX3_wasOn 0 = .ok (.iconst 0, 1) := by decide +kernel
theorem dX3_wasOn_1 : decode cX3_wasOn 1 = .ok (.istore_n 2, 1) := by decide +kernel
theorem dX3_wasOn_2 : decode cX3_wasOn 2 = .ok (.iload_n 2, 1) := by decide +kernel
theorem dX3_wasOn_3 : decode cX3_wasOn 3 = .ok (.aload_n 0, 1) := by decide +kernel
theorem dX3_wasOn_4 : decode cX3_wasOn 4 = .ok (.getfield 15, 3) := by decide +kernel
theorem dX3_wasOn_7 : decode cX3_wasOn 7 = .ok (.if_icmp .ge 21, 3) := by decide +kernel
theorem dX3_wasOn_10 : decode cX3_wasOn 10 = .ok (.aload_n 0, 1) := by decide +kernel
theorem dX3_wasOn_11 : decode cX3_wasOn 11 = .ok (.getfield 9, 3) := by decide +kernel
theorem dX3_wasOn_14 : decode cX3_wasOn 14 = .ok (.iload_n 2, 1) := by decide +kernel
theorem dX3_wasOn_15 : decode cX3_wasOn 15 = .ok (.iaload, 1) := by decide +kernel
theorem dX3_wasOn_16 : decode cX3_wasOn 16 = .ok (.iload_n 1, 1) := by decide +kernel
theorem dX3_wasOn_17 : decode cX3_wasOn 17 = .ok (.if_icmp .ne 5, 3) := by decide +kernel
theorem dX3_wasOn_20 : decode cX3_wasOn 20 = .ok (.iconst 1, 1) := by decide +kernel
theorem dX3_wasOn_21 : decode cX3_wasOn 21 = .ok (.ireturn, 1) := by decide +kernel
theorem dX3_wasOn_22 : decode cX3_wasOn 22 = .ok (.iinc 2 1, 3) := by decide +kernel
theorem dX3_wasOn_25 : decode cX3_wasOn 25 = .ok (.goto (-23), 3) := by decide +kernel
theorem dX3_wasOn_28 : decode cX3_wasOn 28 = .ok (.iconst 0, 1) := by decide +kernel
theorem dX3_wasOn_29 : decode cX3_wasOn 29 = .ok (.ireturn, 1) := by decide +kernel
theorem dX3_putOn_0 : decode cX3_putOn 0 = .ok (.aload_n 0, 1) := by decide +kernel
theorem dX3_putOn_1 : decode cX3_putOn 1 = .ok (.getfield 15, 3) := by decide +kernel
theorem dX3_putOn_4 : decode cX3_putOn 4 = .ok (.bipush 10, 2) := by decide +kernel
theorem dX3_putOn_6 : decode cX3_putOn 6 = .ok (.if_icmp .ge 28, 3) := by decide +kernel
theorem dX3_putOn_9 : decode cX3_putOn 9 = .ok (.aload_n 0, 1) := by decide +kernel
theorem dX3_putOn_10 : decode cX3_putOn 10 = .ok (.getfield 9, 3) := by decide +kernel
theorem dX3_putOn_13 : decode cX3_putOn 13 = .ok (.aload_n 0, 1) := by decide +kernel
theorem dX3_putOn_14 : decode cX3_putOn 14 = .ok (.getfield 15, 3) := by decide +kernel
theorem dX3_putOn_17 : decode cX3_putOn 17 = .ok (.iload_n 1, 1) := by decide +kernel
theorem dX3_putOn_18 : decode cX3_putOn 18 = .ok (.iastore, 1) := by decide +kernel
theorem dX3_putOn_19 : decode cX3_putOn 19 = .ok (.aload_n 0, 1) := by decide +kernel
theorem dX3_putOn_20 : decode cX3_putOn 20 = .ok (.dup, 1) := by decide +kernel
theorem dX3_putOn_21 : decode cX3_putOn 21 = .ok (.getfield 15, 3) := by decide +kernel
theorem dX3_putOn_24 : decode cX3_putOn 24 = .ok (.iconst 1, 1) := by decide +kernel
theorem dX3_putOn_25 : decode cX3_putOn 25 = .ok (.iadd, 1) := by decide +kernel
theorem dX3_putOn_26 : decode cX3_putOn 26 = .ok (.putfield 15, 3) := by decide +kernel
theorem dX3_putOn_29 : decode cX3_putOn 29 = .ok (.aload_n 0, 1) := by decide +kernel
theorem dX3_putOn_30 : decode cX3_putOn 30 = .ok (.iload_n 1, 1) := by decide +kernel
theorem dX3_putOn_31 : decode cX3_putOn 31 = .ok (.putfield 19, 3) := by decide +kernel
theorem dX3_putOn_34 : decode cX3_putOn 34 = .ok (.return_, 1) := by decide +kernel
theorem dX3_takeOff_0 : decode cX3_takeOff 0 = .ok (.aload_n 0, 1) := by decide +kernel
theorem dX3_takeOff_1 : decode cX3_takeOff 1 = .ok (.getfield 19, 3) := by decide +kernel
theorem dX3_takeOff_4 : decode cX3_takeOff 4 = .ok (.istore_n 1, 1) := by decide +kernel
theorem dX3_takeOff_5 : decode cX3_takeOff 5 = .ok (.aload_n 0, 1) := by decide +kernel
theorem dX3_takeOff_6 : decode cX3_takeOff 6 = .ok (.iconst 0, 1) := by decide +kernel
theorem dX3_takeOff_7 : decode cX3_takeOff 7 = .ok (.putfield 19, 3) := by decide +kernel
theorem dX3_takeOff_10 : decode cX3_takeOff 10 = .ok (.iload_n 1, 1) := by decide +kernel
theorem dX3_takeOff_11 : decode cX3_takeOff 11 = .ok (.ireturn, 1) := by decide +kernel
theorem dX4_init_0 : decode cX4_init 0 = .ok (.aload_n 0, 1) := by decide +kernel
theorem dX4_init_1 : decode cX4_init 1 = .ok (.invokespecial 3, 3) := by decide +kernel
theorem dX4_init_4 : decode cX4_init 4 = .ok (.aload_n 0, 1) := by decide +kernel
theorem dX4_init_5 : decode cX4_init 5 = .ok (.iconst 5, 1) := by decide +kernel
theorem dX4_init_6 : decode cX4_init 6 = .ok (.newarray .int, 2) := by decide +kernel
theorem dX4_init_8 : decode cX4_init 8 = .ok (.putfield 9, 3) := by decide +kernel
theorem dX4_init_11 : decode cX4_init 11 = .ok (.aload_n 0, 1) := by decide +kernel
theorem dX4_init_12 : decode cX4_init 12 = .ok (.iconst (-1), 1) := by decide +kernel
theorem dX4_init_13 : decode cX4_init 13 = .ok (.putfield 15, 3) := by decide +kernel
theorem dX4_init_16 : decode cX4_init 16 = .ok (.aload_n 0, 1) := by decide +kernel
theorem dX4_init_17 : decode cX4_init 17 = .ok (.iconst (-1), 1) := by decide +kernel
theorem dX4_init_18 : decode cX4_init 18 = .ok (.putfield 19, 3) := by decide +kernel
theorem dX4_init_21 : decode cX4_init 21 = .ok (.return_, 1) := by decide +kernel
theorem dX4_run_0 : decode cX4_run 0 = .ok (.aload_n 1, 1) := by decide +kernel
theorem dX4_run_1 : decode cX4_run 1 = .ok (.invokevirtual 22, 3) := by decide +kernel
theorem dX4_run_4 : decode cX4_run 4 = .ok (.aload_n 0, 1) := by decide +kernel
theorem dX4_run_5 : decode cX4_run 5 = .ok (.iconst (-1), 1) := by decide +kernel
theorem dX4_run_6 : decode cX4_run 6 = .ok (.putfield 15, 3) := by decide +kernel
theorem dX4_run_9 : decode cX4_run 9 = .ok (.aload_n 0, 1) := by decide +kernel
theorem dX4_run_10 : decode cX4_run 10 = .ok (.iconst (-1), 1) := by decide +kernel
theorem dX4_run_11 : decode cX4_run 11 = .ok (.putfield 19, 3) := by decide +kernel
theorem dX4_run_14 : decode cX4_run 14 = .ok (.aload_n 0, 1) := by decide +kernel
theorem dX4_run_15 : decode cX4_run 15 = .ok (.aload_n 1, 1) := by decide +kernel
theorem dX4_run_16 : decode cX4_run 16 = .ok (.iconst 0, 1) := by decide +kernel
theorem dX4_run_17 : decode cX4_run 17 = .ok (.invokevirtual 27, 3) := by decide +kernel
theorem dX4_run_20 : decode cX4_run 20 = .ok (.iconst 0, 1) := by decide +kernel
theorem dX4_run_21 : decode cX4_run 21 = .ok (.istore_n 2, 1) := by decide +kernel
theorem dX4_run_22 : decode cX4_run 22 = .ok (.iload_n 2, 1) := by decide +kernel
theorem dX4_run_23 : decode cX4_run 23 = .ok (.aload_n 1, 1) := by decide +kernel
theorem dX4_run_24 : decode cX4_run 24 = .ok (.getfield 31, 3) := by decide +kernel
theorem dX4_run_27 : decode cX4_run 27 = .ok (.if_icmp .ge 29, 3) := by decide +kernel
theorem dX4_run_30 : decode cX4_run 30 = .ok (.iload_n 2, 1) := by decide +kernel
theorem dX4_run_31 : decode cX4_run 31 = .ok (.iconst 5, 1) := by decide +kernel
theorem dX4_run_32 : decode cX4_run 32 = .ok (.if_icmp .ge 24, 3) := by decide +kernel
theorem dX4_run_35 : decode cX4_run 35 = .ok (.aload_n 1, 1) := by decide +kernel
theorem dX4_run_36 : decode cX4_run 36 = .ok (.getfield 34, 3) := by decide +kernel
theorem dX4_run_39 : decode cX4_run 39 = .ok (.iload_n 2, 1) := by decide +kernel
theorem dX4_run_40 : decode cX4_run 40 = .ok (.aaload, 1) := by decide +kernel
theorem dX4_run_41 : decode cX4_run 41 = .ok (.aload_n 0, 1) := by decide +kernel
theorem dX4_run_42 : decode cX4_run 42 = .ok (.getfield 9, 3) := by decide +kernel
theorem dX4_run_45 : decode cX4_run 45 = .ok (.iload_n 2, 1) := by decide +kernel
theorem dX4_run_46 : decode cX4_run 46 = .ok (.iaload, 1) := by decide +kernel
theorem dX4_run_47 : decode cX4_run 47 = .ok (.putfield 38, 3) := by decide +kernel
theorem dX4_run_50 : decode cX4_run 50 = .ok (.iinc 2 1, 3) := by decide +kernel
theorem dX4_run_53 : decode cX4_run 53 = .ok (.goto (-31), 3) := by decide +kernel
theorem dX4_run_56 : decode cX4_run 56 = .ok (.return_, 1) := by decide +kernel
theorem dX4_tryFrom_0 : decode cX4_tryFrom 0 = .ok (.iload_n 2, 1) := by decide +kernel
theorem dX4_tryFrom_1 : decode cX4_tryFrom 1 = .ok (.iconst 5, 1) := by decide +kernel
theorem dX4_tryFrom_2 : decode cX4_tryFrom 2 = .ok (.if_icmp .gt 12, 3) := by decide +kernel
theorem dX4_tryFrom_5 : decode cX4_tryFrom 5 = .ok (.aload_n 0, 1) := by decide +kernel
theorem dX4_tryFrom_6 : decode cX4_tryFrom 6 = .ok (.aload_n 1, 1) := by decide +kernel
theorem dX4_tryFrom_7 : decode cX4_tryFrom 7 = .ok (.iload_n 2, 1) := by decide +kernel
theorem dX4_tryFrom_8 : decode cX4_tryFrom 8 = .ok (.invokevirtual 43, 3) := by decide +kernel
theorem dX4_tryFrom_11 : decode cX4_tryFrom 11 = .ok (.ifCond .eq 4, 3) := by decide +kernel
theorem dX4_tryFrom_14 : decode cX4_tryFrom 14 = .ok (.return_, 1) := by decide +kernel
theorem dX4_tryFrom_15 : decode cX4_tryFrom 15 = .ok (.iload_n 2, 1) := by decide +kernel
theorem dX4_tryFrom_16 : decode cX4_tryFrom 16 = .ok (.aload_n 1, 1) := by decide +kernel
theorem dX4_tryFrom_17 : decode cX4_tryFrom 17 = .ok (.getfield 31, 3) := by decide +kernel
theorem dX4_tryFrom_20 : decode cX4_tryFrom 20 = .ok (.if_icmp .lt 9, 3) := by decide +kernel
theorem dX4_tryFrom_23 : decode cX4_tryFrom 23 = .ok (.aload_n 0, 1) := by decide +kernel
theorem dX4_tryFrom_24 : decode cX4_tryFrom 24 = .ok (.aload_n 1, 1) := by decide +kernel
theorem dX4_tryFrom_25 : decode cX4_tryFrom 25 = .ok (.invokevirtual 47, 3) := by decide +kernel
theorem dX4_tryFrom_28 : decode cX4_tryFrom 28 = .ok (.return_, 1) := by decide +kernel
theorem dX4_tryFrom_29 : decode cX4_tryFrom 29 = .ok (.iconst 0, 1) := by decide +kernel
theorem dX4_tryFrom_30 : decode cX4_tryFrom 30 = .ok (.istore_n 3, 1) := by decide +kernel
theorem dX4_tryFrom_31 : decode cX4_tryFrom 31 = .ok (.iload_n 3, 1) := by decide +kernel
theorem dX4_tryFrom_32 : decode cX4_tryFrom 32 = .ok (.aload_n 1, 1) := by decide +kernel
theorem dX4_tryFrom_33 : decode cX4_tryFrom 33 = .ok (.getfield 51, 3) := by decide +kernel
theorem dX4_tryFrom_36 : decode cX4_tryFrom 36 = .ok (.if_icmp .ge 16, 3) := by decide +kernel
theorem dX4_tryFrom_39 : decode cX4_tryFrom 39 = .ok (.aload_n 0, 1) := by decide +kernel
theorem dX4_tryFrom_40 : decode cX4_tryFrom 40 = .ok (.aload_n 1, 1) := by decide +kernel
theorem dX4_tryFrom_41 : decode cX4_tryFrom 41 = .ok (.iload_n 2, 1) := by decide +kernel
theorem dX4_tryFrom_42 : decode cX4_tryFrom 42 = .ok (.iload_n 3, 1) := by decide +kernel
theorem dX4_tryFrom_43 : decode cX4_tryFrom 43 = .ok (.invokevirtual 54, 3) := by decide +kernel
theorem dX4_tryFrom_46 : decode cX4_tryFrom 46 = .ok (.iinc 3 1, 3) := by decide +kernel
theorem dX4_tryFrom_49 : decode cX4_tryFrom 49 = .ok (.goto (-18), 3) := by decide +kernel
theorem dX4_tryFrom_52 : decode cX4_tryFrom 52 = .ok (.aload_n 0, 1) := by decide +kernel
theorem dX4_tryFrom_53 : decode cX4_tryFrom 53 = .ok (.aload_n 1, 1) := by decide +kernel
theorem dX4_tryFrom_54 : decode cX4_tryFrom 54 = .ok (.iload_n 2, 1) := by decide +kernel
theorem dX4_tryFrom_55 : decode cX4_tryFrom 55 = .ok (.iconst 1, 1) := by decide +kernel
theorem dX4_tryFrom_56 : decode cX4_tryFrom 56 = .ok (.iadd, 1) := by decide +kernel
theorem dX4_tryFrom_57 : decode cX4_tryFrom 57 = .ok (.invokevirtual 27, 3) := by decide +kernel
theorem dX4_tryFrom_60 : decode cX4_tryFrom 60 = .ok (.return_, 1) := by decide +kernel
theorem dX4_tryIn_0 : decode cX4_tryIn 0 = .ok (.iload_n 2, 1) := by decide +kernel
theorem dX4_tryIn_1 : decode cX4_tryIn 1 = .ok (.aload_n 1, 1) := by decide +kernel
theorem dX4_tryIn_2 : decode cX4_tryIn 2 = .ok (.getfield 31, 3) := by decide +kernel
theorem dX4_tryIn_5 : decode cX4_tryIn 5 = .ok (.if_icmp .lt 4, 3) := by decide +kernel
theorem dX4_tryIn_8 : decode cX4_tryIn 8 = .ok (.return_, 1) := by decide +kernel
theorem dX4_tryIn_9 : decode cX4_tryIn 9 = .ok (.aload_n 1, 1) := by decide +kernel
theorem dX4_tryIn_10 : decode cX4_tryIn 10 = .ok (.getfield 34, 3) := by decide +kernel
theorem dX4_tryIn_13 : decode cX4_tryIn 13 = .ok (.iload_n 2, 1) := by decide +kernel
theorem dX4_tryIn_14 : decode cX4_tryIn 14 = .ok (.aaload, 1) := by decide +kernel
theorem dX4_tryIn_15 : decode cX4_tryIn 15 = .ok (.astore 4, 2) := by decide +kernel
theorem dX4_tryIn_17 : decode cX4_tryIn 17 = .ok (.aload_n 1, 1) := by decide +kernel
theorem dX4_tryIn_18 : decode cX4_tryIn 18 = .ok (.aload 4, 2) := by decide +kernel
theorem dX4_tryIn_20 : decode cX4_tryIn 20 = .ok (.iload_n 3, 1) := by decide +kernel
theorem dX4_tryIn_21 : decode cX4_tryIn 21 = .ok (.invokevirtual 58, 3) := by decide +kernel
theorem dX4_tryIn_24 : decode cX4_tryIn 24 = .ok (.ifCond .ne 23, 3) := by decide +kernel
theorem dX4_tryIn_27 : decode cX4_tryIn 27 = .ok (.aload 4, 2) := by decide +kernel
theorem dX4_tryIn_29 : decode cX4_tryIn 29 = .ok (.iload_n 3, 1) := by decide +kernel
theorem dX4_tryIn_30 : decode cX4_tryIn 30 = .ok (.putfield 38, 3) := by decide +kernel
theorem dX4_tryIn_33 : decode cX4_tryIn 33 = .ok (.aload_n 0, 1) := by decide +kernel
theorem dX4_tryIn_34 : decode cX4_tryIn 34 = .ok (.aload_n 1, 1) := by decide +kernel
theorem dX4_tryIn_35 : decode cX4_tryIn 35 = .ok (.iload_n 2, 1) := by decide +kernel
theorem dX4_tryIn_36 : decode cX4_tryIn 36 = .ok (.iconst 1, 1) := by decide +kernel
theorem dX4_tryIn_37 : decode cX4_tryIn 37 = .ok (.iadd, 1) := by decide +kernel
theorem dX4_tryIn_38 : decode cX4_tryIn 38 = .ok (.invokevirtual 27, 3) := by decide +kernel
theorem dX4_tryIn_41 : decode cX4_tryIn 41 = .ok (.aload 4, 2) := by decide +kernel
theorem dX4_tryIn_43 : decode cX4_tryIn 43 = .ok (.iconst (-1), 1) := by decide +kernel
theorem dX4_tryIn_44 : decode cX4_tryIn 44 = .ok (.putfield 38, 3) := by decide +kernel
theorem dX4_tryIn_47 : decode cX4_tryIn 47 = .ok (.return_, 1) := by decide +kernel
theorem dX4_isHopeless_0 : decode cX4_isHopeless 0 = .ok (.iconst 0, 1) := by decide +kernel
theorem dX4_isHopeless_1 : decode cX4_isHopeless 1 = .ok (.istore_n 3, 1) := by decide +kernel
theorem dX4_isHopeless_2 : decode cX4_isHopeless 2 = .ok (.iload_n 2, 1) := by decide +kernel
theorem dX4_isHopeless_3 : decode cX4_isHopeless 3 = .ok (.istore 4, 2) := by decide +kernel
theorem dX4_isHopeless_5 : decode cX4_isHopeless 5 = .ok (.iload 4, 2) := by decide +kernel
theorem dX4_isHopeless_7 : decode cX4_isHopeless 7 = .ok (.aload_n 1, 1) := by decide +kernel
theorem dX4_isHopeless_8 : decode cX4_isHopeless 8 = .ok (.getfield 31, 3) := by decide +kernel
theorem dX4_isHopeless_11 : decode cX4_isHopeless 11 = .ok (.if_icmp .ge 22, 3) := by decide +kernel
theorem dX4_isHopeless_14 : decode cX4_isHopeless 14 = .ok (.iload_n 3, 1) := by decide +kernel
theorem dX4_isHopeless_15 : decode cX4_isHopeless 15 = .ok (.aload_n 1, 1) := by decide +kernel
theorem dX4_isHopeless_16 : decode cX4_isHopeless 16 = .ok (.getfield 34, 3) := by decide +kernel
theorem dX4_isHopeless_19 : decode cX4_isHopeless 19 = .ok (.iload 4, 2) := by decide +kernel
theorem dX4_isHopeless_21 : decode cX4_isHopeless 21 = .ok (.aaload, 1) := by decide +kernel
theorem dX4_isHopeless_22 : decode cX4_isHopeless 22 = .ok (.getfield 62, 3) := by decide +kernel
theorem dX4_isHopeless_25 : decode cX4_isHopeless 25 = .ok (.iadd, 1) := by decide +kernel
theorem dX4_isHopeless_26 : decode cX4_isHopeless 26 = .ok (.istore_n 3, 1) := by decide +kernel
theorem dX4_isHopeless_27 : decode cX4_isHopeless 27 = .ok (.iinc 4 1, 3) := by decide +kernel
theorem dX4_isHopeless_30 : decode cX4_isHopeless 30 = .ok (.goto (-25), 3) := by decide +kernel
theorem dX4_isHopeless_33 : decode cX4_isHopeless 33 = .ok (.aload_n 1, 1) := by decide +kernel
theorem dX4_isHopeless_34 : decode cX4_isHopeless 34 = .ok (.invokevirtual 65, 3) := by decide +kernel
theorem dX4_isHopeless_37 : decode cX4_isHopeless 37 = .ok (.aload_n 1, 1) := by decide +kernel
theorem dX4_isHopeless_38 : decode cX4_isHopeless 38 = .ok (.getfield 31, 3) := by decide +kernel
theorem dX4_isHopeless_41 : decode cX4_isHopeless 41 = .ok (.iadd, 1) := by decide +kernel
theorem dX4_isHopeless_42 : decode cX4_isHopeless 42 = .ok (.iload_n 2, 1) := by decide +kernel
theorem dX4_isHopeless_43 : decode cX4_isHopeless 43 = .ok (.isub, 1) := by decide +kernel
theorem dX4_isHopeless_44 : decode cX4_isHopeless 44 = .ok (.istore 4, 2) := by decide +kernel
theorem dX4_isHopeless_46 : decode cX4_isHopeless 46 = .ok (.iload 4, 2) := by decide +kernel
theorem dX4_isHopeless_48 : decode cX4_isHopeless 48 = .ok (.aload_n 0, 1) := by decide +kernel
theorem dX4_isHopeless_49 : decode cX4_isHopeless 49 = .ok (.getfield 15, 3) := by decide +kernel
theorem dX4_isHopeless_52 : decode cX4_isHopeless 52 = .ok (.if_icmp .lt 25, 3) := by decide +kernel
theorem dX4_isHopeless_55 : decode cX4_isHopeless 55 = .ok (.iload 4, 2) := by decide +kernel
theorem dX4_isHopeless_57 : decode cX4_isHopeless 57 = .ok (.aload_n 0, 1) := by decide +kernel
theorem dX4_isHopeless_58 : decode cX4_isHopeless 58 = .ok (.getfield 15, 3) := by decide +kernel
theorem dX4_isHopeless_61 : decode cX4_isHopeless 61 = .ok (.if_icmp .ne 18, 3) := by decide +kernel
theorem dX4_isHopeless_64 : decode cX4_isHopeless 64 = .ok (.aload_n 1, 1) := by decide +kernel
theorem dX4_isHopeless_65 : decode cX4_isHopeless 65 = .ok (.invokevirtual 69, 3) := by decide +kernel
theorem dX4_isHopeless_68 : decode cX4_isHopeless 68 = .ok (.iload_n 3, 1) := by decide +kernel
theorem dX4_isHopeless_69 : decode cX4_isHopeless 69 = .ok (.iadd, 1) := by decide +kernel
theorem dX4_isHopeless_70 : decode cX4_isHopeless 70 = .ok (.aload_n 0, 1) := by decide +kernel
theorem dX4_isHopeless_71 : decode cX4_isHopeless 71 = .ok (.getfield 19, 3) := by decide +kernel
theorem dX4_isHopeless_74 : decode cX4_isHopeless 74 = .ok (.if_icmp .gt 5, 3) := by decide +kernel
theorem dX4_isHopeless_77 : decode cX4_isHopeless 77 = .ok (.iconst 1, 1) := by decide +kernel
theorem dX4_isHopeless_78 : decode cX4_isHopeless 78 = .ok (.ireturn, 1) := by decide +kernel
theorem dX4_isHopeless_79 : decode cX4_isHopeless 79 = .ok (.iconst 0, 1) := by decide +kernel
theorem dX4_isHopeless_80 : decode cX4_isHopeless 80 = .ok (.aload_n 1, 1) := by decide +kernel
theorem dX4_isHopeless_81 : decode cX4_isHopeless 81 = .ok (.getfield 71, 3) := by decide +kernel
theorem dX4_isHopeless_84 : decode cX4_isHopeless 84 = .ok (.iconst 0, 1) := by decide +kernel
theorem dX4_isHopeless_85 : decode cX4_isHopeless 85 = .ok (.iload_n 3, 1) := by decide +kernel
theorem dX4_isHopeless_86 : decode cX4_isHopeless 86 = .ok (.aload_n 1, 1) := by decide +kernel
theorem dX4_isHopeless_87 : decode cX4_isHopeless 87 = .ok (.getfield 51, 3) := by decide +kernel
theorem dX4_isHopeless_90 : decode cX4_isHopeless 90 = .ok (.iconst 1, 1) := by decide +kernel
theorem dX4_isHopeless_91 : decode cX4_isHopeless 91 = .ok (.isub, 1) := by decide +kernel
theorem dX4_isHopeless_92 : decode cX4_isHopeless 92 = .ok (.invokevirtual 75, 3) := by decide +kernel
theorem dX4_isHopeless_95 : decode cX4_isHopeless 95 = .ok (.invokestatic 81, 3) := by decide +kernel
theorem dX4_isHopeless_98 : decode cX4_isHopeless 98 = .ok (.istore 5, 2) := by decide +kernel
theorem dX4_isHopeless_100 : decode cX4_isHopeless 100 = .ok (.iconst 0, 1) := by decide +kernel
theorem dX4_isHopeless_101 : decode cX4_isHopeless 101 = .ok (.aload_n 1, 1) := by decide +kernel
theorem dX4_isHopeless_102 : decode cX4_isHopeless 102 = .ok (.getfield 71, 3) := by decide +kernel
theorem dX4_isHopeless_105 : decode cX4_isHopeless 105 = .ok (.iconst 1, 1) := by decide +kernel
theorem dX4_isHopeless_106 : decode cX4_isHopeless 106 = .ok (.iload_n 3, 1) := by decide +kernel
theorem dX4_isHopeless_107 : decode cX4_isHopeless 107 = .ok (.iconst 0, 1) := by decide +kernel
theorem dX4_isHopeless_108 : decode cX4_isHopeless 108 = .ok (.invokevirtual 75, 3) := by decide +kernel
theorem dX4_isHopeless_111 : decode cX4_isHopeless 111 = .ok (.invokestatic 81, 3) := by decide +kernel
theorem dX4_isHopeless_114 : decode cX4_isHopeless 114 = .ok (.istore 6, 2) := by decide +kernel
theorem dX4_isHopeless_116 : decode cX4_isHopeless 116 = .ok (.aload_n 1, 1) := by decide +kernel
theorem dX4_isHopeless_117 : decode cX4_isHopeless 117 = .ok (.getfield 71, 3) := by decide +kernel
theorem dX4_isHopeless_120 : decode cX4_isHopeless 120 = .ok (.aload_n 1, 1) := by decide +kernel
theorem dX4_isHopeless_121 : decode cX4_isHopeless 121 = .ok (.iconst 0, 1) := by decide +kernel
theorem dX4_isHopeless_122 : decode cX4_isHopeless 122 = .ok (.invokevirtual 87, 3) := by decide +kernel
theorem dX4_isHopeless_125 : decode cX4_isHopeless 125 = .ok (.iload 5, 2) := by decide +kernel
theorem dX4_isHopeless_127 : decode cX4_isHopeless 127 = .ok (.iadd, 1) := by decide +kernel
theorem dX4_isHopeless_128 : decode cX4_isHopeless 128 = .ok (.aload_n 1, 1) := by decide +kernel
theorem dX4_isHopeless_129 : decode cX4_isHopeless 129 = .ok (.iconst 1, 1) := by decide +kernel
theorem dX4_isHopeless_130 : decode cX4_isHopeless 130 = .ok (.invokevirtual 87, 3) := by decide +kernel
theorem dX4_isHopeless_133 : decode cX4_isHopeless 133 = .ok (.iload 6, 2) := by decide +kernel
theorem dX4_isHopeless_135 : decode cX4_isHopeless 135 = .ok (.iadd, 1) := by decide +kernel
theorem dX4_isHopeless_136 : decode cX4_isHopeless 136 = .ok (.invokevirtual 91, 3) := by decide +kernel
theorem dX4_isHopeless_139 : decode cX4_isHopeless 139 = .ok (.ifCond .ne 7, 3) := by decide +kernel
theorem dX4_isHopeless_142 : decode cX4_isHopeless 142 = .ok (.iconst 1, 1) := by decide +kernel
theorem dX4_isHopeless_143 : decode cX4_isHopeless 143 = .ok (.goto 4, 3) := by decide +kernel
theorem dX4_isHopeless_146 : decode cX4_isHopeless 146 = .ok (.iconst 0, 1) := by decide +kernel
theorem dX4_isHopeless_147 : decode cX4_isHopeless 147 = .ok (.ireturn, 1) := by decide +kernel
theorem dX4_keep_0 : decode cX4_keep 0 = .ok (.aload_n 0, 1) := by decide +kernel
theorem dX4_keep_1 : decode cX4_keep 1 = .ok (.aload_n 1, 1) := by decide +kernel
theorem dX4_keep_2 : decode cX4_keep 2 = .ok (.invokevirtual 65, 3) := by decide +kernel
theorem dX4_keep_5 : decode cX4_keep 5 = .ok (.putfield 15, 3) := by decide +kernel
theorem dX4_keep_8 : decode cX4_keep 8 = .ok (.aload_n 0, 1) := by decide +kernel
theorem dX4_keep_9 : decode cX4_keep 9 = .ok (.aload_n 1, 1) := by decide +kernel
theorem dX4_keep_10 : decode cX4_keep 10 = .ok (.invokevirtual 69, 3) := by decide +kernel
theorem dX4_keep_13 : decode cX4_keep 13 = .ok (.putfield 19, 3) := by decide +kernel
theorem dX4_keep_16 : decode cX4_keep 16 = .ok (.iconst 0, 1) := by decide +kernel
theorem dX4_keep_17 : decode cX4_keep 17 = .ok (.istore_n 2, 1) := by decide +kernel
theorem dX4_keep_18 : decode cX4_keep 18 = .ok (.iload_n 2, 1) := by decide +kernel
theorem dX4_keep_19 : decode cX4_keep 19 = .ok (.aload_n 1, 1) := by decide +kernel
theorem dX4_keep_20 : decode cX4_keep 20 = .ok (.getfield 31, 3) := by decide +kernel
theorem dX4_keep_23 : decode cX4_keep 23 = .ok (.if_icmp .ge 29, 3) := by decide +kernel
theorem dX4_keep_26 : decode cX4_keep 26 = .ok (.iload_n 2, 1) := by decide +kernel
theorem dX4_keep_27 : decode cX4_keep 27 = .ok (.iconst 5, 1) := by decide +kernel
theorem dX4_keep_28 : decode cX4_keep 28 = .ok (.if_icmp .ge 24, 3) := by decide +kernel
theorem dX4_keep_31 : decode cX4_keep 31 = .ok (.aload_n 0, 1) := by decide +kernel
theorem dX4_keep_32 : decode cX4_keep 32 = .ok (.getfield 9, 3) := by decide +kernel
theorem dX4_keep_35 : decode cX4_keep 35 = .ok (.iload_n 2, 1) := by decide +kernel
theorem dX4_keep_36 : decode cX4_keep 36 = .ok (.aload_n 1, 1) := by decide +kernel
theorem dX4_keep_37 : decode cX4_keep 37 = .ok (.getfield 34, 3) := by decide +kernel
theorem dX4_keep_40 : decode cX4_keep 40 = .ok (.iload_n 2, 1) := by decide +kernel
theorem dX4_keep_41 : decode cX4_keep 41 = .ok (.aaload, 1) := by decide +kernel
theorem dX4_keep_42 : decode cX4_keep 42 = .ok (.getfield 38, 3) := by decide +kernel
theorem dX4_keep_45 : decode cX4_keep 45 = .ok (.iastore, 1) := by decide +kernel
theorem dX4_keep_46 : decode cX4_keep 46 = .ok (.iinc 2 1, 3) := by decide +kernel
theorem dX4_keep_49 : decode cX4_keep 49 = .ok (.goto (-31), 3) := by decide +kernel
theorem dX4_keep_52 : decode cX4_keep 52 = .ok (.return_, 1) := by decide +kernel
end
section
theorem dX5_init_0 : decode cX5_init 0 = .ok (.aload_n 0, 1) := by decide +kernel
theorem dX5_init_1 : decode cX5_init 1 = .ok (.invokespecial 1, 3) := by decide +kernel
theorem dX5_init_4 : decode cX5_init 4 = .ok (.aload_n 0, 1) := by decide +kernel
theorem dX5_init_5 : decode cX5_init 5 = .ok (.new 7, 3) := by decide +kernel
theorem dX5_init_8 : decode cX5_init 8 = .ok (.dup, 1) := by decide +kernel
theorem dX5_init_9 : decode cX5_init 9 = .ok (.iload_n 1, 1) := by decide +kernel
theorem dX5_init_10 : decode cX5_init 10 = .ok (.invokespecial 9, 3) := by decide +kernel
theorem dX5_init_13 : decode cX5_init 13 = .ok (.putfield 12, 3) := by decide +kernel
theorem dX5_init_16 : decode cX5_init 16 = .ok (.aload_n 0, 1) := by decide +kernel
theorem dX5_init_17 : decode cX5_init 17 = .ok (.new 18, 3) := by decide +kernel
theorem dX5_init_20 : decode cX5_init 20 = .ok (.dup, 1) := by decide +kernel
theorem dX5_init_21 : decode cX5_init 21 = .ok (.invokespecial 20, 3) := by decide +kernel
theorem dX5_init_24 : decode cX5_init 24 = .ok (.putfield 21, 3) := by decide +kernel
theorem dX5_init_27 : decode cX5_init 27 = .ok (.aload_n 0, 1) := by decide +kernel
theorem dX5_init_28 : decode cX5_init 28 = .ok (.new 25, 3) := by decide +kernel
theorem dX5_init_31 : decode cX5_init 31 = .ok (.dup, 1) := by decide +kernel
theorem dX5_init_32 : decode cX5_init 32 = .ok (.invokespecial 27, 3) := by decide +kernel
theorem dX5_init_35 : decode cX5_init 35 = .ok (.putfield 28, 3) := by decide +kernel
theorem dX5_init_38 : decode cX5_init 38 = .ok (.aload_n 0, 1) := by decide +kernel
theorem dX5_init_39 : decode cX5_init 39 = .ok (.iconst 0, 1) := by decide +kernel
theorem dX5_init_40 : decode cX5_init 40 = .ok (.putfield 32, 3) := by decide +kernel
theorem dX5_init_43 : decode cX5_init 43 = .ok (.aload_n 0, 1) := by decide +kernel
theorem dX5_init_44 : decode cX5_init 44 = .ok (.iconst 0, 1) := by decide +kernel
theorem dX5_init_45 : decode cX5_init 45 = .ok (.putfield 36, 3) := by decide +kernel
theorem dX5_init_48 : decode cX5_init 48 = .ok (.return_, 1) := by decide +kernel
theorem dX5_cell_0 : decode cX5_cell 0 = .ok (.aload_n 0, 1) := by decide +kernel
theorem dX5_cell_1 : decode cX5_cell 1 = .ok (.getfield 12, 3) := by decide +kernel
theorem dX5_cell_4 : decode cX5_cell 4 = .ok (.iload_n 1, 1) := by decide +kernel
theorem dX5_cell_5 : decode cX5_cell 5 = .ok (.invokevirtual 39, 3) := by decide +kernel
theorem dX5_cell_8 : decode cX5_cell 8 = .ok (.ifCond .ne 13, 3) := by decide +kernel
theorem dX5_cell_11 : decode cX5_cell 11 = .ok (.new 43, 3) := by decide +kernel
theorem dX5_cell_14 : decode cX5_cell 14 = .ok (.dup, 1) := by decide +kernel
theorem dX5_cell_15 : decode cX5_cell 15 = .ok (.ldc 45, 2) := by decide +kernel
theorem dX5_cell_17 : decode cX5_cell 17 = .ok (.invokespecial 47, 3) := by decide +kernel
theorem dX5_cell_20 : decode cX5_cell 20 = .ok (.athrow, 1) := by decide +kernel
theorem dX5_cell_21 : decode cX5_cell 21 = .ok (.iload_n 2, 1) := by decide +kernel
theorem dX5_cell_22 : decode cX5_cell 22 = .ok (.iconst 1, 1) := by decide +kernel
theorem dX5_cell_23 : decode cX5_cell 23 = .ok (.bipush 10, 2) := by decide +kernel
theorem dX5_cell_25 : decode cX5_cell 25 = .ok (.invokestatic 50, 3) := by decide +kernel
theorem dX5_cell_28 : decode cX5_cell 28 = .ok (.aload_n 0, 1) := by decide +kernel
theorem dX5_cell_29 : decode cX5_cell 29 = .ok (.getfield 12, 3) := by decide +kernel
theorem dX5_cell_32 : decode cX5_cell 32 = .ok (.iload_n 1, 1) := by decide +kernel
theorem dX5_cell_33 : decode cX5_cell 33 = .ok (.invokevirtual 54, 3) := by decide +kernel
theorem dX5_cell_36 : decode cX5_cell 36 = .ok (.ifCond .eq 13, 3) := by decide +kernel
theorem dX5_cell_39 : decode cX5_cell 39 = .ok (.new 57, 3) := by decide +kernel
theorem dX5_cell_42 : decode cX5_cell 42 = .ok (.dup, 1) := by decide +kernel
theorem dX5_cell_43 : decode cX5_cell 43 = .ok (.ldc 59, 2) := by decide +kernel
theorem dX5_cell_45 : decode cX5_cell 45 = .ok (.invokespecial 61, 3) := by decide +kernel
theorem dX5_cell_48 : decode cX5_cell 48 = .ok (.athrow, 1) := by decide +kernel
theorem dX5_cell_49 : decode cX5_cell 49 = .ok (.aload_n 0, 1) := by decide +kernel
theorem dX5_cell_50 : decode cX5_cell 50 = .ok (.getfield 12, 3) := by decide +kernel
theorem dX5_cell_53 : decode cX5_cell 53 = .ok (.getfield 62, 3) := by decide +kernel
theorem dX5_cell_56 : decode cX5_cell 56 = .ok (.iload_n 1, 1) := by decide +kernel
theorem dX5_cell_57 : decode cX5_cell 57 = .ok (.iload_n 2, 1) := by decide +kernel
theorem dX5_cell_58 : decode cX5_cell 58 = .ok (.iastore, 1) := by decide +kernel
theorem dX5_cell_59 : decode cX5_cell 59 = .ok (.aload_n 0, 1) := by decide +kernel
theorem dX5_cell_60 : decode cX5_cell 60 = .ok (.getfield 12, 3) := by decide +kernel
theorem dX5_cell_63 : decode cX5_cell 63 = .ok (.getfield 66, 3) := by decide +kernel
theorem dX5_cell_66 : decode cX5_cell 66 = .ok (.iload_n 1, 1) := by decide +kernel
theorem dX5_cell_67 : decode cX5_cell 67 = .ok (.iload_n 3, 1) := by decide +kernel
theorem dX5_cell_68 : decode cX5_cell 68 = .ok (.bastore, 1) := by decide +kernel
theorem dX5_cell_69 : decode cX5_cell 69 = .ok (.return_, 1) := by decide +kernel
theorem dX5_axles_0 : decode cX5_axles 0 = .ok (.iload_n 1, 1) := by decide +kernel
theorem dX5_axles_1 : decode cX5_axles 1 = .ok (.iconst 0, 1) := by decide +kernel
theorem dX5_axles_2 : decode cX5_axles 2 = .ok (.bipush 100, 2) := by decide +kernel
theorem dX5_axles_4 : decode cX5_axles 4 = .ok (.invokestatic 50, 3) := by decide +kernel
theorem dX5_axles_7 : decode cX5_axles 7 = .ok (.iload_n 2, 1) := by decide +kernel
theorem dX5_axles_8 : decode cX5_axles 8 = .ok (.iconst 0, 1) := by decide +kernel
theorem dX5_axles_9 : decode cX5_axles 9 = .ok (.bipush 100, 2) := by decide +kernel
theorem dX5_axles_11 : decode cX5_axles 11 = .ok (.invokestatic 50, 3) := by decide +kernel
theorem dX5_axles_14 : decode cX5_axles 14 = .ok (.iload_n 3, 1) := by decide +kernel
theorem dX5_axles_15 : decode cX5_axles 15 = .ok (.iconst 0, 1) := by decide +kernel
theorem dX5_axles_16 : decode cX5_axles 16 = .ok (.sipush 10000, 3) := by decide +kernel
theorem dX5_axles_19 : decode cX5_axles 19 = .ok (.invokestatic 50, 3) := by decide +kernel
theorem dX5_axles_22 : decode cX5_axles 22 = .ok (.iload 4, 2) := by decide +kernel
theorem dX5_axles_24 : decode cX5_axles 24 = .ok (.iconst 0, 1) := by decide +kernel
theorem dX5_axles_25 : decode cX5_axles 25 = .ok (.sipush 10000, 3) := by decide +kernel
theorem dX5_axles_28 : decode cX5_axles 28 = .ok (.invokestatic 50, 3) := by decide +kernel
theorem dX5_axles_31 : decode cX5_axles 31 = .ok (.iload_n 2, 1) := by decide +kernel
theorem dX5_axles_32 : decode cX5_axles 32 = .ok (.iload_n 1, 1) := by decide +kernel
theorem dX5_axles_33 : decode cX5_axles 33 = .ok (.if_icmp .gt 13, 3) := by decide +kernel
theorem dX5_axles_36 : decode cX5_axles 36 = .ok (.new 70, 3) := by decide +kernel
theorem dX5_axles_39 : decode cX5_axles 39 = .ok (.dup, 1) := by decide +kernel
theorem dX5_axles_40 : decode cX5_axles 40 = .ok (.ldc 72, 2) := by decide +kernel
theorem dX5_axles_42 : decode cX5_axles 42 = .ok (.invokespecial 74, 3) := by decide +kernel
theorem dX5_axles_45 : decode cX5_axles 45 = .ok (.athrow, 1) := by decide +kernel
theorem dX5_axles_46 : decode cX5_axles 46 = .ok (.aload_n 0, 1) := by decide +kernel
theorem dX5_axles_47 : decode cX5_axles 47 = .ok (.getfield 12, 3) := by decide +kernel
theorem dX5_axles_50 : decode cX5_axles 50 = .ok (.getfield 75, 3) := by decide +kernel
theorem dX5_axles_53 : decode cX5_axles 53 = .ok (.iload_n 1, 1) := by decide +kernel
theorem dX5_axles_54 : decode cX5_axles 54 = .ok (.iload_n 2, 1) := by decide +kernel
theorem dX5_axles_55 : decode cX5_axles 55 = .ok (.iload_n 3, 1) := by decide +kernel
theorem dX5_axles_56 : decode cX5_axles 56 = .ok (.iload 4, 2) := by decide +kernel
theorem dX5_axles_58 : decode cX5_axles 58 = .ok (.invokevirtual 79, 3) := by decide +kernel
theorem dX5_axles_61 : decode cX5_axles 61 = .ok (.return_, 1) := by decide +kernel
theorem dX5_pallet_0 : decode cX5_pallet 0 = .ok (.iload_n 1, 1) := by decide +kernel
theorem dX5_pallet_1 : decode cX5_pallet 1 = .ok (.iconst 1, 1) := by decide +kernel
theorem dX5_pallet_2 : decode cX5_pallet 2 = .ok (.sipush 1000, 3) := by decide +kernel
theorem dX5_pallet_5 : decode cX5_pallet 5 = .ok (.invokestatic 50, 3) := by decide +kernel
theorem dX5_pallet_8 : decode cX5_pallet 8 = .ok (.iload 4, 2) := by decide +kernel
theorem dX5_pallet_10 : decode cX5_pallet 10 = .ok (.iconst 1, 1) := by decide +kernel
theorem dX5_pallet_11 : decode cX5_pallet 11 = .ok (.bipush 9, 2) := by decide +kernel
theorem dX5_pallet_13 : decode cX5_pallet 13 = .ok (.invokestatic 50, 3) := by decide +kernel
theorem dX5_pallet_16 : decode cX5_pallet 16 = .ok (.iload 5, 2) := by decide +kernel
theorem dX5_pallet_18 : decode cX5_pallet 18 = .ok (.iconst 1, 1) := by decide +kernel
theorem dX5_pallet_19 : decode cX5_pallet 19 = .ok (.bipush 10, 2) := by decide +kernel
theorem dX5_pallet_21 : decode cX5_pallet 21 = .ok (.invokestatic 50, 3) := by decide +kernel
theorem dX5_pallet_24 : decode cX5_pallet 24 = .ok (.aload_n 0, 1) := by decide +kernel
theorem dX5_pallet_25 : decode cX5_pallet 25 = .ok (.invokevirtual 85, 3) := by decide +kernel
theorem dX5_pallet_28 : decode cX5_pallet 28 = .ok (.aload_n 0, 1) := by decide +kernel
theorem dX5_pallet_29 : decode cX5_pallet 29 = .ok (.getfield 12, 3) := by decide +kernel
theorem dX5_pallet_32 : decode cX5_pallet 32 = .ok (.getfield 88, 3) := by decide +kernel
theorem dX5_pallet_35 : decode cX5_pallet 35 = .ok (.bipush 8, 2) := by decide +kernel
theorem dX5_pallet_37 : decode cX5_pallet 37 = .ok (.if_icmp .lt 13, 3) := by decide +kernel
theorem dX5_pallet_40 : decode cX5_pallet 40 = .ok (.new 92, 3) := by decide +kernel
theorem dX5_pallet_43 : decode cX5_pallet 43 = .ok (.dup, 1) := by decide +kernel
theorem dX5_pallet_44 : decode cX5_pallet 44 = .ok (.ldc 94, 2) := by decide +kernel
theorem dX5_pallet_46 : decode cX5_pallet 46 = .ok (.invokespecial 96, 3) := by decide +kernel
theorem dX5_pallet_49 : decode cX5_pallet 49 = .ok (.athrow, 1) := by decide +kernel
theorem dX5_pallet_50 : decode cX5_pallet 50 = .ok (.aload_n 0, 1) := by decide +kernel
theorem dX5_pallet_51 : decode cX5_pallet 51 = .ok (.getfield 12, 3) := by decide +kernel
theorem dX5_pallet_54 : decode cX5_pallet 54 = .ok (.getfield 88, 3) := by decide +kernel
theorem dX5_pallet_57 : decode cX5_pallet 57 = .ok (.istore 6, 2) := by decide +kernel
theorem dX5_pallet_59 : decode cX5_pallet 59 = .ok (.aload_n 0, 1) := by decide +kernel
theorem dX5_pallet_60 : decode cX5_pallet 60 = .ok (.getfield 12, 3) := by decide +kernel
theorem dX5_pallet_63 : decode cX5_pallet 63 = .ok (.getfield 97, 3) := by decide +kernel
theorem dX5_pallet_66 : decode cX5_pallet 66 = .ok (.iload 6, 2) := by decide +kernel
theorem dX5_pallet_68 : decode cX5_pallet 68 = .ok (.aaload, 1) := by decide +kernel
theorem dX5_pallet_69 : decode cX5_pallet 69 = .ok (.iload_n 1, 1) := by decide +kernel
theorem dX5_pallet_70 : decode cX5_pallet 70 = .ok (.iload_n 2, 1) := by decide +kernel
theorem dX5_pallet_71 : decode cX5_pallet 71 = .ok (.iload_n 3, 1) := by decide +kernel
theorem dX5_pallet_72 : decode cX5_pallet 72 = .ok (.iload 4, 2) := by decide +kernel
theorem dX5_pallet_74 : decode cX5_pallet 74 = .ok (.iload 5, 2) := by decide +kernel
theorem dX5_pallet_76 : decode cX5_pallet 76 = .ok (.invokevirtual 101, 3) := by decide +kernel
theorem dX5_pallet_79 : decode cX5_pallet 79 = .ok (.aload_n 0, 1) := by decide +kernel
theorem dX5_pallet_80 : decode cX5_pallet 80 = .ok (.getfield 12, 3) := by decide +kernel
theorem dX5_pallet_83 : decode cX5_pallet 83 = .ok (.iload 6, 2) := by decide +kernel
theorem dX5_pallet_85 : decode cX5_pallet 85 = .ok (.iconst 1, 1) := by decide +kernel
theorem dX5_pallet_86 : decode cX5_pallet 86 = .ok (.iadd, 1) := by decide +kernel
theorem dX5_pallet_87 : decode cX5_pallet 87 = .ok (.putfield 88, 3) := by decide +kernel
theorem dX5_pallet_90 : decode cX5_pallet 90 = .ok (.iload 6, 2) := by decide +kernel
theorem dX5_pallet_92 : decode cX5_pallet 92 = .ok (.ireturn, 1) := by decide +kernel
theorem dX5_solve_0 : decode cX5_solve 0 = .ok (.iload_n 1, 1) := by decide +kernel
theorem dX5_solve_1 : decode cX5_solve 1 = .ok (.iconst 0, 1) := by decide +kernel
theorem dX5_solve_2 : decode cX5_solve 2 = .ok (.iconst 5, 1) := by decide +kernel
theorem dX5_solve_3 : decode cX5_solve 3 = .ok (.invokestatic 50, 3) := by decide +kernel
theorem dX5_solve_6 : decode cX5_solve 6 = .ok (.aload_n 0, 1) := by decide +kernel
theorem dX5_solve_7 : decode cX5_solve 7 = .ok (.invokevirtual 85, 3) := by decide +kernel
theorem dX5_solve_10 : decode cX5_solve 10 = .ok (.aload_n 0, 1) := by decide +kernel
theorem dX5_solve_11 : decode cX5_solve 11 = .ok (.invokevirtual 106, 3) := by decide +kernel
theorem dX5_solve_14 : decode cX5_solve 14 = .ok (.aload_n 0, 1) := by decide +kernel
theorem dX5_solve_15 : decode cX5_solve 15 = .ok (.aload_n 0, 1) := by decide +kernel
theorem dX5_solve_16 : decode cX5_solve 16 = .ok (.getfield 12, 3) := by decide +kernel
theorem dX5_solve_19 : decode cX5_solve 19 = .ok (.getfield 88, 3) := by decide +kernel
theorem dX5_solve_22 : decode cX5_solve 22 = .ok (.iload_n 1, 1) := by decide +kernel
theorem dX5_solve_23 : decode cX5_solve 23 = .ok (.if_icmp .gt 7, 3) := by decide +kernel
theorem dX5_solve_26 : decode cX5_solve 26 = .ok (.iconst 1, 1) := by decide +kernel
theorem dX5_solve_27 : decode cX5_solve 27 = .ok (.goto 4, 3) := by decide +kernel
theorem dX5_solve_30 : decode cX5_solve 30 = .ok (.iconst 0, 1) := by decide +kernel
theorem dX5_solve_31 : decode cX5_solve 31 = .ok (.putfield 36, 3) := by decide +kernel
theorem dX5_solve_34 : decode cX5_solve 34 = .ok (.aload_n 0, 1) := by decide +kernel
theorem dX5_solve_35 : decode cX5_solve 35 = .ok (.getfield 36, 3) := by decide +kernel
theorem dX5_solve_38 : decode cX5_solve 38 = .ok (.ifCond .eq 17, 3) := by decide +kernel
theorem dX5_solve_41 : decode cX5_solve 41 = .ok (.aload_n 0, 1) := by decide +kernel
theorem dX5_solve_42 : decode cX5_solve 42 = .ok (.getfield 21, 3) := by decide +kernel
theorem dX5_solve_45 : decode cX5_solve 45 = .ok (.aload_n 0, 1) := by decide +kernel
theorem dX5_solve_46 : decode cX5_solve 46 = .ok (.getfield 12, 3) := by decide +kernel
theorem dX5_solve_49 : decode cX5_solve 49 = .ok (.invokevirtual 109, 3) := by decide +kernel
theorem dX5_solve_52 : decode cX5_solve 52 = .ok (.goto 10, 3) := by decide +kernel
theorem dX5_solve_55 : decode cX5_solve 55 = .ok (.aload_n 0, 1) := by decide +kernel
theorem dX5_solve_56 : decode cX5_solve 56 = .ok (.getfield 12, 3) := by decide +kernel
theorem dX5_solve_59 : decode cX5_solve 59 = .ok (.invokevirtual 113, 3) := by decide +kernel
theorem dX5_solve_62 : decode cX5_solve 62 = .ok (.aload_n 0, 1) := by decide +kernel
theorem dX5_solve_63 : decode cX5_solve 63 = .ok (.getfield 12, 3) := by decide +kernel
theorem dX5_solve_66 : decode cX5_solve 66 = .ok (.invokevirtual 116, 3) := by decide +kernel
theorem dX5_solve_69 : decode cX5_solve 69 = .ok (.ireturn, 1) := by decide +kernel
theorem dX5_exact_0 : decode cX5_exact 0 = .ok (.aload_n 0, 1) := by decide +kernel
theorem dX5_exact_1 : decode cX5_exact 1 = .ok (.getfield 36, 3) := by decide +kernel
theorem dX5_exact_4 : decode cX5_exact 4 = .ok (.ireturn, 1) := by decide +kernel
theorem dX5_bound_0 : decode cX5_bound 0 = .ok (.aload_n 0, 1) := by decide +kernel
theorem dX5_bound_1 : decode cX5_bound 1 = .ok (.getfield 12, 3) := by decide +kernel
theorem dX5_bound_4 : decode cX5_bound 4 = .ok (.invokevirtual 120, 3) := by decide +kernel
theorem dX5_bound_7 : decode cX5_bound 7 = .ok (.aload_n 0, 1) := by decide +kernel
theorem dX5_bound_8 : decode cX5_bound 8 = .ok (.getfield 12, 3) := by decide +kernel
theorem dX5_bound_11 : decode cX5_bound 11 = .ok (.getfield 123, 3) := by decide +kernel
theorem dX5_bound_14 : decode cX5_bound 14 = .ok (.invokestatic 126, 3) := by decide +kernel
theorem dX5_bound_17 : decode cX5_bound 17 = .ok (.ireturn, 1) := by decide +kernel
theorem dX5_place_0 : decode cX5_place 0 = .ok (.aload_n 0, 1) := by decide +kernel
theorem dX5_place_1 : decode cX5_place 1 = .ok (.iload_n 1, 1) := by decide +kernel
theorem dX5_place_2 : decode cX5_place 2 = .ok (.invokevirtual 132, 3) := by decide +kernel
theorem dX5_place_5 : decode cX5_place 5 = .ok (.astore_n 3, 1) := by decide +kernel
theorem dX5_place_6 : decode cX5_place 6 = .ok (.iload_n 2, 1) := by decide +kernel
theorem dX5_place_7 : decode cX5_place 7 = .ok (.iconst (-1), 1) := by decide +kernel
theorem dX5_place_8 : decode cX5_place 8 = .ok (.if_icmp .eq 24, 3) := by decide +kernel
theorem dX5_place_11 : decode cX5_place 11 = .ok (.aload_n 0, 1) := by decide +kernel
theorem dX5_place_12 : decode cX5_place 12 = .ok (.getfield 12, 3) := by decide +kernel
theorem dX5_place_15 : decode cX5_place 15 = .ok (.iload_n 2, 1) := by decide +kernel
theorem dX5_place_16 : decode cX5_place 16 = .ok (.invokevirtual 39, 3) := by decide +kernel
theorem dX5_place_19 : decode cX5_place 19 = .ok (.ifCond .ne 13, 3) := by decide +kernel
theorem dX5_place_22 : decode cX5_place 22 = .ok (.new 70, 3) := by decide +kernel
theorem dX5_place_25 : decode cX5_place 25 = .ok (.dup, 1) := by decide +kernel
theorem dX5_place_26 : decode cX5_place 26 = .ok (.ldc 45, 2) := by decide +kernel
theorem dX5_place_28 : decode cX5_place 28 = .ok (.invokespecial 74, 3) := by decide +kernel
theorem dX5_place_31 : decode cX5_place 31 = .ok (.athrow, 1) := by decide +kernel
theorem dX5_place_32 : decode cX5_place 32 = .ok (.aload_n 0, 1) := by decide +kernel
theorem dX5_place_33 : decode cX5_place 33 = .ok (.getfield 32, 3) := by decide +kernel
theorem dX5_place_36 : decode cX5_place 36 = .ok (.ifCond .ne 13, 3) := by decide +kernel
theorem dX5_place_39 : decode cX5_place 39 = .ok (.new 57, 3) := by decide +kernel
theorem dX5_place_42 : decode cX5_place 42 = .ok (.dup, 1) := by decide +kernel
theorem dX5_place_43 : decode cX5_place 43 = .ok (.ldc 136, 2) := by decide +kernel
theorem dX5_place_45 : decode cX5_place 45 = .ok (.invokespecial 61, 3) := by decide +kernel
theorem dX5_place_48 : decode cX5_place 48 = .ok (.athrow, 1) := by decide +kernel
theorem dX5_place_49 : decode cX5_place 49 = .ok (.aload_n 0, 1) := by decide +kernel
theorem dX5_place_50 : decode cX5_place 50 = .ok (.invokevirtual 106, 3) := by decide +kernel
theorem dX5_place_53 : decode cX5_place 53 = .ok (.iload_n 2, 1) := by decide +kernel
theorem dX5_place_54 : decode cX5_place 54 = .ok (.iconst (-1), 1) := by decide +kernel
theorem dX5_place_55 : decode cX5_place 55 = .ok (.if_icmp .ne 7, 3) := by decide +kernel
theorem dX5_place_58 : decode cX5_place 58 = .ok (.iconst 0, 1) := by decide +kernel
theorem dX5_place_59 : decode cX5_place 59 = .ok (.goto 12, 3) := by decide +kernel
theorem dX5_place_62 : decode cX5_place 62 = .ok (.aload_n 0, 1) := by decide +kernel
theorem dX5_place_63 : decode cX5_place 63 = .ok (.getfield 12, 3) := by decide +kernel
theorem dX5_place_66 : decode cX5_place 66 = .ok (.aload_n 3, 1) := by decide +kernel
theorem dX5_place_67 : decode cX5_place 67 = .ok (.iload_n 2, 1) := by decide +kernel
theorem dX5_place_68 : decode cX5_place 68 = .ok (.invokevirtual 138, 3) := by decide +kernel
theorem dX5_place_71 : decode cX5_place 71 = .ok (.istore 4, 2) := by decide +kernel
theorem dX5_place_73 : decode cX5_place 73 = .ok (.iload 4, 2) := by decide +kernel
theorem dX5_place_75 : decode cX5_place 75 = .ok (.ifCond .ne 8, 3) := by decide +kernel
theorem dX5_place_78 : decode cX5_place 78 = .ok (.aload_n 3, 1) := by decide +kernel
theorem dX5_place_79 : decode cX5_place 79 = .ok (.iload_n 2, 1) := by decide +kernel
theorem dX5_place_80 : decode cX5_place 80 = .ok (.putfield 142, 3) := by decide +kernel
theorem dX5_place_83 : decode cX5_place 83 = .ok (.iload 4, 2) := by decide +kernel
theorem dX5_place_85 : decode cX5_place 85 = .ok (.ireturn, 1) := by decide +kernel
theorem dX5_at_0 : decode cX5_at 0 = .ok (.aload_n 0, 1) := by decide +kernel
theorem dX5_at_1 : decode cX5_at 1 = .ok (.iload_n 1, 1) := by decide +kernel
theorem dX5_at_2 : decode cX5_at 2 = .ok (.invokevirtual 132, 3) := by decide +kernel
theorem dX5_at_5 : decode cX5_at 5 = .ok (.getfield 142, 3) := by decide +kernel
theorem dX5_at_8 : decode cX5_at 8 = .ok (.ireturn, 1) := by decide +kernel
theorem dX5_axle_0 : decode cX5_axle 0 = .ok (.iload_n 1, 1) := by decide +kernel
theorem dX5_axle_1 : decode cX5_axle 1 = .ok (.iconst 0, 1) := by decide +kernel
theorem dX5_axle_2 : decode cX5_axle 2 = .ok (.iconst 1, 1) := by decide +kernel
theorem dX5_axle_3 : decode cX5_axle 3 = .ok (.invokestatic 50, 3) := by decide +kernel
theorem dX5_axle_6 : decode cX5_axle 6 = .ok (.iload_n 2, 1) := by decide +kernel
theorem dX5_axle_7 : decode cX5_axle 7 = .ok (.iconst 0, 1) := by decide +kernel
theorem dX5_axle_8 : decode cX5_axle 8 = .ok (.iconst 1, 1) := by decide +kernel
theorem dX5_axle_9 : decode cX5_axle 9 = .ok (.invokestatic 50, 3) := by decide +kernel
theorem dX5_axle_12 : decode cX5_axle 12 = .ok (.aload_n 0, 1) := by decide +kernel
theorem dX5_axle_13 : decode cX5_axle 13 = .ok (.getfield 12, 3) := by decide +kernel
theorem dX5_axle_16 : decode cX5_axle 16 = .ok (.invokevirtual 116, 3) := by decide +kernel
theorem dX5_axle_19 : decode cX5_axle 19 = .ok (.ifCond .ne 13, 3) := by decide +kernel
theorem dX5_axle_22 : decode cX5_axle 22 = .ok (.new 145, 3) := by decide +kernel
theorem dX5_axle_25 : decode cX5_axle 25 = .ok (.dup, 1) := by decide +kernel
theorem dX5_axle_26 : decode cX5_axle 26 = .ok (.ldc 147, 2) := by decide +kernel
theorem dX5_axle_28 : decode cX5_axle 28 = .ok (.invokespecial 149, 3) := by decide +kernel
theorem dX5_axle_31 : decode cX5_axle 31 = .ok (.athrow, 1) := by decide +kernel
theorem dX5_axle_32 : decode cX5_axle 32 = .ok (.aload_n 0, 1) := by decide +kernel
theorem dX5_axle_33 : decode cX5_axle 33 = .ok (.getfield 12, 3) := by decide +kernel
theorem dX5_axle_36 : decode cX5_axle 36 = .ok (.iload_n 1, 1) := by decide +kernel
theorem dX5_axle_37 : decode cX5_axle 37 = .ok (.invokevirtual 150, 3) := by decide +kernel
theorem dX5_axle_40 : decode cX5_axle 40 = .ok (.aload_n 0, 1) := by decide +kernel
theorem dX5_axle_41 : decode cX5_axle 41 = .ok (.getfield 12, 3) := by decide +kernel
theorem dX5_axle_44 : decode cX5_axle 44 = .ok (.getfield 75, 3) := by decide +kernel
theorem dX5_axle_47 : decode cX5_axle 47 = .ok (.invokevirtual 154, 3) := by decide +kernel
theorem dX5_axle_50 : decode cX5_axle 50 = .ok (.iload_n 2, 1) := by decide +kernel
theorem dX5_axle_51 : decode cX5_axle 51 = .ok (.invokestatic 157, 3) := by decide +kernel
theorem dX5_axle_54 : decode cX5_axle 54 = .ok (.ireturn, 1) := by decide +kernel
theorem dX5_bar_0 : decode cX5_bar 0 = .ok (.aload_n 0, 1) := by decide +kernel
theorem dX5_bar_1 : decode cX5_bar 1 = .ok (.iload_n 1, 1) := by decide +kernel
theorem dX5_bar_2 : decode cX5_bar 2 = .ok (.invokevirtual 132, 3) := by decide +kernel
theorem dX5_bar_5 : decode cX5_bar 5 = .ok (.astore_n 2, 1) := by decide +kernel
theorem dX5_bar_6 : decode cX5_bar 6 = .ok (.aload_n 2, 1) := by decide +kernel
theorem dX5_bar_7 : decode cX5_bar 7 = .ok (.invokevirtual 161, 3) := by decide +kernel
theorem dX5_bar_10 : decode cX5_bar 10 = .ok (.ifCond .eq 13, 3) := by decide +kernel
theorem dX5_bar_13 : decode cX5_bar 13 = .ok (.new 57, 3) := by decide +kernel
theorem dX5_bar_16 : decode cX5_bar 16 = .ok (.dup, 1) := by decide +kernel
theorem dX5_bar_17 : decode cX5_bar 17 = .ok (.ldc 165, 2) := by decide +kernel
theorem dX5_bar_19 : decode cX5_bar 19 = .ok (.invokespecial 61, 3) := by decide +kernel
theorem dX5_bar_22 : decode cX5_bar 22 = .ok (.athrow, 1) := by decide +kernel
theorem dX5_bar_23 : decode cX5_bar 23 = .ok (.aload_n 0, 1) := by decide +kernel
theorem dX5_bar_24 : decode cX5_bar 24 = .ok (.getfield 12, 3) := by decide +kernel
theorem dX5_bar_27 : decode cX5_bar 27 = .ok (.aload_n 2, 1) := by decide +kernel
theorem dX5_bar_28 : decode cX5_bar 28 = .ok (.invokevirtual 167, 3) := by decide +kernel
theorem dX5_bar_31 : decode cX5_bar 31 = .ok (.ireturn, 1) := by decide +kernel
theorem dX5_change_0 : decode cX5_change 0 = .ok (.aload_n 0, 1) := by decide +kernel
theorem dX5_change_1 : decode cX5_change 1 = .ok (.iload_n 1, 1) := by decide +kernel
theorem dX5_change_2 : decode cX5_change 2 = .ok (.invokevirtual 132, 3) := by decide +kernel
theorem dX5_change_5 : decode cX5_change 5 = .ok (.astore_n 3, 1) := by decide +kernel
theorem dX5_change_6 : decode cX5_change 6 = .ok (.iload_n 2, 1) := by decide +kernel
theorem dX5_change_7 : decode cX5_change 7 = .ok (.iconst 1, 1) := by decide +kernel
theorem dX5_change_8 : decode cX5_change 8 = .ok (.bipush 9, 2) := by decide +kernel
theorem dX5_change_10 : decode cX5_change 10 = .ok (.invokestatic 50, 3) := by decide +kernel
theorem dX5_change_13 : decode cX5_change 13 = .ok (.aload_n 0, 1) := by decide +kernel
theorem dX5_change_14 : decode cX5_change 14 = .ok (.invokevirtual 85, 3) := by decide +kernel
theorem dX5_change_17 : decode cX5_change 17 = .ok (.aload_n 3, 1) := by decide +kernel
theorem dX5_change_18 : decode cX5_change 18 = .ok (.invokevirtual 161, 3) := by decide +kernel
theorem dX5_change_21 : decode cX5_change 21 = .ok (.ifCond .eq 21, 3) := by decide +kernel
theorem dX5_change_24 : decode cX5_change 24 = .ok (.aload_n 0, 1) := by decide +kernel
theorem dX5_change_25 : decode cX5_change 25 = .ok (.getfield 12, 3) := by decide +kernel
theorem dX5_change_28 : decode cX5_change 28 = .ok (.aload_n 3, 1) := by decide +kernel
theorem dX5_change_29 : decode cX5_change 29 = .ok (.iload_n 2, 1) := by decide +kernel
theorem dX5_change_30 : decode cX5_change 30 = .ok (.aload_n 3, 1) := by decide +kernel
theorem dX5_change_31 : decode cX5_change 31 = .ok (.getfield 142, 3) := by decide +kernel
theorem dX5_change_34 : decode cX5_change 34 = .ok (.invokevirtual 171, 3) := by decide +kernel
theorem dX5_change_37 : decode cX5_change 37 = .ok (.ifCond .eq 5, 3) := by decide +kernel
theorem dX5_change_40 : decode cX5_change 40 = .ok (.iconst 0, 1) := by decide +kernel
theorem dX5_change_41 : decode cX5_change 41 = .ok (.ireturn, 1) := by decide +kernel
theorem dX5_change_42 : decode cX5_change 42 = .ok (.aload_n 3, 1) := by decide +kernel
theorem dX5_change_43 : decode cX5_change 43 = .ok (.iload_n 2, 1) := by decide +kernel
theorem dX5_change_44 : decode cX5_change 44 = .ok (.putfield 175, 3) := by decide +kernel
theorem dX5_change_47 : decode cX5_change 47 = .ok (.iconst 1, 1) := by decide +kernel
theorem dX5_change_48 : decode cX5_change 48 = .ok (.ireturn, 1) := by decide +kernel
theorem dX5_doors_0 : decode cX5_doors 0 = .ok (.iload_n 1, 1) := by decide +kernel
theorem dX5_doors_1 : decode cX5_doors 1 = .ok (.ifCond .eq 7, 3) := by decide +kernel
theorem dX5_doors_4 : decode cX5_doors 4 = .ok (.aload_n 0, 1) := by decide +kernel
theorem dX5_doors_5 : decode cX5_doors 5 = .ok (.invokevirtual 106, 3) := by decide +kernel
theorem dX5_doors_8 : decode cX5_doors 8 = .ok (.aload_n 0, 1) := by decide +kernel
theorem dX5_doors_9 : decode cX5_doors 9 = .ok (.getfield 32, 3) := by decide +kernel
theorem dX5_doors_12 : decode cX5_doors 12 = .ok (.istore_n 2, 1) := by decide +kernel
theorem dX5_doors_13 : decode cX5_doors 13 = .ok (.aload_n 0, 1) := by decide +kernel
theorem dX5_doors_14 : decode cX5_doors 14 = .ok (.iload_n 1, 1) := by decide +kernel
theorem dX5_doors_15 : decode cX5_doors 15 = .ok (.putfield 32, 3) := by decide +kernel
theorem dX5_doors_18 : decode cX5_doors 18 = .ok (.iload_n 2, 1) := by decide +kernel
theorem dX5_doors_19 : decode cX5_doors 19 = .ok (.ireturn, 1) := by decide +kernel
theorem dX5_seal_0 : decode cX5_seal 0 = .ok (.iload_n 1, 1) := by decide +kernel
theorem dX5_seal_1 : decode cX5_seal 1 = .ok (.iconst 1, 1) := by decide +kernel
theorem dX5_seal_2 : decode cX5_seal 2 = .ok (.ldc 178, 2) := by decide +kernel
theorem dX5_seal_4 : decode cX5_seal 4 = .ok (.invokestatic 50, 3) := by decide +kernel
theorem dX5_seal_7 : decode cX5_seal 7 = .ok (.aload_n 0, 1) := by decide +kernel
theorem dX5_seal_8 : decode cX5_seal 8 = .ok (.invokevirtual 85, 3) := by decide +kernel
theorem dX5_seal_11 : decode cX5_seal 11 = .ok (.aload_n 0, 1) := by decide +kernel
theorem dX5_seal_12 : decode cX5_seal 12 = .ok (.invokevirtual 106, 3) := by decide +kernel
theorem dX5_seal_15 : decode cX5_seal 15 = .ok (.aload_n 0, 1) := by decide +kernel
theorem dX5_seal_16 : decode cX5_seal 16 = .ok (.getfield 28, 3) := by decide +kernel
theorem dX5_seal_19 : decode cX5_seal 19 = .ok (.getfield 179, 3) := by decide +kernel
theorem dX5_seal_22 : decode cX5_seal 22 = .ok (.bipush 10, 2) := by decide +kernel
theorem dX5_seal_24 : decode cX5_seal 24 = .ok (.if_icmp .lt 13, 3) := by decide +kernel
theorem dX5_seal_27 : decode cX5_seal 27 = .ok (.new 92, 3) := by decide +kernel
theorem dX5_seal_30 : decode cX5_seal 30 = .ok (.dup, 1) := by decide +kernel
theorem dX5_seal_31 : decode cX5_seal 31 = .ok (.ldc 182, 2) := by decide +kernel
theorem dX5_seal_33 : decode cX5_seal 33 = .ok (.invokespecial 96, 3) := by decide +kernel
theorem dX5_seal_36 : decode cX5_seal 36 = .ok (.athrow, 1) := by decide +kernel
theorem dX5_seal_37 : decode cX5_seal 37 = .ok (.aload_n 0, 1) := by decide +kernel
theorem dX5_seal_38 : decode cX5_seal 38 = .ok (.getfield 28, 3) := by decide +kernel
theorem dX5_seal_41 : decode cX5_seal 41 = .ok (.iload_n 1, 1) := by decide +kernel
theorem dX5_seal_42 : decode cX5_seal 42 = .ok (.invokevirtual 184, 3) := by decide +kernel
theorem dX5_seal_45 : decode cX5_seal 45 = .ok (.ifCond .eq 5, 3) := by decide +kernel
theorem dX5_seal_48 : decode cX5_seal 48 = .ok (.iconst 0, 1) := by decide +kernel
theorem dX5_seal_49 : decode cX5_seal 49 = .ok (.ireturn, 1) := by decide +kernel
theorem dX5_seal_50 : decode cX5_seal 50 = .ok (.aload_n 0, 1) := by decide +kernel
theorem dX5_seal_51 : decode cX5_seal 51 = .ok (.getfield 28, 3) := by decide +kernel
theorem dX5_seal_54 : decode cX5_seal 54 = .ok (.iload_n 1, 1) := by decide +kernel
theorem dX5_seal_55 : decode cX5_seal 55 = .ok (.invokevirtual 187, 3) := by decide +kernel
theorem dX5_seal_58 : decode cX5_seal 58 = .ok (.iconst 1, 1) := by decide +kernel
theorem dX5_seal_59 : decode cX5_seal 59 = .ok (.ireturn, 1) := by decide +kernel
theorem dX5_broken_0 : decode cX5_broken 0 = .ok (.aload_n 0, 1) := by decide +kernel
theorem dX5_broken_1 : decode cX5_broken 1 = .ok (.getfield 28, 3) := by decide +kernel
theorem dX5_broken_4 : decode cX5_broken 4 = .ok (.invokevirtual 190, 3) := by decide +kernel
theorem dX5_broken_7 : decode cX5_broken 7 = .ok (.ifCond .ne 13, 3) := by decide +kernel
theorem dX5_broken_10 : decode cX5_broken 10 = .ok (.new 57, 3) := by decide +kernel
theorem dX5_broken_13 : decode cX5_broken 13 = .ok (.dup, 1) := by decide +kernel
theorem dX5_broken_14 : decode cX5_broken 14 = .ok (.ldc 193, 2) := by decide +kernel
theorem dX5_broken_16 : decode cX5_broken 16 = .ok (.invokespecial 61, 3) := by decide +kernel
theorem dX5_broken_19 : decode cX5_broken 19 = .ok (.athrow, 1) := by decide +kernel
theorem dX5_broken_20 : decode cX5_broken 20 = .ok (.aload_n 0, 1) := by decide +kernel
theorem dX5_broken_21 : decode cX5_broken 21 = .ok (.getfield 28, 3) := by decide +kernel
theorem dX5_broken_24 : decode cX5_broken 24 = .ok (.invokevirtual 195, 3) := by decide +kernel
theorem dX5_broken_27 : decode cX5_broken 27 = .ok (.ireturn, 1) := by decide +kernel
theorem dX5_order_0 : decode cX5_order 0 = .ok (.iload_n 1, 1) := by decide +kernel
theorem dX5_order_1 : decode cX5_order 1 = .ok (.iconst 1, 1) := by decide +kernel
theorem dX5_order_2 : decode cX5_order 2 = .ok (.bipush 9, 2) := by decide +kernel
theorem dX5_order_4 : decode cX5_order 4 = .ok (.invokestatic 50, 3) := by decide +kernel
theorem dX5_order_7 : decode cX5_order 7 = .ok (.iload_n 2, 1) := by decide +kernel
theorem dX5_order_8 : decode cX5_order 8 = .ok (.ifCond .ge 13, 3) := by decide +kernel
theorem dX5_order_11 : decode cX5_order 11 = .ok (.new 70, 3) := by decide +kernel
theorem dX5_order_14 : decode cX5_order 14 = .ok (.dup, 1) := by decide +kernel
theorem dX5_order_15 : decode cX5_order 15 = .ok (.ldc 198, 2) := by decide +kernel
theorem dX5_order_17 : decode cX5_order 17 = .ok (.invokespecial 74, 3) := by decide +kernel
theorem dX5_order_20 : decode cX5_order 20 = .ok (.athrow, 1) := by decide +kernel
theorem dX5_order_21 : decode cX5_order 21 = .ok (.aload_n 0, 1) := by decide +kernel
theorem dX5_order_22 : decode cX5_order 22 = .ok (.getfield 12, 3) := by decide +kernel
theorem dX5_order_25 : decode cX5_order 25 = .ok (.iload_n 1, 1) := by decide +kernel
theorem dX5_order_26 : decode cX5_order 26 = .ok (.iload_n 2, 1) := by decide +kernel
theorem dX5_order_27 : decode cX5_order 27 = .ok (.invokevirtual 200, 3) := by decide +kernel
theorem dX5_order_30 : decode cX5_order 30 = .ok (.ireturn, 1) := by decide +kernel
theorem dX5_manifest_0 : decode cX5_manifest 0 = .ok (.iload_n 1, 1) := by decide +kernel
theorem dX5_manifest_1 : decode cX5_manifest 1 = .ok (.iconst 0, 1) := by decide +kernel
theorem dX5_manifest_2 : decode cX5_manifest 2 = .ok (.sipush 10000, 3) := by decide +kernel
theorem dX5_manifest_5 : decode cX5_manifest 5 = .ok (.invokestatic 50, 3) := by decide +kernel
theorem dX5_manifest_8 : decode cX5_manifest 8 = .ok (.iload_n 1, 1) := by decide +kernel
theorem dX5_manifest_9 : decode cX5_manifest 9 = .ok (.aload_n 0, 1) := by decide +kernel
theorem dX5_manifest_10 : decode cX5_manifest 10 = .ok (.getfield 12, 3) := by decide +kernel
theorem dX5_manifest_13 : decode cX5_manifest 13 = .ok (.invokevirtual 203, 3) := by decide +kernel
theorem dX5_manifest_16 : decode cX5_manifest 16 = .ok (.isub, 1) := by decide +kernel
theorem dX5_manifest_17 : decode cX5_manifest 17 = .ok (.ireturn, 1) := by decide +kernel
theorem dX5_count_0 : decode cX5_count 0 = .ok (.iload_n 1, 1) := by decide +kernel
theorem dX5_count_1 : decode cX5_count 1 = .ok (.tableswitch 92 0 5 #[39, 47, 55, 63, 76, 84], 39) := by decide +kernel
theorem dX5_count_40 : decode cX5_count 40 = .ok (.aload_n 0, 1) := by decide +kernel
theorem dX5_count_41 : decode cX5_count 41 = .ok (.getfield 12, 3) := by decide +kernel
theorem dX5_count_44 : decode cX5_count 44 = .ok (.getfield 123, 3) := by decide +kernel
theorem dX5_count_47 : decode cX5_count 47 = .ok (.ireturn, 1) := by decide +kernel
theorem dX5_count_48 : decode cX5_count 48 = .ok (.aload_n 0, 1) := by decide +kernel
theorem dX5_count_49 : decode cX5_count 49 = .ok (.getfield 12, 3) := by decide +kernel
theorem dX5_count_52 : decode cX5_count 52 = .ok (.getfield 88, 3) := by decide +kernel
theorem dX5_count_55 : decode cX5_count 55 = .ok (.ireturn, 1) := by decide +kernel
theorem dX5_count_56 : decode cX5_count 56 = .ok (.aload_n 0, 1) := by decide +kernel
theorem dX5_count_57 : decode cX5_count 57 = .ok (.getfield 12, 3) := by decide +kernel
theorem dX5_count_60 : decode cX5_count 60 = .ok (.invokevirtual 116, 3) := by decide +kernel
theorem dX5_count_63 : decode cX5_count 63 = .ok (.ireturn, 1) := by decide +kernel
theorem dX5_count_64 : decode cX5_count 64 = .ok (.aload_n 0, 1) := by decide +kernel
theorem dX5_count_65 : decode cX5_count 65 = .ok (.getfield 32, 3) := by decide +kernel
theorem dX5_count_68 : decode cX5_count 68 = .ok (.ifCond .eq 7, 3) := by decide +kernel
theorem dX5_count_71 : decode cX5_count 71 = .ok (.iconst 1, 1) := by decide +kernel
theorem dX5_count_72 : decode cX5_count 72 = .ok (.goto 4, 3) := by decide +kernel
theorem dX5_count_75 : decode cX5_count 75 = .ok (.iconst 0, 1) := by decide +kernel
theorem dX5_count_76 : decode cX5_count 76 = .ok (.ireturn, 1) := by decide +kernel
theorem dX5_count_77 : decode cX5_count 77 = .ok (.aload_n 0, 1) := by decide +kernel
theorem dX5_count_78 : decode cX5_count 78 = .ok (.getfield 28, 3) := by decide +kernel
theorem dX5_count_81 : decode cX5_count 81 = .ok (.getfield 206, 3) := by decide +kernel
theorem dX5_count_84 : decode cX5_count 84 = .ok (.ireturn, 1) := by decide +kernel
theorem dX5_count_85 : decode cX5_count 85 = .ok (.aload_n 0, 1) := by decide +kernel
theorem dX5_count_86 : decode cX5_count 86 = .ok (.getfield 28, 3) := by decide +kernel
theorem dX5_count_89 : decode cX5_count 89 = .ok (.getfield 179, 3) := by decide +kernel
theorem dX5_count_92 : decode cX5_count 92 = .ok (.ireturn, 1) := by decide +kernel
theorem dX5_count_93 : decode cX5_count 93 = .ok (.iconst (-1), 1) := by decide +kernel
theorem dX5_count_94 : decode cX5_count 94 = .ok (.ireturn, 1) := by decide +kernel
theorem dX5_knownPallet_0 : decode cX5_knownPallet 0 = .ok (.iload_n 1, 1) := by decide +kernel
theorem dX5_knownPallet_1 : decode cX5_knownPallet 1 = .ok (.ifCond .lt 14, 3) := by decide +kernel
theorem dX5_knownPallet_4 : decode cX5_knownPallet 4 = .ok (.iload_n 1, 1) := by decide +kernel
theorem dX5_knownPallet_5 : decode cX5_knownPallet 5 = .ok (.aload_n 0, 1) := by decide +kernel
theorem dX5_knownPallet_6 : decode cX5_knownPallet 6 = .ok (.getfield 12, 3) := by decide +kernel
theorem dX5_knownPallet_9 : decode cX5_knownPallet 9 = .ok (.getfield 88, 3) := by decide +kernel
theorem dX5_knownPallet_12 : decode cX5_knownPallet 12 = .ok (.if_icmp .lt 13, 3) := by decide +kernel
theorem dX5_knownPallet_15 : decode cX5_knownPallet 15 = .ok (.new 209, 3) := by decide +kernel
theorem dX5_knownPallet_18 : decode cX5_knownPallet 18 = .ok (.dup, 1) := by decide +kernel
theorem dX5_knownPallet_19 : decode cX5_knownPallet 19 = .ok (.ldc 211, 2) := by decide +kernel
theorem dX5_knownPallet_21 : decode cX5_knownPallet 21 = .ok (.invokespecial 213, 3) := by decide +kernel
theorem dX5_knownPallet_24 : decode cX5_knownPallet 24 = .ok (.athrow, 1) := by decide +kernel
theorem dX5_knownPallet_25 : decode cX5_knownPallet 25 = .ok (.aload_n 0, 1) := by decide +kernel
theorem dX5_knownPallet_26 : decode cX5_knownPallet 26 = .ok (.getfield 12, 3) := by decide +kernel
theorem dX5_knownPallet_29 : decode cX5_knownPallet 29 = .ok (.getfield 97, 3) := by decide +kernel
theorem dX5_knownPallet_32 : decode cX5_knownPallet 32 = .ok (.iload_n 1, 1) := by decide +kernel
theorem dX5_knownPallet_33 : decode cX5_knownPallet 33 = .ok (.aaload, 1) := by decide +kernel
theorem dX5_knownPallet_34 : decode cX5_knownPallet 34 = .ok (.areturn, 1) := by decide +kernel
theorem dX5_requireWithin_0 : decode cX5_requireWithin 0 = .ok (.iload_n 0, 1) := by decide +kernel
theorem dX5_requireWithin_1 : decode cX5_requireWithin 1 = .ok (.iload_n 1, 1) := by decide +kernel
theorem dX5_requireWithin_2 : decode cX5_requireWithin 2 = .ok (.if_icmp .lt 8, 3) := by decide +kernel
theorem dX5_requireWithin_5 : decode cX5_requireWithin 5 = .ok (.iload_n 0, 1) := by decide +kernel
theorem dX5_requireWithin_6 : decode cX5_requireWithin 6 = .ok (.iload_n 2, 1) := by decide +kernel
theorem dX5_requireWithin_7 : decode cX5_requireWithin 7 = .ok (.if_icmp .le 13, 3) := by decide +kernel
theorem dX5_requireWithin_10 : decode cX5_requireWithin 10 = .ok (.new 70, 3) := by decide +kernel
theorem dX5_requireWithin_13 : decode cX5_requireWithin 13 = .ok (.dup, 1) := by decide +kernel
theorem dX5_requireWithin_14 : decode cX5_requireWithin 14 = .ok (.ldc 214, 2) := by decide +kernel
theorem dX5_requireWithin_16 : decode cX5_requireWithin 16 = .ok (.invokespecial 74, 3) := by decide +kernel
theorem dX5_requireWithin_19 : decode cX5_requireWithin 19 = .ok (.athrow, 1) := by decide +kernel
theorem dX5_requireWithin_20 : decode cX5_requireWithin 20 = .ok (.return_, 1) := by decide +kernel
theorem dX5_requireShut_0 : decode cX5_requireShut 0 = .ok (.aload_n 0, 1) := by decide +kernel
theorem dX5_requireShut_1 : decode cX5_requireShut 1 = .ok (.getfield 32, 3) := by decide +kernel
theorem dX5_requireShut_4 : decode cX5_requireShut 4 = .ok (.ifCond .eq 13, 3) := by decide +kernel
theorem dX5_requireShut_7 : decode cX5_requireShut 7 = .ok (.new 57, 3) := by decide +kernel
theorem dX5_requireShut_10 : decode cX5_requireShut 10 = .ok (.dup, 1) := by decide +kernel
theorem dX5_requireShut_11 : decode cX5_requireShut 11 = .ok (.ldc 216, 2) := by decide +kernel
theorem dX5_requireShut_13 : decode cX5_requireShut 13 = .ok (.invokespecial 61, 3) := by decide +kernel
theorem dX5_requireShut_16 : decode cX5_requireShut 16 = .ok (.athrow, 1) := by decide +kernel
theorem dX5_requireShut_17 : decode cX5_requireShut 17 = .ok (.return_, 1) := by decide +kernel
theorem dX5_requireNoSeal_0 : decode cX5_requireNoSeal 0 = .ok (.aload_n 0, 1) := by decide +kernel
theorem dX5_requireNoSeal_1 : decode cX5_requireNoSeal 1 = .ok (.getfield 28, 3) := by decide +kernel
theorem dX5_requireNoSeal_4 : decode cX5_requireNoSeal 4 = .ok (.invokevirtual 190, 3) := by decide +kernel
theorem dX5_requireNoSeal_7 : decode cX5_requireNoSeal 7 = .ok (.ifCond .eq 13, 3) := by decide +kernel
theorem dX5_requireNoSeal_10 : decode cX5_requireNoSeal 10 = .ok (.new 57, 3) := by decide +kernel
theorem dX5_requireNoSeal_13 : decode cX5_requireNoSeal 13 = .ok (.dup, 1) := by decide +kernel
theorem dX5_requireNoSeal_14 : decode cX5_requireNoSeal 14 = .ok (.ldc 218, 2) := by decide +kernel
theorem dX5_requireNoSeal_16 : decode cX5_requireNoSeal 16 = .ok (.invokespecial 61, 3) := by decide +kernel
theorem dX5_requireNoSeal_19 : decode cX5_requireNoSeal 19 = .ok (.athrow, 1) := by decide +kernel
theorem dX5_requireNoSeal_20 : decode cX5_requireNoSeal 20 = .ok (.return_, 1) := by decide +kernel
theorem dX5_sideInLowestTerms_0 : decode cX5_sideInLowestTerms 0 = .ok (.iload_n 2, 1) := by decide +kernel
theorem dX5_sideInLowestTerms_1 : decode cX5_sideInLowestTerms 1 = .ok (.ifCond .ne 7, 3) := by decide +kernel
theorem dX5_sideInLowestTerms_4 : decode cX5_sideInLowestTerms 4 = .ok (.iload_n 0, 1) := by decide +kernel
theorem dX5_sideInLowestTerms_5 : decode cX5_sideInLowestTerms 5 = .ok (.goto 4, 3) := by decide +kernel
theorem dX5_sideInLowestTerms_8 : decode cX5_sideInLowestTerms 8 = .ok (.iload_n 1, 1) := by decide +kernel
theorem dX5_sideInLowestTerms_9 : decode cX5_sideInLowestTerms 9 = .ok (.istore_n 3, 1) := by decide +kernel
theorem dX5_sideInLowestTerms_10 : decode cX5_sideInLowestTerms 10 = .ok (.iload_n 1, 1) := by decide +kernel
theorem dX5_sideInLowestTerms_11 : decode cX5_sideInLowestTerms 11 = .ok (.istore 4, 2) := by decide +kernel
theorem dX5_sideInLowestTerms_13 : decode cX5_sideInLowestTerms 13 = .ok (.iload 4, 2) := by decide +kernel
theorem dX5_sideInLowestTerms_15 : decode cX5_sideInLowestTerms 15 = .ok (.iconst 1, 1) := by decide +kernel
theorem dX5_sideInLowestTerms_16 : decode cX5_sideInLowestTerms 16 = .ok (.if_icmp .le 28, 3) := by decide +kernel
theorem dX5_sideInLowestTerms_19 : decode cX5_sideInLowestTerms 19 = .ok (.iload_n 0, 1) := by decide +kernel
theorem dX5_sideInLowestTerms_20 : decode cX5_sideInLowestTerms 20 = .ok (.iload 4, 2) := by decide +kernel
theorem dX5_sideInLowestTerms_22 : decode cX5_sideInLowestTerms 22 = .ok (.irem, 1) := by decide +kernel
theorem dX5_sideInLowestTerms_23 : decode cX5_sideInLowestTerms 23 = .ok (.ifCond .ne 15, 3) := by decide +kernel
theorem dX5_sideInLowestTerms_26 : decode cX5_sideInLowestTerms 26 = .ok (.iload_n 1, 1) := by decide +kernel
theorem dX5_sideInLowestTerms_27 : decode cX5_sideInLowestTerms 27 = .ok (.iload 4, 2) := by decide +kernel
theorem dX5_sideInLowestTerms_29 : decode cX5_sideInLowestTerms 29 = .ok (.irem, 1) := by decide +kernel
theorem dX5_sideInLowestTerms_30 : decode cX5_sideInLowestTerms 30 = .ok (.ifCond .ne 8, 3) := by decide +kernel
theorem dX5_sideInLowestTerms_33 : decode cX5_sideInLowestTerms 33 = .ok (.iload_n 3, 1) := by decide +kernel
theorem dX5_sideInLowestTerms_34 : decode cX5_sideInLowestTerms 34 = .ok (.iload 4, 2) := by decide +kernel
theorem dX5_sideInLowestTerms_36 : decode cX5_sideInLowestTerms 36 = .ok (.idiv, 1) := by decide +kernel
theorem dX5_sideInLowestTerms_37 : decode cX5_sideInLowestTerms 37 = .ok (.ireturn, 1) := by decide +kernel
theorem dX5_sideInLowestTerms_38 : decode cX5_sideInLowestTerms 38 = .ok (.iinc 4 (-1), 3) := by decide +kernel
theorem dX5_sideInLowestTerms_41 : decode cX5_sideInLowestTerms 41 = .ok (.goto (-28), 3) := by decide +kernel
theorem dX5_sideInLowestTerms_44 : decode cX5_sideInLowestTerms 44 = .ok (.iload_n 3, 1) := by decide +kernel
theorem dX5_sideInLowestTerms_45 : decode cX5_sideInLowestTerms 45 = .ok (.ireturn, 1) := by decide +kernel
end
section
theorem dX6_init_0 : decode cX6_init 0 = .ok (.aload_n 0, 1) := by decide +kernel
theorem dX6_init_1 : decode cX6_init 1 = .ok (.invokespecial 1, 3) := by decide +kernel
theorem dX6_init_4 : decode cX6_init 4 = .ok (.aload_n 0, 1) := by decide +kernel
theorem dX6_init_5 : decode cX6_init 5 = .ok (.bipush 12, 2) := by decide +kernel
theorem dX6_init_7 : decode cX6_init 7 = .ok (.newarray .int, 2) := by decide +kernel
theorem dX6_init_9 : decode cX6_init 9 = .ok (.dup, 1) := by decide +kernel
theorem dX6_init_10 : decode cX6_init 10 = .ok (.iconst 0, 1) := by decide +kernel
theorem dX6_init_11 : decode cX6_init 11 = .ok (.bipush 10, 2) := by decide +kernel
theorem dX6_init_13 : decode cX6_init 13 = .ok (.iastore, 1) := by decide +kernel
theorem dX6_init_14 : decode cX6_init 14 = .ok (.dup, 1) := by decide +kernel
theorem dX6_init_15 : decode cX6_init 15 = .ok (.iconst 1, 1) := by decide +kernel
theorem dX6_init_16 : decode cX6_init 16 = .ok (.bipush 10, 2) := by decide +kernel
theorem dX6_init_18 : decode cX6_init 18 = .ok (.iastore, 1) := by decide +kernel
theorem dX6_init_19 : decode cX6_init 19 = .ok (.dup, 1) := by decide +kernel
theorem dX6_init_20 : decode cX6_init 20 = .ok (.iconst 2, 1) := by decide +kernel
theorem dX6_init_21 : decode cX6_init 21 = .ok (.bipush 10, 2) := by decide +kernel
theorem dX6_init_23 : decode cX6_init 23 = .ok (.iastore, 1) := by decide +kernel
theorem dX6_init_24 : decode cX6_init 24 = .ok (.dup, 1) := by decide +kernel
theorem dX6_init_25 : decode cX6_init 25 = .ok (.iconst 3, 1) := by decide +kernel
theorem dX6_init_26 : decode cX6_init 26 = .ok (.bipush 10, 2) := by decide +kernel
theorem dX6_init_28 : decode cX6_init 28 = .ok (.iastore, 1) := by decide +kernel
theorem dX6_init_29 : decode cX6_init 29 = .ok (.dup, 1) := by decide +kernel
theorem dX6_init_30 : decode cX6_init 30 = .ok (.iconst 4, 1) := by decide +kernel
theorem dX6_init_31 : decode cX6_init 31 = .ok (.bipush 10, 2) := by decide +kernel
theorem dX6_init_33 : decode cX6_init 33 = .ok (.iastore, 1) := by decide +kernel
theorem dX6_init_34 : decode cX6_init 34 = .ok (.dup, 1) := by decide +kernel
theorem dX6_init_35 : decode cX6_init 35 = .ok (.iconst 5, 1) := by decide +kernel
theorem dX6_init_36 : decode cX6_init 36 = .ok (.bipush 10, 2) := by decide +kernel
theorem dX6_init_38 : decode cX6_init 38 = .ok (.iastore, 1) := by decide +kernel
theorem dX6_init_39 : decode cX6_init 39 = .ok (.dup, 1) := by decide +kernel
theorem dX6_init_40 : decode cX6_init 40 = .ok (.bipush 6, 2) := by decide +kernel
theorem dX6_init_42 : decode cX6_init 42 = .ok (.bipush 10, 2) := by decide +kernel
theorem dX6_init_44 : decode cX6_init 44 = .ok (.iastore, 1) := by decide +kernel
theorem dX6_init_45 : decode cX6_init 45 = .ok (.dup, 1) := by decide +kernel
theorem dX6_init_46 : decode cX6_init 46 = .ok (.bipush 7, 2) := by decide +kernel
theorem dX6_init_48 : decode cX6_init 48 = .ok (.bipush 10, 2) := by decide +kernel
theorem dX6_init_50 : decode cX6_init 50 = .ok (.iastore, 1) := by decide +kernel
theorem dX6_init_51 : decode cX6_init 51 = .ok (.dup, 1) := by decide +kernel
theorem dX6_init_52 : decode cX6_init 52 = .ok (.bipush 8, 2) := by decide +kernel
theorem dX6_init_54 : decode cX6_init 54 = .ok (.bipush 10, 2) := by decide +kernel
theorem dX6_init_56 : decode cX6_init 56 = .ok (.iastore, 1) := by decide +kernel
theorem dX6_init_57 : decode cX6_init 57 = .ok (.dup, 1) := by decide +kernel
theorem dX6_init_58 : decode cX6_init 58 = .ok (.bipush 9, 2) := by decide +kernel
theorem dX6_init_60 : decode cX6_init 60 = .ok (.bipush 10, 2) := by decide +kernel
theorem dX6_init_62 : decode cX6_init 62 = .ok (.iastore, 1) := by decide +kernel
theorem dX6_init_63 : decode cX6_init 63 = .ok (.dup, 1) := by decide +kernel
theorem dX6_init_64 : decode cX6_init 64 = .ok (.bipush 10, 2) := by decide +kernel
theorem dX6_init_66 : decode cX6_init 66 = .ok (.bipush 10, 2) := by decide +kernel
theorem dX6_init_68 : decode cX6_init 68 = .ok (.iastore, 1) := by decide +kernel
theorem dX6_init_69 : decode cX6_init 69 = .ok (.dup, 1) := by decide +kernel
theorem dX6_init_70 : decode cX6_init 70 = .ok (.bipush 11, 2) := by decide +kernel
theorem dX6_init_72 : decode cX6_init 72 = .ok (.bipush 10, 2) := by decide +kernel
theorem dX6_init_74 : decode cX6_init 74 = .ok (.iastore, 1) := by decide +kernel
theorem dX6_init_75 : decode cX6_init 75 = .ok (.putfield 7, 3) := by decide +kernel
theorem dX6_init_78 : decode cX6_init 78 = .ok (.aload_n 0, 1) := by decide +kernel
theorem dX6_init_79 : decode cX6_init 79 = .ok (.bipush 12, 2) := by decide +kernel
theorem dX6_init_81 : decode cX6_init 81 = .ok (.newarray .boolean, 2) := by decide +kernel
theorem dX6_init_83 : decode cX6_init 83 = .ok (.putfield 13, 3) := by decide +kernel
theorem dX6_init_86 : decode cX6_init 86 = .ok (.aload_n 0, 1) := by decide +kernel
theorem dX6_init_87 : decode cX6_init 87 = .ok (.bipush 10, 2) := by decide +kernel
theorem dX6_init_89 : decode cX6_init 89 = .ok (.putfield 17, 3) := by decide +kernel
theorem dX6_init_92 : decode cX6_init 92 = .ok (.aload_n 0, 1) := by decide +kernel
theorem dX6_init_93 : decode cX6_init 93 = .ok (.sipush 10000, 3) := by decide +kernel
theorem dX6_init_96 : decode cX6_init 96 = .ok (.putfield 21, 3) := by decide +kernel
theorem dX6_init_99 : decode cX6_init 99 = .ok (.aload_n 0, 1) := by decide +kernel
theorem dX6_init_100 : decode cX6_init 100 = .ok (.sipush 10000, 3) := by decide +kernel
theorem dX6_init_103 : decode cX6_init 103 = .ok (.putfield 24, 3) := by decide +kernel
theorem dX6_init_106 : decode cX6_init 106 = .ok (.aload_n 0, 1) := by decide +kernel
theorem dX6_init_107 : decode cX6_init 107 = .ok (.bipush 8, 2) := by decide +kernel
theorem dX6_init_109 : decode cX6_init 109 = .ok (.newarray .int, 2) := by decide +kernel
theorem dX6_init_111 : decode cX6_init 111 = .ok (.putfield 27, 3) := by decide +kernel
theorem dX6_init_114 : decode cX6_init 114 = .ok (.aload_n 0, 1) := by decide +kernel
theorem dX6_init_115 : decode cX6_init 115 = .ok (.bipush 8, 2) := by decide +kernel
theorem dX6_init_117 : decode cX6_init 117 = .ok (.newarray .boolean, 2) := by decide +kernel
theorem dX6_init_119 : decode cX6_init 119 = .ok (.putfield 30, 3) := by decide +kernel
theorem dX6_init_122 : decode cX6_init 122 = .ok (.aload_n 0, 1) := by decide +kernel
theorem dX6_init_123 : decode cX6_init 123 = .ok (.bipush 8, 2) := by decide +kernel
theorem dX6_init_125 : decode cX6_init 125 = .ok (.newarray .boolean, 2) := by decide +kernel
theorem dX6_init_127 : decode cX6_init 127 = .ok (.putfield 33, 3) := by decide +kernel
theorem dX6_init_130 : decode cX6_init 130 = .ok (.aload_n 0, 1) := by decide +kernel
theorem dX6_init_131 : decode cX6_init 131 = .ok (.bipush 8, 2) := by decide +kernel
theorem dX6_init_133 : decode cX6_init 133 = .ok (.newarray .int, 2) := by decide +kernel
theorem dX6_init_135 : decode cX6_init 135 = .ok (.putfield 36, 3) := by decide +kernel
theorem dX6_init_138 : decode cX6_init 138 = .ok (.aload_n 0, 1) := by decide +kernel
theorem dX6_init_139 : decode cX6_init 139 = .ok (.bipush 8, 2) := by decide +kernel
theorem dX6_init_141 : decode cX6_init 141 = .ok (.newarray .int, 2) := by decide +kernel
theorem dX6_init_143 : decode cX6_init 143 = .ok (.putfield 39, 3) := by decide +kernel
theorem dX6_init_146 : decode cX6_init 146 = .ok (.aload_n 0, 1) := by decide +kernel
theorem dX6_init_147 : decode cX6_init 147 = .ok (.bipush 8, 2) := by decide +kernel
theorem dX6_init_149 : decode cX6_init 149 = .ok (.newarray .int, 2) := by decide +kernel
theorem dX6_init_151 : decode cX6_init 151 = .ok (.putfield 42, 3) := by decide +kernel
theorem dX6_init_154 : decode cX6_init 154 = .ok (.aload_n 0, 1) := by decide +kernel
theorem dX6_init_155 : decode cX6_init 155 = .ok (.bipush 8, 2) := by decide +kernel
theorem dX6_init_157 : decode cX6_init 157 = .ok (.newarray .int, 2) := by decide +kernel
theorem dX6_init_159 : decode cX6_init 159 = .ok (.putfield 45, 3) := by decide +kernel
theorem dX6_init_162 : decode cX6_init 162 = .ok (.aload_n 0, 1) := by decide +kernel
theorem dX6_init_163 : decode cX6_init 163 = .ok (.bipush 10, 2) := by decide +kernel
theorem dX6_init_165 : decode cX6_init 165 = .ok (.newarray .int, 2) := by decide +kernel
theorem dX6_init_167 : decode cX6_init 167 = .ok (.putfield 48, 3) := by decide +kernel
theorem dX6_init_170 : decode cX6_init 170 = .ok (.aload_n 0, 1) := by decide +kernel
theorem dX6_init_171 : decode cX6_init 171 = .ok (.iload_n 1, 1) := by decide +kernel
theorem dX6_init_172 : decode cX6_init 172 = .ok (.ifCond .ge 7, 3) := by decide +kernel
theorem dX6_init_175 : decode cX6_init 175 = .ok (.iconst 0, 1) := by decide +kernel
theorem dX6_init_176 : decode cX6_init 176 = .ok (.goto 15, 3) := by decide +kernel
theorem dX6_init_179 : decode cX6_init 179 = .ok (.iload_n 1, 1) := by decide +kernel
theorem dX6_init_180 : decode cX6_init 180 = .ok (.bipush 12, 2) := by decide +kernel
theorem dX6_init_182 : decode cX6_init 182 = .ok (.if_icmp .le 8, 3) := by decide +kernel
theorem dX6_init_185 : decode cX6_init 185 = .ok (.bipush 12, 2) := by decide +kernel
theorem dX6_init_187 : decode cX6_init 187 = .ok (.goto 4, 3) := by decide +kernel
theorem dX6_init_190 : decode cX6_init 190 = .ok (.iload_n 1, 1) := by decide +kernel
theorem dX6_init_191 : decode cX6_init 191 = .ok (.putfield 51, 3) := by decide +kernel
theorem dX6_init_194 : decode cX6_init 194 = .ok (.return_, 1) := by decide +kernel
theorem dX6_thrown_0 : decode cX6_thrown 0 = .ok (.aload_n 0, 1) := by decide +kernel
theorem dX6_thrown_1 : decode cX6_thrown 1 = .ok (.getfield 54, 3) := by decide +kernel
theorem dX6_thrown_4 : decode cX6_thrown 4 = .ok (.ireturn, 1) := by decide +kernel
theorem dX6_within_0 : decode cX6_within 0 = .ok (.iload_n 0, 1) := by decide +kernel
theorem dX6_within_1 : decode cX6_within 1 = .ok (.iload_n 1, 1) := by decide +kernel
theorem dX6_within_2 : decode cX6_within 2 = .ok (.if_icmp .lt 12, 3) := by decide +kernel
theorem dX6_within_5 : decode cX6_within 5 = .ok (.iload_n 0, 1) := by decide +kernel
theorem dX6_within_6 : decode cX6_within 6 = .ok (.iload_n 2, 1) := by decide +kernel
theorem dX6_within_7 : decode cX6_within 7 = .ok (.if_icmp .gt 7, 3) := by decide +kernel
theorem dX6_within_10 : decode cX6_within 10 = .ok (.iconst 1, 1) := by decide +kernel
theorem dX6_within_11 : decode cX6_within 11 = .ok (.goto 4, 3) := by decide +kernel
theorem dX6_within_14 : decode cX6_within 14 = .ok (.iconst 0, 1) := by decide +kernel
theorem dX6_within_15 : decode cX6_within 15 = .ok (.ireturn, 1) := by decide +kernel
theorem dX6_isPallet_0 : decode cX6_isPallet 0 = .ok (.iload_n 1, 1) := by decide +kernel
theorem dX6_isPallet_1 : decode cX6_isPallet 1 = .ok (.ifCond .lt 15, 3) := by decide +kernel
theorem dX6_isPallet_4 : decode cX6_isPallet 4 = .ok (.iload_n 1, 1) := by decide +kernel
theorem dX6_isPallet_5 : decode cX6_isPallet 5 = .ok (.aload_n 0, 1) := by decide +kernel
theorem dX6_isPallet_6 : decode cX6_isPallet 6 = .ok (.getfield 57, 3) := by decide +kernel
theorem dX6_isPallet_9 : decode cX6_isPallet 9 = .ok (.if_icmp .ge 7, 3) := by decide +kernel
theorem dX6_isPallet_12 : decode cX6_isPallet 12 = .ok (.iconst 1, 1) := by decide +kernel
theorem dX6_isPallet_13 : decode cX6_isPallet 13 = .ok (.goto 4, 3) := by decide +kernel
theorem dX6_isPallet_16 : decode cX6_isPallet 16 = .ok (.iconst 0, 1) := by decide +kernel
theorem dX6_isPallet_17 : decode cX6_isPallet 17 = .ok (.ireturn, 1) := by decide +kernel
theorem dX6_cell_0 : decode cX6_cell 0 = .ok (.aload_n 0, 1) := by decide +kernel
theorem dX6_cell_1 : decode cX6_cell 1 = .ok (.iload_n 1, 1) := by decide +kernel
theorem dX6_cell_2 : decode cX6_cell 2 = .ok (.iconst 0, 1) := by decide +kernel
theorem dX6_cell_3 : decode cX6_cell 3 = .ok (.aload_n 0, 1) := by decide +kernel
theorem dX6_cell_4 : decode cX6_cell 4 = .ok (.getfield 51, 3) := by decide +kernel
theorem dX6_cell_7 : decode cX6_cell 7 = .ok (.iconst 1, 1) := by decide +kernel
theorem dX6_cell_8 : decode cX6_cell 8 = .ok (.isub, 1) := by decide +kernel
theorem dX6_cell_9 : decode cX6_cell 9 = .ok (.invokestatic 60, 3) := by decide +kernel
theorem dX6_cell_12 : decode cX6_cell 12 = .ok (.ifCond .ne 7, 3) := by decide +kernel
theorem dX6_cell_15 : decode cX6_cell 15 = .ok (.iconst 1, 1) := by decide +kernel
theorem dX6_cell_16 : decode cX6_cell 16 = .ok (.goto 31, 3) := by decide +kernel
theorem dX6_cell_19 : decode cX6_cell 19 = .ok (.iload_n 2, 1) := by decide +kernel
theorem dX6_cell_20 : decode cX6_cell 20 = .ok (.iconst 1, 1) := by decide +kernel
theorem dX6_cell_21 : decode cX6_cell 21 = .ok (.bipush 10, 2) := by decide +kernel
theorem dX6_cell_23 : decode cX6_cell 23 = .ok (.invokestatic 60, 3) := by decide +kernel
theorem dX6_cell_26 : decode cX6_cell 26 = .ok (.ifCond .ne 7, 3) := by decide +kernel
theorem dX6_cell_29 : decode cX6_cell 29 = .ok (.iconst 2, 1) := by decide +kernel
theorem dX6_cell_30 : decode cX6_cell 30 = .ok (.goto 17, 3) := by decide +kernel
theorem dX6_cell_33 : decode cX6_cell 33 = .ok (.aload_n 0, 1) := by decide +kernel
theorem dX6_cell_34 : decode cX6_cell 34 = .ok (.iload_n 1, 1) := by decide +kernel
theorem dX6_cell_35 : decode cX6_cell 35 = .ok (.invokevirtual 64, 3) := by decide +kernel
theorem dX6_cell_38 : decode cX6_cell 38 = .ok (.iconst (-1), 1) := by decide +kernel
theorem dX6_cell_39 : decode cX6_cell 39 = .ok (.if_icmp .eq 7, 3) := by decide +kernel
theorem dX6_cell_42 : decode cX6_cell 42 = .ok (.iconst 3, 1) := by decide +kernel
theorem dX6_cell_43 : decode cX6_cell 43 = .ok (.goto 4, 3) := by decide +kernel
theorem dX6_cell_46 : decode cX6_cell 46 = .ok (.iconst 0, 1) := by decide +kernel
theorem dX6_cell_47 : decode cX6_cell 47 = .ok (.putfield 54, 3) := by decide +kernel
theorem dX6_cell_50 : decode cX6_cell 50 = .ok (.aload_n 0, 1) := by decide +kernel
theorem dX6_cell_51 : decode cX6_cell 51 = .ok (.getfield 54, 3) := by decide +kernel
theorem dX6_cell_54 : decode cX6_cell 54 = .ok (.ifCond .eq 4, 3) := by decide +kernel
theorem dX6_cell_57 : decode cX6_cell 57 = .ok (.return_, 1) := by decide +kernel
theorem dX6_cell_58 : decode cX6_cell 58 = .ok (.aload_n 0, 1) := by decide +kernel
theorem dX6_cell_59 : decode cX6_cell 59 = .ok (.getfield 7, 3) := by decide +kernel
theorem dX6_cell_62 : decode cX6_cell 62 = .ok (.iload_n 1, 1) := by decide +kernel
theorem dX6_cell_63 : decode cX6_cell 63 = .ok (.iload_n 2, 1) := by decide +kernel
theorem dX6_cell_64 : decode cX6_cell 64 = .ok (.iastore, 1) := by decide +kernel
theorem dX6_cell_65 : decode cX6_cell 65 = .ok (.aload_n 0, 1) := by decide +kernel
theorem dX6_cell_66 : decode cX6_cell 66 = .ok (.getfield 13, 3) := by decide +kernel
theorem dX6_cell_69 : decode cX6_cell 69 = .ok (.iload_n 1, 1) := by decide +kernel
theorem dX6_cell_70 : decode cX6_cell 70 = .ok (.iload_n 3, 1) := by decide +kernel
theorem dX6_cell_71 : decode cX6_cell 71 = .ok (.bastore, 1) := by decide +kernel
theorem dX6_cell_72 : decode cX6_cell 72 = .ok (.return_, 1) := by decide +kernel
theorem dX6_axles_0 : decode cX6_axles 0 = .ok (.aload_n 0, 1) := by decide +kernel
theorem dX6_axles_1 : decode cX6_axles 1 = .ok (.iload_n 1, 1) := by decide +kernel
theorem dX6_axles_2 : decode cX6_axles 2 = .ok (.iconst 0, 1) := by decide +kernel
theorem dX6_axles_3 : decode cX6_axles 3 = .ok (.bipush 100, 2) := by decide +kernel
theorem dX6_axles_5 : decode cX6_axles 5 = .ok (.invokestatic 60, 3) := by decide +kernel
theorem dX6_axles_8 : decode cX6_axles 8 = .ok (.ifCond .eq 45, 3) := by decide +kernel
theorem dX6_axles_11 : decode cX6_axles 11 = .ok (.iload_n 2, 1) := by decide +kernel
theorem dX6_axles_12 : decode cX6_axles 12 = .ok (.iconst 0, 1) := by decide +kernel
theorem dX6_axles_13 : decode cX6_axles 13 = .ok (.bipush 100, 2) := by decide +kernel
theorem dX6_axles_15 : decode cX6_axles 15 = .ok (.invokestatic 60, 3) := by decide +kernel
theorem dX6_axles_18 : decode cX6_axles 18 = .ok (.ifCond .eq 35, 3) := by decide +kernel
theorem dX6_axles_21 : decode cX6_axles 21 = .ok (.iload_n 2, 1) := by decide +kernel
theorem dX6_axles_22 : decode cX6_axles 22 = .ok (.iload_n 1, 1) := by decide +kernel
theorem dX6_axles_23 : decode cX6_axles 23 = .ok (.if_icmp .le 30, 3) := by decide +kernel
theorem dX6_axles_26 : decode cX6_axles 26 = .ok (.iload_n 3, 1) := by decide +kernel
theorem dX6_axles_27 : decode cX6_axles 27 = .ok (.iconst 0, 1) := by decide +kernel
theorem dX6_axles_28 : decode cX6_axles 28 = .ok (.sipush 10000, 3) := by decide +kernel
theorem dX6_axles_31 : decode cX6_axles 31 = .ok (.invokestatic 60, 3) := by decide +kernel
theorem dX6_axles_34 : decode cX6_axles 34 = .ok (.ifCond .eq 19, 3) := by decide +kernel
theorem dX6_axles_37 : decode cX6_axles 37 = .ok (.iload 4, 2) := by decide +kernel
theorem dX6_axles_39 : decode cX6_axles 39 = .ok (.iconst 0, 1) := by decide +kernel
theorem dX6_axles_40 : decode cX6_axles 40 = .ok (.sipush 10000, 3) := by decide +kernel
theorem dX6_axles_43 : decode cX6_axles 43 = .ok (.invokestatic 60, 3) := by decide +kernel
theorem dX6_axles_46 : decode cX6_axles 46 = .ok (.ifCond .eq 7, 3) := by decide +kernel
theorem dX6_axles_49 : decode cX6_axles 49 = .ok (.iconst 0, 1) := by decide +kernel
theorem dX6_axles_50 : decode cX6_axles 50 = .ok (.goto 4, 3) := by decide +kernel
theorem dX6_axles_53 : decode cX6_axles 53 = .ok (.iconst 1, 1) := by decide +kernel
theorem dX6_axles_54 : decode cX6_axles 54 = .ok (.putfield 54, 3) := by decide +kernel
theorem dX6_axles_57 : decode cX6_axles 57 = .ok (.aload_n 0, 1) := by decide +kernel
theorem dX6_axles_58 : decode cX6_axles 58 = .ok (.getfield 54, 3) := by decide +kernel
theorem dX6_axles_61 : decode cX6_axles 61 = .ok (.ifCond .eq 4, 3) := by decide +kernel
theorem dX6_axles_64 : decode cX6_axles 64 = .ok (.return_, 1) := by decide +kernel
theorem dX6_axles_65 : decode cX6_axles 65 = .ok (.aload_n 0, 1) := by decide +kernel
theorem dX6_axles_66 : decode cX6_axles 66 = .ok (.iload_n 1, 1) := by decide +kernel
theorem dX6_axles_67 : decode cX6_axles 67 = .ok (.putfield 68, 3) := by decide +kernel
theorem dX6_axles_70 : decode cX6_axles 70 = .ok (.aload_n 0, 1) := by decide +kernel
theorem dX6_axles_71 : decode cX6_axles 71 = .ok (.iload_n 2, 1) := by decide +kernel
theorem dX6_axles_72 : decode cX6_axles 72 = .ok (.putfield 17, 3) := by decide +kernel
theorem dX6_axles_75 : decode cX6_axles 75 = .ok (.aload_n 0, 1) := by decide +kernel
theorem dX6_axles_76 : decode cX6_axles 76 = .ok (.iload_n 3, 1) := by decide +kernel
theorem dX6_axles_77 : decode cX6_axles 77 = .ok (.putfield 21, 3) := by decide +kernel
theorem dX6_axles_80 : decode cX6_axles 80 = .ok (.aload_n 0, 1) := by decide +kernel
theorem dX6_axles_81 : decode cX6_axles 81 = .ok (.iload 4, 2) := by decide +kernel
theorem dX6_axles_83 : decode cX6_axles 83 = .ok (.putfield 24, 3) := by decide +kernel
theorem dX6_axles_86 : decode cX6_axles 86 = .ok (.return_, 1) := by decide +kernel
theorem dX6_pallet_0 : decode cX6_pallet 0 = .ok (.iload_n 1, 1) := by decide +kernel
theorem dX6_pallet_1 : decode cX6_pallet 1 = .ok (.iconst 1, 1) := by decide +kernel
theorem dX6_pallet_2 : decode cX6_pallet 2 = .ok (.sipush 1000, 3) := by decide +kernel
theorem dX6_pallet_5 : decode cX6_pallet 5 = .ok (.invokestatic 60, 3) := by decide +kernel
theorem dX6_pallet_8 : decode cX6_pallet 8 = .ok (.ifCond .eq 29, 3) := by decide +kernel
theorem dX6_pallet_11 : decode cX6_pallet 11 = .ok (.iload 4, 2) := by decide +kernel
theorem dX6_pallet_13 : decode cX6_pallet 13 = .ok (.iconst 1, 1) := by decide +kernel
theorem dX6_pallet_14 : decode cX6_pallet 14 = .ok (.bipush 9, 2) := by decide +kernel
theorem dX6_pallet_16 : decode cX6_pallet 16 = .ok (.invokestatic 60, 3) := by decide +kernel
theorem dX6_pallet_19 : decode cX6_pallet 19 = .ok (.ifCond .eq 18, 3) := by decide +kernel
theorem dX6_pallet_22 : decode cX6_pallet 22 = .ok (.iload 5, 2) := by decide +kernel
theorem dX6_pallet_24 : decode cX6_pallet 24 = .ok (.iconst 1, 1) := by decide +kernel
theorem dX6_pallet_25 : decode cX6_pallet 25 = .ok (.bipush 10, 2) := by decide +kernel
theorem dX6_pallet_27 : decode cX6_pallet 27 = .ok (.invokestatic 60, 3) := by decide +kernel
theorem dX6_pallet_30 : decode cX6_pallet 30 = .ok (.ifCond .eq 7, 3) := by decide +kernel
theorem dX6_pallet_33 : decode cX6_pallet 33 = .ok (.iconst 1, 1) := by decide +kernel
theorem dX6_pallet_34 : decode cX6_pallet 34 = .ok (.goto 4, 3) := by decide +kernel
theorem dX6_pallet_37 : decode cX6_pallet 37 = .ok (.iconst 0, 1) := by decide +kernel
theorem dX6_pallet_38 : decode cX6_pallet 38 = .ok (.istore 6, 2) := by decide +kernel
theorem dX6_pallet_40 : decode cX6_pallet 40 = .ok (.aload_n 0, 1) := by decide +kernel
theorem dX6_pallet_41 : decode cX6_pallet 41 = .ok (.iload 6, 2) := by decide +kernel
theorem dX6_pallet_43 : decode cX6_pallet 43 = .ok (.ifCond .ne 7, 3) := by decide +kernel
theorem dX6_pallet_46 : decode cX6_pallet 46 = .ok (.iconst 1, 1) := by decide +kernel
theorem dX6_pallet_47 : decode cX6_pallet 47 = .ok (.goto 28, 3) := by decide +kernel
theorem dX6_pallet_50 : decode cX6_pallet 50 = .ok (.aload_n 0, 1) := by decide +kernel
theorem dX6_pallet_51 : decode cX6_pallet 51 = .ok (.getfield 71, 3) := by decide +kernel
theorem dX6_pallet_54 : decode cX6_pallet 54 = .ok (.ifCond .eq 7, 3) := by decide +kernel
theorem dX6_pallet_57 : decode cX6_pallet 57 = .ok (.iconst 2, 1) := by decide +kernel
theorem dX6_pallet_58 : decode cX6_pallet 58 = .ok (.goto 17, 3) := by decide +kernel
theorem dX6_pallet_61 : decode cX6_pallet 61 = .ok (.aload_n 0, 1) := by decide +kernel
theorem dX6_pallet_62 : decode cX6_pallet 62 = .ok (.getfield 57, 3) := by decide +kernel
theorem dX6_pallet_65 : decode cX6_pallet 65 = .ok (.bipush 8, 2) := by decide +kernel
theorem dX6_pallet_67 : decode cX6_pallet 67 = .ok (.if_icmp .ne 7, 3) := by decide +kernel
theorem dX6_pallet_70 : decode cX6_pallet 70 = .ok (.iconst 3, 1) := by decide +kernel
theorem dX6_pallet_71 : decode cX6_pallet 71 = .ok (.goto 4, 3) := by decide +kernel
theorem dX6_pallet_74 : decode cX6_pallet 74 = .ok (.iconst 0, 1) := by decide +kernel
theorem dX6_pallet_75 : decode cX6_pallet 75 = .ok (.putfield 54, 3) := by decide +kernel
theorem dX6_pallet_78 : decode cX6_pallet 78 = .ok (.aload_n 0, 1) := by decide +kernel
theorem dX6_pallet_79 : decode cX6_pallet 79 = .ok (.getfield 54, 3) := by decide +kernel
theorem dX6_pallet_82 : decode cX6_pallet 82 = .ok (.ifCond .eq 5, 3) := by decide +kernel
theorem dX6_pallet_85 : decode cX6_pallet 85 = .ok (.iconst 0, 1) := by decide +kernel
theorem dX6_pallet_86 : decode cX6_pallet 86 = .ok (.ireturn, 1) := by decide +kernel
theorem dX6_pallet_87 : decode cX6_pallet 87 = .ok (.aload_n 0, 1) := by decide +kernel
theorem dX6_pallet_88 : decode cX6_pallet 88 = .ok (.getfield 27, 3) := by decide +kernel
theorem dX6_pallet_91 : decode cX6_pallet 91 = .ok (.aload_n 0, 1) := by decide +kernel
theorem dX6_pallet_92 : decode cX6_pallet 92 = .ok (.getfield 57, 3) := by decide +kernel
theorem dX6_pallet_95 : decode cX6_pallet 95 = .ok (.iload_n 1, 1) := by decide +kernel
theorem dX6_pallet_96 : decode cX6_pallet 96 = .ok (.iastore, 1) := by decide +kernel
theorem dX6_pallet_97 : decode cX6_pallet 97 = .ok (.aload_n 0, 1) := by decide +kernel
theorem dX6_pallet_98 : decode cX6_pallet 98 = .ok (.getfield 30, 3) := by decide +kernel
theorem dX6_pallet_101 : decode cX6_pallet 101 = .ok (.aload_n 0, 1) := by decide +kernel
theorem dX6_pallet_102 : decode cX6_pallet 102 = .ok (.getfield 57, 3) := by decide +kernel
theorem dX6_pallet_105 : decode cX6_pallet 105 = .ok (.iload_n 2, 1) := by decide +kernel
theorem dX6_pallet_106 : decode cX6_pallet 106 = .ok (.bastore, 1) := by decide +kernel
theorem dX6_pallet_107 : decode cX6_pallet 107 = .ok (.aload_n 0, 1) := by decide +kernel
theorem dX6_pallet_108 : decode cX6_pallet 108 = .ok (.getfield 33, 3) := by decide +kernel
theorem dX6_pallet_111 : decode cX6_pallet 111 = .ok (.aload_n 0, 1) := by decide +kernel
theorem dX6_pallet_112 : decode cX6_pallet 112 = .ok (.getfield 57, 3) := by decide +kernel
theorem dX6_pallet_115 : decode cX6_pallet 115 = .ok (.iload_n 3, 1) := by decide +kernel
theorem dX6_pallet_116 : decode cX6_pallet 116 = .ok (.bastore, 1) := by decide +kernel
theorem dX6_pallet_117 : decode cX6_pallet 117 = .ok (.aload_n 0, 1) := by decide +kernel
theorem dX6_pallet_118 : decode cX6_pallet 118 = .ok (.getfield 36, 3) := by decide +kernel
theorem dX6_pallet_121 : decode cX6_pallet 121 = .ok (.aload_n 0, 1) := by decide +kernel
theorem dX6_pallet_122 : decode cX6_pallet 122 = .ok (.getfield 57, 3) := by decide +kernel
theorem dX6_pallet_125 : decode cX6_pallet 125 = .ok (.iload 4, 2) := by decide +kernel
theorem dX6_pallet_127 : decode cX6_pallet 127 = .ok (.iastore, 1) := by decide +kernel
theorem dX6_pallet_128 : decode cX6_pallet 128 = .ok (.aload_n 0, 1) := by decide +kernel
theorem dX6_pallet_129 : decode cX6_pallet 129 = .ok (.getfield 39, 3) := by decide +kernel
theorem dX6_pallet_132 : decode cX6_pallet 132 = .ok (.aload_n 0, 1) := by decide +kernel
theorem dX6_pallet_133 : decode cX6_pallet 133 = .ok (.getfield 57, 3) := by decide +kernel
theorem dX6_pallet_136 : decode cX6_pallet 136 = .ok (.iload 5, 2) := by decide +kernel
theorem dX6_pallet_138 : decode cX6_pallet 138 = .ok (.iastore, 1) := by decide +kernel
theorem dX6_pallet_139 : decode cX6_pallet 139 = .ok (.aload_n 0, 1) := by decide +kernel
theorem dX6_pallet_140 : decode cX6_pallet 140 = .ok (.getfield 42, 3) := by decide +kernel
theorem dX6_pallet_143 : decode cX6_pallet 143 = .ok (.aload_n 0, 1) := by decide +kernel
theorem dX6_pallet_144 : decode cX6_pallet 144 = .ok (.getfield 57, 3) := by decide +kernel
theorem dX6_pallet_147 : decode cX6_pallet 147 = .ok (.iconst (-1), 1) := by decide +kernel
theorem dX6_pallet_148 : decode cX6_pallet 148 = .ok (.iastore, 1) := by decide +kernel
theorem dX6_pallet_149 : decode cX6_pallet 149 = .ok (.aload_n 0, 1) := by decide +kernel
theorem dX6_pallet_150 : decode cX6_pallet 150 = .ok (.dup, 1) := by decide +kernel
theorem dX6_pallet_151 : decode cX6_pallet 151 = .ok (.getfield 57, 3) := by decide +kernel
theorem dX6_pallet_154 : decode cX6_pallet 154 = .ok (.iconst 1, 1) := by decide +kernel
theorem dX6_pallet_155 : decode cX6_pallet 155 = .ok (.iadd, 1) := by decide +kernel
theorem dX6_pallet_156 : decode cX6_pallet 156 = .ok (.putfield 57, 3) := by decide +kernel
theorem dX6_pallet_159 : decode cX6_pallet 159 = .ok (.aload_n 0, 1) := by decide +kernel
theorem dX6_pallet_160 : decode cX6_pallet 160 = .ok (.getfield 57, 3) := by decide +kernel
theorem dX6_pallet_163 : decode cX6_pallet 163 = .ok (.iconst 1, 1) := by decide +kernel
theorem dX6_pallet_164 : decode cX6_pallet 164 = .ok (.isub, 1) := by decide +kernel
theorem dX6_pallet_165 : decode cX6_pallet 165 = .ok (.ireturn, 1) := by decide +kernel
theorem dX6_standsAt_0 : decode cX6_standsAt 0 = .ok (.iconst 0, 1) := by decide +kernel
theorem dX6_standsAt_1 : decode cX6_standsAt 1 = .ok (.istore_n 2, 1) := by decide +kernel
theorem dX6_standsAt_2 : decode cX6_standsAt 2 = .ok (.iload_n 2, 1) := by decide +kernel
theorem dX6_standsAt_3 : decode cX6_standsAt 3 = .ok (.aload_n 0, 1) := by decide +kernel
theorem dX6_standsAt_4 : decode cX6_standsAt 4 = .ok (.getfield 57, 3) := by decide +kernel
theorem dX6_standsAt_7 : decode cX6_standsAt 7 = .ok (.if_icmp .ge 21, 3) := by decide +kernel
theorem dX6_standsAt_10 : decode cX6_standsAt 10 = .ok (.aload_n 0, 1) := by decide +kernel
theorem dX6_standsAt_11 : decode cX6_standsAt 11 = .ok (.getfield 42, 3) := by decide +kernel
theorem dX6_standsAt_14 : decode cX6_standsAt 14 = .ok (.iload_n 2, 1) := by decide +kernel
theorem dX6_standsAt_15 : decode cX6_standsAt 15 = .ok (.iaload, 1) := by decide +kernel
theorem dX6_standsAt_16 : decode cX6_standsAt 16 = .ok (.iload_n 1, 1) := by decide +kernel
theorem dX6_standsAt_17 : decode cX6_standsAt 17 = .ok (.if_icmp .ne 5, 3) := by decide +kernel
theorem dX6_standsAt_20 : decode cX6_standsAt 20 = .ok (.iload_n 2, 1) := by decide +kernel
theorem dX6_standsAt_21 : decode cX6_standsAt 21 = .ok (.ireturn, 1) := by decide +kernel
theorem dX6_standsAt_22 : decode cX6_standsAt 22 = .ok (.iinc 2 1, 3) := by decide +kernel
theorem dX6_standsAt_25 : decode cX6_standsAt 25 = .ok (.goto (-23), 3) := by decide +kernel
theorem dX6_standsAt_28 : decode cX6_standsAt 28 = .ok (.iconst (-1), 1) := by decide +kernel
theorem dX6_standsAt_29 : decode cX6_standsAt 29 = .ok (.ireturn, 1) := by decide +kernel
theorem dX6_load_0 : decode cX6_load 0 = .ok (.iconst 0, 1) := by decide +kernel
theorem dX6_load_1 : decode cX6_load 1 = .ok (.istore_n 2, 1) := by decide +kernel
theorem dX6_load_2 : decode cX6_load 2 = .ok (.iconst 0, 1) := by decide +kernel
theorem dX6_load_3 : decode cX6_load 3 = .ok (.istore_n 3, 1) := by decide +kernel
theorem dX6_load_4 : decode cX6_load 4 = .ok (.iload_n 3, 1) := by decide +kernel
theorem dX6_load_5 : decode cX6_load 5 = .ok (.aload_n 0, 1) := by decide +kernel
theorem dX6_load_6 : decode cX6_load 6 = .ok (.getfield 57, 3) := by decide +kernel
theorem dX6_load_9 : decode cX6_load 9 = .ok (.if_icmp .ge 59, 3) := by decide +kernel
theorem dX6_load_12 : decode cX6_load 12 = .ok (.aload_n 0, 1) := by decide +kernel
theorem dX6_load_13 : decode cX6_load 13 = .ok (.getfield 42, 3) := by decide +kernel
theorem dX6_load_16 : decode cX6_load 16 = .ok (.iload_n 3, 1) := by decide +kernel
theorem dX6_load_17 : decode cX6_load 17 = .ok (.iaload, 1) := by decide +kernel
theorem dX6_load_18 : decode cX6_load 18 = .ok (.iconst (-1), 1) := by decide +kernel
theorem dX6_load_19 : decode cX6_load 19 = .ok (.if_icmp .eq 43, 3) := by decide +kernel
theorem dX6_load_22 : decode cX6_load 22 = .ok (.iload_n 2, 1) := by decide +kernel
theorem dX6_load_23 : decode cX6_load 23 = .ok (.aload_n 0, 1) := by decide +kernel
theorem dX6_load_24 : decode cX6_load 24 = .ok (.getfield 27, 3) := by decide +kernel
theorem dX6_load_27 : decode cX6_load 27 = .ok (.iload_n 3, 1) := by decide +kernel
theorem dX6_load_28 : decode cX6_load 28 = .ok (.iaload, 1) := by decide +kernel
theorem dX6_load_29 : decode cX6_load 29 = .ok (.iload_n 1, 1) := by decide +kernel
theorem dX6_load_30 : decode cX6_load 30 = .ok (.iconst 1, 1) := by decide +kernel
theorem dX6_load_31 : decode cX6_load 31 = .ok (.if_icmp .ne 17, 3) := by decide +kernel
theorem dX6_load_34 : decode cX6_load 34 = .ok (.aload_n 0, 1) := by decide +kernel
theorem dX6_load_35 : decode cX6_load 35 = .ok (.getfield 42, 3) := by decide +kernel
theorem dX6_load_38 : decode cX6_load 38 = .ok (.iload_n 3, 1) := by decide +kernel
theorem dX6_load_39 : decode cX6_load 39 = .ok (.iaload, 1) := by decide +kernel
theorem dX6_load_40 : decode cX6_load 40 = .ok (.aload_n 0, 1) := by decide +kernel
theorem dX6_load_41 : decode cX6_load 41 = .ok (.getfield 68, 3) := by decide +kernel
theorem dX6_load_44 : decode cX6_load 44 = .ok (.isub, 1) := by decide +kernel
theorem dX6_load_45 : decode cX6_load 45 = .ok (.goto 14, 3) := by decide +kernel
theorem dX6_load_48 : decode cX6_load 48 = .ok (.aload_n 0, 1) := by decide +kernel
theorem dX6_load_49 : decode cX6_load 49 = .ok (.getfield 17, 3) := by decide +kernel
theorem dX6_load_52 : decode cX6_load 52 = .ok (.aload_n 0, 1) := by decide +kernel
theorem dX6_load_53 : decode cX6_load 53 = .ok (.getfield 42, 3) := by decide +kernel
theorem dX6_load_56 : decode cX6_load 56 = .ok (.iload_n 3, 1) := by decide +kernel
theorem dX6_load_57 : decode cX6_load 57 = .ok (.iaload, 1) := by decide +kernel
theorem dX6_load_58 : decode cX6_load 58 = .ok (.isub, 1) := by decide +kernel
theorem dX6_load_59 : decode cX6_load 59 = .ok (.imul, 1) := by decide +kernel
theorem dX6_load_60 : decode cX6_load 60 = .ok (.iadd, 1) := by decide +kernel
theorem dX6_load_61 : decode cX6_load 61 = .ok (.istore_n 2, 1) := by decide +kernel
theorem dX6_load_62 : decode cX6_load 62 = .ok (.iinc 3 1, 3) := by decide +kernel
theorem dX6_load_65 : decode cX6_load 65 = .ok (.goto (-61), 3) := by decide +kernel
theorem dX6_load_68 : decode cX6_load 68 = .ok (.iload_n 2, 1) := by decide +kernel
theorem dX6_load_69 : decode cX6_load 69 = .ok (.ireturn, 1) := by decide +kernel
theorem dX6_axlesBear_0 : decode cX6_axlesBear 0 = .ok (.aload_n 0, 1) := by decide +kernel
theorem dX6_axlesBear_1 : decode cX6_axlesBear 1 = .ok (.iconst 0, 1) := by decide +kernel
theorem dX6_axlesBear_2 : decode cX6_axlesBear 2 = .ok (.invokevirtual 75, 3) := by decide +kernel
theorem dX6_axlesBear_5 : decode cX6_axlesBear 5 = .ok (.aload_n 0, 1) := by decide +kernel
theorem dX6_axlesBear_6 : decode cX6_axlesBear 6 = .ok (.getfield 21, 3) := by decide +kernel
theorem dX6_axlesBear_9 : decode cX6_axlesBear 9 = .ok (.aload_n 0, 1) := by decide +kernel
theorem dX6_axlesBear_10 : decode cX6_axlesBear 10 = .ok (.getfield 17, 3) := by decide +kernel
theorem dX6_axlesBear_13 : decode cX6_axlesBear 13 = .ok (.aload_n 0, 1) := by decide +kernel
theorem dX6_axlesBear_14 : decode cX6_axlesBear 14 = .ok (.getfield 68, 3) := by decide +kernel
theorem dX6_axlesBear_17 : decode cX6_axlesBear 17 = .ok (.isub, 1) := by decide +kernel
theorem dX6_axlesBear_18 : decode cX6_axlesBear 18 = .ok (.imul, 1) := by decide +kernel
theorem dX6_axlesBear_19 : decode cX6_axlesBear 19 = .ok (.if_icmp .gt 29, 3) := by decide +kernel
theorem dX6_axlesBear_22 : decode cX6_axlesBear 22 = .ok (.aload_n 0, 1) := by decide +kernel
theorem dX6_axlesBear_23 : decode cX6_axlesBear 23 = .ok (.iconst 1, 1) := by decide +kernel
theorem dX6_axlesBear_24 : decode cX6_axlesBear 24 = .ok (.invokevirtual 75, 3) := by decide +kernel
theorem dX6_axlesBear_27 : decode cX6_axlesBear 27 = .ok (.aload_n 0, 1) := by decide +kernel
theorem dX6_axlesBear_28 : decode cX6_axlesBear 28 = .ok (.getfield 24, 3) := by decide +kernel
theorem dX6_axlesBear_31 : decode cX6_axlesBear 31 = .ok (.aload_n 0, 1) := by decide +kernel
theorem dX6_axlesBear_32 : decode cX6_axlesBear 32 = .ok (.getfield 17, 3) := by decide +kernel
theorem dX6_axlesBear_35 : decode cX6_axlesBear 35 = .ok (.aload_n 0, 1) := by decide +kernel
theorem dX6_axlesBear_36 : decode cX6_axlesBear 36 = .ok (.getfield 68, 3) := by decide +kernel
theorem dX6_axlesBear_39 : decode cX6_axlesBear 39 = .ok (.isub, 1) := by decide +kernel
theorem dX6_axlesBear_40 : decode cX6_axlesBear 40 = .ok (.imul, 1) := by decide +kernel
theorem dX6_axlesBear_41 : decode cX6_axlesBear 41 = .ok (.if_icmp .gt 7, 3) := by decide +kernel
theorem dX6_axlesBear_44 : decode cX6_axlesBear 44 = .ok (.iconst 1, 1) := by decide +kernel
theorem dX6_axlesBear_45 : decode cX6_axlesBear 45 = .ok (.goto 4, 3) := by decide +kernel
theorem dX6_axlesBear_48 : decode cX6_axlesBear 48 = .ok (.iconst 0, 1) := by decide +kernel
theorem dX6_axlesBear_49 : decode cX6_axlesBear 49 = .ok (.ireturn, 1) := by decide +kernel
theorem dX6_keepsOff_0 : decode cX6_keepsOff 0 = .ok (.iload_n 1, 1) := by decide +kernel
theorem dX6_keepsOff_1 : decode cX6_keepsOff 1 = .ok (.iconst 2, 1) := by decide +kernel
theorem dX6_keepsOff_2 : decode cX6_keepsOff 2 = .ok (.if_icmp .ne 24, 3) := by decide +kernel
theorem dX6_keepsOff_5 : decode cX6_keepsOff 5 = .ok (.aload_n 0, 1) := by decide +kernel
theorem dX6_keepsOff_6 : decode cX6_keepsOff 6 = .ok (.getfield 7, 3) := by decide +kernel
theorem dX6_keepsOff_9 : decode cX6_keepsOff 9 = .ok (.iload_n 3, 1) := by decide +kernel
theorem dX6_keepsOff_10 : decode cX6_keepsOff 10 = .ok (.iaload, 1) := by decide +kernel
theorem dX6_keepsOff_11 : decode cX6_keepsOff 11 = .ok (.aload_n 0, 1) := by decide +kernel
theorem dX6_keepsOff_12 : decode cX6_keepsOff 12 = .ok (.getfield 39, 3) := by decide +kernel
theorem dX6_keepsOff_15 : decode cX6_keepsOff 15 = .ok (.iload_n 2, 1) := by decide +kernel
theorem dX6_keepsOff_16 : decode cX6_keepsOff 16 = .ok (.iaload, 1) := by decide +kernel
theorem dX6_keepsOff_17 : decode cX6_keepsOff 17 = .ok (.if_icmp .ge 7, 3) := by decide +kernel
theorem dX6_keepsOff_20 : decode cX6_keepsOff 20 = .ok (.iconst 1, 1) := by decide +kernel
theorem dX6_keepsOff_21 : decode cX6_keepsOff 21 = .ok (.goto 4, 3) := by decide +kernel
theorem dX6_keepsOff_24 : decode cX6_keepsOff 24 = .ok (.iconst 0, 1) := by decide +kernel
theorem dX6_keepsOff_25 : decode cX6_keepsOff 25 = .ok (.ireturn, 1) := by decide +kernel
theorem dX6_keepsOff_26 : decode cX6_keepsOff 26 = .ok (.iload_n 1, 1) := by decide +kernel
theorem dX6_keepsOff_27 : decode cX6_keepsOff 27 = .ok (.iconst 3, 1) := by decide +kernel
theorem dX6_keepsOff_28 : decode cX6_keepsOff 28 = .ok (.if_icmp .ne 27, 3) := by decide +kernel
theorem dX6_keepsOff_31 : decode cX6_keepsOff 31 = .ok (.aload_n 0, 1) := by decide +kernel
theorem dX6_keepsOff_32 : decode cX6_keepsOff 32 = .ok (.getfield 30, 3) := by decide +kernel
theorem dX6_keepsOff_35 : decode cX6_keepsOff 35 = .ok (.iload_n 2, 1) := by decide +kernel
theorem dX6_keepsOff_36 : decode cX6_keepsOff 36 = .ok (.baload, 1) := by decide +kernel
theorem dX6_keepsOff_37 : decode cX6_keepsOff 37 = .ok (.ifCond .eq 16, 3) := by decide +kernel
theorem dX6_keepsOff_40 : decode cX6_keepsOff 40 = .ok (.aload_n 0, 1) := by decide +kernel
theorem dX6_keepsOff_41 : decode cX6_keepsOff 41 = .ok (.getfield 13, 3) := by decide +kernel
theorem dX6_keepsOff_44 : decode cX6_keepsOff 44 = .ok (.iload_n 3, 1) := by decide +kernel
theorem dX6_keepsOff_45 : decode cX6_keepsOff 45 = .ok (.baload, 1) := by decide +kernel
theorem dX6_keepsOff_46 : decode cX6_keepsOff 46 = .ok (.ifCond .ne 7, 3) := by decide +kernel
theorem dX6_keepsOff_49 : decode cX6_keepsOff 49 = .ok (.iconst 1, 1) := by decide +kernel
theorem dX6_keepsOff_50 : decode cX6_keepsOff 50 = .ok (.goto 4, 3) := by decide +kernel
theorem dX6_keepsOff_53 : decode cX6_keepsOff 53 = .ok (.iconst 0, 1) := by decide +kernel
theorem dX6_keepsOff_54 : decode cX6_keepsOff 54 = .ok (.ireturn, 1) := by decide +kernel
theorem dX6_keepsOff_55 : decode cX6_keepsOff 55 = .ok (.iconst 0, 1) := by decide +kernel
theorem dX6_keepsOff_56 : decode cX6_keepsOff 56 = .ok (.istore 4, 2) := by decide +kernel
theorem dX6_keepsOff_58 : decode cX6_keepsOff 58 = .ok (.iload 4, 2) := by decide +kernel
theorem dX6_keepsOff_60 : decode cX6_keepsOff 60 = .ok (.aload_n 0, 1) := by decide +kernel
theorem dX6_keepsOff_61 : decode cX6_keepsOff 61 = .ok (.getfield 57, 3) := by decide +kernel
theorem dX6_keepsOff_64 : decode cX6_keepsOff 64 = .ok (.if_icmp .ge 140, 3) := by decide +kernel
theorem dX6_keepsOff_67 : decode cX6_keepsOff 67 = .ok (.iload 4, 2) := by decide +kernel
theorem dX6_keepsOff_69 : decode cX6_keepsOff 69 = .ok (.iload_n 2, 1) := by decide +kernel
theorem dX6_keepsOff_70 : decode cX6_keepsOff 70 = .ok (.if_icmp .ne 7, 3) := by decide +kernel
theorem dX6_keepsOff_73 : decode cX6_keepsOff 73 = .ok (.iconst (-1), 1) := by decide +kernel
theorem dX6_keepsOff_74 : decode cX6_keepsOff 74 = .ok (.goto 10, 3) := by decide +kernel
theorem dX6_keepsOff_77 : decode cX6_keepsOff 77 = .ok (.aload_n 0, 1) := by decide +kernel
theorem dX6_keepsOff_78 : decode cX6_keepsOff 78 = .ok (.getfield 42, 3) := by decide +kernel
theorem dX6_keepsOff_81 : decode cX6_keepsOff 81 = .ok (.iload 4, 2) := by decide +kernel
theorem dX6_keepsOff_83 : decode cX6_keepsOff 83 = .ok (.iaload, 1) := by decide +kernel
theorem dX6_keepsOff_84 : decode cX6_keepsOff 84 = .ok (.istore 5, 2) := by decide +kernel
theorem dX6_keepsOff_86 : decode cX6_keepsOff 86 = .ok (.iload 5, 2) := by decide +kernel
theorem dX6_keepsOff_88 : decode cX6_keepsOff 88 = .ok (.iconst (-1), 1) := by decide +kernel
theorem dX6_keepsOff_89 : decode cX6_keepsOff 89 = .ok (.if_icmp .eq 109, 3) := by decide +kernel
theorem dX6_keepsOff_92 : decode cX6_keepsOff 92 = .ok (.iload_n 1, 1) := by decide +kernel
theorem dX6_keepsOff_93 : decode cX6_keepsOff 93 = .ok (.iconst 1, 1) := by decide +kernel
theorem dX6_keepsOff_94 : decode cX6_keepsOff 94 = .ok (.if_icmp .ne 11, 3) := by decide +kernel
theorem dX6_keepsOff_97 : decode cX6_keepsOff 97 = .ok (.iload 5, 2) := by decide +kernel
theorem dX6_keepsOff_99 : decode cX6_keepsOff 99 = .ok (.iload_n 3, 1) := by decide +kernel
theorem dX6_keepsOff_100 : decode cX6_keepsOff 100 = .ok (.if_icmp .ne 5, 3) := by decide +kernel
theorem dX6_keepsOff_103 : decode cX6_keepsOff 103 = .ok (.iconst 1, 1) := by decide +kernel
theorem dX6_keepsOff_104 : decode cX6_keepsOff 104 = .ok (.ireturn, 1) := by decide +kernel
theorem dX6_keepsOff_105 : decode cX6_keepsOff 105 = .ok (.iload_n 1, 1) := by decide +kernel
theorem dX6_keepsOff_106 : decode cX6_keepsOff 106 = .ok (.iconst 4, 1) := by decide +kernel
theorem dX6_keepsOff_107 : decode cX6_keepsOff 107 = .ok (.if_icmp .ne 40, 3) := by decide +kernel
theorem dX6_keepsOff_110 : decode cX6_keepsOff 110 = .ok (.aload_n 0, 1) := by decide +kernel
theorem dX6_keepsOff_111 : decode cX6_keepsOff 111 = .ok (.getfield 33, 3) := by decide +kernel
theorem dX6_keepsOff_114 : decode cX6_keepsOff 114 = .ok (.iload_n 2, 1) := by decide +kernel
theorem dX6_keepsOff_115 : decode cX6_keepsOff 115 = .ok (.baload, 1) := by decide +kernel
theorem dX6_keepsOff_116 : decode cX6_keepsOff 116 = .ok (.ifCond .eq 31, 3) := by decide +kernel
theorem dX6_keepsOff_119 : decode cX6_keepsOff 119 = .ok (.aload_n 0, 1) := by decide +kernel
theorem dX6_keepsOff_120 : decode cX6_keepsOff 120 = .ok (.getfield 33, 3) := by decide +kernel
theorem dX6_keepsOff_123 : decode cX6_keepsOff 123 = .ok (.iload 4, 2) := by decide +kernel
theorem dX6_keepsOff_125 : decode cX6_keepsOff 125 = .ok (.baload, 1) := by decide +kernel
theorem dX6_keepsOff_126 : decode cX6_keepsOff 126 = .ok (.ifCond .eq 21, 3) := by decide +kernel
theorem dX6_keepsOff_129 : decode cX6_keepsOff 129 = .ok (.iload 5, 2) := by decide +kernel
theorem dX6_keepsOff_131 : decode cX6_keepsOff 131 = .ok (.iload_n 3, 1) := by decide +kernel
theorem dX6_keepsOff_132 : decode cX6_keepsOff 132 = .ok (.iconst 1, 1) := by decide +kernel
theorem dX6_keepsOff_133 : decode cX6_keepsOff 133 = .ok (.iadd, 1) := by decide +kernel
theorem dX6_keepsOff_134 : decode cX6_keepsOff 134 = .ok (.if_icmp .eq 11, 3) := by decide +kernel
theorem dX6_keepsOff_137 : decode cX6_keepsOff 137 = .ok (.iload 5, 2) := by decide +kernel
theorem dX6_keepsOff_139 : decode cX6_keepsOff 139 = .ok (.iload_n 3, 1) := by decide +kernel
theorem dX6_keepsOff_140 : decode cX6_keepsOff 140 = .ok (.iconst 1, 1) := by decide +kernel
theorem dX6_keepsOff_141 : decode cX6_keepsOff 141 = .ok (.isub, 1) := by decide +kernel
theorem dX6_keepsOff_142 : decode cX6_keepsOff 142 = .ok (.if_icmp .ne 5, 3) := by decide +kernel
theorem dX6_keepsOff_145 : decode cX6_keepsOff 145 = .ok (.iconst 1, 1) := by decide +kernel
theorem dX6_keepsOff_146 : decode cX6_keepsOff 146 = .ok (.ireturn, 1) := by decide +kernel
theorem dX6_keepsOff_147 : decode cX6_keepsOff 147 = .ok (.iload_n 1, 1) := by decide +kernel
theorem dX6_keepsOff_148 : decode cX6_keepsOff 148 = .ok (.iconst 5, 1) := by decide +kernel
theorem dX6_keepsOff_149 : decode cX6_keepsOff 149 = .ok (.if_icmp .ne 49, 3) := by decide +kernel
theorem dX6_keepsOff_152 : decode cX6_keepsOff 152 = .ok (.aload_n 0, 1) := by decide +kernel
theorem dX6_keepsOff_153 : decode cX6_keepsOff 153 = .ok (.getfield 36, 3) := by decide +kernel
theorem dX6_keepsOff_156 : decode cX6_keepsOff 156 = .ok (.iload_n 2, 1) := by decide +kernel
theorem dX6_keepsOff_157 : decode cX6_keepsOff 157 = .ok (.iaload, 1) := by decide +kernel
theorem dX6_keepsOff_158 : decode cX6_keepsOff 158 = .ok (.aload_n 0, 1) := by decide +kernel
theorem dX6_keepsOff_159 : decode cX6_keepsOff 159 = .ok (.getfield 36, 3) := by decide +kernel
theorem dX6_keepsOff_162 : decode cX6_keepsOff 162 = .ok (.iload 4, 2) := by decide +kernel
theorem dX6_keepsOff_164 : decode cX6_keepsOff 164 = .ok (.iaload, 1) := by decide +kernel
theorem dX6_keepsOff_165 : decode cX6_keepsOff 165 = .ok (.if_icmp .ge 9, 3) := by decide +kernel
theorem dX6_keepsOff_168 : decode cX6_keepsOff 168 = .ok (.iload_n 3, 1) := by decide +kernel
theorem dX6_keepsOff_169 : decode cX6_keepsOff 169 = .ok (.iload 5, 2) := by decide +kernel
theorem dX6_keepsOff_171 : decode cX6_keepsOff 171 = .ok (.if_icmp .lt 25, 3) := by decide +kernel
theorem dX6_keepsOff_174 : decode cX6_keepsOff 174 = .ok (.aload_n 0, 1) := by decide +kernel
theorem dX6_keepsOff_175 : decode cX6_keepsOff 175 = .ok (.getfield 36, 3) := by decide +kernel
theorem dX6_keepsOff_178 : decode cX6_keepsOff 178 = .ok (.iload_n 2, 1) := by decide +kernel
theorem dX6_keepsOff_179 : decode cX6_keepsOff 179 = .ok (.iaload, 1) := by decide +kernel
theorem dX6_keepsOff_180 : decode cX6_keepsOff 180 = .ok (.aload_n 0, 1) := by decide +kernel
theorem dX6_keepsOff_181 : decode cX6_keepsOff 181 = .ok (.getfield 36, 3) := by decide +kernel
theorem dX6_keepsOff_184 : decode cX6_keepsOff 184 = .ok (.iload 4, 2) := by decide +kernel
theorem dX6_keepsOff_186 : decode cX6_keepsOff 186 = .ok (.iaload, 1) := by decide +kernel
theorem dX6_keepsOff_187 : decode cX6_keepsOff 187 = .ok (.if_icmp .le 11, 3) := by decide +kernel
theorem dX6_keepsOff_190 : decode cX6_keepsOff 190 = .ok (.iload_n 3, 1) := by decide +kernel
theorem dX6_keepsOff_191 : decode cX6_keepsOff 191 = .ok (.iload 5, 2) := by decide +kernel
theorem dX6_keepsOff_193 : decode cX6_keepsOff 193 = .ok (.if_icmp .le 5, 3) := by decide +kernel
theorem dX6_keepsOff_196 : decode cX6_keepsOff 196 = .ok (.iconst 1, 1) := by decide +kernel
theorem dX6_keepsOff_197 : decode cX6_keepsOff 197 = .ok (.ireturn, 1) := by decide +kernel
theorem dX6_keepsOff_198 : decode cX6_keepsOff 198 = .ok (.iinc 4 1, 3) := by decide +kernel
theorem dX6_keepsOff_201 : decode cX6_keepsOff 201 = .ok (.goto (-143), 3) := by decide +kernel
theorem dX6_keepsOff_204 : decode cX6_keepsOff 204 = .ok (.iconst 0, 1) := by decide +kernel
theorem dX6_keepsOff_205 : decode cX6_keepsOff 205 = .ok (.ireturn, 1) := by decide +kernel
theorem dX6_bars_0 : decode cX6_bars 0 = .ok (.iconst 1, 1) := by decide +kernel
theorem dX6_bars_1 : decode cX6_bars 1 = .ok (.istore_n 3, 1) := by decide +kernel
theorem dX6_bars_2 : decode cX6_bars 2 = .ok (.iload_n 3, 1) := by decide +kernel
theorem dX6_bars_3 : decode cX6_bars 3 = .ok (.iconst 5, 1) := by decide +kernel
theorem dX6_bars_4 : decode cX6_bars 4 = .ok (.if_icmp .gt 21, 3) := by decide +kernel
theorem dX6_bars_7 : decode cX6_bars 7 = .ok (.aload_n 0, 1) := by decide +kernel
theorem dX6_bars_8 : decode cX6_bars 8 = .ok (.iload_n 3, 1) := by decide +kernel
theorem dX6_bars_9 : decode cX6_bars 9 = .ok (.iload_n 1, 1) := by decide +kernel
theorem dX6_bars_10 : decode cX6_bars 10 = .ok (.iload_n 2, 1) := by decide +kernel
theorem dX6_bars_11 : decode cX6_bars 11 = .ok (.invokevirtual 78, 3) := by decide +kernel
theorem dX6_bars_14 : decode cX6_bars 14 = .ok (.ifCond .eq 5, 3) := by decide +kernel
theorem dX6_bars_17 : decode cX6_bars 17 = .ok (.iload_n 3, 1) := by decide +kernel
theorem dX6_bars_18 : decode cX6_bars 18 = .ok (.ireturn, 1) := by decide +kernel
theorem dX6_bars_19 : decode cX6_bars 19 = .ok (.iinc 3 1, 3) := by decide +kernel
theorem dX6_bars_22 : decode cX6_bars 22 = .ok (.goto (-20), 3) := by decide +kernel
theorem dX6_bars_25 : decode cX6_bars 25 = .ok (.aload_n 0, 1) := by decide +kernel
theorem dX6_bars_26 : decode cX6_bars 26 = .ok (.iload_n 1, 1) := by decide +kernel
theorem dX6_bars_27 : decode cX6_bars 27 = .ok (.iload_n 2, 1) := by decide +kernel
theorem dX6_bars_28 : decode cX6_bars 28 = .ok (.invokevirtual 81, 3) := by decide +kernel
theorem dX6_bars_31 : decode cX6_bars 31 = .ok (.ifCond .eq 7, 3) := by decide +kernel
theorem dX6_bars_34 : decode cX6_bars 34 = .ok (.iconst 0, 1) := by decide +kernel
theorem dX6_bars_35 : decode cX6_bars 35 = .ok (.goto 5, 3) := by decide +kernel
theorem dX6_bars_38 : decode cX6_bars 38 = .ok (.bipush 6, 2) := by decide +kernel
theorem dX6_bars_40 : decode cX6_bars 40 = .ok (.ireturn, 1) := by decide +kernel
theorem dX6_axlesBearAt_0 : decode cX6_axlesBearAt 0 = .ok (.aload_n 0, 1) := by decide +kernel
theorem dX6_axlesBearAt_1 : decode cX6_axlesBearAt 1 = .ok (.getfield 42, 3) := by decide +kernel
theorem dX6_axlesBearAt_4 : decode cX6_axlesBearAt 4 = .ok (.iload_n 1, 1) := by decide +kernel
theorem dX6_axlesBearAt_5 : decode cX6_axlesBearAt 5 = .ok (.iaload, 1) := by decide +kernel
theorem dX6_axlesBearAt_6 : decode cX6_axlesBearAt 6 = .ok (.istore_n 3, 1) := by decide +kernel
theorem dX6_axlesBearAt_7 : decode cX6_axlesBearAt 7 = .ok (.aload_n 0, 1) := by decide +kernel
theorem dX6_axlesBearAt_8 : decode cX6_axlesBearAt 8 = .ok (.getfield 42, 3) := by decide +kernel
theorem dX6_axlesBearAt_11 : decode cX6_axlesBearAt 11 = .ok (.iload_n 1, 1) := by decide +kernel
theorem dX6_axlesBearAt_12 : decode cX6_axlesBearAt 12 = .ok (.iload_n 2, 1) := by decide +kernel
theorem dX6_axlesBearAt_13 : decode cX6_axlesBearAt 13 = .ok (.iastore, 1) := by decide +kernel
theorem dX6_axlesBearAt_14 : decode cX6_axlesBearAt 14 = .ok (.aload_n 0, 1) := by decide +kernel
theorem dX6_axlesBearAt_15 : decode cX6_axlesBearAt 15 = .ok (.invokevirtual 85, 3) := by decide +kernel
theorem dX6_axlesBearAt_18 : decode cX6_axlesBearAt 18 = .ok (.istore 4, 2) := by decide +kernel
theorem dX6_axlesBearAt_20 : decode cX6_axlesBearAt 20 = .ok (.aload_n 0, 1) := by decide +kernel
theorem dX6_axlesBearAt_21 : decode cX6_axlesBearAt 21 = .ok (.getfield 42, 3) := by decide +kernel
theorem dX6_axlesBearAt_24 : decode cX6_axlesBearAt 24 = .ok (.iload_n 1, 1) := by decide +kernel
theorem dX6_axlesBearAt_25 : decode cX6_axlesBearAt 25 = .ok (.iload_n 3, 1) := by decide +kernel
theorem dX6_axlesBearAt_26 : decode cX6_axlesBearAt 26 = .ok (.iastore, 1) := by decide +kernel
theorem dX6_axlesBearAt_27 : decode cX6_axlesBearAt 27 = .ok (.iload 4, 2) := by decide +kernel
theorem dX6_axlesBearAt_29 : decode cX6_axlesBearAt 29 = .ok (.ireturn, 1) := by decide +kernel
theorem dX6_standing_0 : decode cX6_standing 0 = .ok (.iconst 0, 1) := by decide +kernel
theorem dX6_standing_1 : decode cX6_standing 1 = .ok (.istore_n 1, 1) := by decide +kernel
theorem dX6_standing_2 : decode cX6_standing 2 = .ok (.iconst 0, 1) := by decide +kernel
theorem dX6_standing_3 : decode cX6_standing 3 = .ok (.istore_n 2, 1) := by decide +kernel
theorem dX6_standing_4 : decode cX6_standing 4 = .ok (.iload_n 2, 1) := by decide +kernel
theorem dX6_standing_5 : decode cX6_standing 5 = .ok (.aload_n 0, 1) := by decide +kernel
theorem dX6_standing_6 : decode cX6_standing 6 = .ok (.getfield 57, 3) := by decide +kernel
theorem dX6_standing_9 : decode cX6_standing 9 = .ok (.if_icmp .ge 22, 3) := by decide +kernel
theorem dX6_standing_12 : decode cX6_standing 12 = .ok (.aload_n 0, 1) := by decide +kernel
theorem dX6_standing_13 : decode cX6_standing 13 = .ok (.getfield 42, 3) := by decide +kernel
theorem dX6_standing_16 : decode cX6_standing 16 = .ok (.iload_n 2, 1) := by decide +kernel
theorem dX6_standing_17 : decode cX6_standing 17 = .ok (.iaload, 1) := by decide +kernel
theorem dX6_standing_18 : decode cX6_standing 18 = .ok (.iconst (-1), 1) := by decide +kernel
theorem dX6_standing_19 : decode cX6_standing 19 = .ok (.if_icmp .eq 6, 3) := by decide +kernel
theorem dX6_standing_22 : decode cX6_standing 22 = .ok (.iinc 1 1, 3) := by decide +kernel
theorem dX6_standing_25 : decode cX6_standing 25 = .ok (.iinc 2 1, 3) := by decide +kernel
theorem dX6_standing_28 : decode cX6_standing 28 = .ok (.goto (-24), 3) := by decide +kernel
theorem dX6_standing_31 : decode cX6_standing 31 = .ok (.iload_n 1, 1) := by decide +kernel
theorem dX6_standing_32 : decode cX6_standing 32 = .ok (.ireturn, 1) := by decide +kernel
theorem dX6_standingWeight_0 : decode cX6_standingWeight 0 = .ok (.iconst 0, 1) := by decide +kernel
theorem dX6_standingWeight_1 : decode cX6_standingWeight 1 = .ok (.istore_n 1, 1) := by decide +kernel
theorem dX6_standingWeight_2 : decode cX6_standingWeight 2 = .ok (.iconst 0, 1) := by decide +kernel
theorem dX6_standingWeight_3 : decode cX6_standingWeight 3 = .ok (.istore_n 2, 1) := by decide +kernel
theorem dX6_standingWeight_4 : decode cX6_standingWeight 4 = .ok (.iload_n 2, 1) := by decide +kernel
theorem dX6_standingWeight_5 : decode cX6_standingWeight 5 = .ok (.aload_n 0, 1) := by decide +kernel
theorem dX6_standingWeight_6 : decode cX6_standingWeight 6 = .ok (.getfield 57, 3) := by decide +kernel
theorem dX6_standingWeight_9 : decode cX6_standingWeight 9 = .ok (.if_icmp .ge 28, 3) := by decide +kernel
theorem dX6_standingWeight_12 : decode cX6_standingWeight 12 = .ok (.aload_n 0, 1) := by decide +kernel
theorem dX6_standingWeight_13 : decode cX6_standingWeight 13 = .ok (.getfield 42, 3) := by decide +kernel
theorem dX6_standingWeight_16 : decode cX6_standingWeight 16 = .ok (.iload_n 2, 1) := by decide +kernel
theorem dX6_standingWeight_17 : decode cX6_standingWeight 17 = .ok (.iaload, 1) := by decide +kernel
theorem dX6_standingWeight_18 : decode cX6_standingWeight 18 = .ok (.iconst (-1), 1) := by decide +kernel
theorem dX6_standingWeight_19 : decode cX6_standingWeight 19 = .ok (.if_icmp .eq 12, 3) := by decide +kernel
theorem dX6_standingWeight_22 : decode cX6_standingWeight 22 = .ok (.iload_n 1, 1) := by decide +kernel
theorem dX6_standingWeight_23 : decode cX6_standingWeight 23 = .ok (.aload_n 0, 1) := by decide +kernel
theorem dX6_standingWeight_24 : decode cX6_standingWeight 24 = .ok (.getfield 27, 3) := by decide +kernel
theorem dX6_standingWeight_27 : decode cX6_standingWeight 27 = .ok (.iload_n 2, 1) := by decide +kernel
theorem dX6_standingWeight_28 : decode cX6_standingWeight 28 = .ok (.iaload, 1) := by decide +kernel
theorem dX6_standingWeight_29 : decode cX6_standingWeight 29 = .ok (.iadd, 1) := by decide +kernel
theorem dX6_standingWeight_30 : decode cX6_standingWeight 30 = .ok (.istore_n 1, 1) := by decide +kernel
theorem dX6_standingWeight_31 : decode cX6_standingWeight 31 = .ok (.iinc 2 1, 3) := by decide +kernel
theorem dX6_standingWeight_34 : decode cX6_standingWeight 34 = .ok (.goto (-30), 3) := by decide +kernel
theorem dX6_standingWeight_37 : decode cX6_standingWeight 37 = .ok (.iload_n 1, 1) := by decide +kernel
theorem dX6_standingWeight_38 : decode cX6_standingWeight 38 = .ok (.ireturn, 1) := by decide +kernel
theorem dX6_fits_0 : decode cX6_fits 0 = .ok (.aload_n 0, 1) := by decide +kernel
theorem dX6_fits_1 : decode cX6_fits 1 = .ok (.getfield 42, 3) := by decide +kernel
theorem dX6_fits_4 : decode cX6_fits 4 = .ok (.iload_n 1, 1) := by decide +kernel
theorem dX6_fits_5 : decode cX6_fits 5 = .ok (.iaload, 1) := by decide +kernel
theorem dX6_fits_6 : decode cX6_fits 6 = .ok (.istore_n 2, 1) := by decide +kernel
theorem dX6_fits_7 : decode cX6_fits 7 = .ok (.iload_n 2, 1) := by decide +kernel
theorem dX6_fits_8 : decode cX6_fits 8 = .ok (.iconst (-1), 1) := by decide +kernel
theorem dX6_fits_9 : decode cX6_fits 9 = .ok (.if_icmp .ne 5, 3) := by decide +kernel
theorem dX6_fits_12 : decode cX6_fits 12 = .ok (.iconst 1, 1) := by decide +kernel
theorem dX6_fits_13 : decode cX6_fits 13 = .ok (.ireturn, 1) := by decide +kernel
theorem dX6_fits_14 : decode cX6_fits 14 = .ok (.iload_n 1, 1) := by decide +kernel
theorem dX6_fits_15 : decode cX6_fits 15 = .ok (.iconst 1, 1) := by decide +kernel
theorem dX6_fits_16 : decode cX6_fits 16 = .ok (.iadd, 1) := by decide +kernel
theorem dX6_fits_17 : decode cX6_fits 17 = .ok (.istore_n 3, 1) := by decide +kernel
theorem dX6_fits_18 : decode cX6_fits 18 = .ok (.iload_n 3, 1) := by decide +kernel
theorem dX6_fits_19 : decode cX6_fits 19 = .ok (.aload_n 0, 1) := by decide +kernel
theorem dX6_fits_20 : decode cX6_fits 20 = .ok (.getfield 57, 3) := by decide +kernel
theorem dX6_fits_23 : decode cX6_fits 23 = .ok (.if_icmp .ge 16, 3) := by decide +kernel
theorem dX6_fits_26 : decode cX6_fits 26 = .ok (.aload_n 0, 1) := by decide +kernel
theorem dX6_fits_27 : decode cX6_fits 27 = .ok (.getfield 42, 3) := by decide +kernel
theorem dX6_fits_30 : decode cX6_fits 30 = .ok (.iload_n 3, 1) := by decide +kernel
theorem dX6_fits_31 : decode cX6_fits 31 = .ok (.iconst (-1), 1) := by decide +kernel
theorem dX6_fits_32 : decode cX6_fits 32 = .ok (.iastore, 1) := by decide +kernel
theorem dX6_fits_33 : decode cX6_fits 33 = .ok (.iinc 3 1, 3) := by decide +kernel
theorem dX6_fits_36 : decode cX6_fits 36 = .ok (.goto (-18), 3) := by decide +kernel
theorem dX6_fits_39 : decode cX6_fits 39 = .ok (.iconst 1, 1) := by decide +kernel
theorem dX6_fits_40 : decode cX6_fits 40 = .ok (.istore_n 3, 1) := by decide +kernel
theorem dX6_fits_41 : decode cX6_fits 41 = .ok (.iload_n 3, 1) := by decide +kernel
theorem dX6_fits_42 : decode cX6_fits 42 = .ok (.iconst 5, 1) := by decide +kernel
theorem dX6_fits_43 : decode cX6_fits 43 = .ok (.if_icmp .gt 21, 3) := by decide +kernel
theorem dX6_fits_46 : decode cX6_fits 46 = .ok (.aload_n 0, 1) := by decide +kernel
theorem dX6_fits_47 : decode cX6_fits 47 = .ok (.iload_n 3, 1) := by decide +kernel
theorem dX6_fits_48 : decode cX6_fits 48 = .ok (.iload_n 1, 1) := by decide +kernel
theorem dX6_fits_49 : decode cX6_fits 49 = .ok (.iload_n 2, 1) := by decide +kernel
theorem dX6_fits_50 : decode cX6_fits 50 = .ok (.invokevirtual 78, 3) := by decide +kernel
theorem dX6_fits_53 : decode cX6_fits 53 = .ok (.ifCond .eq 5, 3) := by decide +kernel
theorem dX6_fits_56 : decode cX6_fits 56 = .ok (.iconst 0, 1) := by decide +kernel
theorem dX6_fits_57 : decode cX6_fits 57 = .ok (.ireturn, 1) := by decide +kernel
theorem dX6_fits_58 : decode cX6_fits 58 = .ok (.iinc 3 1, 3) := by decide +kernel
theorem dX6_fits_61 : decode cX6_fits 61 = .ok (.goto (-20), 3) := by decide +kernel
theorem dX6_fits_64 : decode cX6_fits 64 = .ok (.iconst 1, 1) := by decide +kernel
theorem dX6_fits_65 : decode cX6_fits 65 = .ok (.ireturn, 1) := by decide +kernel
theorem dX6_nextPlace_0 : decode cX6_nextPlace 0 = .ok (.iload_n 1, 1) := by decide +kernel
theorem dX6_nextPlace_1 : decode cX6_nextPlace 1 = .ok (.iconst (-1), 1) := by decide +kernel
theorem dX6_nextPlace_2 : decode cX6_nextPlace 2 = .ok (.if_icmp .ne 8, 3) := by decide +kernel
theorem dX6_nextPlace_5 : decode cX6_nextPlace 5 = .ok (.bipush 100, 2) := by decide +kernel
theorem dX6_nextPlace_7 : decode cX6_nextPlace 7 = .ok (.goto 20, 3) := by decide +kernel
theorem dX6_nextPlace_10 : decode cX6_nextPlace 10 = .ok (.iload_n 1, 1) := by decide +kernel
theorem dX6_nextPlace_11 : decode cX6_nextPlace 11 = .ok (.iconst 1, 1) := by decide +kernel
theorem dX6_nextPlace_12 : decode cX6_nextPlace 12 = .ok (.iadd, 1) := by decide +kernel
theorem dX6_nextPlace_13 : decode cX6_nextPlace 13 = .ok (.aload_n 0, 1) := by decide +kernel
theorem dX6_nextPlace_14 : decode cX6_nextPlace 14 = .ok (.getfield 51, 3) := by decide +kernel
theorem dX6_nextPlace_17 : decode cX6_nextPlace 17 = .ok (.if_icmp .ge 9, 3) := by decide +kernel
theorem dX6_nextPlace_20 : decode cX6_nextPlace 20 = .ok (.iload_n 1, 1) := by decide +kernel
theorem dX6_nextPlace_21 : decode cX6_nextPlace 21 = .ok (.iconst 1, 1) := by decide +kernel
theorem dX6_nextPlace_22 : decode cX6_nextPlace 22 = .ok (.iadd, 1) := by decide +kernel
theorem dX6_nextPlace_23 : decode cX6_nextPlace 23 = .ok (.goto 4, 3) := by decide +kernel
theorem dX6_nextPlace_26 : decode cX6_nextPlace 26 = .ok (.iconst (-1), 1) := by decide +kernel
theorem dX6_nextPlace_27 : decode cX6_nextPlace 27 = .ok (.ireturn, 1) := by decide +kernel
theorem dX6_solveExactly_0 : decode cX6_solveExactly 0 = .ok (.iconst (-1), 1) := by decide +kernel
theorem dX6_solveExactly_1 : decode cX6_solveExactly 1 = .ok (.istore_n 1, 1) := by decide +kernel
theorem dX6_solveExactly_2 : decode cX6_solveExactly 2 = .ok (.iconst 0, 1) := by decide +kernel
theorem dX6_solveExactly_3 : decode cX6_solveExactly 3 = .ok (.istore_n 2, 1) := by decide +kernel
theorem dX6_solveExactly_4 : decode cX6_solveExactly 4 = .ok (.iconst 0, 1) := by decide +kernel
theorem dX6_solveExactly_5 : decode cX6_solveExactly 5 = .ok (.istore_n 3, 1) := by decide +kernel
theorem dX6_solveExactly_6 : decode cX6_solveExactly 6 = .ok (.iconst 0, 1) := by decide +kernel
theorem dX6_solveExactly_7 : decode cX6_solveExactly 7 = .ok (.istore 4, 2) := by decide +kernel
theorem dX6_solveExactly_9 : decode cX6_solveExactly 9 = .ok (.iload 4, 2) := by decide +kernel
theorem dX6_solveExactly_11 : decode cX6_solveExactly 11 = .ok (.aload_n 0, 1) := by decide +kernel
theorem dX6_solveExactly_12 : decode cX6_solveExactly 12 = .ok (.getfield 57, 3) := by decide +kernel
theorem dX6_solveExactly_15 : decode cX6_solveExactly 15 = .ok (.if_icmp .ge 25, 3) := by decide +kernel
theorem dX6_solveExactly_18 : decode cX6_solveExactly 18 = .ok (.aload_n 0, 1) := by decide +kernel
theorem dX6_solveExactly_19 : decode cX6_solveExactly 19 = .ok (.getfield 42, 3) := by decide +kernel
theorem dX6_solveExactly_22 : decode cX6_solveExactly 22 = .ok (.iload 4, 2) := by decide +kernel
theorem dX6_solveExactly_24 : decode cX6_solveExactly 24 = .ok (.iconst (-1), 1) := by decide +kernel
theorem dX6_solveExactly_25 : decode cX6_solveExactly 25 = .ok (.iastore, 1) := by decide +kernel
theorem dX6_solveExactly_26 : decode cX6_solveExactly 26 = .ok (.aload_n 0, 1) := by decide +kernel
theorem dX6_solveExactly_27 : decode cX6_solveExactly 27 = .ok (.getfield 45, 3) := by decide +kernel
theorem dX6_solveExactly_30 : decode cX6_solveExactly 30 = .ok (.iload 4, 2) := by decide +kernel
theorem dX6_solveExactly_32 : decode cX6_solveExactly 32 = .ok (.iconst (-1), 1) := by decide +kernel
theorem dX6_solveExactly_33 : decode cX6_solveExactly 33 = .ok (.iastore, 1) := by decide +kernel
theorem dX6_solveExactly_34 : decode cX6_solveExactly 34 = .ok (.iinc 4 1, 3) := by decide +kernel
theorem dX6_solveExactly_37 : decode cX6_solveExactly 37 = .ok (.goto (-28), 3) := by decide +kernel
theorem dX6_solveExactly_40 : decode cX6_solveExactly 40 = .ok (.aload_n 0, 1) := by decide +kernel
theorem dX6_solveExactly_41 : decode cX6_solveExactly 41 = .ok (.getfield 57, 3) := by decide +kernel
theorem dX6_solveExactly_44 : decode cX6_solveExactly 44 = .ok (.ifCond .ne 4, 3) := by decide +kernel
theorem dX6_solveExactly_47 : decode cX6_solveExactly 47 = .ok (.return_, 1) := by decide +kernel
theorem dX6_solveExactly_48 : decode cX6_solveExactly 48 = .ok (.aload_n 0, 1) := by decide +kernel
theorem dX6_solveExactly_49 : decode cX6_solveExactly 49 = .ok (.getfield 42, 3) := by decide +kernel
theorem dX6_solveExactly_52 : decode cX6_solveExactly 52 = .ok (.iconst 0, 1) := by decide +kernel
theorem dX6_solveExactly_53 : decode cX6_solveExactly 53 = .ok (.aload_n 0, 1) := by decide +kernel
theorem dX6_solveExactly_54 : decode cX6_solveExactly 54 = .ok (.getfield 51, 3) := by decide +kernel
theorem dX6_solveExactly_57 : decode cX6_solveExactly 57 = .ok (.ifCond .le 7, 3) := by decide +kernel
theorem dX6_solveExactly_60 : decode cX6_solveExactly 60 = .ok (.iconst 0, 1) := by decide +kernel
theorem dX6_solveExactly_61 : decode cX6_solveExactly 61 = .ok (.goto 4, 3) := by decide +kernel
theorem dX6_solveExactly_64 : decode cX6_solveExactly 64 = .ok (.iconst (-1), 1) := by decide +kernel
theorem dX6_solveExactly_65 : decode cX6_solveExactly 65 = .ok (.iastore, 1) := by decide +kernel
theorem dX6_solveExactly_66 : decode cX6_solveExactly 66 = .ok (.iload_n 3, 1) := by decide +kernel
theorem dX6_solveExactly_67 : decode cX6_solveExactly 67 = .ok (.ifCond .lt 202, 3) := by decide +kernel
theorem dX6_solveExactly_70 : decode cX6_solveExactly 70 = .ok (.aload_n 0, 1) := by decide +kernel
theorem dX6_solveExactly_71 : decode cX6_solveExactly 71 = .ok (.getfield 42, 3) := by decide +kernel
theorem dX6_solveExactly_74 : decode cX6_solveExactly 74 = .ok (.iload_n 3, 1) := by decide +kernel
theorem dX6_solveExactly_75 : decode cX6_solveExactly 75 = .ok (.iaload, 1) := by decide +kernel
theorem dX6_solveExactly_76 : decode cX6_solveExactly 76 = .ok (.bipush 100, 2) := by decide +kernel
theorem dX6_solveExactly_78 : decode cX6_solveExactly 78 = .ok (.if_icmp .ne 36, 3) := by decide +kernel
theorem dX6_solveExactly_81 : decode cX6_solveExactly 81 = .ok (.aload_n 0, 1) := by decide +kernel
theorem dX6_solveExactly_82 : decode cX6_solveExactly 82 = .ok (.getfield 42, 3) := by decide +kernel
theorem dX6_solveExactly_85 : decode cX6_solveExactly 85 = .ok (.iload_n 3, 1) := by decide +kernel
theorem dX6_solveExactly_86 : decode cX6_solveExactly 86 = .ok (.iconst (-1), 1) := by decide +kernel
theorem dX6_solveExactly_87 : decode cX6_solveExactly 87 = .ok (.iastore, 1) := by decide +kernel
theorem dX6_solveExactly_88 : decode cX6_solveExactly 88 = .ok (.iinc 3 (-1), 3) := by decide +kernel
theorem dX6_solveExactly_91 : decode cX6_solveExactly 91 = .ok (.iload_n 3, 1) := by decide +kernel
theorem dX6_solveExactly_92 : decode cX6_solveExactly 92 = .ok (.ifCond .lt (-26), 3) := by decide +kernel
theorem dX6_solveExactly_95 : decode cX6_solveExactly 95 = .ok (.aload_n 0, 1) := by decide +kernel
theorem dX6_solveExactly_96 : decode cX6_solveExactly 96 = .ok (.getfield 42, 3) := by decide +kernel
theorem dX6_solveExactly_99 : decode cX6_solveExactly 99 = .ok (.iload_n 3, 1) := by decide +kernel
theorem dX6_solveExactly_100 : decode cX6_solveExactly 100 = .ok (.aload_n 0, 1) := by decide +kernel
theorem dX6_solveExactly_101 : decode cX6_solveExactly 101 = .ok (.aload_n 0, 1) := by decide +kernel
theorem dX6_solveExactly_102 : decode cX6_solveExactly 102 = .ok (.getfield 42, 3) := by decide +kernel
theorem dX6_solveExactly_105 : decode cX6_solveExactly 105 = .ok (.iload_n 3, 1) := by decide +kernel
theorem dX6_solveExactly_106 : decode cX6_solveExactly 106 = .ok (.iaload, 1) := by decide +kernel
theorem dX6_solveExactly_107 : decode cX6_solveExactly 107 = .ok (.invokevirtual 89, 3) := by decide +kernel
theorem dX6_solveExactly_110 : decode cX6_solveExactly 110 = .ok (.iastore, 1) := by decide +kernel
theorem dX6_solveExactly_111 : decode cX6_solveExactly 111 = .ok (.goto (-45), 3) := by decide +kernel
theorem dX6_solveExactly_114 : decode cX6_solveExactly 114 = .ok (.aload_n 0, 1) := by decide +kernel
theorem dX6_solveExactly_115 : decode cX6_solveExactly 115 = .ok (.iload_n 3, 1) := by decide +kernel
theorem dX6_solveExactly_116 : decode cX6_solveExactly 116 = .ok (.invokevirtual 92, 3) := by decide +kernel
theorem dX6_solveExactly_119 : decode cX6_solveExactly 119 = .ok (.ifCond .ne 22, 3) := by decide +kernel
theorem dX6_solveExactly_122 : decode cX6_solveExactly 122 = .ok (.aload_n 0, 1) := by decide +kernel
theorem dX6_solveExactly_123 : decode cX6_solveExactly 123 = .ok (.getfield 42, 3) := by decide +kernel
theorem dX6_solveExactly_126 : decode cX6_solveExactly 126 = .ok (.iload_n 3, 1) := by decide +kernel
theorem dX6_solveExactly_127 : decode cX6_solveExactly 127 = .ok (.aload_n 0, 1) := by decide +kernel
theorem dX6_solveExactly_128 : decode cX6_solveExactly 128 = .ok (.aload_n 0, 1) := by decide +kernel
theorem dX6_solveExactly_129 : decode cX6_solveExactly 129 = .ok (.getfield 42, 3) := by decide +kernel
theorem dX6_solveExactly_132 : decode cX6_solveExactly 132 = .ok (.iload_n 3, 1) := by decide +kernel
theorem dX6_solveExactly_133 : decode cX6_solveExactly 133 = .ok (.iaload, 1) := by decide +kernel
theorem dX6_solveExactly_134 : decode cX6_solveExactly 134 = .ok (.invokevirtual 89, 3) := by decide +kernel
theorem dX6_solveExactly_137 : decode cX6_solveExactly 137 = .ok (.iastore, 1) := by decide +kernel
theorem dX6_solveExactly_138 : decode cX6_solveExactly 138 = .ok (.goto (-72), 3) := by decide +kernel
theorem dX6_solveExactly_141 : decode cX6_solveExactly 141 = .ok (.iload_n 3, 1) := by decide +kernel
theorem dX6_solveExactly_142 : decode cX6_solveExactly 142 = .ok (.iconst 1, 1) := by decide +kernel
theorem dX6_solveExactly_143 : decode cX6_solveExactly 143 = .ok (.iadd, 1) := by decide +kernel
theorem dX6_solveExactly_144 : decode cX6_solveExactly 144 = .ok (.aload_n 0, 1) := by decide +kernel
theorem dX6_solveExactly_145 : decode cX6_solveExactly 145 = .ok (.getfield 57, 3) := by decide +kernel
theorem dX6_solveExactly_148 : decode cX6_solveExactly 148 = .ok (.if_icmp .ge 27, 3) := by decide +kernel
theorem dX6_solveExactly_151 : decode cX6_solveExactly 151 = .ok (.iinc 3 1, 3) := by decide +kernel
theorem dX6_solveExactly_154 : decode cX6_solveExactly 154 = .ok (.aload_n 0, 1) := by decide +kernel
theorem dX6_solveExactly_155 : decode cX6_solveExactly 155 = .ok (.getfield 42, 3) := by decide +kernel
theorem dX6_solveExactly_158 : decode cX6_solveExactly 158 = .ok (.iload_n 3, 1) := by decide +kernel
theorem dX6_solveExactly_159 : decode cX6_solveExactly 159 = .ok (.aload_n 0, 1) := by decide +kernel
theorem dX6_solveExactly_160 : decode cX6_solveExactly 160 = .ok (.getfield 51, 3) := by decide +kernel
theorem dX6_solveExactly_163 : decode cX6_solveExactly 163 = .ok (.ifCond .le 7, 3) := by decide +kernel
theorem dX6_solveExactly_166 : decode cX6_solveExactly 166 = .ok (.iconst 0, 1) := by decide +kernel
theorem dX6_solveExactly_167 : decode cX6_solveExactly 167 = .ok (.goto 4, 3) := by decide +kernel
theorem dX6_solveExactly_170 : decode cX6_solveExactly 170 = .ok (.iconst (-1), 1) := by decide +kernel
theorem dX6_solveExactly_171 : decode cX6_solveExactly 171 = .ok (.iastore, 1) := by decide +kernel
theorem dX6_solveExactly_172 : decode cX6_solveExactly 172 = .ok (.goto (-106), 3) := by decide +kernel
theorem dX6_solveExactly_175 : decode cX6_solveExactly 175 = .ok (.aload_n 0, 1) := by decide +kernel
theorem dX6_solveExactly_176 : decode cX6_solveExactly 176 = .ok (.invokevirtual 96, 3) := by decide +kernel
theorem dX6_solveExactly_179 : decode cX6_solveExactly 179 = .ok (.istore 4, 2) := by decide +kernel
theorem dX6_solveExactly_181 : decode cX6_solveExactly 181 = .ok (.aload_n 0, 1) := by decide +kernel
theorem dX6_solveExactly_182 : decode cX6_solveExactly 182 = .ok (.invokevirtual 100, 3) := by decide +kernel
theorem dX6_solveExactly_185 : decode cX6_solveExactly 185 = .ok (.istore 5, 2) := by decide +kernel
theorem dX6_solveExactly_187 : decode cX6_solveExactly 187 = .ok (.iload 4, 2) := by decide +kernel
theorem dX6_solveExactly_189 : decode cX6_solveExactly 189 = .ok (.iload_n 1, 1) := by decide +kernel
theorem dX6_solveExactly_190 : decode cX6_solveExactly 190 = .ok (.if_icmp .gt 15, 3) := by decide +kernel
theorem dX6_solveExactly_193 : decode cX6_solveExactly 193 = .ok (.iload 4, 2) := by decide +kernel
theorem dX6_solveExactly_195 : decode cX6_solveExactly 195 = .ok (.iload_n 1, 1) := by decide +kernel
theorem dX6_solveExactly_196 : decode cX6_solveExactly 196 = .ok (.if_icmp .ne 54, 3) := by decide +kernel
theorem dX6_solveExactly_199 : decode cX6_solveExactly 199 = .ok (.iload 5, 2) := by decide +kernel
theorem dX6_solveExactly_201 : decode cX6_solveExactly 201 = .ok (.iload_n 2, 1) := by decide +kernel
theorem dX6_solveExactly_202 : decode cX6_solveExactly 202 = .ok (.if_icmp .le 48, 3) := by decide +kernel
theorem dX6_solveExactly_205 : decode cX6_solveExactly 205 = .ok (.aload_n 0, 1) := by decide +kernel
theorem dX6_solveExactly_206 : decode cX6_solveExactly 206 = .ok (.invokevirtual 85, 3) := by decide +kernel
theorem dX6_solveExactly_209 : decode cX6_solveExactly 209 = .ok (.ifCond .eq 41, 3) := by decide +kernel
theorem dX6_solveExactly_212 : decode cX6_solveExactly 212 = .ok (.iload 4, 2) := by decide +kernel
theorem dX6_solveExactly_214 : decode cX6_solveExactly 214 = .ok (.istore_n 1, 1) := by decide +kernel
theorem dX6_solveExactly_215 : decode cX6_solveExactly 215 = .ok (.iload 5, 2) := by decide +kernel
theorem dX6_solveExactly_217 : decode cX6_solveExactly 217 = .ok (.istore_n 2, 1) := by decide +kernel
theorem dX6_solveExactly_218 : decode cX6_solveExactly 218 = .ok (.iconst 0, 1) := by decide +kernel
theorem dX6_solveExactly_219 : decode cX6_solveExactly 219 = .ok (.istore 6, 2) := by decide +kernel
theorem dX6_solveExactly_221 : decode cX6_solveExactly 221 = .ok (.iload 6, 2) := by decide +kernel
theorem dX6_solveExactly_223 : decode cX6_solveExactly 223 = .ok (.aload_n 0, 1) := by decide +kernel
theorem dX6_solveExactly_224 : decode cX6_solveExactly 224 = .ok (.getfield 57, 3) := by decide +kernel
theorem dX6_solveExactly_227 : decode cX6_solveExactly 227 = .ok (.if_icmp .ge 23, 3) := by decide +kernel
theorem dX6_solveExactly_230 : decode cX6_solveExactly 230 = .ok (.aload_n 0, 1) := by decide +kernel
theorem dX6_solveExactly_231 : decode cX6_solveExactly 231 = .ok (.getfield 45, 3) := by decide +kernel
theorem dX6_solveExactly_234 : decode cX6_solveExactly 234 = .ok (.iload 6, 2) := by decide +kernel
theorem dX6_solveExactly_236 : decode cX6_solveExactly 236 = .ok (.aload_n 0, 1) := by decide +kernel
theorem dX6_solveExactly_237 : decode cX6_solveExactly 237 = .ok (.getfield 42, 3) := by decide +kernel
theorem dX6_solveExactly_240 : decode cX6_solveExactly 240 = .ok (.iload 6, 2) := by decide +kernel
theorem dX6_solveExactly_242 : decode cX6_solveExactly 242 = .ok (.iaload, 1) := by decide +kernel
theorem dX6_solveExactly_243 : decode cX6_solveExactly 243 = .ok (.iastore, 1) := by decide +kernel
theorem dX6_solveExactly_244 : decode cX6_solveExactly 244 = .ok (.iinc 6 1, 3) := by decide +kernel
theorem dX6_solveExactly_247 : decode cX6_solveExactly 247 = .ok (.goto (-26), 3) := by decide +kernel
theorem dX6_solveExactly_250 : decode cX6_solveExactly 250 = .ok (.aload_n 0, 1) := by decide +kernel
theorem dX6_solveExactly_251 : decode cX6_solveExactly 251 = .ok (.getfield 42, 3) := by decide +kernel
theorem dX6_solveExactly_254 : decode cX6_solveExactly 254 = .ok (.iload_n 3, 1) := by decide +kernel
theorem dX6_solveExactly_255 : decode cX6_solveExactly 255 = .ok (.aload_n 0, 1) := by decide +kernel
theorem dX6_solveExactly_256 : decode cX6_solveExactly 256 = .ok (.aload_n 0, 1) := by decide +kernel
theorem dX6_solveExactly_257 : decode cX6_solveExactly 257 = .ok (.getfield 42, 3) := by decide +kernel
theorem dX6_solveExactly_260 : decode cX6_solveExactly 260 = .ok (.iload_n 3, 1) := by decide +kernel
theorem dX6_solveExactly_261 : decode cX6_solveExactly 261 = .ok (.iaload, 1) := by decide +kernel
theorem dX6_solveExactly_262 : decode cX6_solveExactly 262 = .ok (.invokevirtual 89, 3) := by decide +kernel
theorem dX6_solveExactly_265 : decode cX6_solveExactly 265 = .ok (.iastore, 1) := by decide +kernel
theorem dX6_solveExactly_266 : decode cX6_solveExactly 266 = .ok (.goto (-200), 3) := by decide +kernel
theorem dX6_solveExactly_269 : decode cX6_solveExactly 269 = .ok (.iconst 0, 1) := by decide +kernel
theorem dX6_solveExactly_270 : decode cX6_solveExactly 270 = .ok (.istore 4, 2) := by decide +kernel
theorem dX6_solveExactly_272 : decode cX6_solveExactly 272 = .ok (.iload 4, 2) := by decide +kernel
theorem dX6_solveExactly_274 : decode cX6_solveExactly 274 = .ok (.aload_n 0, 1) := by decide +kernel
theorem dX6_solveExactly_275 : decode cX6_solveExactly 275 = .ok (.getfield 57, 3) := by decide +kernel
theorem dX6_solveExactly_278 : decode cX6_solveExactly 278 = .ok (.if_icmp .ge 23, 3) := by decide +kernel
theorem dX6_solveExactly_281 : decode cX6_solveExactly 281 = .ok (.aload_n 0, 1) := by decide +kernel
theorem dX6_solveExactly_282 : decode cX6_solveExactly 282 = .ok (.getfield 42, 3) := by decide +kernel
theorem dX6_solveExactly_285 : decode cX6_solveExactly 285 = .ok (.iload 4, 2) := by decide +kernel
theorem dX6_solveExactly_287 : decode cX6_solveExactly 287 = .ok (.aload_n 0, 1) := by decide +kernel
theorem dX6_solveExactly_288 : decode cX6_solveExactly 288 = .ok (.getfield 45, 3) := by decide +kernel
theorem dX6_solveExactly_291 : decode cX6_solveExactly 291 = .ok (.iload 4, 2) := by decide +kernel
theorem dX6_solveExactly_293 : decode cX6_solveExactly 293 = .ok (.iaload, 1) := by decide +kernel
theorem dX6_solveExactly_294 : decode cX6_solveExactly 294 = .ok (.iastore, 1) := by decide +kernel
theorem dX6_solveExactly_295 : decode cX6_solveExactly 295 = .ok (.iinc 4 1, 3) := by decide +kernel
theorem dX6_solveExactly_298 : decode cX6_solveExactly 298 = .ok (.goto (-26), 3) := by decide +kernel
theorem dX6_solveExactly_301 : decode cX6_solveExactly 301 = .ok (.return_, 1) := by decide +kernel
theorem dX6_solveByRule_0 : decode cX6_solveByRule 0 = .ok (.iconst 0, 1) := by decide +kernel
theorem dX6_solveByRule_1 : decode cX6_solveByRule 1 = .ok (.istore_n 1, 1) := by decide +kernel
theorem dX6_solveByRule_2 : decode cX6_solveByRule 2 = .ok (.iload_n 1, 1) := by decide +kernel
theorem dX6_solveByRule_3 : decode cX6_solveByRule 3 = .ok (.aload_n 0, 1) := by decide +kernel
theorem dX6_solveByRule_4 : decode cX6_solveByRule 4 = .ok (.getfield 57, 3) := by decide +kernel
theorem dX6_solveByRule_7 : decode cX6_solveByRule 7 = .ok (.if_icmp .ge 16, 3) := by decide +kernel
theorem dX6_solveByRule_10 : decode cX6_solveByRule 10 = .ok (.aload_n 0, 1) := by decide +kernel
theorem dX6_solveByRule_11 : decode cX6_solveByRule 11 = .ok (.getfield 42, 3) := by decide +kernel
theorem dX6_solveByRule_14 : decode cX6_solveByRule 14 = .ok (.iload_n 1, 1) := by decide +kernel
theorem dX6_solveByRule_15 : decode cX6_solveByRule 15 = .ok (.iconst (-1), 1) := by decide +kernel
theorem dX6_solveByRule_16 : decode cX6_solveByRule 16 = .ok (.iastore, 1) := by decide +kernel
theorem dX6_solveByRule_17 : decode cX6_solveByRule 17 = .ok (.iinc 1 1, 3) := by decide +kernel
theorem dX6_solveByRule_20 : decode cX6_solveByRule 20 = .ok (.goto (-18), 3) := by decide +kernel
theorem dX6_solveByRule_23 : decode cX6_solveByRule 23 = .ok (.iconst (-1), 1) := by decide +kernel
theorem dX6_solveByRule_24 : decode cX6_solveByRule 24 = .ok (.istore_n 1, 1) := by decide +kernel
theorem dX6_solveByRule_25 : decode cX6_solveByRule 25 = .ok (.bipush 9, 2) := by decide +kernel
theorem dX6_solveByRule_27 : decode cX6_solveByRule 27 = .ok (.istore_n 2, 1) := by decide +kernel
theorem dX6_solveByRule_28 : decode cX6_solveByRule 28 = .ok (.iload_n 2, 1) := by decide +kernel
theorem dX6_solveByRule_29 : decode cX6_solveByRule 29 = .ok (.ifCond .le 119, 3) := by decide +kernel
theorem dX6_solveByRule_32 : decode cX6_solveByRule 32 = .ok (.iconst 0, 1) := by decide +kernel
theorem dX6_solveByRule_33 : decode cX6_solveByRule 33 = .ok (.istore_n 3, 1) := by decide +kernel
theorem dX6_solveByRule_34 : decode cX6_solveByRule 34 = .ok (.iload_n 3, 1) := by decide +kernel
theorem dX6_solveByRule_35 : decode cX6_solveByRule 35 = .ok (.aload_n 0, 1) := by decide +kernel
theorem dX6_solveByRule_36 : decode cX6_solveByRule 36 = .ok (.getfield 57, 3) := by decide +kernel
theorem dX6_solveByRule_39 : decode cX6_solveByRule 39 = .ok (.if_icmp .ge 103, 3) := by decide +kernel
theorem dX6_solveByRule_42 : decode cX6_solveByRule 42 = .ok (.aload_n 0, 1) := by decide +kernel
theorem dX6_solveByRule_43 : decode cX6_solveByRule 43 = .ok (.getfield 36, 3) := by decide +kernel
theorem dX6_solveByRule_46 : decode cX6_solveByRule 46 = .ok (.iload_n 3, 1) := by decide +kernel
theorem dX6_solveByRule_47 : decode cX6_solveByRule 47 = .ok (.iaload, 1) := by decide +kernel
theorem dX6_solveByRule_48 : decode cX6_solveByRule 48 = .ok (.iload_n 2, 1) := by decide +kernel
theorem dX6_solveByRule_49 : decode cX6_solveByRule 49 = .ok (.if_icmp .ne 87, 3) := by decide +kernel
theorem dX6_solveByRule_52 : decode cX6_solveByRule 52 = .ok (.iload_n 1, 1) := by decide +kernel
theorem dX6_solveByRule_53 : decode cX6_solveByRule 53 = .ok (.iconst 1, 1) := by decide +kernel
theorem dX6_solveByRule_54 : decode cX6_solveByRule 54 = .ok (.iadd, 1) := by decide +kernel
theorem dX6_solveByRule_55 : decode cX6_solveByRule 55 = .ok (.istore 4, 2) := by decide +kernel
theorem dX6_solveByRule_57 : decode cX6_solveByRule 57 = .ok (.iload 4, 2) := by decide +kernel
theorem dX6_solveByRule_59 : decode cX6_solveByRule 59 = .ok (.aload_n 0, 1) := by decide +kernel
theorem dX6_solveByRule_60 : decode cX6_solveByRule 60 = .ok (.getfield 51, 3) := by decide +kernel
theorem dX6_solveByRule_63 : decode cX6_solveByRule 63 = .ok (.if_icmp .ge 53, 3) := by decide +kernel
theorem dX6_solveByRule_66 : decode cX6_solveByRule 66 = .ok (.aload_n 0, 1) := by decide +kernel
theorem dX6_solveByRule_67 : decode cX6_solveByRule 67 = .ok (.iconst 2, 1) := by decide +kernel
theorem dX6_solveByRule_68 : decode cX6_solveByRule 68 = .ok (.iload_n 3, 1) := by decide +kernel
theorem dX6_solveByRule_69 : decode cX6_solveByRule 69 = .ok (.iload 4, 2) := by decide +kernel
theorem dX6_solveByRule_71 : decode cX6_solveByRule 71 = .ok (.invokevirtual 78, 3) := by decide +kernel
theorem dX6_solveByRule_74 : decode cX6_solveByRule 74 = .ok (.ifCond .ne 36, 3) := by decide +kernel
theorem dX6_solveByRule_77 : decode cX6_solveByRule 77 = .ok (.aload_n 0, 1) := by decide +kernel
theorem dX6_solveByRule_78 : decode cX6_solveByRule 78 = .ok (.iconst 3, 1) := by decide +kernel
theorem dX6_solveByRule_79 : decode cX6_solveByRule 79 = .ok (.iload_n 3, 1) := by decide +kernel
theorem dX6_solveByRule_80 : decode cX6_solveByRule 80 = .ok (.iload 4, 2) := by decide +kernel
theorem dX6_solveByRule_82 : decode cX6_solveByRule 82 = .ok (.invokevirtual 78, 3) := by decide +kernel
theorem dX6_solveByRule_85 : decode cX6_solveByRule 85 = .ok (.ifCond .ne 25, 3) := by decide +kernel
theorem dX6_solveByRule_88 : decode cX6_solveByRule 88 = .ok (.aload_n 0, 1) := by decide +kernel
theorem dX6_solveByRule_89 : decode cX6_solveByRule 89 = .ok (.iconst 4, 1) := by decide +kernel
theorem dX6_solveByRule_90 : decode cX6_solveByRule 90 = .ok (.iload_n 3, 1) := by decide +kernel
theorem dX6_solveByRule_91 : decode cX6_solveByRule 91 = .ok (.iload 4, 2) := by decide +kernel
theorem dX6_solveByRule_93 : decode cX6_solveByRule 93 = .ok (.invokevirtual 78, 3) := by decide +kernel
theorem dX6_solveByRule_96 : decode cX6_solveByRule 96 = .ok (.ifCond .ne 14, 3) := by decide +kernel
theorem dX6_solveByRule_99 : decode cX6_solveByRule 99 = .ok (.aload_n 0, 1) := by decide +kernel
theorem dX6_solveByRule_100 : decode cX6_solveByRule 100 = .ok (.iconst 5, 1) := by decide +kernel
theorem dX6_solveByRule_101 : decode cX6_solveByRule 101 = .ok (.iload_n 3, 1) := by decide +kernel
theorem dX6_solveByRule_102 : decode cX6_solveByRule 102 = .ok (.iload 4, 2) := by decide +kernel
theorem dX6_solveByRule_104 : decode cX6_solveByRule 104 = .ok (.invokevirtual 78, 3) := by decide +kernel
theorem dX6_solveByRule_107 : decode cX6_solveByRule 107 = .ok (.ifCond .eq 9, 3) := by decide +kernel
theorem dX6_solveByRule_110 : decode cX6_solveByRule 110 = .ok (.iinc 4 1, 3) := by decide +kernel
theorem dX6_solveByRule_113 : decode cX6_solveByRule 113 = .ok (.goto (-56), 3) := by decide +kernel
theorem dX6_solveByRule_116 : decode cX6_solveByRule 116 = .ok (.iload 4, 2) := by decide +kernel
theorem dX6_solveByRule_118 : decode cX6_solveByRule 118 = .ok (.aload_n 0, 1) := by decide +kernel
theorem dX6_solveByRule_119 : decode cX6_solveByRule 119 = .ok (.getfield 51, 3) := by decide +kernel
theorem dX6_solveByRule_122 : decode cX6_solveByRule 122 = .ok (.if_icmp .ge 14, 3) := by decide +kernel
theorem dX6_solveByRule_125 : decode cX6_solveByRule 125 = .ok (.aload_n 0, 1) := by decide +kernel
theorem dX6_solveByRule_126 : decode cX6_solveByRule 126 = .ok (.getfield 42, 3) := by decide +kernel
theorem dX6_solveByRule_129 : decode cX6_solveByRule 129 = .ok (.iload_n 3, 1) := by decide +kernel
theorem dX6_solveByRule_130 : decode cX6_solveByRule 130 = .ok (.iload 4, 2) := by decide +kernel
theorem dX6_solveByRule_132 : decode cX6_solveByRule 132 = .ok (.iastore, 1) := by decide +kernel
theorem dX6_solveByRule_133 : decode cX6_solveByRule 133 = .ok (.iload 4, 2) := by decide +kernel
theorem dX6_solveByRule_135 : decode cX6_solveByRule 135 = .ok (.istore_n 1, 1) := by decide +kernel
theorem dX6_solveByRule_136 : decode cX6_solveByRule 136 = .ok (.iinc 3 1, 3) := by decide +kernel
theorem dX6_solveByRule_139 : decode cX6_solveByRule 139 = .ok (.goto (-105), 3) := by decide +kernel
theorem dX6_solveByRule_142 : decode cX6_solveByRule 142 = .ok (.iinc 2 (-1), 3) := by decide +kernel
theorem dX6_solveByRule_145 : decode cX6_solveByRule 145 = .ok (.goto (-117), 3) := by decide +kernel
theorem dX6_solveByRule_148 : decode cX6_solveByRule 148 = .ok (.return_, 1) := by decide +kernel
theorem dX6_solve_0 : decode cX6_solve 0 = .ok (.aload_n 0, 1) := by decide +kernel
theorem dX6_solve_1 : decode cX6_solve 1 = .ok (.iload_n 1, 1) := by decide +kernel
theorem dX6_solve_2 : decode cX6_solve 2 = .ok (.iconst 0, 1) := by decide +kernel
theorem dX6_solve_3 : decode cX6_solve 3 = .ok (.iconst 5, 1) := by decide +kernel
theorem dX6_solve_4 : decode cX6_solve 4 = .ok (.invokestatic 60, 3) := by decide +kernel
theorem dX6_solve_7 : decode cX6_solve 7 = .ok (.ifCond .ne 7, 3) := by decide +kernel
theorem dX6_solve_10 : decode cX6_solve 10 = .ok (.iconst 1, 1) := by decide +kernel
theorem dX6_solve_11 : decode cX6_solve 11 = .ok (.goto 22, 3) := by decide +kernel
theorem dX6_solve_14 : decode cX6_solve 14 = .ok (.aload_n 0, 1) := by decide +kernel
theorem dX6_solve_15 : decode cX6_solve 15 = .ok (.getfield 71, 3) := by decide +kernel
theorem dX6_solve_18 : decode cX6_solve 18 = .ok (.ifCond .ne 10, 3) := by decide +kernel
theorem dX6_solve_21 : decode cX6_solve 21 = .ok (.aload_n 0, 1) := by decide +kernel
theorem dX6_solve_22 : decode cX6_solve 22 = .ok (.getfield 103, 3) := by decide +kernel
theorem dX6_solve_25 : decode cX6_solve 25 = .ok (.ifCond .eq 7, 3) := by decide +kernel
theorem dX6_solve_28 : decode cX6_solve 28 = .ok (.iconst 2, 1) := by decide +kernel
theorem dX6_solve_29 : decode cX6_solve 29 = .ok (.goto 4, 3) := by decide +kernel
theorem dX6_solve_32 : decode cX6_solve 32 = .ok (.iconst 0, 1) := by decide +kernel
theorem dX6_solve_33 : decode cX6_solve 33 = .ok (.putfield 54, 3) := by decide +kernel
theorem dX6_solve_36 : decode cX6_solve 36 = .ok (.aload_n 0, 1) := by decide +kernel
theorem dX6_solve_37 : decode cX6_solve 37 = .ok (.getfield 54, 3) := by decide +kernel
theorem dX6_solve_40 : decode cX6_solve 40 = .ok (.ifCond .eq 5, 3) := by decide +kernel
theorem dX6_solve_43 : decode cX6_solve 43 = .ok (.iconst 0, 1) := by decide +kernel
theorem dX6_solve_44 : decode cX6_solve 44 = .ok (.ireturn, 1) := by decide +kernel
theorem dX6_solve_45 : decode cX6_solve 45 = .ok (.aload_n 0, 1) := by decide +kernel
theorem dX6_solve_46 : decode cX6_solve 46 = .ok (.aload_n 0, 1) := by decide +kernel
theorem dX6_solve_47 : decode cX6_solve 47 = .ok (.getfield 57, 3) := by decide +kernel
theorem dX6_solve_50 : decode cX6_solve 50 = .ok (.iload_n 1, 1) := by decide +kernel
theorem dX6_solve_51 : decode cX6_solve 51 = .ok (.if_icmp .gt 7, 3) := by decide +kernel
theorem dX6_solve_54 : decode cX6_solve 54 = .ok (.iconst 1, 1) := by decide +kernel
theorem dX6_solve_55 : decode cX6_solve 55 = .ok (.goto 4, 3) := by decide +kernel
theorem dX6_solve_58 : decode cX6_solve 58 = .ok (.iconst 0, 1) := by decide +kernel
theorem dX6_solve_59 : decode cX6_solve 59 = .ok (.putfield 106, 3) := by decide +kernel
theorem dX6_solve_62 : decode cX6_solve 62 = .ok (.aload_n 0, 1) := by decide +kernel
theorem dX6_solve_63 : decode cX6_solve 63 = .ok (.getfield 106, 3) := by decide +kernel
theorem dX6_solve_66 : decode cX6_solve 66 = .ok (.ifCond .eq 10, 3) := by decide +kernel
theorem dX6_solve_69 : decode cX6_solve 69 = .ok (.aload_n 0, 1) := by decide +kernel
theorem dX6_solve_70 : decode cX6_solve 70 = .ok (.invokevirtual 109, 3) := by decide +kernel
theorem dX6_solve_73 : decode cX6_solve 73 = .ok (.goto 7, 3) := by decide +kernel
theorem dX6_solve_76 : decode cX6_solve 76 = .ok (.aload_n 0, 1) := by decide +kernel
theorem dX6_solve_77 : decode cX6_solve 77 = .ok (.invokevirtual 112, 3) := by decide +kernel
theorem dX6_solve_80 : decode cX6_solve 80 = .ok (.aload_n 0, 1) := by decide +kernel
theorem dX6_solve_81 : decode cX6_solve 81 = .ok (.invokevirtual 96, 3) := by decide +kernel
theorem dX6_solve_84 : decode cX6_solve 84 = .ok (.ireturn, 1) := by decide +kernel
theorem dX6_exact_0 : decode cX6_exact 0 = .ok (.aload_n 0, 1) := by decide +kernel
theorem dX6_exact_1 : decode cX6_exact 1 = .ok (.iconst 0, 1) := by decide +kernel
theorem dX6_exact_2 : decode cX6_exact 2 = .ok (.putfield 54, 3) := by decide +kernel
theorem dX6_exact_5 : decode cX6_exact 5 = .ok (.aload_n 0, 1) := by decide +kernel
theorem dX6_exact_6 : decode cX6_exact 6 = .ok (.getfield 106, 3) := by decide +kernel
theorem dX6_exact_9 : decode cX6_exact 9 = .ok (.ireturn, 1) := by decide +kernel
theorem dX6_bound_0 : decode cX6_bound 0 = .ok (.aload_n 0, 1) := by decide +kernel
theorem dX6_bound_1 : decode cX6_bound 1 = .ok (.iconst 0, 1) := by decide +kernel
theorem dX6_bound_2 : decode cX6_bound 2 = .ok (.putfield 54, 3) := by decide +kernel
theorem dX6_bound_5 : decode cX6_bound 5 = .ok (.iconst 0, 1) := by decide +kernel
theorem dX6_bound_6 : decode cX6_bound 6 = .ok (.istore_n 1, 1) := by decide +kernel
theorem dX6_bound_7 : decode cX6_bound 7 = .ok (.iconst 0, 1) := by decide +kernel
theorem dX6_bound_8 : decode cX6_bound 8 = .ok (.istore_n 2, 1) := by decide +kernel
theorem dX6_bound_9 : decode cX6_bound 9 = .ok (.iload_n 2, 1) := by decide +kernel
theorem dX6_bound_10 : decode cX6_bound 10 = .ok (.aload_n 0, 1) := by decide +kernel
theorem dX6_bound_11 : decode cX6_bound 11 = .ok (.getfield 57, 3) := by decide +kernel
theorem dX6_bound_14 : decode cX6_bound 14 = .ok (.if_icmp .ge 60, 3) := by decide +kernel
theorem dX6_bound_17 : decode cX6_bound 17 = .ok (.iconst 0, 1) := by decide +kernel
theorem dX6_bound_18 : decode cX6_bound 18 = .ok (.istore_n 3, 1) := by decide +kernel
theorem dX6_bound_19 : decode cX6_bound 19 = .ok (.iconst 0, 1) := by decide +kernel
theorem dX6_bound_20 : decode cX6_bound 20 = .ok (.istore 4, 2) := by decide +kernel
theorem dX6_bound_22 : decode cX6_bound 22 = .ok (.iload 4, 2) := by decide +kernel
theorem dX6_bound_24 : decode cX6_bound 24 = .ok (.aload_n 0, 1) := by decide +kernel
theorem dX6_bound_25 : decode cX6_bound 25 = .ok (.getfield 51, 3) := by decide +kernel
theorem dX6_bound_28 : decode cX6_bound 28 = .ok (.if_icmp .ge 33, 3) := by decide +kernel
theorem dX6_bound_31 : decode cX6_bound 31 = .ok (.aload_n 0, 1) := by decide +kernel
theorem dX6_bound_32 : decode cX6_bound 32 = .ok (.iconst 2, 1) := by decide +kernel
theorem dX6_bound_33 : decode cX6_bound 33 = .ok (.iload_n 2, 1) := by decide +kernel
theorem dX6_bound_34 : decode cX6_bound 34 = .ok (.iload 4, 2) := by decide +kernel
theorem dX6_bound_36 : decode cX6_bound 36 = .ok (.invokevirtual 78, 3) := by decide +kernel
theorem dX6_bound_39 : decode cX6_bound 39 = .ok (.ifCond .ne 16, 3) := by decide +kernel
theorem dX6_bound_42 : decode cX6_bound 42 = .ok (.aload_n 0, 1) := by decide +kernel
theorem dX6_bound_43 : decode cX6_bound 43 = .ok (.iconst 3, 1) := by decide +kernel
theorem dX6_bound_44 : decode cX6_bound 44 = .ok (.iload_n 2, 1) := by decide +kernel
theorem dX6_bound_45 : decode cX6_bound 45 = .ok (.iload 4, 2) := by decide +kernel
theorem dX6_bound_47 : decode cX6_bound 47 = .ok (.invokevirtual 78, 3) := by decide +kernel
theorem dX6_bound_50 : decode cX6_bound 50 = .ok (.ifCond .ne 5, 3) := by decide +kernel
theorem dX6_bound_53 : decode cX6_bound 53 = .ok (.iconst 1, 1) := by decide +kernel
theorem dX6_bound_54 : decode cX6_bound 54 = .ok (.istore_n 3, 1) := by decide +kernel
theorem dX6_bound_55 : decode cX6_bound 55 = .ok (.iinc 4 1, 3) := by decide +kernel
theorem dX6_bound_58 : decode cX6_bound 58 = .ok (.goto (-36), 3) := by decide +kernel
theorem dX6_bound_61 : decode cX6_bound 61 = .ok (.iload_n 3, 1) := by decide +kernel
theorem dX6_bound_62 : decode cX6_bound 62 = .ok (.ifCond .eq 6, 3) := by decide +kernel
theorem dX6_bound_65 : decode cX6_bound 65 = .ok (.iinc 1 1, 3) := by decide +kernel
theorem dX6_bound_68 : decode cX6_bound 68 = .ok (.iinc 2 1, 3) := by decide +kernel
theorem dX6_bound_71 : decode cX6_bound 71 = .ok (.goto (-62), 3) := by decide +kernel
theorem dX6_bound_74 : decode cX6_bound 74 = .ok (.iload_n 1, 1) := by decide +kernel
theorem dX6_bound_75 : decode cX6_bound 75 = .ok (.aload_n 0, 1) := by decide +kernel
theorem dX6_bound_76 : decode cX6_bound 76 = .ok (.getfield 51, 3) := by decide +kernel
theorem dX6_bound_79 : decode cX6_bound 79 = .ok (.if_icmp .ge 7, 3) := by decide +kernel
theorem dX6_bound_82 : decode cX6_bound 82 = .ok (.iload_n 1, 1) := by decide +kernel
theorem dX6_bound_83 : decode cX6_bound 83 = .ok (.goto 7, 3) := by decide +kernel
theorem dX6_bound_86 : decode cX6_bound 86 = .ok (.aload_n 0, 1) := by decide +kernel
theorem dX6_bound_87 : decode cX6_bound 87 = .ok (.getfield 51, 3) := by decide +kernel
theorem dX6_bound_90 : decode cX6_bound 90 = .ok (.ireturn, 1) := by decide +kernel
theorem dX6_place_0 : decode cX6_place 0 = .ok (.aload_n 0, 1) := by decide +kernel
theorem dX6_place_1 : decode cX6_place 1 = .ok (.aload_n 0, 1) := by decide +kernel
theorem dX6_place_2 : decode cX6_place 2 = .ok (.iload_n 1, 1) := by decide +kernel
theorem dX6_place_3 : decode cX6_place 3 = .ok (.invokevirtual 115, 3) := by decide +kernel
theorem dX6_place_6 : decode cX6_place 6 = .ok (.ifCond .ne 7, 3) := by decide +kernel
theorem dX6_place_9 : decode cX6_place 9 = .ok (.iconst 1, 1) := by decide +kernel
theorem dX6_place_10 : decode cX6_place 10 = .ok (.goto 40, 3) := by decide +kernel
theorem dX6_place_13 : decode cX6_place 13 = .ok (.iload_n 2, 1) := by decide +kernel
theorem dX6_place_14 : decode cX6_place 14 = .ok (.iconst (-1), 1) := by decide +kernel
theorem dX6_place_15 : decode cX6_place 15 = .ok (.aload_n 0, 1) := by decide +kernel
theorem dX6_place_16 : decode cX6_place 16 = .ok (.getfield 51, 3) := by decide +kernel
theorem dX6_place_19 : decode cX6_place 19 = .ok (.iconst 1, 1) := by decide +kernel
theorem dX6_place_20 : decode cX6_place 20 = .ok (.isub, 1) := by decide +kernel
theorem dX6_place_21 : decode cX6_place 21 = .ok (.invokestatic 60, 3) := by decide +kernel
theorem dX6_place_24 : decode cX6_place 24 = .ok (.ifCond .ne 7, 3) := by decide +kernel
theorem dX6_place_27 : decode cX6_place 27 = .ok (.iconst 2, 1) := by decide +kernel
theorem dX6_place_28 : decode cX6_place 28 = .ok (.goto 22, 3) := by decide +kernel
theorem dX6_place_31 : decode cX6_place 31 = .ok (.aload_n 0, 1) := by decide +kernel
theorem dX6_place_32 : decode cX6_place 32 = .ok (.getfield 71, 3) := by decide +kernel
theorem dX6_place_35 : decode cX6_place 35 = .ok (.ifCond .eq 10, 3) := by decide +kernel
theorem dX6_place_38 : decode cX6_place 38 = .ok (.aload_n 0, 1) := by decide +kernel
theorem dX6_place_39 : decode cX6_place 39 = .ok (.getfield 103, 3) := by decide +kernel
theorem dX6_place_42 : decode cX6_place 42 = .ok (.ifCond .eq 7, 3) := by decide +kernel
theorem dX6_place_45 : decode cX6_place 45 = .ok (.iconst 3, 1) := by decide +kernel
theorem dX6_place_46 : decode cX6_place 46 = .ok (.goto 4, 3) := by decide +kernel
theorem dX6_place_49 : decode cX6_place 49 = .ok (.iconst 0, 1) := by decide +kernel
theorem dX6_place_50 : decode cX6_place 50 = .ok (.putfield 54, 3) := by decide +kernel
theorem dX6_place_53 : decode cX6_place 53 = .ok (.aload_n 0, 1) := by decide +kernel
theorem dX6_place_54 : decode cX6_place 54 = .ok (.getfield 54, 3) := by decide +kernel
theorem dX6_place_57 : decode cX6_place 57 = .ok (.ifCond .eq 5, 3) := by decide +kernel
theorem dX6_place_60 : decode cX6_place 60 = .ok (.iconst 0, 1) := by decide +kernel
theorem dX6_place_61 : decode cX6_place 61 = .ok (.ireturn, 1) := by decide +kernel
theorem dX6_place_62 : decode cX6_place 62 = .ok (.iload_n 2, 1) := by decide +kernel
theorem dX6_place_63 : decode cX6_place 63 = .ok (.iconst (-1), 1) := by decide +kernel
theorem dX6_place_64 : decode cX6_place 64 = .ok (.if_icmp .ne 7, 3) := by decide +kernel
theorem dX6_place_67 : decode cX6_place 67 = .ok (.iconst 0, 1) := by decide +kernel
theorem dX6_place_68 : decode cX6_place 68 = .ok (.goto 9, 3) := by decide +kernel
theorem dX6_place_71 : decode cX6_place 71 = .ok (.aload_n 0, 1) := by decide +kernel
theorem dX6_place_72 : decode cX6_place 72 = .ok (.iload_n 1, 1) := by decide +kernel
theorem dX6_place_73 : decode cX6_place 73 = .ok (.iload_n 2, 1) := by decide +kernel
theorem dX6_place_74 : decode cX6_place 74 = .ok (.invokevirtual 118, 3) := by decide +kernel
theorem dX6_place_77 : decode cX6_place 77 = .ok (.istore_n 3, 1) := by decide +kernel
theorem dX6_place_78 : decode cX6_place 78 = .ok (.iload_n 3, 1) := by decide +kernel
theorem dX6_place_79 : decode cX6_place 79 = .ok (.ifCond .ne 10, 3) := by decide +kernel
theorem dX6_place_82 : decode cX6_place 82 = .ok (.aload_n 0, 1) := by decide +kernel
theorem dX6_place_83 : decode cX6_place 83 = .ok (.getfield 42, 3) := by decide +kernel
theorem dX6_place_86 : decode cX6_place 86 = .ok (.iload_n 1, 1) := by decide +kernel
theorem dX6_place_87 : decode cX6_place 87 = .ok (.iload_n 2, 1) := by decide +kernel
theorem dX6_place_88 : decode cX6_place 88 = .ok (.iastore, 1) := by decide +kernel
theorem dX6_place_89 : decode cX6_place 89 = .ok (.iload_n 3, 1) := by decide +kernel
theorem dX6_place_90 : decode cX6_place 90 = .ok (.ireturn, 1) := by decide +kernel
theorem dX6_at_0 : decode cX6_at 0 = .ok (.aload_n 0, 1) := by decide +kernel
theorem dX6_at_1 : decode cX6_at 1 = .ok (.aload_n 0, 1) := by decide +kernel
theorem dX6_at_2 : decode cX6_at 2 = .ok (.iload_n 1, 1) := by decide +kernel
theorem dX6_at_3 : decode cX6_at 3 = .ok (.invokevirtual 115, 3) := by decide +kernel
theorem dX6_at_6 : decode cX6_at 6 = .ok (.ifCond .eq 7, 3) := by decide +kernel
theorem dX6_at_9 : decode cX6_at 9 = .ok (.iconst 0, 1) := by decide +kernel
theorem dX6_at_10 : decode cX6_at 10 = .ok (.goto 4, 3) := by decide +kernel
theorem dX6_at_13 : decode cX6_at 13 = .ok (.iconst 1, 1) := by decide +kernel
theorem dX6_at_14 : decode cX6_at 14 = .ok (.putfield 54, 3) := by decide +kernel
theorem dX6_at_17 : decode cX6_at 17 = .ok (.aload_n 0, 1) := by decide +kernel
theorem dX6_at_18 : decode cX6_at 18 = .ok (.getfield 54, 3) := by decide +kernel
theorem dX6_at_21 : decode cX6_at 21 = .ok (.ifCond .eq 7, 3) := by decide +kernel
theorem dX6_at_24 : decode cX6_at 24 = .ok (.iconst 0, 1) := by decide +kernel
theorem dX6_at_25 : decode cX6_at 25 = .ok (.goto 9, 3) := by decide +kernel
theorem dX6_at_28 : decode cX6_at 28 = .ok (.aload_n 0, 1) := by decide +kernel
theorem dX6_at_29 : decode cX6_at 29 = .ok (.getfield 42, 3) := by decide +kernel
theorem dX6_at_32 : decode cX6_at 32 = .ok (.iload_n 1, 1) := by decide +kernel
theorem dX6_at_33 : decode cX6_at 33 = .ok (.iaload, 1) := by decide +kernel
theorem dX6_at_34 : decode cX6_at 34 = .ok (.ireturn, 1) := by decide +kernel
theorem dX6_common_0 : decode cX6_common 0 = .ok (.iload_n 0, 1) := by decide +kernel
theorem dX6_common_1 : decode cX6_common 1 = .ok (.ifCond .ge 8, 3) := by decide +kernel
theorem dX6_common_4 : decode cX6_common 4 = .ok (.iload_n 0, 1) := by decide +kernel
theorem dX6_common_5 : decode cX6_common 5 = .ok (.ineg, 1) := by decide +kernel
theorem dX6_common_6 : decode cX6_common 6 = .ok (.goto 4, 3) := by decide +kernel
theorem dX6_common_9 : decode cX6_common 9 = .ok (.iload_n 0, 1) := by decide +kernel
theorem dX6_common_10 : decode cX6_common 10 = .ok (.istore_n 2, 1) := by decide +kernel
theorem dX6_common_11 : decode cX6_common 11 = .ok (.iload_n 1, 1) := by decide +kernel
theorem dX6_common_12 : decode cX6_common 12 = .ok (.istore_n 3, 1) := by decide +kernel
theorem dX6_common_13 : decode cX6_common 13 = .ok (.iload_n 3, 1) := by decide +kernel
theorem dX6_common_14 : decode cX6_common 14 = .ok (.ifCond .eq 16, 3) := by decide +kernel
theorem dX6_common_17 : decode cX6_common 17 = .ok (.iload_n 2, 1) := by decide +kernel
theorem dX6_common_18 : decode cX6_common 18 = .ok (.iload_n 3, 1) := by decide +kernel
theorem dX6_common_19 : decode cX6_common 19 = .ok (.irem, 1) := by decide +kernel
theorem dX6_common_20 : decode cX6_common 20 = .ok (.istore 4, 2) := by decide +kernel
theorem dX6_common_22 : decode cX6_common 22 = .ok (.iload_n 3, 1) := by decide +kernel
theorem dX6_common_23 : decode cX6_common 23 = .ok (.istore_n 2, 1) := by decide +kernel
theorem dX6_common_24 : decode cX6_common 24 = .ok (.iload 4, 2) := by decide +kernel
theorem dX6_common_26 : decode cX6_common 26 = .ok (.istore_n 3, 1) := by decide +kernel
theorem dX6_common_27 : decode cX6_common 27 = .ok (.goto (-14), 3) := by decide +kernel
theorem dX6_common_30 : decode cX6_common 30 = .ok (.iload_n 2, 1) := by decide +kernel
theorem dX6_common_31 : decode cX6_common 31 = .ok (.ireturn, 1) := by decide +kernel
theorem dX6_axle_0 : decode cX6_axle 0 = .ok (.aload_n 0, 1) := by decide +kernel
theorem dX6_axle_1 : decode cX6_axle 1 = .ok (.iload_n 1, 1) := by decide +kernel
theorem dX6_axle_2 : decode cX6_axle 2 = .ok (.iconst 0, 1) := by decide +kernel
theorem dX6_axle_3 : decode cX6_axle 3 = .ok (.iconst 1, 1) := by decide +kernel
theorem dX6_axle_4 : decode cX6_axle 4 = .ok (.invokestatic 60, 3) := by decide +kernel
theorem dX6_axle_7 : decode cX6_axle 7 = .ok (.ifCond .eq 12, 3) := by decide +kernel
theorem dX6_axle_10 : decode cX6_axle 10 = .ok (.iload_n 2, 1) := by decide +kernel
theorem dX6_axle_11 : decode cX6_axle 11 = .ok (.iconst 0, 1) := by decide +kernel
theorem dX6_axle_12 : decode cX6_axle 12 = .ok (.iconst 1, 1) := by decide +kernel
theorem dX6_axle_13 : decode cX6_axle 13 = .ok (.invokestatic 60, 3) := by decide +kernel
theorem dX6_axle_16 : decode cX6_axle 16 = .ok (.ifCond .ne 7, 3) := by decide +kernel
theorem dX6_axle_19 : decode cX6_axle 19 = .ok (.iconst 1, 1) := by decide +kernel
theorem dX6_axle_20 : decode cX6_axle 20 = .ok (.goto 15, 3) := by decide +kernel
theorem dX6_axle_23 : decode cX6_axle 23 = .ok (.aload_n 0, 1) := by decide +kernel
theorem dX6_axle_24 : decode cX6_axle 24 = .ok (.invokevirtual 96, 3) := by decide +kernel
theorem dX6_axle_27 : decode cX6_axle 27 = .ok (.ifCond .ne 7, 3) := by decide +kernel
theorem dX6_axle_30 : decode cX6_axle 30 = .ok (.iconst 2, 1) := by decide +kernel
theorem dX6_axle_31 : decode cX6_axle 31 = .ok (.goto 4, 3) := by decide +kernel
theorem dX6_axle_34 : decode cX6_axle 34 = .ok (.iconst 0, 1) := by decide +kernel
theorem dX6_axle_35 : decode cX6_axle 35 = .ok (.putfield 54, 3) := by decide +kernel
theorem dX6_axle_38 : decode cX6_axle 38 = .ok (.aload_n 0, 1) := by decide +kernel
theorem dX6_axle_39 : decode cX6_axle 39 = .ok (.getfield 54, 3) := by decide +kernel
theorem dX6_axle_42 : decode cX6_axle 42 = .ok (.ifCond .eq 5, 3) := by decide +kernel
theorem dX6_axle_45 : decode cX6_axle 45 = .ok (.iconst 0, 1) := by decide +kernel
theorem dX6_axle_46 : decode cX6_axle 46 = .ok (.ireturn, 1) := by decide +kernel
theorem dX6_axle_47 : decode cX6_axle 47 = .ok (.aload_n 0, 1) := by decide +kernel
theorem dX6_axle_48 : decode cX6_axle 48 = .ok (.iload_n 1, 1) := by decide +kernel
theorem dX6_axle_49 : decode cX6_axle 49 = .ok (.invokevirtual 75, 3) := by decide +kernel
theorem dX6_axle_52 : decode cX6_axle 52 = .ok (.istore_n 3, 1) := by decide +kernel
theorem dX6_axle_53 : decode cX6_axle 53 = .ok (.aload_n 0, 1) := by decide +kernel
theorem dX6_axle_54 : decode cX6_axle 54 = .ok (.getfield 17, 3) := by decide +kernel
theorem dX6_axle_57 : decode cX6_axle 57 = .ok (.aload_n 0, 1) := by decide +kernel
theorem dX6_axle_58 : decode cX6_axle 58 = .ok (.getfield 68, 3) := by decide +kernel
theorem dX6_axle_61 : decode cX6_axle 61 = .ok (.isub, 1) := by decide +kernel
theorem dX6_axle_62 : decode cX6_axle 62 = .ok (.istore 4, 2) := by decide +kernel
theorem dX6_axle_64 : decode cX6_axle 64 = .ok (.iload_n 3, 1) := by decide +kernel
theorem dX6_axle_65 : decode cX6_axle 65 = .ok (.iload 4, 2) := by decide +kernel
theorem dX6_axle_67 : decode cX6_axle 67 = .ok (.invokestatic 122, 3) := by decide +kernel
theorem dX6_axle_70 : decode cX6_axle 70 = .ok (.istore 5, 2) := by decide +kernel
theorem dX6_axle_72 : decode cX6_axle 72 = .ok (.iload_n 2, 1) := by decide +kernel
theorem dX6_axle_73 : decode cX6_axle 73 = .ok (.ifCond .ne 10, 3) := by decide +kernel
theorem dX6_axle_76 : decode cX6_axle 76 = .ok (.iload_n 3, 1) := by decide +kernel
theorem dX6_axle_77 : decode cX6_axle 77 = .ok (.iload 5, 2) := by decide +kernel
theorem dX6_axle_79 : decode cX6_axle 79 = .ok (.idiv, 1) := by decide +kernel
theorem dX6_axle_80 : decode cX6_axle 80 = .ok (.goto 8, 3) := by decide +kernel
theorem dX6_axle_83 : decode cX6_axle 83 = .ok (.iload 4, 2) := by decide +kernel
theorem dX6_axle_85 : decode cX6_axle 85 = .ok (.iload 5, 2) := by decide +kernel
theorem dX6_axle_87 : decode cX6_axle 87 = .ok (.idiv, 1) := by decide +kernel
theorem dX6_axle_88 : decode cX6_axle 88 = .ok (.ireturn, 1) := by decide +kernel
theorem dX6_isLeft_0 : decode cX6_isLeft 0 = .ok (.iload_n 1, 1) := by decide +kernel
theorem dX6_isLeft_1 : decode cX6_isLeft 1 = .ok (.bipush 6, 2) := by decide +kernel
theorem dX6_isLeft_3 : decode cX6_isLeft 3 = .ok (.if_icmp .ne 12, 3) := by decide +kernel
theorem dX6_isLeft_6 : decode cX6_isLeft 6 = .ok (.aload_n 0, 1) := by decide +kernel
theorem dX6_isLeft_7 : decode cX6_isLeft 7 = .ok (.iload_n 2, 1) := by decide +kernel
theorem dX6_isLeft_8 : decode cX6_isLeft 8 = .ok (.iload_n 3, 1) := by decide +kernel
theorem dX6_isLeft_9 : decode cX6_isLeft 9 = .ok (.invokevirtual 81, 3) := by decide +kernel
theorem dX6_isLeft_12 : decode cX6_isLeft 12 = .ok (.goto 18, 3) := by decide +kernel
theorem dX6_isLeft_15 : decode cX6_isLeft 15 = .ok (.aload_n 0, 1) := by decide +kernel
theorem dX6_isLeft_16 : decode cX6_isLeft 16 = .ok (.iload_n 1, 1) := by decide +kernel
theorem dX6_isLeft_17 : decode cX6_isLeft 17 = .ok (.iload_n 2, 1) := by decide +kernel
theorem dX6_isLeft_18 : decode cX6_isLeft 18 = .ok (.iload_n 3, 1) := by decide +kernel
theorem dX6_isLeft_19 : decode cX6_isLeft 19 = .ok (.invokevirtual 78, 3) := by decide +kernel
theorem dX6_isLeft_22 : decode cX6_isLeft 22 = .ok (.ifCond .ne 7, 3) := by decide +kernel
theorem dX6_isLeft_25 : decode cX6_isLeft 25 = .ok (.iconst 1, 1) := by decide +kernel
theorem dX6_isLeft_26 : decode cX6_isLeft 26 = .ok (.goto 4, 3) := by decide +kernel
theorem dX6_isLeft_29 : decode cX6_isLeft 29 = .ok (.iconst 0, 1) := by decide +kernel
theorem dX6_isLeft_30 : decode cX6_isLeft 30 = .ok (.ireturn, 1) := by decide +kernel
theorem dX6_bar_0 : decode cX6_bar 0 = .ok (.aload_n 0, 1) := by decide +kernel
theorem dX6_bar_1 : decode cX6_bar 1 = .ok (.aload_n 0, 1) := by decide +kernel
theorem dX6_bar_2 : decode cX6_bar 2 = .ok (.iload_n 1, 1) := by decide +kernel
theorem dX6_bar_3 : decode cX6_bar 3 = .ok (.invokevirtual 115, 3) := by decide +kernel
theorem dX6_bar_6 : decode cX6_bar 6 = .ok (.ifCond .ne 7, 3) := by decide +kernel
theorem dX6_bar_9 : decode cX6_bar 9 = .ok (.iconst 1, 1) := by decide +kernel
theorem dX6_bar_10 : decode cX6_bar 10 = .ok (.goto 18, 3) := by decide +kernel
theorem dX6_bar_13 : decode cX6_bar 13 = .ok (.aload_n 0, 1) := by decide +kernel
theorem dX6_bar_14 : decode cX6_bar 14 = .ok (.getfield 42, 3) := by decide +kernel
theorem dX6_bar_17 : decode cX6_bar 17 = .ok (.iload_n 1, 1) := by decide +kernel
theorem dX6_bar_18 : decode cX6_bar 18 = .ok (.iaload, 1) := by decide +kernel
theorem dX6_bar_19 : decode cX6_bar 19 = .ok (.iconst (-1), 1) := by decide +kernel
theorem dX6_bar_20 : decode cX6_bar 20 = .ok (.if_icmp .eq 7, 3) := by decide +kernel
theorem dX6_bar_23 : decode cX6_bar 23 = .ok (.iconst 2, 1) := by decide +kernel
theorem dX6_bar_24 : decode cX6_bar 24 = .ok (.goto 4, 3) := by decide +kernel
theorem dX6_bar_27 : decode cX6_bar 27 = .ok (.iconst 0, 1) := by decide +kernel
theorem dX6_bar_28 : decode cX6_bar 28 = .ok (.putfield 54, 3) := by decide +kernel
theorem dX6_bar_31 : decode cX6_bar 31 = .ok (.aload_n 0, 1) := by decide +kernel
theorem dX6_bar_32 : decode cX6_bar 32 = .ok (.getfield 54, 3) := by decide +kernel
theorem dX6_bar_35 : decode cX6_bar 35 = .ok (.ifCond .eq 5, 3) := by decide +kernel
theorem dX6_bar_38 : decode cX6_bar 38 = .ok (.iconst 0, 1) := by decide +kernel
theorem dX6_bar_39 : decode cX6_bar 39 = .ok (.ireturn, 1) := by decide +kernel
theorem dX6_bar_40 : decode cX6_bar 40 = .ok (.iconst 1, 1) := by decide +kernel
theorem dX6_bar_41 : decode cX6_bar 41 = .ok (.istore_n 2, 1) := by decide +kernel
theorem dX6_bar_42 : decode cX6_bar 42 = .ok (.iload_n 2, 1) := by decide +kernel
theorem dX6_bar_43 : decode cX6_bar 43 = .ok (.bipush 6, 2) := by decide +kernel
theorem dX6_bar_45 : decode cX6_bar 45 = .ok (.if_icmp .gt 84, 3) := by decide +kernel
theorem dX6_bar_48 : decode cX6_bar 48 = .ok (.iconst 0, 1) := by decide +kernel
theorem dX6_bar_49 : decode cX6_bar 49 = .ok (.istore_n 3, 1) := by decide +kernel
theorem dX6_bar_50 : decode cX6_bar 50 = .ok (.iconst 0, 1) := by decide +kernel
theorem dX6_bar_51 : decode cX6_bar 51 = .ok (.istore 4, 2) := by decide +kernel
theorem dX6_bar_53 : decode cX6_bar 53 = .ok (.iload 4, 2) := by decide +kernel
theorem dX6_bar_55 : decode cX6_bar 55 = .ok (.aload_n 0, 1) := by decide +kernel
theorem dX6_bar_56 : decode cX6_bar 56 = .ok (.getfield 51, 3) := by decide +kernel
theorem dX6_bar_59 : decode cX6_bar 59 = .ok (.if_icmp .ge 58, 3) := by decide +kernel
theorem dX6_bar_62 : decode cX6_bar 62 = .ok (.iconst 1, 1) := by decide +kernel
theorem dX6_bar_63 : decode cX6_bar 63 = .ok (.istore 5, 2) := by decide +kernel
theorem dX6_bar_65 : decode cX6_bar 65 = .ok (.iconst 1, 1) := by decide +kernel
theorem dX6_bar_66 : decode cX6_bar 66 = .ok (.istore 6, 2) := by decide +kernel
theorem dX6_bar_68 : decode cX6_bar 68 = .ok (.iload 6, 2) := by decide +kernel
theorem dX6_bar_70 : decode cX6_bar 70 = .ok (.iload_n 2, 1) := by decide +kernel
theorem dX6_bar_71 : decode cX6_bar 71 = .ok (.if_icmp .gt 25, 3) := by decide +kernel
theorem dX6_bar_74 : decode cX6_bar 74 = .ok (.iload 5, 2) := by decide +kernel
theorem dX6_bar_76 : decode cX6_bar 76 = .ok (.ifCond .eq 20, 3) := by decide +kernel
theorem dX6_bar_79 : decode cX6_bar 79 = .ok (.aload_n 0, 1) := by decide +kernel
theorem dX6_bar_80 : decode cX6_bar 80 = .ok (.iload 6, 2) := by decide +kernel
theorem dX6_bar_82 : decode cX6_bar 82 = .ok (.iload_n 1, 1) := by decide +kernel
theorem dX6_bar_83 : decode cX6_bar 83 = .ok (.iload 4, 2) := by decide +kernel
theorem dX6_bar_85 : decode cX6_bar 85 = .ok (.invokevirtual 125, 3) := by decide +kernel
theorem dX6_bar_88 : decode cX6_bar 88 = .ok (.istore 5, 2) := by decide +kernel
theorem dX6_bar_90 : decode cX6_bar 90 = .ok (.iinc 6 1, 3) := by decide +kernel
theorem dX6_bar_93 : decode cX6_bar 93 = .ok (.goto (-25), 3) := by decide +kernel
theorem dX6_bar_96 : decode cX6_bar 96 = .ok (.iload_n 3, 1) := by decide +kernel
theorem dX6_bar_97 : decode cX6_bar 97 = .ok (.ifCond .ne 8, 3) := by decide +kernel
theorem dX6_bar_100 : decode cX6_bar 100 = .ok (.iload 5, 2) := by decide +kernel
theorem dX6_bar_102 : decode cX6_bar 102 = .ok (.ifCond .eq 7, 3) := by decide +kernel
theorem dX6_bar_105 : decode cX6_bar 105 = .ok (.iconst 1, 1) := by decide +kernel
theorem dX6_bar_106 : decode cX6_bar 106 = .ok (.goto 4, 3) := by decide +kernel
theorem dX6_bar_109 : decode cX6_bar 109 = .ok (.iconst 0, 1) := by decide +kernel
theorem dX6_bar_110 : decode cX6_bar 110 = .ok (.istore_n 3, 1) := by decide +kernel
theorem dX6_bar_111 : decode cX6_bar 111 = .ok (.iinc 4 1, 3) := by decide +kernel
theorem dX6_bar_114 : decode cX6_bar 114 = .ok (.goto (-61), 3) := by decide +kernel
theorem dX6_bar_117 : decode cX6_bar 117 = .ok (.iload_n 3, 1) := by decide +kernel
theorem dX6_bar_118 : decode cX6_bar 118 = .ok (.ifCond .ne 5, 3) := by decide +kernel
theorem dX6_bar_121 : decode cX6_bar 121 = .ok (.iload_n 2, 1) := by decide +kernel
theorem dX6_bar_122 : decode cX6_bar 122 = .ok (.ireturn, 1) := by decide +kernel
theorem dX6_bar_123 : decode cX6_bar 123 = .ok (.iinc 2 1, 3) := by decide +kernel
theorem dX6_bar_126 : decode cX6_bar 126 = .ok (.goto (-84), 3) := by decide +kernel
theorem dX6_bar_129 : decode cX6_bar 129 = .ok (.iconst 0, 1) := by decide +kernel
theorem dX6_bar_130 : decode cX6_bar 130 = .ok (.ireturn, 1) := by decide +kernel
theorem dX6_change_0 : decode cX6_change 0 = .ok (.aload_n 0, 1) := by decide +kernel
theorem dX6_change_1 : decode cX6_change 1 = .ok (.aload_n 0, 1) := by decide +kernel
theorem dX6_change_2 : decode cX6_change 2 = .ok (.iload_n 1, 1) := by decide +kernel
theorem dX6_change_3 : decode cX6_change 3 = .ok (.invokevirtual 115, 3) := by decide +kernel
theorem dX6_change_6 : decode cX6_change 6 = .ok (.ifCond .ne 7, 3) := by decide +kernel
theorem dX6_change_9 : decode cX6_change 9 = .ok (.iconst 1, 1) := by decide +kernel
theorem dX6_change_10 : decode cX6_change 10 = .ok (.goto 29, 3) := by decide +kernel
theorem dX6_change_13 : decode cX6_change 13 = .ok (.iload_n 2, 1) := by decide +kernel
theorem dX6_change_14 : decode cX6_change 14 = .ok (.iconst 1, 1) := by decide +kernel
theorem dX6_change_15 : decode cX6_change 15 = .ok (.bipush 9, 2) := by decide +kernel
theorem dX6_change_17 : decode cX6_change 17 = .ok (.invokestatic 60, 3) := by decide +kernel
theorem dX6_change_20 : decode cX6_change 20 = .ok (.ifCond .ne 7, 3) := by decide +kernel
theorem dX6_change_23 : decode cX6_change 23 = .ok (.iconst 2, 1) := by decide +kernel
theorem dX6_change_24 : decode cX6_change 24 = .ok (.goto 15, 3) := by decide +kernel
theorem dX6_change_27 : decode cX6_change 27 = .ok (.aload_n 0, 1) := by decide +kernel
theorem dX6_change_28 : decode cX6_change 28 = .ok (.getfield 71, 3) := by decide +kernel
theorem dX6_change_31 : decode cX6_change 31 = .ok (.ifCond .eq 7, 3) := by decide +kernel
theorem dX6_change_34 : decode cX6_change 34 = .ok (.iconst 3, 1) := by decide +kernel
theorem dX6_change_35 : decode cX6_change 35 = .ok (.goto 4, 3) := by decide +kernel
theorem dX6_change_38 : decode cX6_change 38 = .ok (.iconst 0, 1) := by decide +kernel
theorem dX6_change_39 : decode cX6_change 39 = .ok (.putfield 54, 3) := by decide +kernel
theorem dX6_change_42 : decode cX6_change 42 = .ok (.aload_n 0, 1) := by decide +kernel
theorem dX6_change_43 : decode cX6_change 43 = .ok (.getfield 54, 3) := by decide +kernel
theorem dX6_change_46 : decode cX6_change 46 = .ok (.ifCond .eq 5, 3) := by decide +kernel
theorem dX6_change_49 : decode cX6_change 49 = .ok (.iconst 0, 1) := by decide +kernel
theorem dX6_change_50 : decode cX6_change 50 = .ok (.ireturn, 1) := by decide +kernel
theorem dX6_change_51 : decode cX6_change 51 = .ok (.aload_n 0, 1) := by decide +kernel
theorem dX6_change_52 : decode cX6_change 52 = .ok (.getfield 36, 3) := by decide +kernel
theorem dX6_change_55 : decode cX6_change 55 = .ok (.iload_n 1, 1) := by decide +kernel
theorem dX6_change_56 : decode cX6_change 56 = .ok (.iaload, 1) := by decide +kernel
theorem dX6_change_57 : decode cX6_change 57 = .ok (.istore_n 3, 1) := by decide +kernel
theorem dX6_change_58 : decode cX6_change 58 = .ok (.aload_n 0, 1) := by decide +kernel
theorem dX6_change_59 : decode cX6_change 59 = .ok (.getfield 36, 3) := by decide +kernel
theorem dX6_change_62 : decode cX6_change 62 = .ok (.iload_n 1, 1) := by decide +kernel
theorem dX6_change_63 : decode cX6_change 63 = .ok (.iload_n 2, 1) := by decide +kernel
theorem dX6_change_64 : decode cX6_change 64 = .ok (.iastore, 1) := by decide +kernel
theorem dX6_change_65 : decode cX6_change 65 = .ok (.aload_n 0, 1) := by decide +kernel
theorem dX6_change_66 : decode cX6_change 66 = .ok (.getfield 42, 3) := by decide +kernel
theorem dX6_change_69 : decode cX6_change 69 = .ok (.iload_n 1, 1) := by decide +kernel
theorem dX6_change_70 : decode cX6_change 70 = .ok (.iaload, 1) := by decide +kernel
theorem dX6_change_71 : decode cX6_change 71 = .ok (.iconst (-1), 1) := by decide +kernel
theorem dX6_change_72 : decode cX6_change 72 = .ok (.if_icmp .eq 27, 3) := by decide +kernel
theorem dX6_change_75 : decode cX6_change 75 = .ok (.aload_n 0, 1) := by decide +kernel
theorem dX6_change_76 : decode cX6_change 76 = .ok (.iconst 5, 1) := by decide +kernel
theorem dX6_change_77 : decode cX6_change 77 = .ok (.iload_n 1, 1) := by decide +kernel
theorem dX6_change_78 : decode cX6_change 78 = .ok (.aload_n 0, 1) := by decide +kernel
theorem dX6_change_79 : decode cX6_change 79 = .ok (.getfield 42, 3) := by decide +kernel
theorem dX6_change_82 : decode cX6_change 82 = .ok (.iload_n 1, 1) := by decide +kernel
theorem dX6_change_83 : decode cX6_change 83 = .ok (.iaload, 1) := by decide +kernel
theorem dX6_change_84 : decode cX6_change 84 = .ok (.invokevirtual 78, 3) := by decide +kernel
theorem dX6_change_87 : decode cX6_change 87 = .ok (.ifCond .eq 12, 3) := by decide +kernel
theorem dX6_change_90 : decode cX6_change 90 = .ok (.aload_n 0, 1) := by decide +kernel
theorem dX6_change_91 : decode cX6_change 91 = .ok (.getfield 36, 3) := by decide +kernel
theorem dX6_change_94 : decode cX6_change 94 = .ok (.iload_n 1, 1) := by decide +kernel
theorem dX6_change_95 : decode cX6_change 95 = .ok (.iload_n 3, 1) := by decide +kernel
theorem dX6_change_96 : decode cX6_change 96 = .ok (.iastore, 1) := by decide +kernel
theorem dX6_change_97 : decode cX6_change 97 = .ok (.iconst 0, 1) := by decide +kernel
theorem dX6_change_98 : decode cX6_change 98 = .ok (.ireturn, 1) := by decide +kernel
theorem dX6_change_99 : decode cX6_change 99 = .ok (.iconst 1, 1) := by decide +kernel
theorem dX6_change_100 : decode cX6_change 100 = .ok (.ireturn, 1) := by decide +kernel
theorem dX6_doors_0 : decode cX6_doors 0 = .ok (.aload_n 0, 1) := by decide +kernel
theorem dX6_doors_1 : decode cX6_doors 1 = .ok (.iload_n 1, 1) := by decide +kernel
theorem dX6_doors_2 : decode cX6_doors 2 = .ok (.ifCond .eq 14, 3) := by decide +kernel
theorem dX6_doors_5 : decode cX6_doors 5 = .ok (.aload_n 0, 1) := by decide +kernel
theorem dX6_doors_6 : decode cX6_doors 6 = .ok (.getfield 103, 3) := by decide +kernel
theorem dX6_doors_9 : decode cX6_doors 9 = .ok (.ifCond .eq 7, 3) := by decide +kernel
theorem dX6_doors_12 : decode cX6_doors 12 = .ok (.iconst 1, 1) := by decide +kernel
theorem dX6_doors_13 : decode cX6_doors 13 = .ok (.goto 4, 3) := by decide +kernel
theorem dX6_doors_16 : decode cX6_doors 16 = .ok (.iconst 0, 1) := by decide +kernel
theorem dX6_doors_17 : decode cX6_doors 17 = .ok (.putfield 54, 3) := by decide +kernel
theorem dX6_doors_20 : decode cX6_doors 20 = .ok (.aload_n 0, 1) := by decide +kernel
theorem dX6_doors_21 : decode cX6_doors 21 = .ok (.getfield 54, 3) := by decide +kernel
theorem dX6_doors_24 : decode cX6_doors 24 = .ok (.ifCond .eq 5, 3) := by decide +kernel
theorem dX6_doors_27 : decode cX6_doors 27 = .ok (.iconst 0, 1) := by decide +kernel
theorem dX6_doors_28 : decode cX6_doors 28 = .ok (.ireturn, 1) := by decide +kernel
theorem dX6_doors_29 : decode cX6_doors 29 = .ok (.aload_n 0, 1) := by decide +kernel
theorem dX6_doors_30 : decode cX6_doors 30 = .ok (.getfield 71, 3) := by decide +kernel
theorem dX6_doors_33 : decode cX6_doors 33 = .ok (.istore_n 2, 1) := by decide +kernel
theorem dX6_doors_34 : decode cX6_doors 34 = .ok (.aload_n 0, 1) := by decide +kernel
theorem dX6_doors_35 : decode cX6_doors 35 = .ok (.iload_n 1, 1) := by decide +kernel
theorem dX6_doors_36 : decode cX6_doors 36 = .ok (.putfield 71, 3) := by decide +kernel
theorem dX6_doors_39 : decode cX6_doors 39 = .ok (.iload_n 2, 1) := by decide +kernel
theorem dX6_doors_40 : decode cX6_doors 40 = .ok (.ireturn, 1) := by decide +kernel
theorem dX6_seal_0 : decode cX6_seal 0 = .ok (.aload_n 0, 1) := by decide +kernel
theorem dX6_seal_1 : decode cX6_seal 1 = .ok (.iload_n 1, 1) := by decide +kernel
theorem dX6_seal_2 : decode cX6_seal 2 = .ok (.iconst 1, 1) := by decide +kernel
theorem dX6_seal_3 : decode cX6_seal 3 = .ok (.ldc 128, 2) := by decide +kernel
theorem dX6_seal_5 : decode cX6_seal 5 = .ok (.invokestatic 60, 3) := by decide +kernel
theorem dX6_seal_8 : decode cX6_seal 8 = .ok (.ifCond .ne 7, 3) := by decide +kernel
theorem dX6_seal_11 : decode cX6_seal 11 = .ok (.iconst 1, 1) := by decide +kernel
theorem dX6_seal_12 : decode cX6_seal 12 = .ok (.goto 35, 3) := by decide +kernel
theorem dX6_seal_15 : decode cX6_seal 15 = .ok (.aload_n 0, 1) := by decide +kernel
theorem dX6_seal_16 : decode cX6_seal 16 = .ok (.getfield 71, 3) := by decide +kernel
theorem dX6_seal_19 : decode cX6_seal 19 = .ok (.ifCond .ne 10, 3) := by decide +kernel
theorem dX6_seal_22 : decode cX6_seal 22 = .ok (.aload_n 0, 1) := by decide +kernel
theorem dX6_seal_23 : decode cX6_seal 23 = .ok (.getfield 103, 3) := by decide +kernel
theorem dX6_seal_26 : decode cX6_seal 26 = .ok (.ifCond .eq 7, 3) := by decide +kernel
theorem dX6_seal_29 : decode cX6_seal 29 = .ok (.iconst 2, 1) := by decide +kernel
theorem dX6_seal_30 : decode cX6_seal 30 = .ok (.goto 17, 3) := by decide +kernel
theorem dX6_seal_33 : decode cX6_seal 33 = .ok (.aload_n 0, 1) := by decide +kernel
theorem dX6_seal_34 : decode cX6_seal 34 = .ok (.getfield 129, 3) := by decide +kernel
theorem dX6_seal_37 : decode cX6_seal 37 = .ok (.bipush 10, 2) := by decide +kernel
theorem dX6_seal_39 : decode cX6_seal 39 = .ok (.if_icmp .ne 7, 3) := by decide +kernel
theorem dX6_seal_42 : decode cX6_seal 42 = .ok (.iconst 3, 1) := by decide +kernel
theorem dX6_seal_43 : decode cX6_seal 43 = .ok (.goto 4, 3) := by decide +kernel
theorem dX6_seal_46 : decode cX6_seal 46 = .ok (.iconst 0, 1) := by decide +kernel
theorem dX6_seal_47 : decode cX6_seal 47 = .ok (.putfield 54, 3) := by decide +kernel
theorem dX6_seal_50 : decode cX6_seal 50 = .ok (.aload_n 0, 1) := by decide +kernel
theorem dX6_seal_51 : decode cX6_seal 51 = .ok (.getfield 54, 3) := by decide +kernel
theorem dX6_seal_54 : decode cX6_seal 54 = .ok (.ifCond .eq 5, 3) := by decide +kernel
theorem dX6_seal_57 : decode cX6_seal 57 = .ok (.iconst 0, 1) := by decide +kernel
theorem dX6_seal_58 : decode cX6_seal 58 = .ok (.ireturn, 1) := by decide +kernel
theorem dX6_seal_59 : decode cX6_seal 59 = .ok (.iconst 0, 1) := by decide +kernel
theorem dX6_seal_60 : decode cX6_seal 60 = .ok (.istore_n 2, 1) := by decide +kernel
theorem dX6_seal_61 : decode cX6_seal 61 = .ok (.iload_n 2, 1) := by decide +kernel
theorem dX6_seal_62 : decode cX6_seal 62 = .ok (.aload_n 0, 1) := by decide +kernel
theorem dX6_seal_63 : decode cX6_seal 63 = .ok (.getfield 129, 3) := by decide +kernel
theorem dX6_seal_66 : decode cX6_seal 66 = .ok (.if_icmp .ge 21, 3) := by decide +kernel
theorem dX6_seal_69 : decode cX6_seal 69 = .ok (.aload_n 0, 1) := by decide +kernel
theorem dX6_seal_70 : decode cX6_seal 70 = .ok (.getfield 48, 3) := by decide +kernel
theorem dX6_seal_73 : decode cX6_seal 73 = .ok (.iload_n 2, 1) := by decide +kernel
theorem dX6_seal_74 : decode cX6_seal 74 = .ok (.iaload, 1) := by decide +kernel
theorem dX6_seal_75 : decode cX6_seal 75 = .ok (.iload_n 1, 1) := by decide +kernel
theorem dX6_seal_76 : decode cX6_seal 76 = .ok (.if_icmp .ne 5, 3) := by decide +kernel
theorem dX6_seal_79 : decode cX6_seal 79 = .ok (.iconst 0, 1) := by decide +kernel
theorem dX6_seal_80 : decode cX6_seal 80 = .ok (.ireturn, 1) := by decide +kernel
theorem dX6_seal_81 : decode cX6_seal 81 = .ok (.iinc 2 1, 3) := by decide +kernel
theorem dX6_seal_84 : decode cX6_seal 84 = .ok (.goto (-23), 3) := by decide +kernel
theorem dX6_seal_87 : decode cX6_seal 87 = .ok (.aload_n 0, 1) := by decide +kernel
theorem dX6_seal_88 : decode cX6_seal 88 = .ok (.getfield 48, 3) := by decide +kernel
theorem dX6_seal_91 : decode cX6_seal 91 = .ok (.aload_n 0, 1) := by decide +kernel
theorem dX6_seal_92 : decode cX6_seal 92 = .ok (.getfield 129, 3) := by decide +kernel
theorem dX6_seal_95 : decode cX6_seal 95 = .ok (.iload_n 1, 1) := by decide +kernel
theorem dX6_seal_96 : decode cX6_seal 96 = .ok (.iastore, 1) := by decide +kernel
theorem dX6_seal_97 : decode cX6_seal 97 = .ok (.aload_n 0, 1) := by decide +kernel
theorem dX6_seal_98 : decode cX6_seal 98 = .ok (.dup, 1) := by decide +kernel
theorem dX6_seal_99 : decode cX6_seal 99 = .ok (.getfield 129, 3) := by decide +kernel
theorem dX6_seal_102 : decode cX6_seal 102 = .ok (.iconst 1, 1) := by decide +kernel
theorem dX6_seal_103 : decode cX6_seal 103 = .ok (.iadd, 1) := by decide +kernel
theorem dX6_seal_104 : decode cX6_seal 104 = .ok (.putfield 129, 3) := by decide +kernel
theorem dX6_seal_107 : decode cX6_seal 107 = .ok (.aload_n 0, 1) := by decide +kernel
theorem dX6_seal_108 : decode cX6_seal 108 = .ok (.iload_n 1, 1) := by decide +kernel
theorem dX6_seal_109 : decode cX6_seal 109 = .ok (.putfield 103, 3) := by decide +kernel
theorem dX6_seal_112 : decode cX6_seal 112 = .ok (.iconst 1, 1) := by decide +kernel
theorem dX6_seal_113 : decode cX6_seal 113 = .ok (.ireturn, 1) := by decide +kernel
theorem dX6_broken_0 : decode cX6_broken 0 = .ok (.aload_n 0, 1) := by decide +kernel
theorem dX6_broken_1 : decode cX6_broken 1 = .ok (.aload_n 0, 1) := by decide +kernel
theorem dX6_broken_2 : decode cX6_broken 2 = .ok (.getfield 103, 3) := by decide +kernel
theorem dX6_broken_5 : decode cX6_broken 5 = .ok (.ifCond .ne 7, 3) := by decide +kernel
theorem dX6_broken_8 : decode cX6_broken 8 = .ok (.iconst 1, 1) := by decide +kernel
theorem dX6_broken_9 : decode cX6_broken 9 = .ok (.goto 4, 3) := by decide +kernel
theorem dX6_broken_12 : decode cX6_broken 12 = .ok (.iconst 0, 1) := by decide +kernel
theorem dX6_broken_13 : decode cX6_broken 13 = .ok (.putfield 54, 3) := by decide +kernel
theorem dX6_broken_16 : decode cX6_broken 16 = .ok (.aload_n 0, 1) := by decide +kernel
theorem dX6_broken_17 : decode cX6_broken 17 = .ok (.getfield 103, 3) := by decide +kernel
theorem dX6_broken_20 : decode cX6_broken 20 = .ok (.istore_n 1, 1) := by decide +kernel
theorem dX6_broken_21 : decode cX6_broken 21 = .ok (.aload_n 0, 1) := by decide +kernel
theorem dX6_broken_22 : decode cX6_broken 22 = .ok (.iconst 0, 1) := by decide +kernel
theorem dX6_broken_23 : decode cX6_broken 23 = .ok (.putfield 103, 3) := by decide +kernel
theorem dX6_broken_26 : decode cX6_broken 26 = .ok (.iload_n 1, 1) := by decide +kernel
theorem dX6_broken_27 : decode cX6_broken 27 = .ok (.ireturn, 1) := by decide +kernel
theorem dX6_order_0 : decode cX6_order 0 = .ok (.aload_n 0, 1) := by decide +kernel
theorem dX6_order_1 : decode cX6_order 1 = .ok (.iload_n 1, 1) := by decide +kernel
theorem dX6_order_2 : decode cX6_order 2 = .ok (.iconst 1, 1) := by decide +kernel
theorem dX6_order_3 : decode cX6_order 3 = .ok (.bipush 9, 2) := by decide +kernel
theorem dX6_order_5 : decode cX6_order 5 = .ok (.invokestatic 60, 3) := by decide +kernel
theorem dX6_order_8 : decode cX6_order 8 = .ok (.ifCond .eq 11, 3) := by decide +kernel
theorem dX6_order_11 : decode cX6_order 11 = .ok (.iload_n 2, 1) := by decide +kernel
theorem dX6_order_12 : decode cX6_order 12 = .ok (.ifCond .lt 7, 3) := by decide +kernel
theorem dX6_order_15 : decode cX6_order 15 = .ok (.iconst 0, 1) := by decide +kernel
theorem dX6_order_16 : decode cX6_order 16 = .ok (.goto 4, 3) := by decide +kernel
theorem dX6_order_19 : decode cX6_order 19 = .ok (.iconst 1, 1) := by decide +kernel
theorem dX6_order_20 : decode cX6_order 20 = .ok (.putfield 54, 3) := by decide +kernel
theorem dX6_order_23 : decode cX6_order 23 = .ok (.aload_n 0, 1) := by decide +kernel
theorem dX6_order_24 : decode cX6_order 24 = .ok (.getfield 54, 3) := by decide +kernel
theorem dX6_order_27 : decode cX6_order 27 = .ok (.ifCond .eq 5, 3) := by decide +kernel
theorem dX6_order_30 : decode cX6_order 30 = .ok (.iconst 0, 1) := by decide +kernel
theorem dX6_order_31 : decode cX6_order 31 = .ok (.ireturn, 1) := by decide +kernel
theorem dX6_order_32 : decode cX6_order 32 = .ok (.iconst 0, 1) := by decide +kernel
theorem dX6_order_33 : decode cX6_order 33 = .ok (.istore_n 3, 1) := by decide +kernel
theorem dX6_order_34 : decode cX6_order 34 = .ok (.aload_n 0, 1) := by decide +kernel
theorem dX6_order_35 : decode cX6_order 35 = .ok (.getfield 51, 3) := by decide +kernel
theorem dX6_order_38 : decode cX6_order 38 = .ok (.iconst 1, 1) := by decide +kernel
theorem dX6_order_39 : decode cX6_order 39 = .ok (.isub, 1) := by decide +kernel
theorem dX6_order_40 : decode cX6_order 40 = .ok (.istore 4, 2) := by decide +kernel
theorem dX6_order_42 : decode cX6_order 42 = .ok (.iload 4, 2) := by decide +kernel
theorem dX6_order_44 : decode cX6_order 44 = .ok (.ifCond .lt 45, 3) := by decide +kernel
theorem dX6_order_47 : decode cX6_order 47 = .ok (.aload_n 0, 1) := by decide +kernel
theorem dX6_order_48 : decode cX6_order 48 = .ok (.iload 4, 2) := by decide +kernel
theorem dX6_order_50 : decode cX6_order 50 = .ok (.invokevirtual 64, 3) := by decide +kernel
theorem dX6_order_53 : decode cX6_order 53 = .ok (.istore 5, 2) := by decide +kernel
theorem dX6_order_55 : decode cX6_order 55 = .ok (.iload 5, 2) := by decide +kernel
theorem dX6_order_57 : decode cX6_order 57 = .ok (.iconst (-1), 1) := by decide +kernel
theorem dX6_order_58 : decode cX6_order 58 = .ok (.if_icmp .eq 25, 3) := by decide +kernel
theorem dX6_order_61 : decode cX6_order 61 = .ok (.aload_n 0, 1) := by decide +kernel
theorem dX6_order_62 : decode cX6_order 62 = .ok (.getfield 36, 3) := by decide +kernel
theorem dX6_order_65 : decode cX6_order 65 = .ok (.iload 5, 2) := by decide +kernel
theorem dX6_order_67 : decode cX6_order 67 = .ok (.iaload, 1) := by decide +kernel
theorem dX6_order_68 : decode cX6_order 68 = .ok (.iload_n 1, 1) := by decide +kernel
theorem dX6_order_69 : decode cX6_order 69 = .ok (.if_icmp .ne 14, 3) := by decide +kernel
theorem dX6_order_72 : decode cX6_order 72 = .ok (.iload_n 3, 1) := by decide +kernel
theorem dX6_order_73 : decode cX6_order 73 = .ok (.iload_n 2, 1) := by decide +kernel
theorem dX6_order_74 : decode cX6_order 74 = .ok (.if_icmp .ne 6, 3) := by decide +kernel
theorem dX6_order_77 : decode cX6_order 77 = .ok (.iload 5, 2) := by decide +kernel
theorem dX6_order_79 : decode cX6_order 79 = .ok (.ireturn, 1) := by decide +kernel
theorem dX6_order_80 : decode cX6_order 80 = .ok (.iinc 3 1, 3) := by decide +kernel
theorem dX6_order_83 : decode cX6_order 83 = .ok (.iinc 4 (-1), 3) := by decide +kernel
theorem dX6_order_86 : decode cX6_order 86 = .ok (.goto (-44), 3) := by decide +kernel
theorem dX6_order_89 : decode cX6_order 89 = .ok (.iconst (-1), 1) := by decide +kernel
theorem dX6_order_90 : decode cX6_order 90 = .ok (.ireturn, 1) := by decide +kernel
theorem dX6_manifest_0 : decode cX6_manifest 0 = .ok (.aload_n 0, 1) := by decide +kernel
theorem dX6_manifest_1 : decode cX6_manifest 1 = .ok (.iload_n 1, 1) := by decide +kernel
theorem dX6_manifest_2 : decode cX6_manifest 2 = .ok (.iconst 0, 1) := by decide +kernel
theorem dX6_manifest_3 : decode cX6_manifest 3 = .ok (.sipush 10000, 3) := by decide +kernel
theorem dX6_manifest_6 : decode cX6_manifest 6 = .ok (.invokestatic 60, 3) := by decide +kernel
theorem dX6_manifest_9 : decode cX6_manifest 9 = .ok (.ifCond .eq 7, 3) := by decide +kernel
theorem dX6_manifest_12 : decode cX6_manifest 12 = .ok (.iconst 0, 1) := by decide +kernel
theorem dX6_manifest_13 : decode cX6_manifest 13 = .ok (.goto 4, 3) := by decide +kernel
theorem dX6_manifest_16 : decode cX6_manifest 16 = .ok (.iconst 1, 1) := by decide +kernel
theorem dX6_manifest_17 : decode cX6_manifest 17 = .ok (.putfield 54, 3) := by decide +kernel
theorem dX6_manifest_20 : decode cX6_manifest 20 = .ok (.aload_n 0, 1) := by decide +kernel
theorem dX6_manifest_21 : decode cX6_manifest 21 = .ok (.getfield 54, 3) := by decide +kernel
theorem dX6_manifest_24 : decode cX6_manifest 24 = .ok (.ifCond .eq 7, 3) := by decide +kernel
theorem dX6_manifest_27 : decode cX6_manifest 27 = .ok (.iconst 0, 1) := by decide +kernel
theorem dX6_manifest_28 : decode cX6_manifest 28 = .ok (.goto 9, 3) := by decide +kernel
theorem dX6_manifest_31 : decode cX6_manifest 31 = .ok (.iload_n 1, 1) := by decide +kernel
theorem dX6_manifest_32 : decode cX6_manifest 32 = .ok (.aload_n 0, 1) := by decide +kernel
theorem dX6_manifest_33 : decode cX6_manifest 33 = .ok (.invokevirtual 100, 3) := by decide +kernel
theorem dX6_manifest_36 : decode cX6_manifest 36 = .ok (.isub, 1) := by decide +kernel
theorem dX6_manifest_37 : decode cX6_manifest 37 = .ok (.ireturn, 1) := by decide +kernel
theorem dX6_count_0 : decode cX6_count 0 = .ok (.aload_n 0, 1) := by decide +kernel
theorem dX6_count_1 : decode cX6_count 1 = .ok (.iconst 0, 1) := by decide +kernel
theorem dX6_count_2 : decode cX6_count 2 = .ok (.putfield 54, 3) := by decide +kernel
theorem dX6_count_5 : decode cX6_count 5 = .ok (.iload_n 1, 1) := by decide +kernel
theorem dX6_count_6 : decode cX6_count 6 = .ok (.tableswitch 76 0 5 #[38, 43, 48, 53, 66, 71], 38) := by decide +kernel
theorem dX6_count_44 : decode cX6_count 44 = .ok (.aload_n 0, 1) := by decide +kernel
theorem dX6_count_45 : decode cX6_count 45 = .ok (.getfield 51, 3) := by decide +kernel
theorem dX6_count_48 : decode cX6_count 48 = .ok (.ireturn, 1) := by decide +kernel
theorem dX6_count_49 : decode cX6_count 49 = .ok (.aload_n 0, 1) := by decide +kernel
theorem dX6_count_50 : decode cX6_count 50 = .ok (.getfield 57, 3) := by decide +kernel
theorem dX6_count_53 : decode cX6_count 53 = .ok (.ireturn, 1) := by decide +kernel
theorem dX6_count_54 : decode cX6_count 54 = .ok (.aload_n 0, 1) := by decide +kernel
theorem dX6_count_55 : decode cX6_count 55 = .ok (.invokevirtual 96, 3) := by decide +kernel
theorem dX6_count_58 : decode cX6_count 58 = .ok (.ireturn, 1) := by decide +kernel
theorem dX6_count_59 : decode cX6_count 59 = .ok (.aload_n 0, 1) := by decide +kernel
theorem dX6_count_60 : decode cX6_count 60 = .ok (.getfield 71, 3) := by decide +kernel
theorem dX6_count_63 : decode cX6_count 63 = .ok (.ifCond .eq 7, 3) := by decide +kernel
theorem dX6_count_66 : decode cX6_count 66 = .ok (.iconst 1, 1) := by decide +kernel
theorem dX6_count_67 : decode cX6_count 67 = .ok (.goto 4, 3) := by decide +kernel
theorem dX6_count_70 : decode cX6_count 70 = .ok (.iconst 0, 1) := by decide +kernel
theorem dX6_count_71 : decode cX6_count 71 = .ok (.ireturn, 1) := by decide +kernel
theorem dX6_count_72 : decode cX6_count 72 = .ok (.aload_n 0, 1) := by decide +kernel
theorem dX6_count_73 : decode cX6_count 73 = .ok (.getfield 103, 3) := by decide +kernel
theorem dX6_count_76 : decode cX6_count 76 = .ok (.ireturn, 1) := by decide +kernel
theorem dX6_count_77 : decode cX6_count 77 = .ok (.aload_n 0, 1) := by decide +kernel
theorem dX6_count_78 : decode cX6_count 78 = .ok (.getfield 129, 3) := by decide +kernel
theorem dX6_count_81 : decode cX6_count 81 = .ok (.ireturn, 1) := by decide +kernel
theorem dX6_count_82 : decode cX6_count 82 = .ok (.iconst (-1), 1) := by decide +kernel
theorem dX6_count_83 : decode cX6_count 83 = .ok (.ireturn, 1) := by decide +kernel
end
section
theorem dL_cell_0 : decode cL_cell 0 = .ok (.iload_n 1, 1) := by decide +kernel
theorem dL_cell_1 : decode cL_cell 1 = .ok (.aload_n 0, 1) := by decide +kernel
theorem dL_cell_2 : decode cL_cell 2 = .ok (.arraylength, 1) := by decide +kernel
theorem dL_cell_3 : decode cL_cell 3 = .ok (.if_icmp .ge 9, 3) := by decide +kernel
theorem dL_cell_6 : decode cL_cell 6 = .ok (.aload_n 0, 1) := by decide +kernel
theorem dL_cell_7 : decode cL_cell 7 = .ok (.iload_n 1, 1) := by decide +kernel
theorem dL_cell_8 : decode cL_cell 8 = .ok (.iaload, 1) := by decide +kernel
theorem dL_cell_9 : decode cL_cell 9 = .ok (.goto 4, 3) := by decide +kernel
theorem dL_cell_12 : decode cL_cell 12 = .ok (.iconst 0, 1) := by decide +kernel
theorem dL_cell_13 : decode cL_cell 13 = .ok (.ireturn, 1) := by decide +kernel
theorem dL_cell__0 : decode cL_cell_ 0 = .ok (.aload_n 0, 1) := by decide +kernel
theorem dL_cell__1 : decode cL_cell_ 1 = .ok (.iload_n 1, 1) := by decide +kernel
theorem dL_cell__2 : decode cL_cell_ 2 = .ok (.iload_n 2, 1) := by decide +kernel
theorem dL_cell__3 : decode cL_cell_ 3 = .ok (.iload_n 3, 1) := by decide +kernel
theorem dL_cell__4 : decode cL_cell_ 4 = .ok (.invokevirtual 7, 3) := by decide +kernel
theorem dL_cell__7 : decode cL_cell_ 7 = .ok (.goto 15, 3) := by decide +kernel
theorem dL_cell__10 : decode cL_cell_ 10 = .ok (.astore 4, 2) := by decide +kernel
theorem dL_cell__12 : decode cL_cell_ 12 = .ok (.iconst 1, 1) := by decide +kernel
theorem dL_cell__13 : decode cL_cell_ 13 = .ok (.ireturn, 1) := by decide +kernel
theorem dL_cell__14 : decode cL_cell_ 14 = .ok (.astore 4, 2) := by decide +kernel
theorem dL_cell__16 : decode cL_cell_ 16 = .ok (.iconst 2, 1) := by decide +kernel
theorem dL_cell__17 : decode cL_cell_ 17 = .ok (.ireturn, 1) := by decide +kernel
theorem dL_cell__18 : decode cL_cell_ 18 = .ok (.astore 4, 2) := by decide +kernel
theorem dL_cell__20 : decode cL_cell_ 20 = .ok (.iconst 3, 1) := by decide +kernel
theorem dL_cell__21 : decode cL_cell_ 21 = .ok (.ireturn, 1) := by decide +kernel
theorem dL_cell__22 : decode cL_cell_ 22 = .ok (.iconst 0, 1) := by decide +kernel
theorem dL_cell__23 : decode cL_cell_ 23 = .ok (.ireturn, 1) := by decide +kernel
theorem dL_axles_0 : decode cL_axles 0 = .ok (.aload_n 0, 1) := by decide +kernel
theorem dL_axles_1 : decode cL_axles 1 = .ok (.iload_n 1, 1) := by decide +kernel
theorem dL_axles_2 : decode cL_axles 2 = .ok (.iload_n 2, 1) := by decide +kernel
theorem dL_axles_3 : decode cL_axles 3 = .ok (.iload_n 3, 1) := by decide +kernel
theorem dL_axles_4 : decode cL_axles 4 = .ok (.iload 4, 2) := by decide +kernel
theorem dL_axles_6 : decode cL_axles 6 = .ok (.invokevirtual 19, 3) := by decide +kernel
theorem dL_axles_9 : decode cL_axles 9 = .ok (.goto 7, 3) := by decide +kernel
theorem dL_axles_12 : decode cL_axles 12 = .ok (.astore 5, 2) := by decide +kernel
theorem dL_axles_14 : decode cL_axles 14 = .ok (.iconst 1, 1) := by decide +kernel
theorem dL_axles_15 : decode cL_axles 15 = .ok (.ireturn, 1) := by decide +kernel
theorem dL_axles_16 : decode cL_axles 16 = .ok (.iconst 0, 1) := by decide +kernel
theorem dL_axles_17 : decode cL_axles 17 = .ok (.ireturn, 1) := by decide +kernel
theorem dL_pallet_0 : decode cL_pallet 0 = .ok (.aload 6, 2) := by decide +kernel
theorem dL_pallet_2 : decode cL_pallet 2 = .ok (.iconst 0, 1) := by decide +kernel
theorem dL_pallet_3 : decode cL_pallet 3 = .ok (.aload_n 0, 1) := by decide +kernel
theorem dL_pallet_4 : decode cL_pallet 4 = .ok (.iload_n 1, 1) := by decide +kernel
theorem dL_pallet_5 : decode cL_pallet 5 = .ok (.iload_n 2, 1) := by decide +kernel
theorem dL_pallet_6 : decode cL_pallet 6 = .ok (.iload_n 3, 1) := by decide +kernel
theorem dL_pallet_7 : decode cL_pallet 7 = .ok (.iload 4, 2) := by decide +kernel
theorem dL_pallet_9 : decode cL_pallet 9 = .ok (.iload 5, 2) := by decide +kernel
theorem dL_pallet_11 : decode cL_pallet 11 = .ok (.invokevirtual 23, 3) := by decide +kernel
theorem dL_pallet_14 : decode cL_pallet 14 = .ok (.i2l, 1) := by decide +kernel
theorem dL_pallet_15 : decode cL_pallet 15 = .ok (.lastore, 1) := by decide +kernel
theorem dL_pallet_16 : decode cL_pallet 16 = .ok (.goto 15, 3) := by decide +kernel
theorem dL_pallet_19 : decode cL_pallet 19 = .ok (.astore 7, 2) := by decide +kernel
theorem dL_pallet_21 : decode cL_pallet 21 = .ok (.iconst 1, 1) := by decide +kernel
theorem dL_pallet_22 : decode cL_pallet 22 = .ok (.ireturn, 1) := by decide +kernel
theorem dL_pallet_23 : decode cL_pallet 23 = .ok (.astore 7, 2) := by decide +kernel
theorem dL_pallet_25 : decode cL_pallet 25 = .ok (.iconst 2, 1) := by decide +kernel
theorem dL_pallet_26 : decode cL_pallet 26 = .ok (.ireturn, 1) := by decide +kernel
theorem dL_pallet_27 : decode cL_pallet 27 = .ok (.astore 7, 2) := by decide +kernel
theorem dL_pallet_29 : decode cL_pallet 29 = .ok (.iconst 3, 1) := by decide +kernel
theorem dL_pallet_30 : decode cL_pallet 30 = .ok (.ireturn, 1) := by decide +kernel
theorem dL_pallet_31 : decode cL_pallet 31 = .ok (.iconst 0, 1) := by decide +kernel
theorem dL_pallet_32 : decode cL_pallet 32 = .ok (.ireturn, 1) := by decide +kernel
theorem dL_solve_0 : decode cL_solve 0 = .ok (.aload_n 2, 1) := by decide +kernel
theorem dL_solve_1 : decode cL_solve 1 = .ok (.iconst 0, 1) := by decide +kernel
theorem dL_solve_2 : decode cL_solve 2 = .ok (.aload_n 0, 1) := by decide +kernel
theorem dL_solve_3 : decode cL_solve 3 = .ok (.iload_n 1, 1) := by decide +kernel
theorem dL_solve_4 : decode cL_solve 4 = .ok (.invokevirtual 29, 3) := by decide +kernel
theorem dL_solve_7 : decode cL_solve 7 = .ok (.i2l, 1) := by decide +kernel
theorem dL_solve_8 : decode cL_solve 8 = .ok (.lastore, 1) := by decide +kernel
theorem dL_solve_9 : decode cL_solve 9 = .ok (.goto 9, 3) := by decide +kernel
theorem dL_solve_12 : decode cL_solve 12 = .ok (.astore_n 3, 1) := by decide +kernel
theorem dL_solve_13 : decode cL_solve 13 = .ok (.iconst 1, 1) := by decide +kernel
theorem dL_solve_14 : decode cL_solve 14 = .ok (.ireturn, 1) := by decide +kernel
theorem dL_solve_15 : decode cL_solve 15 = .ok (.astore_n 3, 1) := by decide +kernel
theorem dL_solve_16 : decode cL_solve 16 = .ok (.iconst 2, 1) := by decide +kernel
theorem dL_solve_17 : decode cL_solve 17 = .ok (.ireturn, 1) := by decide +kernel
theorem dL_solve_18 : decode cL_solve 18 = .ok (.iconst 0, 1) := by decide +kernel
theorem dL_solve_19 : decode cL_solve 19 = .ok (.ireturn, 1) := by decide +kernel
theorem dL_place_0 : decode cL_place 0 = .ok (.aload_n 3, 1) := by decide +kernel
theorem dL_place_1 : decode cL_place 1 = .ok (.iconst 0, 1) := by decide +kernel
theorem dL_place_2 : decode cL_place 2 = .ok (.aload_n 0, 1) := by decide +kernel
theorem dL_place_3 : decode cL_place 3 = .ok (.iload_n 1, 1) := by decide +kernel
theorem dL_place_4 : decode cL_place 4 = .ok (.iload_n 2, 1) := by decide +kernel
theorem dL_place_5 : decode cL_place 5 = .ok (.invokevirtual 33, 3) := by decide +kernel
theorem dL_place_8 : decode cL_place 8 = .ok (.i2l, 1) := by decide +kernel
theorem dL_place_9 : decode cL_place 9 = .ok (.lastore, 1) := by decide +kernel
theorem dL_place_10 : decode cL_place 10 = .ok (.goto 15, 3) := by decide +kernel
theorem dL_place_13 : decode cL_place 13 = .ok (.astore 4, 2) := by decide +kernel
theorem dL_place_15 : decode cL_place 15 = .ok (.iconst 1, 1) := by decide +kernel
theorem dL_place_16 : decode cL_place 16 = .ok (.ireturn, 1) := by decide +kernel
theorem dL_place_17 : decode cL_place 17 = .ok (.astore 4, 2) := by decide +kernel
theorem dL_place_19 : decode cL_place 19 = .ok (.iconst 2, 1) := by decide +kernel
theorem dL_place_20 : decode cL_place 20 = .ok (.ireturn, 1) := by decide +kernel
theorem dL_place_21 : decode cL_place 21 = .ok (.astore 4, 2) := by decide +kernel
theorem dL_place_23 : decode cL_place 23 = .ok (.iconst 3, 1) := by decide +kernel
theorem dL_place_24 : decode cL_place 24 = .ok (.ireturn, 1) := by decide +kernel
theorem dL_place_25 : decode cL_place 25 = .ok (.iconst 0, 1) := by decide +kernel
theorem dL_place_26 : decode cL_place 26 = .ok (.ireturn, 1) := by decide +kernel
theorem dL_at_0 : decode cL_at 0 = .ok (.aload_n 2, 1) := by decide +kernel
theorem dL_at_1 : decode cL_at 1 = .ok (.iconst 0, 1) := by decide +kernel
theorem dL_at_2 : decode cL_at 2 = .ok (.aload_n 0, 1) := by decide +kernel
theorem dL_at_3 : decode cL_at 3 = .ok (.iload_n 1, 1) := by decide +kernel
theorem dL_at_4 : decode cL_at 4 = .ok (.invokevirtual 39, 3) := by decide +kernel
theorem dL_at_7 : decode cL_at 7 = .ok (.i2l, 1) := by decide +kernel
theorem dL_at_8 : decode cL_at 8 = .ok (.lastore, 1) := by decide +kernel
theorem dL_at_9 : decode cL_at 9 = .ok (.goto 6, 3) := by decide +kernel
theorem dL_at_12 : decode cL_at 12 = .ok (.astore_n 3, 1) := by decide +kernel
theorem dL_at_13 : decode cL_at 13 = .ok (.iconst 1, 1) := by decide +kernel
theorem dL_at_14 : decode cL_at 14 = .ok (.ireturn, 1) := by decide +kernel
theorem dL_at_15 : decode cL_at 15 = .ok (.iconst 0, 1) := by decide +kernel
theorem dL_at_16 : decode cL_at 16 = .ok (.ireturn, 1) := by decide +kernel
theorem dL_axle_0 : decode cL_axle 0 = .ok (.aload_n 3, 1) := by decide +kernel
theorem dL_axle_1 : decode cL_axle 1 = .ok (.iconst 0, 1) := by decide +kernel
theorem dL_axle_2 : decode cL_axle 2 = .ok (.aload_n 0, 1) := by decide +kernel
theorem dL_axle_3 : decode cL_axle 3 = .ok (.iload_n 1, 1) := by decide +kernel
theorem dL_axle_4 : decode cL_axle 4 = .ok (.iload_n 2, 1) := by decide +kernel
theorem dL_axle_5 : decode cL_axle 5 = .ok (.invokevirtual 42, 3) := by decide +kernel
theorem dL_axle_8 : decode cL_axle 8 = .ok (.i2l, 1) := by decide +kernel
theorem dL_axle_9 : decode cL_axle 9 = .ok (.lastore, 1) := by decide +kernel
theorem dL_axle_10 : decode cL_axle 10 = .ok (.goto 11, 3) := by decide +kernel
theorem dL_axle_13 : decode cL_axle 13 = .ok (.astore 4, 2) := by decide +kernel
theorem dL_axle_15 : decode cL_axle 15 = .ok (.iconst 1, 1) := by decide +kernel
theorem dL_axle_16 : decode cL_axle 16 = .ok (.ireturn, 1) := by decide +kernel
theorem dL_axle_17 : decode cL_axle 17 = .ok (.astore 4, 2) := by decide +kernel
theorem dL_axle_19 : decode cL_axle 19 = .ok (.iconst 2, 1) := by decide +kernel
theorem dL_axle_20 : decode cL_axle 20 = .ok (.ireturn, 1) := by decide +kernel
theorem dL_axle_21 : decode cL_axle 21 = .ok (.iconst 0, 1) := by decide +kernel
theorem dL_axle_22 : decode cL_axle 22 = .ok (.ireturn, 1) := by decide +kernel
theorem dL_bar_0 : decode cL_bar 0 = .ok (.aload_n 2, 1) := by decide +kernel
theorem dL_bar_1 : decode cL_bar 1 = .ok (.iconst 0, 1) := by decide +kernel
theorem dL_bar_2 : decode cL_bar 2 = .ok (.aload_n 0, 1) := by decide +kernel
theorem dL_bar_3 : decode cL_bar 3 = .ok (.iload_n 1, 1) := by decide +kernel
theorem dL_bar_4 : decode cL_bar 4 = .ok (.invokevirtual 47, 3) := by decide +kernel
theorem dL_bar_7 : decode cL_bar 7 = .ok (.i2l, 1) := by decide +kernel
theorem dL_bar_8 : decode cL_bar 8 = .ok (.lastore, 1) := by decide +kernel
theorem dL_bar_9 : decode cL_bar 9 = .ok (.goto 9, 3) := by decide +kernel
theorem dL_bar_12 : decode cL_bar 12 = .ok (.astore_n 3, 1) := by decide +kernel
theorem dL_bar_13 : decode cL_bar 13 = .ok (.iconst 1, 1) := by decide +kernel
theorem dL_bar_14 : decode cL_bar 14 = .ok (.ireturn, 1) := by decide +kernel
theorem dL_bar_15 : decode cL_bar 15 = .ok (.astore_n 3, 1) := by decide +kernel
theorem dL_bar_16 : decode cL_bar 16 = .ok (.iconst 2, 1) := by decide +kernel
theorem dL_bar_17 : decode cL_bar 17 = .ok (.ireturn, 1) := by decide +kernel
theorem dL_bar_18 : decode cL_bar 18 = .ok (.iconst 0, 1) := by decide +kernel
theorem dL_bar_19 : decode cL_bar 19 = .ok (.ireturn, 1) := by decide +kernel
theorem dL_change_0 : decode cL_change 0 = .ok (.aload_n 3, 1) := by decide +kernel
theorem dL_change_1 : decode cL_change 1 = .ok (.iconst 0, 1) := by decide +kernel
theorem dL_change_2 : decode cL_change 2 = .ok (.aload_n 0, 1) := by decide +kernel
theorem dL_change_3 : decode cL_change 3 = .ok (.iload_n 1, 1) := by decide +kernel
theorem dL_change_4 : decode cL_change 4 = .ok (.iload_n 2, 1) := by decide +kernel
theorem dL_change_5 : decode cL_change 5 = .ok (.invokevirtual 50, 3) := by decide +kernel
theorem dL_change_8 : decode cL_change 8 = .ok (.ifCond .eq 7, 3) := by decide +kernel
theorem dL_change_11 : decode cL_change 11 = .ok (.lconst 1, 1) := by decide +kernel
theorem dL_change_12 : decode cL_change 12 = .ok (.goto 4, 3) := by decide +kernel
theorem dL_change_15 : decode cL_change 15 = .ok (.lconst 0, 1) := by decide +kernel
theorem dL_change_16 : decode cL_change 16 = .ok (.lastore, 1) := by decide +kernel
theorem dL_change_17 : decode cL_change 17 = .ok (.goto 15, 3) := by decide +kernel
theorem dL_change_20 : decode cL_change 20 = .ok (.astore 4, 2) := by decide +kernel
theorem dL_change_22 : decode cL_change 22 = .ok (.iconst 1, 1) := by decide +kernel
theorem dL_change_23 : decode cL_change 23 = .ok (.ireturn, 1) := by decide +kernel
theorem dL_change_24 : decode cL_change 24 = .ok (.astore 4, 2) := by decide +kernel
theorem dL_change_26 : decode cL_change 26 = .ok (.iconst 2, 1) := by decide +kernel
theorem dL_change_27 : decode cL_change 27 = .ok (.ireturn, 1) := by decide +kernel
theorem dL_change_28 : decode cL_change 28 = .ok (.astore 4, 2) := by decide +kernel
theorem dL_change_30 : decode cL_change 30 = .ok (.iconst 3, 1) := by decide +kernel
theorem dL_change_31 : decode cL_change 31 = .ok (.ireturn, 1) := by decide +kernel
theorem dL_change_32 : decode cL_change 32 = .ok (.iconst 0, 1) := by decide +kernel
theorem dL_change_33 : decode cL_change 33 = .ok (.ireturn, 1) := by decide +kernel
theorem dL_doors_0 : decode cL_doors 0 = .ok (.aload_n 2, 1) := by decide +kernel
theorem dL_doors_1 : decode cL_doors 1 = .ok (.iconst 0, 1) := by decide +kernel
theorem dL_doors_2 : decode cL_doors 2 = .ok (.aload_n 0, 1) := by decide +kernel
theorem dL_doors_3 : decode cL_doors 3 = .ok (.iload_n 1, 1) := by decide +kernel
theorem dL_doors_4 : decode cL_doors 4 = .ok (.invokevirtual 54, 3) := by decide +kernel
theorem dL_doors_7 : decode cL_doors 7 = .ok (.ifCond .eq 7, 3) := by decide +kernel
theorem dL_doors_10 : decode cL_doors 10 = .ok (.lconst 1, 1) := by decide +kernel
theorem dL_doors_11 : decode cL_doors 11 = .ok (.goto 4, 3) := by decide +kernel
theorem dL_doors_14 : decode cL_doors 14 = .ok (.lconst 0, 1) := by decide +kernel
theorem dL_doors_15 : decode cL_doors 15 = .ok (.lastore, 1) := by decide +kernel
theorem dL_doors_16 : decode cL_doors 16 = .ok (.goto 6, 3) := by decide +kernel
theorem dL_doors_19 : decode cL_doors 19 = .ok (.astore_n 3, 1) := by decide +kernel
theorem dL_doors_20 : decode cL_doors 20 = .ok (.iconst 1, 1) := by decide +kernel
theorem dL_doors_21 : decode cL_doors 21 = .ok (.ireturn, 1) := by decide +kernel
theorem dL_doors_22 : decode cL_doors 22 = .ok (.iconst 0, 1) := by decide +kernel
theorem dL_doors_23 : decode cL_doors 23 = .ok (.ireturn, 1) := by decide +kernel
theorem dL_seal_0 : decode cL_seal 0 = .ok (.aload_n 2, 1) := by decide +kernel
theorem dL_seal_1 : decode cL_seal 1 = .ok (.iconst 0, 1) := by decide +kernel
theorem dL_seal_2 : decode cL_seal 2 = .ok (.aload_n 0, 1) := by decide +kernel
theorem dL_seal_3 : decode cL_seal 3 = .ok (.iload_n 1, 1) := by decide +kernel
theorem dL_seal_4 : decode cL_seal 4 = .ok (.invokevirtual 58, 3) := by decide +kernel
theorem dL_seal_7 : decode cL_seal 7 = .ok (.ifCond .eq 7, 3) := by decide +kernel
theorem dL_seal_10 : decode cL_seal 10 = .ok (.lconst 1, 1) := by decide +kernel
theorem dL_seal_11 : decode cL_seal 11 = .ok (.goto 4, 3) := by decide +kernel
theorem dL_seal_14 : decode cL_seal 14 = .ok (.lconst 0, 1) := by decide +kernel
theorem dL_seal_15 : decode cL_seal 15 = .ok (.lastore, 1) := by decide +kernel
theorem dL_seal_16 : decode cL_seal 16 = .ok (.goto 12, 3) := by decide +kernel
theorem dL_seal_19 : decode cL_seal 19 = .ok (.astore_n 3, 1) := by decide +kernel
theorem dL_seal_20 : decode cL_seal 20 = .ok (.iconst 1, 1) := by decide +kernel
theorem dL_seal_21 : decode cL_seal 21 = .ok (.ireturn, 1) := by decide +kernel
theorem dL_seal_22 : decode cL_seal 22 = .ok (.astore_n 3, 1) := by decide +kernel
theorem dL_seal_23 : decode cL_seal 23 = .ok (.iconst 2, 1) := by decide +kernel
theorem dL_seal_24 : decode cL_seal 24 = .ok (.ireturn, 1) := by decide +kernel
theorem dL_seal_25 : decode cL_seal 25 = .ok (.astore_n 3, 1) := by decide +kernel
theorem dL_seal_26 : decode cL_seal 26 = .ok (.iconst 3, 1) := by decide +kernel
theorem dL_seal_27 : decode cL_seal 27 = .ok (.ireturn, 1) := by decide +kernel
theorem dL_seal_28 : decode cL_seal 28 = .ok (.iconst 0, 1) := by decide +kernel
theorem dL_seal_29 : decode cL_seal 29 = .ok (.ireturn, 1) := by decide +kernel
theorem dL_broken_0 : decode cL_broken 0 = .ok (.aload_n 1, 1) := by decide +kernel
theorem dL_broken_1 : decode cL_broken 1 = .ok (.iconst 0, 1) := by decide +kernel
theorem dL_broken_2 : decode cL_broken 2 = .ok (.aload_n 0, 1) := by decide +kernel
theorem dL_broken_3 : decode cL_broken 3 = .ok (.invokevirtual 62, 3) := by decide +kernel
theorem dL_broken_6 : decode cL_broken 6 = .ok (.i2l, 1) := by decide +kernel
theorem dL_broken_7 : decode cL_broken 7 = .ok (.lastore, 1) := by decide +kernel
theorem dL_broken_8 : decode cL_broken 8 = .ok (.goto 6, 3) := by decide +kernel
theorem dL_broken_11 : decode cL_broken 11 = .ok (.astore_n 2, 1) := by decide +kernel
theorem dL_broken_12 : decode cL_broken 12 = .ok (.iconst 1, 1) := by decide +kernel
theorem dL_broken_13 : decode cL_broken 13 = .ok (.ireturn, 1) := by decide +kernel
theorem dL_broken_14 : decode cL_broken 14 = .ok (.iconst 0, 1) := by decide +kernel
theorem dL_broken_15 : decode cL_broken 15 = .ok (.ireturn, 1) := by decide +kernel
theorem dL_order_0 : decode cL_order 0 = .ok (.aload_n 3, 1) := by decide +kernel
theorem dL_order_1 : decode cL_order 1 = .ok (.iconst 0, 1) := by decide +kernel
theorem dL_order_2 : decode cL_order 2 = .ok (.aload_n 0, 1) := by decide +kernel
theorem dL_order_3 : decode cL_order 3 = .ok (.iload_n 1, 1) := by decide +kernel
theorem dL_order_4 : decode cL_order 4 = .ok (.iload_n 2, 1) := by decide +kernel
theorem dL_order_5 : decode cL_order 5 = .ok (.invokevirtual 66, 3) := by decide +kernel
theorem dL_order_8 : decode cL_order 8 = .ok (.i2l, 1) := by decide +kernel
theorem dL_order_9 : decode cL_order 9 = .ok (.lastore, 1) := by decide +kernel
theorem dL_order_10 : decode cL_order 10 = .ok (.goto 7, 3) := by decide +kernel
theorem dL_order_13 : decode cL_order 13 = .ok (.astore 4, 2) := by decide +kernel
theorem dL_order_15 : decode cL_order 15 = .ok (.iconst 1, 1) := by decide +kernel
theorem dL_order_16 : decode cL_order 16 = .ok (.ireturn, 1) := by decide +kernel
theorem dL_order_17 : decode cL_order 17 = .ok (.iconst 0, 1) := by decide +kernel
theorem dL_order_18 : decode cL_order 18 = .ok (.ireturn, 1) := by decide +kernel
theorem dL_manifest_0 : decode cL_manifest 0 = .ok (.aload_n 2, 1) := by decide +kernel
theorem dL_manifest_1 : decode cL_manifest 1 = .ok (.iconst 0, 1) := by decide +kernel
theorem dL_manifest_2 : decode cL_manifest 2 = .ok (.aload_n 0, 1) := by decide +kernel
theorem dL_manifest_3 : decode cL_manifest 3 = .ok (.iload_n 1, 1) := by decide +kernel
theorem dL_manifest_4 : decode cL_manifest 4 = .ok (.invokevirtual 69, 3) := by decide +kernel
theorem dL_manifest_7 : decode cL_manifest 7 = .ok (.i2l, 1) := by decide +kernel
theorem dL_manifest_8 : decode cL_manifest 8 = .ok (.lastore, 1) := by decide +kernel
theorem dL_manifest_9 : decode cL_manifest 9 = .ok (.goto 6, 3) := by decide +kernel
theorem dL_manifest_12 : decode cL_manifest 12 = .ok (.astore_n 3, 1) := by decide +kernel
theorem dL_manifest_13 : decode cL_manifest 13 = .ok (.iconst 1, 1) := by decide +kernel
theorem dL_manifest_14 : decode cL_manifest 14 = .ok (.ireturn, 1) := by decide +kernel
theorem dL_manifest_15 : decode cL_manifest 15 = .ok (.iconst 0, 1) := by decide +kernel
theorem dL_manifest_16 : decode cL_manifest 16 = .ok (.ireturn, 1) := by decide +kernel
theorem dL_law_0 : decode cL_law 0 = .ok (.new 8, 3) := by decide +kernel
theorem dL_law_3 : decode cL_law 3 = .ok (.dup, 1) := by decide +kernel
theorem dL_law_4 : decode cL_law 4 = .ok (.aload_n 0, 1) := by decide +kernel
theorem dL_law_5 : decode cL_law 5 = .ok (.iconst 0, 1) := by decide +kernel
theorem dL_law_6 : decode cL_law 6 = .ok (.invokestatic 72, 3) := by decide +kernel
theorem dL_law_9 : decode cL_law 9 = .ok (.invokespecial 77, 3) := by decide +kernel
theorem dL_law_12 : decode cL_law 12 = .ok (.astore_n 1, 1) := by decide +kernel
theorem dL_law_13 : decode cL_law 13 = .ok (.new 80, 3) := by decide +kernel
theorem dL_law_16 : decode cL_law 16 = .ok (.dup, 1) := by decide +kernel
theorem dL_law_17 : decode cL_law 17 = .ok (.aload_n 0, 1) := by decide +kernel
theorem dL_law_18 : decode cL_law 18 = .ok (.iconst 0, 1) := by decide +kernel
theorem dL_law_19 : decode cL_law 19 = .ok (.invokestatic 72, 3) := by decide +kernel
theorem dL_law_22 : decode cL_law 22 = .ok (.invokespecial 82, 3) := by decide +kernel
theorem dL_law_25 : decode cL_law 25 = .ok (.astore_n 2, 1) := by decide +kernel
theorem dL_law_26 : decode cL_law 26 = .ok (.iconst 1, 1) := by decide +kernel
theorem dL_law_27 : decode cL_law 27 = .ok (.newarray .long, 2) := by decide +kernel
theorem dL_law_29 : decode cL_law 29 = .ok (.astore_n 3, 1) := by decide +kernel
theorem dL_law_30 : decode cL_law 30 = .ok (.iconst 1, 1) := by decide +kernel
theorem dL_law_31 : decode cL_law 31 = .ok (.istore 4, 2) := by decide +kernel
theorem dL_law_33 : decode cL_law 33 = .ok (.iload 4, 2) := by decide +kernel
theorem dL_law_35 : decode cL_law 35 = .ok (.aload_n 0, 1) := by decide +kernel
theorem dL_law_36 : decode cL_law 36 = .ok (.arraylength, 1) := by decide +kernel
theorem dL_law_37 : decode cL_law 37 = .ok (.bipush 6, 2) := by decide +kernel
theorem dL_law_39 : decode cL_law 39 = .ok (.isub, 1) := by decide +kernel
theorem dL_law_40 : decode cL_law 40 = .ok (.if_icmp .gt 1122, 3) := by decide +kernel
theorem dL_law_43 : decode cL_law 43 = .ok (.aload_n 0, 1) := by decide +kernel
theorem dL_law_44 : decode cL_law 44 = .ok (.iload 4, 2) := by decide +kernel
theorem dL_law_46 : decode cL_law 46 = .ok (.iaload, 1) := by decide +kernel
theorem dL_law_47 : decode cL_law 47 = .ok (.bipush 31, 2) := by decide +kernel
theorem dL_law_49 : decode cL_law 49 = .ok (.iand, 1) := by decide +kernel
theorem dL_law_50 : decode cL_law 50 = .ok (.tableswitch 1106 0 16 #[82, 158, 230, 366, 422, 435, 448, 516, 572, 640, 696, 771, 850, 913, 957, 1025, 1081], 82) := by decide +kernel
theorem dL_law_132 : decode cL_law 132 = .ok (.aload_n 1, 1) := by decide +kernel
theorem dL_law_133 : decode cL_law 133 = .ok (.aload_n 0, 1) := by decide +kernel
theorem dL_law_134 : decode cL_law 134 = .ok (.iload 4, 2) := by decide +kernel
theorem dL_law_136 : decode cL_law 136 = .ok (.iconst 1, 1) := by decide +kernel
theorem dL_law_137 : decode cL_law 137 = .ok (.iadd, 1) := by decide +kernel
theorem dL_law_138 : decode cL_law 138 = .ok (.iaload, 1) := by decide +kernel
theorem dL_law_139 : decode cL_law 139 = .ok (.aload_n 0, 1) := by decide +kernel
theorem dL_law_140 : decode cL_law 140 = .ok (.iload 4, 2) := by decide +kernel
theorem dL_law_142 : decode cL_law 142 = .ok (.iconst 2, 1) := by decide +kernel
theorem dL_law_143 : decode cL_law 143 = .ok (.iadd, 1) := by decide +kernel
theorem dL_law_144 : decode cL_law 144 = .ok (.iaload, 1) := by decide +kernel
theorem dL_law_145 : decode cL_law 145 = .ok (.aload_n 0, 1) := by decide +kernel
theorem dL_law_146 : decode cL_law 146 = .ok (.iload 4, 2) := by decide +kernel
theorem dL_law_148 : decode cL_law 148 = .ok (.iconst 3, 1) := by decide +kernel
theorem dL_law_149 : decode cL_law 149 = .ok (.iadd, 1) := by decide +kernel
theorem dL_law_150 : decode cL_law 150 = .ok (.iaload, 1) := by decide +kernel
theorem dL_law_151 : decode cL_law 151 = .ok (.ifCond .eq 7, 3) := by decide +kernel
theorem dL_law_154 : decode cL_law 154 = .ok (.iconst 1, 1) := by decide +kernel
theorem dL_law_155 : decode cL_law 155 = .ok (.goto 4, 3) := by decide +kernel
theorem dL_law_158 : decode cL_law 158 = .ok (.iconst 0, 1) := by decide +kernel
theorem dL_law_159 : decode cL_law 159 = .ok (.invokestatic 83, 3) := by decide +kernel
theorem dL_law_162 : decode cL_law 162 = .ok (.istore 5, 2) := by decide +kernel
theorem dL_law_164 : decode cL_law 164 = .ok (.aload_n 2, 1) := by decide +kernel
theorem dL_law_165 : decode cL_law 165 = .ok (.aload_n 0, 1) := by decide +kernel
theorem dL_law_166 : decode cL_law 166 = .ok (.iload 4, 2) := by decide +kernel
theorem dL_law_168 : decode cL_law 168 = .ok (.iconst 1, 1) := by decide +kernel
theorem dL_law_169 : decode cL_law 169 = .ok (.iadd, 1) := by decide +kernel
theorem dL_law_170 : decode cL_law 170 = .ok (.iaload, 1) := by decide +kernel
theorem dL_law_171 : decode cL_law 171 = .ok (.aload_n 0, 1) := by decide +kernel
theorem dL_law_172 : decode cL_law 172 = .ok (.iload 4, 2) := by decide +kernel
theorem dL_law_174 : decode cL_law 174 = .ok (.iconst 2, 1) := by decide +kernel
theorem dL_law_175 : decode cL_law 175 = .ok (.iadd, 1) := by decide +kernel
theorem dL_law_176 : decode cL_law 176 = .ok (.iaload, 1) := by decide +kernel
theorem dL_law_177 : decode cL_law 177 = .ok (.aload_n 0, 1) := by decide +kernel
theorem dL_law_178 : decode cL_law 178 = .ok (.iload 4, 2) := by decide +kernel
theorem dL_law_180 : decode cL_law 180 = .ok (.iconst 3, 1) := by decide +kernel
theorem dL_law_181 : decode cL_law 181 = .ok (.iadd, 1) := by decide +kernel
theorem dL_law_182 : decode cL_law 182 = .ok (.iaload, 1) := by decide +kernel
theorem dL_law_183 : decode cL_law 183 = .ok (.ifCond .eq 7, 3) := by decide +kernel
theorem dL_law_186 : decode cL_law 186 = .ok (.iconst 1, 1) := by decide +kernel
theorem dL_law_187 : decode cL_law 187 = .ok (.goto 4, 3) := by decide +kernel
theorem dL_law_190 : decode cL_law 190 = .ok (.iconst 0, 1) := by decide +kernel
theorem dL_law_191 : decode cL_law 191 = .ok (.invokevirtual 86, 3) := by decide +kernel
theorem dL_law_194 : decode cL_law 194 = .ok (.aload_n 2, 1) := by decide +kernel
theorem dL_law_195 : decode cL_law 195 = .ok (.invokevirtual 87, 3) := by decide +kernel
theorem dL_law_198 : decode cL_law 198 = .ok (.iload 5, 2) := by decide +kernel
theorem dL_law_200 : decode cL_law 200 = .ok (.if_icmp .eq 5, 3) := by decide +kernel
theorem dL_law_203 : decode cL_law 203 = .ok (.iconst 0, 1) := by decide +kernel
theorem dL_law_204 : decode cL_law 204 = .ok (.ireturn, 1) := by decide +kernel
theorem dL_law_205 : decode cL_law 205 = .ok (.goto 951, 3) := by decide +kernel
theorem dL_law_208 : decode cL_law 208 = .ok (.aload_n 1, 1) := by decide +kernel
theorem dL_law_209 : decode cL_law 209 = .ok (.aload_n 0, 1) := by decide +kernel
theorem dL_law_210 : decode cL_law 210 = .ok (.iload 4, 2) := by decide +kernel
theorem dL_law_212 : decode cL_law 212 = .ok (.iconst 1, 1) := by decide +kernel
theorem dL_law_213 : decode cL_law 213 = .ok (.iadd, 1) := by decide +kernel
theorem dL_law_214 : decode cL_law 214 = .ok (.iaload, 1) := by decide +kernel
theorem dL_law_215 : decode cL_law 215 = .ok (.aload_n 0, 1) := by decide +kernel
theorem dL_law_216 : decode cL_law 216 = .ok (.iload 4, 2) := by decide +kernel
theorem dL_law_218 : decode cL_law 218 = .ok (.iconst 2, 1) := by decide +kernel
theorem dL_law_219 : decode cL_law 219 = .ok (.iadd, 1) := by decide +kernel
theorem dL_law_220 : decode cL_law 220 = .ok (.iaload, 1) := by decide +kernel
theorem dL_law_221 : decode cL_law 221 = .ok (.aload_n 0, 1) := by decide +kernel
theorem dL_law_222 : decode cL_law 222 = .ok (.iload 4, 2) := by decide +kernel
theorem dL_law_224 : decode cL_law 224 = .ok (.iconst 3, 1) := by decide +kernel
theorem dL_law_225 : decode cL_law 225 = .ok (.iadd, 1) := by decide +kernel
theorem dL_law_226 : decode cL_law 226 = .ok (.iaload, 1) := by decide +kernel
theorem dL_law_227 : decode cL_law 227 = .ok (.aload_n 0, 1) := by decide +kernel
theorem dL_law_228 : decode cL_law 228 = .ok (.iload 4, 2) := by decide +kernel
theorem dL_law_230 : decode cL_law 230 = .ok (.iconst 4, 1) := by decide +kernel
theorem dL_law_231 : decode cL_law 231 = .ok (.iadd, 1) := by decide +kernel
theorem dL_law_232 : decode cL_law 232 = .ok (.iaload, 1) := by decide +kernel
theorem dL_law_233 : decode cL_law 233 = .ok (.invokestatic 90, 3) := by decide +kernel
theorem dL_law_236 : decode cL_law 236 = .ok (.istore 5, 2) := by decide +kernel
theorem dL_law_238 : decode cL_law 238 = .ok (.aload_n 2, 1) := by decide +kernel
theorem dL_law_239 : decode cL_law 239 = .ok (.aload_n 0, 1) := by decide +kernel
theorem dL_law_240 : decode cL_law 240 = .ok (.iload 4, 2) := by decide +kernel
theorem dL_law_242 : decode cL_law 242 = .ok (.iconst 1, 1) := by decide +kernel
theorem dL_law_243 : decode cL_law 243 = .ok (.iadd, 1) := by decide +kernel
theorem dL_law_244 : decode cL_law 244 = .ok (.iaload, 1) := by decide +kernel
theorem dL_law_245 : decode cL_law 245 = .ok (.aload_n 0, 1) := by decide +kernel
theorem dL_law_246 : decode cL_law 246 = .ok (.iload 4, 2) := by decide +kernel
theorem dL_law_248 : decode cL_law 248 = .ok (.iconst 2, 1) := by decide +kernel
theorem dL_law_249 : decode cL_law 249 = .ok (.iadd, 1) := by decide +kernel
theorem dL_law_250 : decode cL_law 250 = .ok (.iaload, 1) := by decide +kernel
theorem dL_law_251 : decode cL_law 251 = .ok (.aload_n 0, 1) := by decide +kernel
theorem dL_law_252 : decode cL_law 252 = .ok (.iload 4, 2) := by decide +kernel
theorem dL_law_254 : decode cL_law 254 = .ok (.iconst 3, 1) := by decide +kernel
theorem dL_law_255 : decode cL_law 255 = .ok (.iadd, 1) := by decide +kernel
theorem dL_law_256 : decode cL_law 256 = .ok (.iaload, 1) := by decide +kernel
theorem dL_law_257 : decode cL_law 257 = .ok (.aload_n 0, 1) := by decide +kernel
theorem dL_law_258 : decode cL_law 258 = .ok (.iload 4, 2) := by decide +kernel
theorem dL_law_260 : decode cL_law 260 = .ok (.iconst 4, 1) := by decide +kernel
theorem dL_law_261 : decode cL_law 261 = .ok (.iadd, 1) := by decide +kernel
theorem dL_law_262 : decode cL_law 262 = .ok (.iaload, 1) := by decide +kernel
theorem dL_law_263 : decode cL_law 263 = .ok (.invokevirtual 93, 3) := by decide +kernel
theorem dL_law_266 : decode cL_law 266 = .ok (.aload_n 2, 1) := by decide +kernel
theorem dL_law_267 : decode cL_law 267 = .ok (.invokevirtual 87, 3) := by decide +kernel
theorem dL_law_270 : decode cL_law 270 = .ok (.iload 5, 2) := by decide +kernel
theorem dL_law_272 : decode cL_law 272 = .ok (.if_icmp .eq 5, 3) := by decide +kernel
theorem dL_law_275 : decode cL_law 275 = .ok (.iconst 0, 1) := by decide +kernel
theorem dL_law_276 : decode cL_law 276 = .ok (.ireturn, 1) := by decide +kernel
theorem dL_law_277 : decode cL_law 277 = .ok (.goto 879, 3) := by decide +kernel
theorem dL_law_280 : decode cL_law 280 = .ok (.aload_n 1, 1) := by decide +kernel
theorem dL_law_281 : decode cL_law 281 = .ok (.aload_n 0, 1) := by decide +kernel
theorem dL_law_282 : decode cL_law 282 = .ok (.iload 4, 2) := by decide +kernel
theorem dL_law_284 : decode cL_law 284 = .ok (.iconst 1, 1) := by decide +kernel
theorem dL_law_285 : decode cL_law 285 = .ok (.iadd, 1) := by decide +kernel
theorem dL_law_286 : decode cL_law 286 = .ok (.iaload, 1) := by decide +kernel
theorem dL_law_287 : decode cL_law 287 = .ok (.aload_n 0, 1) := by decide +kernel
theorem dL_law_288 : decode cL_law 288 = .ok (.iload 4, 2) := by decide +kernel
theorem dL_law_290 : decode cL_law 290 = .ok (.iconst 2, 1) := by decide +kernel
theorem dL_law_291 : decode cL_law 291 = .ok (.iadd, 1) := by decide +kernel
theorem dL_law_292 : decode cL_law 292 = .ok (.iaload, 1) := by decide +kernel
theorem dL_law_293 : decode cL_law 293 = .ok (.ifCond .eq 7, 3) := by decide +kernel
theorem dL_law_296 : decode cL_law 296 = .ok (.iconst 1, 1) := by decide +kernel
theorem dL_law_297 : decode cL_law 297 = .ok (.goto 4, 3) := by decide +kernel
theorem dL_law_300 : decode cL_law 300 = .ok (.iconst 0, 1) := by decide +kernel
theorem dL_law_301 : decode cL_law 301 = .ok (.aload_n 0, 1) := by decide +kernel
theorem dL_law_302 : decode cL_law 302 = .ok (.iload 4, 2) := by decide +kernel
theorem dL_law_304 : decode cL_law 304 = .ok (.iconst 3, 1) := by decide +kernel
theorem dL_law_305 : decode cL_law 305 = .ok (.iadd, 1) := by decide +kernel
theorem dL_law_306 : decode cL_law 306 = .ok (.iaload, 1) := by decide +kernel
theorem dL_law_307 : decode cL_law 307 = .ok (.ifCond .eq 7, 3) := by decide +kernel
theorem dL_law_310 : decode cL_law 310 = .ok (.iconst 1, 1) := by decide +kernel
theorem dL_law_311 : decode cL_law 311 = .ok (.goto 4, 3) := by decide +kernel
theorem dL_law_314 : decode cL_law 314 = .ok (.iconst 0, 1) := by decide +kernel
theorem dL_law_315 : decode cL_law 315 = .ok (.aload_n 0, 1) := by decide +kernel
theorem dL_law_316 : decode cL_law 316 = .ok (.iload 4, 2) := by decide +kernel
theorem dL_law_318 : decode cL_law 318 = .ok (.iconst 4, 1) := by decide +kernel
theorem dL_law_319 : decode cL_law 319 = .ok (.iadd, 1) := by decide +kernel
theorem dL_law_320 : decode cL_law 320 = .ok (.iaload, 1) := by decide +kernel
theorem dL_law_321 : decode cL_law 321 = .ok (.aload_n 0, 1) := by decide +kernel
theorem dL_law_322 : decode cL_law 322 = .ok (.iload 4, 2) := by decide +kernel
theorem dL_law_324 : decode cL_law 324 = .ok (.iconst 5, 1) := by decide +kernel
theorem dL_law_325 : decode cL_law 325 = .ok (.iadd, 1) := by decide +kernel
theorem dL_law_326 : decode cL_law 326 = .ok (.iaload, 1) := by decide +kernel
theorem dL_law_327 : decode cL_law 327 = .ok (.aload_n 3, 1) := by decide +kernel
theorem dL_law_328 : decode cL_law 328 = .ok (.invokestatic 94, 3) := by decide +kernel
theorem dL_law_331 : decode cL_law 331 = .ok (.istore 5, 2) := by decide +kernel
theorem dL_law_333 : decode cL_law 333 = .ok (.aload_n 2, 1) := by decide +kernel
theorem dL_law_334 : decode cL_law 334 = .ok (.aload_n 0, 1) := by decide +kernel
theorem dL_law_335 : decode cL_law 335 = .ok (.iload 4, 2) := by decide +kernel
theorem dL_law_337 : decode cL_law 337 = .ok (.iconst 1, 1) := by decide +kernel
theorem dL_law_338 : decode cL_law 338 = .ok (.iadd, 1) := by decide +kernel
theorem dL_law_339 : decode cL_law 339 = .ok (.iaload, 1) := by decide +kernel
theorem dL_law_340 : decode cL_law 340 = .ok (.aload_n 0, 1) := by decide +kernel
theorem dL_law_341 : decode cL_law 341 = .ok (.iload 4, 2) := by decide +kernel
theorem dL_law_343 : decode cL_law 343 = .ok (.iconst 2, 1) := by decide +kernel
theorem dL_law_344 : decode cL_law 344 = .ok (.iadd, 1) := by decide +kernel
theorem dL_law_345 : decode cL_law 345 = .ok (.iaload, 1) := by decide +kernel
theorem dL_law_346 : decode cL_law 346 = .ok (.ifCond .eq 7, 3) := by decide +kernel
theorem dL_law_349 : decode cL_law 349 = .ok (.iconst 1, 1) := by decide +kernel
theorem dL_law_350 : decode cL_law 350 = .ok (.goto 4, 3) := by decide +kernel
theorem dL_law_353 : decode cL_law 353 = .ok (.iconst 0, 1) := by decide +kernel
theorem dL_law_354 : decode cL_law 354 = .ok (.aload_n 0, 1) := by decide +kernel
theorem dL_law_355 : decode cL_law 355 = .ok (.iload 4, 2) := by decide +kernel
theorem dL_law_357 : decode cL_law 357 = .ok (.iconst 3, 1) := by decide +kernel
theorem dL_law_358 : decode cL_law 358 = .ok (.iadd, 1) := by decide +kernel
theorem dL_law_359 : decode cL_law 359 = .ok (.iaload, 1) := by decide +kernel
theorem dL_law_360 : decode cL_law 360 = .ok (.ifCond .eq 7, 3) := by decide +kernel
theorem dL_law_363 : decode cL_law 363 = .ok (.iconst 1, 1) := by decide +kernel
theorem dL_law_364 : decode cL_law 364 = .ok (.goto 4, 3) := by decide +kernel
theorem dL_law_367 : decode cL_law 367 = .ok (.iconst 0, 1) := by decide +kernel
theorem dL_law_368 : decode cL_law 368 = .ok (.aload_n 0, 1) := by decide +kernel
theorem dL_law_369 : decode cL_law 369 = .ok (.iload 4, 2) := by decide +kernel
theorem dL_law_371 : decode cL_law 371 = .ok (.iconst 4, 1) := by decide +kernel
theorem dL_law_372 : decode cL_law 372 = .ok (.iadd, 1) := by decide +kernel
theorem dL_law_373 : decode cL_law 373 = .ok (.iaload, 1) := by decide +kernel
theorem dL_law_374 : decode cL_law 374 = .ok (.aload_n 0, 1) := by decide +kernel
theorem dL_law_375 : decode cL_law 375 = .ok (.iload 4, 2) := by decide +kernel
theorem dL_law_377 : decode cL_law 377 = .ok (.iconst 5, 1) := by decide +kernel
theorem dL_law_378 : decode cL_law 378 = .ok (.iadd, 1) := by decide +kernel
theorem dL_law_379 : decode cL_law 379 = .ok (.iaload, 1) := by decide +kernel
theorem dL_law_380 : decode cL_law 380 = .ok (.invokevirtual 97, 3) := by decide +kernel
theorem dL_law_383 : decode cL_law 383 = .ok (.istore 6, 2) := by decide +kernel
theorem dL_law_385 : decode cL_law 385 = .ok (.aload_n 2, 1) := by decide +kernel
theorem dL_law_386 : decode cL_law 386 = .ok (.invokevirtual 87, 3) := by decide +kernel
theorem dL_law_389 : decode cL_law 389 = .ok (.iload 5, 2) := by decide +kernel
theorem dL_law_391 : decode cL_law 391 = .ok (.if_icmp .eq 5, 3) := by decide +kernel
theorem dL_law_394 : decode cL_law 394 = .ok (.iconst 0, 1) := by decide +kernel
theorem dL_law_395 : decode cL_law 395 = .ok (.ireturn, 1) := by decide +kernel
theorem dL_law_396 : decode cL_law 396 = .ok (.iload 5, 2) := by decide +kernel
theorem dL_law_398 : decode cL_law 398 = .ok (.ifCond .ne 15, 3) := by decide +kernel
theorem dL_law_401 : decode cL_law 401 = .ok (.aload_n 3, 1) := by decide +kernel
theorem dL_law_402 : decode cL_law 402 = .ok (.iconst 0, 1) := by decide +kernel
theorem dL_law_403 : decode cL_law 403 = .ok (.laload, 1) := by decide +kernel
theorem dL_law_404 : decode cL_law 404 = .ok (.iload 6, 2) := by decide +kernel
theorem dL_law_406 : decode cL_law 406 = .ok (.i2l, 1) := by decide +kernel
theorem dL_law_407 : decode cL_law 407 = .ok (.lcmp, 1) := by decide +kernel
theorem dL_law_408 : decode cL_law 408 = .ok (.ifCond .eq 5, 3) := by decide +kernel
theorem dL_law_411 : decode cL_law 411 = .ok (.iconst 0, 1) := by decide +kernel
theorem dL_law_412 : decode cL_law 412 = .ok (.ireturn, 1) := by decide +kernel
theorem dL_law_413 : decode cL_law 413 = .ok (.goto 743, 3) := by decide +kernel
theorem dL_law_416 : decode cL_law 416 = .ok (.aload_n 1, 1) := by decide +kernel
theorem dL_law_417 : decode cL_law 417 = .ok (.aload_n 0, 1) := by decide +kernel
theorem dL_law_418 : decode cL_law 418 = .ok (.iload 4, 2) := by decide +kernel
theorem dL_law_420 : decode cL_law 420 = .ok (.iconst 1, 1) := by decide +kernel
theorem dL_law_421 : decode cL_law 421 = .ok (.iadd, 1) := by decide +kernel
theorem dL_law_422 : decode cL_law 422 = .ok (.iaload, 1) := by decide +kernel
theorem dL_law_423 : decode cL_law 423 = .ok (.aload_n 3, 1) := by decide +kernel
theorem dL_law_424 : decode cL_law 424 = .ok (.invokestatic 98, 3) := by decide +kernel
theorem dL_law_427 : decode cL_law 427 = .ok (.istore 5, 2) := by decide +kernel
theorem dL_law_429 : decode cL_law 429 = .ok (.aload_n 2, 1) := by decide +kernel
theorem dL_law_430 : decode cL_law 430 = .ok (.aload_n 0, 1) := by decide +kernel
theorem dL_law_431 : decode cL_law 431 = .ok (.iload 4, 2) := by decide +kernel
theorem dL_law_433 : decode cL_law 433 = .ok (.iconst 1, 1) := by decide +kernel
theorem dL_law_434 : decode cL_law 434 = .ok (.iadd, 1) := by decide +kernel
theorem dL_law_435 : decode cL_law 435 = .ok (.iaload, 1) := by decide +kernel
theorem dL_law_436 : decode cL_law 436 = .ok (.invokevirtual 101, 3) := by decide +kernel
theorem dL_law_439 : decode cL_law 439 = .ok (.istore 6, 2) := by decide +kernel
theorem dL_law_441 : decode cL_law 441 = .ok (.aload_n 2, 1) := by decide +kernel
theorem dL_law_442 : decode cL_law 442 = .ok (.invokevirtual 87, 3) := by decide +kernel
theorem dL_law_445 : decode cL_law 445 = .ok (.iload 5, 2) := by decide +kernel
theorem dL_law_447 : decode cL_law 447 = .ok (.if_icmp .eq 5, 3) := by decide +kernel
theorem dL_law_450 : decode cL_law 450 = .ok (.iconst 0, 1) := by decide +kernel
theorem dL_law_451 : decode cL_law 451 = .ok (.ireturn, 1) := by decide +kernel
theorem dL_law_452 : decode cL_law 452 = .ok (.iload 5, 2) := by decide +kernel
theorem dL_law_454 : decode cL_law 454 = .ok (.ifCond .ne 15, 3) := by decide +kernel
theorem dL_law_457 : decode cL_law 457 = .ok (.aload_n 3, 1) := by decide +kernel
theorem dL_law_458 : decode cL_law 458 = .ok (.iconst 0, 1) := by decide +kernel
theorem dL_law_459 : decode cL_law 459 = .ok (.laload, 1) := by decide +kernel
theorem dL_law_460 : decode cL_law 460 = .ok (.iload 6, 2) := by decide +kernel
theorem dL_law_462 : decode cL_law 462 = .ok (.i2l, 1) := by decide +kernel
theorem dL_law_463 : decode cL_law 463 = .ok (.lcmp, 1) := by decide +kernel
theorem dL_law_464 : decode cL_law 464 = .ok (.ifCond .eq 5, 3) := by decide +kernel
theorem dL_law_467 : decode cL_law 467 = .ok (.iconst 0, 1) := by decide +kernel
theorem dL_law_468 : decode cL_law 468 = .ok (.ireturn, 1) := by decide +kernel
theorem dL_law_469 : decode cL_law 469 = .ok (.goto 687, 3) := by decide +kernel
theorem dL_law_472 : decode cL_law 472 = .ok (.aload_n 1, 1) := by decide +kernel
theorem dL_law_473 : decode cL_law 473 = .ok (.invokevirtual 102, 3) := by decide +kernel
theorem dL_law_476 : decode cL_law 476 = .ok (.aload_n 2, 1) := by decide +kernel
theorem dL_law_477 : decode cL_law 477 = .ok (.invokevirtual 106, 3) := by decide +kernel
theorem dL_law_480 : decode cL_law 480 = .ok (.if_icmp .eq 676, 3) := by decide +kernel
theorem dL_law_483 : decode cL_law 483 = .ok (.iconst 0, 1) := by decide +kernel
theorem dL_law_484 : decode cL_law 484 = .ok (.ireturn, 1) := by decide +kernel
theorem dL_law_485 : decode cL_law 485 = .ok (.aload_n 1, 1) := by decide +kernel
theorem dL_law_486 : decode cL_law 486 = .ok (.invokevirtual 107, 3) := by decide +kernel
theorem dL_law_489 : decode cL_law 489 = .ok (.aload_n 2, 1) := by decide +kernel
theorem dL_law_490 : decode cL_law 490 = .ok (.invokevirtual 110, 3) := by decide +kernel
theorem dL_law_493 : decode cL_law 493 = .ok (.if_icmp .eq 663, 3) := by decide +kernel
theorem dL_law_496 : decode cL_law 496 = .ok (.iconst 0, 1) := by decide +kernel
theorem dL_law_497 : decode cL_law 497 = .ok (.ireturn, 1) := by decide +kernel
theorem dL_law_498 : decode cL_law 498 = .ok (.aload_n 1, 1) := by decide +kernel
theorem dL_law_499 : decode cL_law 499 = .ok (.aload_n 0, 1) := by decide +kernel
theorem dL_law_500 : decode cL_law 500 = .ok (.iload 4, 2) := by decide +kernel
theorem dL_law_502 : decode cL_law 502 = .ok (.iconst 1, 1) := by decide +kernel
theorem dL_law_503 : decode cL_law 503 = .ok (.iadd, 1) := by decide +kernel
theorem dL_law_504 : decode cL_law 504 = .ok (.iaload, 1) := by decide +kernel
theorem dL_law_505 : decode cL_law 505 = .ok (.aload_n 0, 1) := by decide +kernel
theorem dL_law_506 : decode cL_law 506 = .ok (.iload 4, 2) := by decide +kernel
theorem dL_law_508 : decode cL_law 508 = .ok (.iconst 2, 1) := by decide +kernel
theorem dL_law_509 : decode cL_law 509 = .ok (.iadd, 1) := by decide +kernel
theorem dL_law_510 : decode cL_law 510 = .ok (.iaload, 1) := by decide +kernel
theorem dL_law_511 : decode cL_law 511 = .ok (.aload_n 3, 1) := by decide +kernel
theorem dL_law_512 : decode cL_law 512 = .ok (.invokestatic 111, 3) := by decide +kernel
theorem dL_law_515 : decode cL_law 515 = .ok (.istore 5, 2) := by decide +kernel
theorem dL_law_517 : decode cL_law 517 = .ok (.aload_n 2, 1) := by decide +kernel
theorem dL_law_518 : decode cL_law 518 = .ok (.aload_n 0, 1) := by decide +kernel
theorem dL_law_519 : decode cL_law 519 = .ok (.iload 4, 2) := by decide +kernel
theorem dL_law_521 : decode cL_law 521 = .ok (.iconst 1, 1) := by decide +kernel
theorem dL_law_522 : decode cL_law 522 = .ok (.iadd, 1) := by decide +kernel
theorem dL_law_523 : decode cL_law 523 = .ok (.iaload, 1) := by decide +kernel
theorem dL_law_524 : decode cL_law 524 = .ok (.aload_n 0, 1) := by decide +kernel
theorem dL_law_525 : decode cL_law 525 = .ok (.iload 4, 2) := by decide +kernel
theorem dL_law_527 : decode cL_law 527 = .ok (.iconst 2, 1) := by decide +kernel
theorem dL_law_528 : decode cL_law 528 = .ok (.iadd, 1) := by decide +kernel
theorem dL_law_529 : decode cL_law 529 = .ok (.iaload, 1) := by decide +kernel
theorem dL_law_530 : decode cL_law 530 = .ok (.invokevirtual 114, 3) := by decide +kernel
theorem dL_law_533 : decode cL_law 533 = .ok (.istore 6, 2) := by decide +kernel
theorem dL_law_535 : decode cL_law 535 = .ok (.aload_n 2, 1) := by decide +kernel
theorem dL_law_536 : decode cL_law 536 = .ok (.invokevirtual 87, 3) := by decide +kernel
theorem dL_law_539 : decode cL_law 539 = .ok (.iload 5, 2) := by decide +kernel
theorem dL_law_541 : decode cL_law 541 = .ok (.if_icmp .eq 5, 3) := by decide +kernel
theorem dL_law_544 : decode cL_law 544 = .ok (.iconst 0, 1) := by decide +kernel
theorem dL_law_545 : decode cL_law 545 = .ok (.ireturn, 1) := by decide +kernel
theorem dL_law_546 : decode cL_law 546 = .ok (.iload 5, 2) := by decide +kernel
theorem dL_law_548 : decode cL_law 548 = .ok (.ifCond .ne 15, 3) := by decide +kernel
theorem dL_law_551 : decode cL_law 551 = .ok (.aload_n 3, 1) := by decide +kernel
theorem dL_law_552 : decode cL_law 552 = .ok (.iconst 0, 1) := by decide +kernel
theorem dL_law_553 : decode cL_law 553 = .ok (.laload, 1) := by decide +kernel
theorem dL_law_554 : decode cL_law 554 = .ok (.iload 6, 2) := by decide +kernel
theorem dL_law_556 : decode cL_law 556 = .ok (.i2l, 1) := by decide +kernel
theorem dL_law_557 : decode cL_law 557 = .ok (.lcmp, 1) := by decide +kernel
theorem dL_law_558 : decode cL_law 558 = .ok (.ifCond .eq 5, 3) := by decide +kernel
theorem dL_law_561 : decode cL_law 561 = .ok (.iconst 0, 1) := by decide +kernel
theorem dL_law_562 : decode cL_law 562 = .ok (.ireturn, 1) := by decide +kernel
theorem dL_law_563 : decode cL_law 563 = .ok (.goto 593, 3) := by decide +kernel
theorem dL_law_566 : decode cL_law 566 = .ok (.aload_n 1, 1) := by decide +kernel
theorem dL_law_567 : decode cL_law 567 = .ok (.aload_n 0, 1) := by decide +kernel
theorem dL_law_568 : decode cL_law 568 = .ok (.iload 4, 2) := by decide +kernel
theorem dL_law_570 : decode cL_law 570 = .ok (.iconst 1, 1) := by decide +kernel
theorem dL_law_571 : decode cL_law 571 = .ok (.iadd, 1) := by decide +kernel
theorem dL_law_572 : decode cL_law 572 = .ok (.iaload, 1) := by decide +kernel
theorem dL_law_573 : decode cL_law 573 = .ok (.aload_n 3, 1) := by decide +kernel
theorem dL_law_574 : decode cL_law 574 = .ok (.invokestatic 115, 3) := by decide +kernel
theorem dL_law_577 : decode cL_law 577 = .ok (.istore 5, 2) := by decide +kernel
theorem dL_law_579 : decode cL_law 579 = .ok (.aload_n 2, 1) := by decide +kernel
theorem dL_law_580 : decode cL_law 580 = .ok (.aload_n 0, 1) := by decide +kernel
theorem dL_law_581 : decode cL_law 581 = .ok (.iload 4, 2) := by decide +kernel
theorem dL_law_583 : decode cL_law 583 = .ok (.iconst 1, 1) := by decide +kernel
theorem dL_law_584 : decode cL_law 584 = .ok (.iadd, 1) := by decide +kernel
theorem dL_law_585 : decode cL_law 585 = .ok (.iaload, 1) := by decide +kernel
theorem dL_law_586 : decode cL_law 586 = .ok (.invokevirtual 117, 3) := by decide +kernel
theorem dL_law_589 : decode cL_law 589 = .ok (.istore 6, 2) := by decide +kernel
theorem dL_law_591 : decode cL_law 591 = .ok (.aload_n 2, 1) := by decide +kernel
theorem dL_law_592 : decode cL_law 592 = .ok (.invokevirtual 87, 3) := by decide +kernel
theorem dL_law_595 : decode cL_law 595 = .ok (.iload 5, 2) := by decide +kernel
theorem dL_law_597 : decode cL_law 597 = .ok (.if_icmp .eq 5, 3) := by decide +kernel
theorem dL_law_600 : decode cL_law 600 = .ok (.iconst 0, 1) := by decide +kernel
theorem dL_law_601 : decode cL_law 601 = .ok (.ireturn, 1) := by decide +kernel
theorem dL_law_602 : decode cL_law 602 = .ok (.iload 5, 2) := by decide +kernel
theorem dL_law_604 : decode cL_law 604 = .ok (.ifCond .ne 15, 3) := by decide +kernel
theorem dL_law_607 : decode cL_law 607 = .ok (.aload_n 3, 1) := by decide +kernel
theorem dL_law_608 : decode cL_law 608 = .ok (.iconst 0, 1) := by decide +kernel
theorem dL_law_609 : decode cL_law 609 = .ok (.laload, 1) := by decide +kernel
theorem dL_law_610 : decode cL_law 610 = .ok (.iload 6, 2) := by decide +kernel
theorem dL_law_612 : decode cL_law 612 = .ok (.i2l, 1) := by decide +kernel
theorem dL_law_613 : decode cL_law 613 = .ok (.lcmp, 1) := by decide +kernel
theorem dL_law_614 : decode cL_law 614 = .ok (.ifCond .eq 5, 3) := by decide +kernel
theorem dL_law_617 : decode cL_law 617 = .ok (.iconst 0, 1) := by decide +kernel
theorem dL_law_618 : decode cL_law 618 = .ok (.ireturn, 1) := by decide +kernel
theorem dL_law_619 : decode cL_law 619 = .ok (.goto 537, 3) := by decide +kernel
theorem dL_law_622 : decode cL_law 622 = .ok (.aload_n 1, 1) := by decide +kernel
theorem dL_law_623 : decode cL_law 623 = .ok (.aload_n 0, 1) := by decide +kernel
theorem dL_law_624 : decode cL_law 624 = .ok (.iload 4, 2) := by decide +kernel
theorem dL_law_626 : decode cL_law 626 = .ok (.iconst 1, 1) := by decide +kernel
theorem dL_law_627 : decode cL_law 627 = .ok (.iadd, 1) := by decide +kernel
theorem dL_law_628 : decode cL_law 628 = .ok (.iaload, 1) := by decide +kernel
theorem dL_law_629 : decode cL_law 629 = .ok (.aload_n 0, 1) := by decide +kernel
theorem dL_law_630 : decode cL_law 630 = .ok (.iload 4, 2) := by decide +kernel
theorem dL_law_632 : decode cL_law 632 = .ok (.iconst 2, 1) := by decide +kernel
theorem dL_law_633 : decode cL_law 633 = .ok (.iadd, 1) := by decide +kernel
theorem dL_law_634 : decode cL_law 634 = .ok (.iaload, 1) := by decide +kernel
theorem dL_law_635 : decode cL_law 635 = .ok (.aload_n 3, 1) := by decide +kernel
theorem dL_law_636 : decode cL_law 636 = .ok (.invokestatic 118, 3) := by decide +kernel
theorem dL_law_639 : decode cL_law 639 = .ok (.istore 5, 2) := by decide +kernel
theorem dL_law_641 : decode cL_law 641 = .ok (.aload_n 2, 1) := by decide +kernel
theorem dL_law_642 : decode cL_law 642 = .ok (.aload_n 0, 1) := by decide +kernel
theorem dL_law_643 : decode cL_law 643 = .ok (.iload 4, 2) := by decide +kernel
theorem dL_law_645 : decode cL_law 645 = .ok (.iconst 1, 1) := by decide +kernel
theorem dL_law_646 : decode cL_law 646 = .ok (.iadd, 1) := by decide +kernel
theorem dL_law_647 : decode cL_law 647 = .ok (.iaload, 1) := by decide +kernel
theorem dL_law_648 : decode cL_law 648 = .ok (.aload_n 0, 1) := by decide +kernel
theorem dL_law_649 : decode cL_law 649 = .ok (.iload 4, 2) := by decide +kernel
theorem dL_law_651 : decode cL_law 651 = .ok (.iconst 2, 1) := by decide +kernel
theorem dL_law_652 : decode cL_law 652 = .ok (.iadd, 1) := by decide +kernel
theorem dL_law_653 : decode cL_law 653 = .ok (.iaload, 1) := by decide +kernel
theorem dL_law_654 : decode cL_law 654 = .ok (.invokevirtual 120, 3) := by decide +kernel
theorem dL_law_657 : decode cL_law 657 = .ok (.istore 6, 2) := by decide +kernel
theorem dL_law_659 : decode cL_law 659 = .ok (.aload_n 2, 1) := by decide +kernel
theorem dL_law_660 : decode cL_law 660 = .ok (.invokevirtual 87, 3) := by decide +kernel
theorem dL_law_663 : decode cL_law 663 = .ok (.iload 5, 2) := by decide +kernel
theorem dL_law_665 : decode cL_law 665 = .ok (.if_icmp .eq 5, 3) := by decide +kernel
theorem dL_law_668 : decode cL_law 668 = .ok (.iconst 0, 1) := by decide +kernel
theorem dL_law_669 : decode cL_law 669 = .ok (.ireturn, 1) := by decide +kernel
theorem dL_law_670 : decode cL_law 670 = .ok (.iload 5, 2) := by decide +kernel
theorem dL_law_672 : decode cL_law 672 = .ok (.ifCond .ne 15, 3) := by decide +kernel
theorem dL_law_675 : decode cL_law 675 = .ok (.aload_n 3, 1) := by decide +kernel
theorem dL_law_676 : decode cL_law 676 = .ok (.iconst 0, 1) := by decide +kernel
theorem dL_law_677 : decode cL_law 677 = .ok (.laload, 1) := by decide +kernel
theorem dL_law_678 : decode cL_law 678 = .ok (.iload 6, 2) := by decide +kernel
theorem dL_law_680 : decode cL_law 680 = .ok (.i2l, 1) := by decide +kernel
theorem dL_law_681 : decode cL_law 681 = .ok (.lcmp, 1) := by decide +kernel
theorem dL_law_682 : decode cL_law 682 = .ok (.ifCond .eq 5, 3) := by decide +kernel
theorem dL_law_685 : decode cL_law 685 = .ok (.iconst 0, 1) := by decide +kernel
theorem dL_law_686 : decode cL_law 686 = .ok (.ireturn, 1) := by decide +kernel
theorem dL_law_687 : decode cL_law 687 = .ok (.goto 469, 3) := by decide +kernel
theorem dL_law_690 : decode cL_law 690 = .ok (.aload_n 1, 1) := by decide +kernel
theorem dL_law_691 : decode cL_law 691 = .ok (.aload_n 0, 1) := by decide +kernel
theorem dL_law_692 : decode cL_law 692 = .ok (.iload 4, 2) := by decide +kernel
theorem dL_law_694 : decode cL_law 694 = .ok (.iconst 1, 1) := by decide +kernel
theorem dL_law_695 : decode cL_law 695 = .ok (.iadd, 1) := by decide +kernel
theorem dL_law_696 : decode cL_law 696 = .ok (.iaload, 1) := by decide +kernel
theorem dL_law_697 : decode cL_law 697 = .ok (.aload_n 3, 1) := by decide +kernel
theorem dL_law_698 : decode cL_law 698 = .ok (.invokestatic 121, 3) := by decide +kernel
theorem dL_law_701 : decode cL_law 701 = .ok (.istore 5, 2) := by decide +kernel
theorem dL_law_703 : decode cL_law 703 = .ok (.aload_n 2, 1) := by decide +kernel
theorem dL_law_704 : decode cL_law 704 = .ok (.aload_n 0, 1) := by decide +kernel
theorem dL_law_705 : decode cL_law 705 = .ok (.iload 4, 2) := by decide +kernel
theorem dL_law_707 : decode cL_law 707 = .ok (.iconst 1, 1) := by decide +kernel
theorem dL_law_708 : decode cL_law 708 = .ok (.iadd, 1) := by decide +kernel
theorem dL_law_709 : decode cL_law 709 = .ok (.iaload, 1) := by decide +kernel
theorem dL_law_710 : decode cL_law 710 = .ok (.invokevirtual 123, 3) := by decide +kernel
theorem dL_law_713 : decode cL_law 713 = .ok (.istore 6, 2) := by decide +kernel
theorem dL_law_715 : decode cL_law 715 = .ok (.aload_n 2, 1) := by decide +kernel
theorem dL_law_716 : decode cL_law 716 = .ok (.invokevirtual 87, 3) := by decide +kernel
theorem dL_law_719 : decode cL_law 719 = .ok (.iload 5, 2) := by decide +kernel
theorem dL_law_721 : decode cL_law 721 = .ok (.if_icmp .eq 5, 3) := by decide +kernel
theorem dL_law_724 : decode cL_law 724 = .ok (.iconst 0, 1) := by decide +kernel
theorem dL_law_725 : decode cL_law 725 = .ok (.ireturn, 1) := by decide +kernel
theorem dL_law_726 : decode cL_law 726 = .ok (.iload 5, 2) := by decide +kernel
theorem dL_law_728 : decode cL_law 728 = .ok (.ifCond .ne 15, 3) := by decide +kernel
theorem dL_law_731 : decode cL_law 731 = .ok (.aload_n 3, 1) := by decide +kernel
theorem dL_law_732 : decode cL_law 732 = .ok (.iconst 0, 1) := by decide +kernel
theorem dL_law_733 : decode cL_law 733 = .ok (.laload, 1) := by decide +kernel
theorem dL_law_734 : decode cL_law 734 = .ok (.iload 6, 2) := by decide +kernel
theorem dL_law_736 : decode cL_law 736 = .ok (.i2l, 1) := by decide +kernel
theorem dL_law_737 : decode cL_law 737 = .ok (.lcmp, 1) := by decide +kernel
theorem dL_law_738 : decode cL_law 738 = .ok (.ifCond .eq 5, 3) := by decide +kernel
theorem dL_law_741 : decode cL_law 741 = .ok (.iconst 0, 1) := by decide +kernel
theorem dL_law_742 : decode cL_law 742 = .ok (.ireturn, 1) := by decide +kernel
theorem dL_law_743 : decode cL_law 743 = .ok (.goto 413, 3) := by decide +kernel
theorem dL_law_746 : decode cL_law 746 = .ok (.aload_n 1, 1) := by decide +kernel
theorem dL_law_747 : decode cL_law 747 = .ok (.aload_n 0, 1) := by decide +kernel
theorem dL_law_748 : decode cL_law 748 = .ok (.iload 4, 2) := by decide +kernel
theorem dL_law_750 : decode cL_law 750 = .ok (.iconst 1, 1) := by decide +kernel
theorem dL_law_751 : decode cL_law 751 = .ok (.iadd, 1) := by decide +kernel
theorem dL_law_752 : decode cL_law 752 = .ok (.iaload, 1) := by decide +kernel
theorem dL_law_753 : decode cL_law 753 = .ok (.aload_n 0, 1) := by decide +kernel
theorem dL_law_754 : decode cL_law 754 = .ok (.iload 4, 2) := by decide +kernel
theorem dL_law_756 : decode cL_law 756 = .ok (.iconst 2, 1) := by decide +kernel
theorem dL_law_757 : decode cL_law 757 = .ok (.iadd, 1) := by decide +kernel
theorem dL_law_758 : decode cL_law 758 = .ok (.iaload, 1) := by decide +kernel
theorem dL_law_759 : decode cL_law 759 = .ok (.aload_n 3, 1) := by decide +kernel
theorem dL_law_760 : decode cL_law 760 = .ok (.invokestatic 124, 3) := by decide +kernel
theorem dL_law_763 : decode cL_law 763 = .ok (.istore 5, 2) := by decide +kernel
theorem dL_law_765 : decode cL_law 765 = .ok (.aload_n 2, 1) := by decide +kernel
theorem dL_law_766 : decode cL_law 766 = .ok (.aload_n 0, 1) := by decide +kernel
theorem dL_law_767 : decode cL_law 767 = .ok (.iload 4, 2) := by decide +kernel
theorem dL_law_769 : decode cL_law 769 = .ok (.iconst 1, 1) := by decide +kernel
theorem dL_law_770 : decode cL_law 770 = .ok (.iadd, 1) := by decide +kernel
theorem dL_law_771 : decode cL_law 771 = .ok (.iaload, 1) := by decide +kernel
theorem dL_law_772 : decode cL_law 772 = .ok (.aload_n 0, 1) := by decide +kernel
theorem dL_law_773 : decode cL_law 773 = .ok (.iload 4, 2) := by decide +kernel
theorem dL_law_775 : decode cL_law 775 = .ok (.iconst 2, 1) := by decide +kernel
theorem dL_law_776 : decode cL_law 776 = .ok (.iadd, 1) := by decide +kernel
theorem dL_law_777 : decode cL_law 777 = .ok (.iaload, 1) := by decide +kernel
theorem dL_law_778 : decode cL_law 778 = .ok (.invokevirtual 126, 3) := by decide +kernel
theorem dL_law_781 : decode cL_law 781 = .ok (.istore 6, 2) := by decide +kernel
theorem dL_law_783 : decode cL_law 783 = .ok (.aload_n 2, 1) := by decide +kernel
theorem dL_law_784 : decode cL_law 784 = .ok (.invokevirtual 87, 3) := by decide +kernel
theorem dL_law_787 : decode cL_law 787 = .ok (.iload 5, 2) := by decide +kernel
theorem dL_law_789 : decode cL_law 789 = .ok (.if_icmp .eq 5, 3) := by decide +kernel
theorem dL_law_792 : decode cL_law 792 = .ok (.iconst 0, 1) := by decide +kernel
theorem dL_law_793 : decode cL_law 793 = .ok (.ireturn, 1) := by decide +kernel
theorem dL_law_794 : decode cL_law 794 = .ok (.iload 5, 2) := by decide +kernel
theorem dL_law_796 : decode cL_law 796 = .ok (.ifCond .ne 22, 3) := by decide +kernel
theorem dL_law_799 : decode cL_law 799 = .ok (.aload_n 3, 1) := by decide +kernel
theorem dL_law_800 : decode cL_law 800 = .ok (.iconst 0, 1) := by decide +kernel
theorem dL_law_801 : decode cL_law 801 = .ok (.laload, 1) := by decide +kernel
theorem dL_law_802 : decode cL_law 802 = .ok (.iload 6, 2) := by decide +kernel
theorem dL_law_804 : decode cL_law 804 = .ok (.ifCond .eq 7, 3) := by decide +kernel
theorem dL_law_807 : decode cL_law 807 = .ok (.lconst 1, 1) := by decide +kernel
theorem dL_law_808 : decode cL_law 808 = .ok (.goto 4, 3) := by decide +kernel
theorem dL_law_811 : decode cL_law 811 = .ok (.lconst 0, 1) := by decide +kernel
theorem dL_law_812 : decode cL_law 812 = .ok (.lcmp, 1) := by decide +kernel
theorem dL_law_813 : decode cL_law 813 = .ok (.ifCond .eq 5, 3) := by decide +kernel
theorem dL_law_816 : decode cL_law 816 = .ok (.iconst 0, 1) := by decide +kernel
theorem dL_law_817 : decode cL_law 817 = .ok (.ireturn, 1) := by decide +kernel
theorem dL_law_818 : decode cL_law 818 = .ok (.goto 338, 3) := by decide +kernel
theorem dL_law_821 : decode cL_law 821 = .ok (.aload_n 1, 1) := by decide +kernel
theorem dL_law_822 : decode cL_law 822 = .ok (.aload_n 0, 1) := by decide +kernel
theorem dL_law_823 : decode cL_law 823 = .ok (.iload 4, 2) := by decide +kernel
theorem dL_law_825 : decode cL_law 825 = .ok (.iconst 1, 1) := by decide +kernel
theorem dL_law_826 : decode cL_law 826 = .ok (.iadd, 1) := by decide +kernel
theorem dL_law_827 : decode cL_law 827 = .ok (.iaload, 1) := by decide +kernel
theorem dL_law_828 : decode cL_law 828 = .ok (.ifCond .eq 7, 3) := by decide +kernel
theorem dL_law_831 : decode cL_law 831 = .ok (.iconst 1, 1) := by decide +kernel
theorem dL_law_832 : decode cL_law 832 = .ok (.goto 4, 3) := by decide +kernel
theorem dL_law_835 : decode cL_law 835 = .ok (.iconst 0, 1) := by decide +kernel
theorem dL_law_836 : decode cL_law 836 = .ok (.aload_n 3, 1) := by decide +kernel
theorem dL_law_837 : decode cL_law 837 = .ok (.invokestatic 127, 3) := by decide +kernel
theorem dL_law_840 : decode cL_law 840 = .ok (.istore 5, 2) := by decide +kernel
theorem dL_law_842 : decode cL_law 842 = .ok (.aload_n 2, 1) := by decide +kernel
theorem dL_law_843 : decode cL_law 843 = .ok (.aload_n 0, 1) := by decide +kernel
theorem dL_law_844 : decode cL_law 844 = .ok (.iload 4, 2) := by decide +kernel
theorem dL_law_846 : decode cL_law 846 = .ok (.iconst 1, 1) := by decide +kernel
theorem dL_law_847 : decode cL_law 847 = .ok (.iadd, 1) := by decide +kernel
theorem dL_law_848 : decode cL_law 848 = .ok (.iaload, 1) := by decide +kernel
theorem dL_law_849 : decode cL_law 849 = .ok (.ifCond .eq 7, 3) := by decide +kernel
theorem dL_law_852 : decode cL_law 852 = .ok (.iconst 1, 1) := by decide +kernel
theorem dL_law_853 : decode cL_law 853 = .ok (.goto 4, 3) := by decide +kernel
theorem dL_law_856 : decode cL_law 856 = .ok (.iconst 0, 1) := by decide +kernel
theorem dL_law_857 : decode cL_law 857 = .ok (.invokevirtual 130, 3) := by decide +kernel
theorem dL_law_860 : decode cL_law 860 = .ok (.istore 6, 2) := by decide +kernel
theorem dL_law_862 : decode cL_law 862 = .ok (.aload_n 2, 1) := by decide +kernel
theorem dL_law_863 : decode cL_law 863 = .ok (.invokevirtual 87, 3) := by decide +kernel
theorem dL_law_866 : decode cL_law 866 = .ok (.iload 5, 2) := by decide +kernel
theorem dL_law_868 : decode cL_law 868 = .ok (.if_icmp .eq 5, 3) := by decide +kernel
theorem dL_law_871 : decode cL_law 871 = .ok (.iconst 0, 1) := by decide +kernel
theorem dL_law_872 : decode cL_law 872 = .ok (.ireturn, 1) := by decide +kernel
theorem dL_law_873 : decode cL_law 873 = .ok (.iload 5, 2) := by decide +kernel
theorem dL_law_875 : decode cL_law 875 = .ok (.ifCond .ne 22, 3) := by decide +kernel
theorem dL_law_878 : decode cL_law 878 = .ok (.aload_n 3, 1) := by decide +kernel
theorem dL_law_879 : decode cL_law 879 = .ok (.iconst 0, 1) := by decide +kernel
theorem dL_law_880 : decode cL_law 880 = .ok (.laload, 1) := by decide +kernel
theorem dL_law_881 : decode cL_law 881 = .ok (.iload 6, 2) := by decide +kernel
theorem dL_law_883 : decode cL_law 883 = .ok (.ifCond .eq 7, 3) := by decide +kernel
theorem dL_law_886 : decode cL_law 886 = .ok (.lconst 1, 1) := by decide +kernel
theorem dL_law_887 : decode cL_law 887 = .ok (.goto 4, 3) := by decide +kernel
theorem dL_law_890 : decode cL_law 890 = .ok (.lconst 0, 1) := by decide +kernel
theorem dL_law_891 : decode cL_law 891 = .ok (.lcmp, 1) := by decide +kernel
theorem dL_law_892 : decode cL_law 892 = .ok (.ifCond .eq 5, 3) := by decide +kernel
theorem dL_law_895 : decode cL_law 895 = .ok (.iconst 0, 1) := by decide +kernel
theorem dL_law_896 : decode cL_law 896 = .ok (.ireturn, 1) := by decide +kernel
theorem dL_law_897 : decode cL_law 897 = .ok (.goto 259, 3) := by decide +kernel
theorem dL_law_900 : decode cL_law 900 = .ok (.aload_n 1, 1) := by decide +kernel
theorem dL_law_901 : decode cL_law 901 = .ok (.aload_n 0, 1) := by decide +kernel
theorem dL_law_902 : decode cL_law 902 = .ok (.iload 4, 2) := by decide +kernel
theorem dL_law_904 : decode cL_law 904 = .ok (.iconst 1, 1) := by decide +kernel
theorem dL_law_905 : decode cL_law 905 = .ok (.iadd, 1) := by decide +kernel
theorem dL_law_906 : decode cL_law 906 = .ok (.iaload, 1) := by decide +kernel
theorem dL_law_907 : decode cL_law 907 = .ok (.aload_n 3, 1) := by decide +kernel
theorem dL_law_908 : decode cL_law 908 = .ok (.invokestatic 131, 3) := by decide +kernel
theorem dL_law_911 : decode cL_law 911 = .ok (.istore 5, 2) := by decide +kernel
theorem dL_law_913 : decode cL_law 913 = .ok (.aload_n 2, 1) := by decide +kernel
theorem dL_law_914 : decode cL_law 914 = .ok (.aload_n 0, 1) := by decide +kernel
theorem dL_law_915 : decode cL_law 915 = .ok (.iload 4, 2) := by decide +kernel
theorem dL_law_917 : decode cL_law 917 = .ok (.iconst 1, 1) := by decide +kernel
theorem dL_law_918 : decode cL_law 918 = .ok (.iadd, 1) := by decide +kernel
theorem dL_law_919 : decode cL_law 919 = .ok (.iaload, 1) := by decide +kernel
theorem dL_law_920 : decode cL_law 920 = .ok (.invokevirtual 133, 3) := by decide +kernel
theorem dL_law_923 : decode cL_law 923 = .ok (.istore 6, 2) := by decide +kernel
theorem dL_law_925 : decode cL_law 925 = .ok (.aload_n 2, 1) := by decide +kernel
theorem dL_law_926 : decode cL_law 926 = .ok (.invokevirtual 87, 3) := by decide +kernel
theorem dL_law_929 : decode cL_law 929 = .ok (.iload 5, 2) := by decide +kernel
theorem dL_law_931 : decode cL_law 931 = .ok (.if_icmp .eq 5, 3) := by decide +kernel
theorem dL_law_934 : decode cL_law 934 = .ok (.iconst 0, 1) := by decide +kernel
theorem dL_law_935 : decode cL_law 935 = .ok (.ireturn, 1) := by decide +kernel
theorem dL_law_936 : decode cL_law 936 = .ok (.iload 5, 2) := by decide +kernel
theorem dL_law_938 : decode cL_law 938 = .ok (.ifCond .ne 22, 3) := by decide +kernel
theorem dL_law_941 : decode cL_law 941 = .ok (.aload_n 3, 1) := by decide +kernel
theorem dL_law_942 : decode cL_law 942 = .ok (.iconst 0, 1) := by decide +kernel
theorem dL_law_943 : decode cL_law 943 = .ok (.laload, 1) := by decide +kernel
theorem dL_law_944 : decode cL_law 944 = .ok (.iload 6, 2) := by decide +kernel
theorem dL_law_946 : decode cL_law 946 = .ok (.ifCond .eq 7, 3) := by decide +kernel
theorem dL_law_949 : decode cL_law 949 = .ok (.lconst 1, 1) := by decide +kernel
theorem dL_law_950 : decode cL_law 950 = .ok (.goto 4, 3) := by decide +kernel
theorem dL_law_953 : decode cL_law 953 = .ok (.lconst 0, 1) := by decide +kernel
theorem dL_law_954 : decode cL_law 954 = .ok (.lcmp, 1) := by decide +kernel
theorem dL_law_955 : decode cL_law 955 = .ok (.ifCond .eq 5, 3) := by decide +kernel
theorem dL_law_958 : decode cL_law 958 = .ok (.iconst 0, 1) := by decide +kernel
theorem dL_law_959 : decode cL_law 959 = .ok (.ireturn, 1) := by decide +kernel
theorem dL_law_960 : decode cL_law 960 = .ok (.goto 196, 3) := by decide +kernel
theorem dL_law_963 : decode cL_law 963 = .ok (.aload_n 1, 1) := by decide +kernel
theorem dL_law_964 : decode cL_law 964 = .ok (.aload_n 3, 1) := by decide +kernel
theorem dL_law_965 : decode cL_law 965 = .ok (.invokestatic 134, 3) := by decide +kernel
theorem dL_law_968 : decode cL_law 968 = .ok (.istore 5, 2) := by decide +kernel
theorem dL_law_970 : decode cL_law 970 = .ok (.aload_n 2, 1) := by decide +kernel
theorem dL_law_971 : decode cL_law 971 = .ok (.invokevirtual 137, 3) := by decide +kernel
theorem dL_law_974 : decode cL_law 974 = .ok (.istore 6, 2) := by decide +kernel
theorem dL_law_976 : decode cL_law 976 = .ok (.aload_n 2, 1) := by decide +kernel
theorem dL_law_977 : decode cL_law 977 = .ok (.invokevirtual 87, 3) := by decide +kernel
theorem dL_law_980 : decode cL_law 980 = .ok (.iload 5, 2) := by decide +kernel
theorem dL_law_982 : decode cL_law 982 = .ok (.if_icmp .eq 5, 3) := by decide +kernel
theorem dL_law_985 : decode cL_law 985 = .ok (.iconst 0, 1) := by decide +kernel
theorem dL_law_986 : decode cL_law 986 = .ok (.ireturn, 1) := by decide +kernel
theorem dL_law_987 : decode cL_law 987 = .ok (.iload 5, 2) := by decide +kernel
theorem dL_law_989 : decode cL_law 989 = .ok (.ifCond .ne 15, 3) := by decide +kernel
theorem dL_law_992 : decode cL_law 992 = .ok (.aload_n 3, 1) := by decide +kernel
theorem dL_law_993 : decode cL_law 993 = .ok (.iconst 0, 1) := by decide +kernel
theorem dL_law_994 : decode cL_law 994 = .ok (.laload, 1) := by decide +kernel
theorem dL_law_995 : decode cL_law 995 = .ok (.iload 6, 2) := by decide +kernel
theorem dL_law_997 : decode cL_law 997 = .ok (.i2l, 1) := by decide +kernel
theorem dL_law_998 : decode cL_law 998 = .ok (.lcmp, 1) := by decide +kernel
theorem dL_law_999 : decode cL_law 999 = .ok (.ifCond .eq 5, 3) := by decide +kernel
theorem dL_law_1002 : decode cL_law 1002 = .ok (.iconst 0, 1) := by decide +kernel
theorem dL_law_1003 : decode cL_law 1003 = .ok (.ireturn, 1) := by decide +kernel
theorem dL_law_1004 : decode cL_law 1004 = .ok (.goto 152, 3) := by decide +kernel
theorem dL_law_1007 : decode cL_law 1007 = .ok (.aload_n 1, 1) := by decide +kernel
theorem dL_law_1008 : decode cL_law 1008 = .ok (.aload_n 0, 1) := by decide +kernel
theorem dL_law_1009 : decode cL_law 1009 = .ok (.iload 4, 2) := by decide +kernel
theorem dL_law_1011 : decode cL_law 1011 = .ok (.iconst 1, 1) := by decide +kernel
theorem dL_law_1012 : decode cL_law 1012 = .ok (.iadd, 1) := by decide +kernel
theorem dL_law_1013 : decode cL_law 1013 = .ok (.iaload, 1) := by decide +kernel
theorem dL_law_1014 : decode cL_law 1014 = .ok (.aload_n 0, 1) := by decide +kernel
theorem dL_law_1015 : decode cL_law 1015 = .ok (.iload 4, 2) := by decide +kernel
theorem dL_law_1017 : decode cL_law 1017 = .ok (.iconst 2, 1) := by decide +kernel
theorem dL_law_1018 : decode cL_law 1018 = .ok (.iadd, 1) := by decide +kernel
theorem dL_law_1019 : decode cL_law 1019 = .ok (.iaload, 1) := by decide +kernel
theorem dL_law_1020 : decode cL_law 1020 = .ok (.aload_n 3, 1) := by decide +kernel
theorem dL_law_1021 : decode cL_law 1021 = .ok (.invokestatic 138, 3) := by decide +kernel
theorem dL_law_1024 : decode cL_law 1024 = .ok (.istore 5, 2) := by decide +kernel
theorem dL_law_1026 : decode cL_law 1026 = .ok (.aload_n 2, 1) := by decide +kernel
theorem dL_law_1027 : decode cL_law 1027 = .ok (.aload_n 0, 1) := by decide +kernel
theorem dL_law_1028 : decode cL_law 1028 = .ok (.iload 4, 2) := by decide +kernel
theorem dL_law_1030 : decode cL_law 1030 = .ok (.iconst 1, 1) := by decide +kernel
theorem dL_law_1031 : decode cL_law 1031 = .ok (.iadd, 1) := by decide +kernel
theorem dL_law_1032 : decode cL_law 1032 = .ok (.iaload, 1) := by decide +kernel
theorem dL_law_1033 : decode cL_law 1033 = .ok (.aload_n 0, 1) := by decide +kernel
theorem dL_law_1034 : decode cL_law 1034 = .ok (.iload 4, 2) := by decide +kernel
theorem dL_law_1036 : decode cL_law 1036 = .ok (.iconst 2, 1) := by decide +kernel
theorem dL_law_1037 : decode cL_law 1037 = .ok (.iadd, 1) := by decide +kernel
theorem dL_law_1038 : decode cL_law 1038 = .ok (.iaload, 1) := by decide +kernel
theorem dL_law_1039 : decode cL_law 1039 = .ok (.invokevirtual 140, 3) := by decide +kernel
theorem dL_law_1042 : decode cL_law 1042 = .ok (.istore 6, 2) := by decide +kernel
theorem dL_law_1044 : decode cL_law 1044 = .ok (.aload_n 2, 1) := by decide +kernel
theorem dL_law_1045 : decode cL_law 1045 = .ok (.invokevirtual 87, 3) := by decide +kernel
theorem dL_law_1048 : decode cL_law 1048 = .ok (.iload 5, 2) := by decide +kernel
theorem dL_law_1050 : decode cL_law 1050 = .ok (.if_icmp .eq 5, 3) := by decide +kernel
theorem dL_law_1053 : decode cL_law 1053 = .ok (.iconst 0, 1) := by decide +kernel
theorem dL_law_1054 : decode cL_law 1054 = .ok (.ireturn, 1) := by decide +kernel
theorem dL_law_1055 : decode cL_law 1055 = .ok (.iload 5, 2) := by decide +kernel
theorem dL_law_1057 : decode cL_law 1057 = .ok (.ifCond .ne 15, 3) := by decide +kernel
theorem dL_law_1060 : decode cL_law 1060 = .ok (.aload_n 3, 1) := by decide +kernel
theorem dL_law_1061 : decode cL_law 1061 = .ok (.iconst 0, 1) := by decide +kernel
theorem dL_law_1062 : decode cL_law 1062 = .ok (.laload, 1) := by decide +kernel
theorem dL_law_1063 : decode cL_law 1063 = .ok (.iload 6, 2) := by decide +kernel
theorem dL_law_1065 : decode cL_law 1065 = .ok (.i2l, 1) := by decide +kernel
theorem dL_law_1066 : decode cL_law 1066 = .ok (.lcmp, 1) := by decide +kernel
theorem dL_law_1067 : decode cL_law 1067 = .ok (.ifCond .eq 5, 3) := by decide +kernel
theorem dL_law_1070 : decode cL_law 1070 = .ok (.iconst 0, 1) := by decide +kernel
theorem dL_law_1071 : decode cL_law 1071 = .ok (.ireturn, 1) := by decide +kernel
theorem dL_law_1072 : decode cL_law 1072 = .ok (.goto 84, 3) := by decide +kernel
theorem dL_law_1075 : decode cL_law 1075 = .ok (.aload_n 1, 1) := by decide +kernel
theorem dL_law_1076 : decode cL_law 1076 = .ok (.aload_n 0, 1) := by decide +kernel
theorem dL_law_1077 : decode cL_law 1077 = .ok (.iload 4, 2) := by decide +kernel
theorem dL_law_1079 : decode cL_law 1079 = .ok (.iconst 1, 1) := by decide +kernel
theorem dL_law_1080 : decode cL_law 1080 = .ok (.iadd, 1) := by decide +kernel
theorem dL_law_1081 : decode cL_law 1081 = .ok (.iaload, 1) := by decide +kernel
theorem dL_law_1082 : decode cL_law 1082 = .ok (.aload_n 3, 1) := by decide +kernel
theorem dL_law_1083 : decode cL_law 1083 = .ok (.invokestatic 141, 3) := by decide +kernel
theorem dL_law_1086 : decode cL_law 1086 = .ok (.istore 5, 2) := by decide +kernel
theorem dL_law_1088 : decode cL_law 1088 = .ok (.aload_n 2, 1) := by decide +kernel
theorem dL_law_1089 : decode cL_law 1089 = .ok (.aload_n 0, 1) := by decide +kernel
theorem dL_law_1090 : decode cL_law 1090 = .ok (.iload 4, 2) := by decide +kernel
theorem dL_law_1092 : decode cL_law 1092 = .ok (.iconst 1, 1) := by decide +kernel
theorem dL_law_1093 : decode cL_law 1093 = .ok (.iadd, 1) := by decide +kernel
theorem dL_law_1094 : decode cL_law 1094 = .ok (.iaload, 1) := by decide +kernel
theorem dL_law_1095 : decode cL_law 1095 = .ok (.invokevirtual 143, 3) := by decide +kernel
theorem dL_law_1098 : decode cL_law 1098 = .ok (.istore 6, 2) := by decide +kernel
theorem dL_law_1100 : decode cL_law 1100 = .ok (.aload_n 2, 1) := by decide +kernel
theorem dL_law_1101 : decode cL_law 1101 = .ok (.invokevirtual 87, 3) := by decide +kernel
theorem dL_law_1104 : decode cL_law 1104 = .ok (.iload 5, 2) := by decide +kernel
theorem dL_law_1106 : decode cL_law 1106 = .ok (.if_icmp .eq 5, 3) := by decide +kernel
theorem dL_law_1109 : decode cL_law 1109 = .ok (.iconst 0, 1) := by decide +kernel
theorem dL_law_1110 : decode cL_law 1110 = .ok (.ireturn, 1) := by decide +kernel
theorem dL_law_1111 : decode cL_law 1111 = .ok (.iload 5, 2) := by decide +kernel
theorem dL_law_1113 : decode cL_law 1113 = .ok (.ifCond .ne 15, 3) := by decide +kernel
theorem dL_law_1116 : decode cL_law 1116 = .ok (.aload_n 3, 1) := by decide +kernel
theorem dL_law_1117 : decode cL_law 1117 = .ok (.iconst 0, 1) := by decide +kernel
theorem dL_law_1118 : decode cL_law 1118 = .ok (.laload, 1) := by decide +kernel
theorem dL_law_1119 : decode cL_law 1119 = .ok (.iload 6, 2) := by decide +kernel
theorem dL_law_1121 : decode cL_law 1121 = .ok (.i2l, 1) := by decide +kernel
theorem dL_law_1122 : decode cL_law 1122 = .ok (.lcmp, 1) := by decide +kernel
theorem dL_law_1123 : decode cL_law 1123 = .ok (.ifCond .eq 5, 3) := by decide +kernel
theorem dL_law_1126 : decode cL_law 1126 = .ok (.iconst 0, 1) := by decide +kernel
theorem dL_law_1127 : decode cL_law 1127 = .ok (.ireturn, 1) := by decide +kernel
theorem dL_law_1128 : decode cL_law 1128 = .ok (.goto 28, 3) := by decide +kernel
theorem dL_law_1131 : decode cL_law 1131 = .ok (.aload_n 1, 1) := by decide +kernel
theorem dL_law_1132 : decode cL_law 1132 = .ok (.aload_n 0, 1) := by decide +kernel
theorem dL_law_1133 : decode cL_law 1133 = .ok (.iload 4, 2) := by decide +kernel
theorem dL_law_1135 : decode cL_law 1135 = .ok (.iconst 1, 1) := by decide +kernel
theorem dL_law_1136 : decode cL_law 1136 = .ok (.iadd, 1) := by decide +kernel
theorem dL_law_1137 : decode cL_law 1137 = .ok (.iaload, 1) := by decide +kernel
theorem dL_law_1138 : decode cL_law 1138 = .ok (.invokevirtual 144, 3) := by decide +kernel
theorem dL_law_1141 : decode cL_law 1141 = .ok (.aload_n 2, 1) := by decide +kernel
theorem dL_law_1142 : decode cL_law 1142 = .ok (.aload_n 0, 1) := by decide +kernel
theorem dL_law_1143 : decode cL_law 1143 = .ok (.iload 4, 2) := by decide +kernel
theorem dL_law_1145 : decode cL_law 1145 = .ok (.iconst 1, 1) := by decide +kernel
theorem dL_law_1146 : decode cL_law 1146 = .ok (.iadd, 1) := by decide +kernel
theorem dL_law_1147 : decode cL_law 1147 = .ok (.iaload, 1) := by decide +kernel
theorem dL_law_1148 : decode cL_law 1148 = .ok (.invokevirtual 147, 3) := by decide +kernel
theorem dL_law_1151 : decode cL_law 1151 = .ok (.if_icmp .eq 5, 3) := by decide +kernel
theorem dL_law_1154 : decode cL_law 1154 = .ok (.iconst 0, 1) := by decide +kernel
theorem dL_law_1155 : decode cL_law 1155 = .ok (.ireturn, 1) := by decide +kernel
theorem dL_law_1156 : decode cL_law 1156 = .ok (.iinc 4 6, 3) := by decide +kernel
theorem dL_law_1159 : decode cL_law 1159 = .ok (.goto (-1126), 3) := by decide +kernel
theorem dL_law_1162 : decode cL_law 1162 = .ok (.iconst 1, 1) := by decide +kernel
theorem dL_law_1163 : decode cL_law 1163 = .ok (.ireturn, 1) := by decide +kernel
end
section
/-- the classes whose objects the world holds -/
abbrev classes : List vw_C := [(RX0, TX0, 4), (RX1, TX1, 6), (RX2, TX2, 6), (RX3, TX3, 3), (RX4, TX4, 3), (RX5, TX5, 5), (RX6, TX6, 21)]
/-- a word that stays true as the tables warm -/
def mi_tr (w : Cond) : Bool := (w.onTables && w.keeps) || (match w with | .arrayClass _ => true | .fieldLinkNest .. => true | .methodLinkNest .. => true | .declares _ => true | .castable .. => true | _ => false)
theorem mi_word {args a' : Array Value} {s U : State} (hW : s.WarmedH U.vm) {w : Cond} (hw : mi_tr w = true) (h : w.before args s = true) : w.before a' U = true := by
  unfold mi_tr at hw
  rw [Bool.or_eq_true] at hw
  rcases hw with hw | hw
  · exact word_at hW (Or.inl hw) h
  · split at hw
    · exact word_at hW (Or.inr ⟨_, rfl⟩) h
    · exact va_Nw.use rfl (va_Nw.warmF hW (va_Nw.of rfl h))
    · exact va_Nw.use rfl (va_Nw.warmM hW (va_Nw.of rfl h))
    · exact va_Nw.use rfl (va_Nw.warmD hW (va_Nw.of rfl h))
    · exact va_Nw.use rfl (va_Nw.warmC hW (va_Nw.of rfl h))
    · cases hw
/-- the words that every method of the walk may use -/
def mi_T : List Cond := lw_tbl.filter mi_tr
theorem lw_tr : ∀ w ∈ mi_T, mi_tr w = true := fun _ h => (List.mem_filter.mp h).2
theorem mi_in {w : Cond} (i : Nat) (h : tables_1[i]? = some w) (ht : mi_tr w = true) : w ∈ mi_T := List.mem_filter.mpr ⟨List.mem_append_right _ (List.mem_of_getElem? h), ht⟩
theorem mi_inP {w : Cond} (i : Nat) (h : (k2_sels lw_privs)[i]? = some w) (ht : mi_tr w = true) : w ∈ mi_T := List.mem_filter.mpr ⟨List.mem_append_left _ (List.mem_of_getElem? h), ht⟩
/-! A method's walk with the whole world in hand: MW. It wraps W: the caller's machine, room, words and frame stand in mi_Pre, so that a row here speaks of pc, locals, stack, cells alone. -/
/-- a method: own class, code, locals, return type, handlers, name -/
abbrev mi_M : Type := String × ByteArray × Nat × Option FieldType × List (Nat × Nat × Nat × Nat) × String
/-- what stays the same in the whole run: the launch, the classes' numbers, the array classes, the script (cell, length, ints) -/
abbrev mi_E : Type := Launch × va_G × List (ClassId × FieldType) × Nat × Nat × (Nat → Int32)
/-- how a method ended: returned (a value or none), or threw an object of the n-th class of mi_exn -/
abbrev mi_O : Type := Option Value ⊕ Nat
def mi_L (ls : Array Slot) (n : Nat) (lv : List (Option Value)) : Prop := ls.size = n ∧ lv_wf ls ∧ ∀ (i : Nat) (v : Value), lv[i]? = some (some v) → ls[i]? = some (.val v)
def mi_al (n : Nat) (lv : List (Option Value)) : List (Nat × Value) := (List.range n).filterMap (fun i => match lv[i]? with | some (some v) => some (i, v) | _ => none)
theorem mi_al_mem {n : Nat} {lv : List (Option Value)} {q : Nat × Value} : q ∈ mi_al n lv ↔ q.1 < n ∧ lv[q.1]? = some (some q.2) := by
  obtain ⟨i, v⟩ := q
  unfold mi_al
  rw [List.mem_filterMap]
  constructor
  · rintro ⟨j, hj, h⟩
    rw [List.mem_range] at hj
    split at h
    · next w hw =>
      cases h
      exact ⟨hj, hw⟩
    · cases h
  · rintro ⟨h1, h2⟩
    refine ⟨i, List.mem_range.mpr h1, ?_⟩
    simp only at h2
    rw [h2]
theorem mi_L.has {ls : Array Slot} {n : Nat} {lv : List (Option Value)} (h : mi_L ls n lv) : lv_has ls n (mi_al n lv) := by
  refine ⟨h.1, h.2.1, fun q hq => ?_⟩
  exact h.2.2 q.1 q.2 (mi_al_mem.mp hq).2
/-- no long stands just before i -/
def mi_nl (lv : List (Option Value)) : Nat → Bool
  | 0 => true
  | j + 1 => match lv[j]? with
    | some (some v) => v.category == 1
    | _ => true
theorem mi_L.back {ls' : Array Slot} {n i : Nat} {lv : List (Option Value)} {v : Value} (hj : mi_nl lv i = true)
    (h : lv_has ls' n ((i, v) :: (mi_al n lv).filter (fun q => !(q.1 == i) && !(q.1 + 1 == i && q.2.category == 2)))) (hlen : lv.length ≤ n) : mi_L ls' n (lv.set i (some v)) := by
  refine ⟨h.1, h.2.1, fun k w hk => ?_⟩
  by_cases hki : k = i
  · subst hki
    rw [List.getElem?_set_self'] at hk
    cases hl : lv[k]? with
    | none => rw [hl] at hk; cases hk
    | some z =>
      rw [hl] at hk
      have hk : (some (some v) : Option (Option Value)) = some (some w) := hk
      cases hk
      exact h.2.2 (k, v) List.mem_cons_self
  · rw [List.getElem?_set_ne (fun q => hki q.symm)] at hk
    have hkn : k < n := Nat.lt_of_lt_of_le (List.getElem?_eq_some_iff.mp hk).1 hlen
    refine h.2.2 (k, w) (List.mem_cons_of_mem _ (List.mem_filter.mpr ⟨mi_al_mem.mpr ⟨hkn, hk⟩, ?_⟩))
    have h1 : (k == i) = false := by simp [hki]
    have h2 : (k + 1 == i && w.category == 2) = false := by
      by_cases hk1 : k + 1 = i
      · subst hk1
        simp only [mi_nl, hk] at hj
        have hj : w.category = 1 := by simpa using hj
        simp [hj]
      · simp [hk1]
    simp only [h1, h2]
    rfl
theorem mi_L.forget {ls : Array Slot} {n : Nat} {lv lv' : List (Option Value)} (h : mi_L ls n lv) (hs : ∀ (i : Nat) (v : Value), lv'[i]? = some (some v) → lv[i]? = some (some v)) : mi_L ls n lv' :=
  ⟨h.1, h.2.1, fun i v hv => h.2.2 i v (hs i v hv)⟩

/-- the texts of the exceptions: class, entry, text -/
def mi_strs : List (String × Nat × String) := [("TruckLoads", 45, "no such cell"), ("TruckLoads", 214, "a number outside its range"), ("TruckLoads", 59, "a pallet stands there"), ("TruckLoads", 72, "the second axle is not behind the first"), ("TruckLoads", 216, "the doors are open"), ("TruckLoads", 94, "no room for a pallet"), ("TruckLoads", 218, "there is a seal"), ("TruckLoads", 211, "no such pallet"), ("TruckLoads", 136, "the doors are shut"), ("TruckLoads", 147, "no pallet stands"), ("TruckLoads", 165, "the pallet stands"), ("TruckLoads", 182, "no room for a seal"), ("TruckLoads", 193, "there is no seal"), ("TruckLoads", 198, "below 0")]
/-- which exceptions a catch doesn't take -/
def mi_ncs : List (String × String) := [("java/lang/ArithmeticException", "java/lang/IllegalArgumentException"), ("java/lang/IllegalArgumentException", "java/lang/ArrayIndexOutOfBoundsException"), ("java/lang/IllegalArgumentException", "java/util/NoSuchElementException"), ("java/lang/IllegalStateException", "java/lang/ArrayIndexOutOfBoundsException"), ("java/lang/IllegalStateException", "java/lang/IllegalArgumentException"), ("java/lang/IllegalStateException", "java/util/NoSuchElementException"), ("java/lang/UnsupportedOperationException", "java/lang/IllegalArgumentException"), ("java/lang/UnsupportedOperationException", "java/lang/IllegalStateException")]
/-- what a throw needs of the world outside A -/
def mi_Th (l : Launch) (A : Nat → Prop) (s : State) (H : Heap) : Prop := l.stackTraces = false ∧ vx_Zq Bundle.tN "UNASSIGNED_STACK" Bundle.steD A s H ∧ vx_Zq Bundle.tN "SUPPRESSED_SENTINEL" Bundle.listD A s H ∧ (∀ q ∈ mi_strs, ∃ sa : Nat, vk_R q.1 q.2.1 q.2.2 sa s) ∧ (∀ q ∈ mi_ncs, va_Nc q.1 q.2 s)
theorem mi_Th.call {l : Launch} {A B : Nat → Prop} {u U : State} {H H1 : Heap} (hW : u.WarmedH U.vm) (h : mi_Th l A u H) (hk : ∀ a : Nat, a < H.size → ¬ A a → H1[a]? = H[a]?) (hs : ∀ q, B q → A q) : mi_Th l B U H1 := by
  obtain ⟨h0, h1, h2, h3, h4⟩ := h
  refine ⟨h0, ((h1.kept hk).moved hW.alike).narrow hs, ((h2.kept hk).moved hW.alike).narrow hs, fun q hq => ?_, fun q hq => (h4 q hq).moved hW.alike⟩
  obtain ⟨sa, h5⟩ := h3 q hq
  exact ⟨sa, h5.warm hW⟩
def mi_CC : Nat := room_1.cells
def mi_CS : Nat := room_1.slots
def mi_exn : Nat → String
  | 0 => "java/util/NoSuchElementException"
  | 1 => "java/lang/IllegalArgumentException"
  | 2 => "java/lang/IllegalStateException"
  | 3 => "java/lang/UnsupportedOperationException"
  | 4 => "java/lang/ArithmeticException"
  | _ => "java/lang/ArrayIndexOutOfBoundsException"
def mi_oc (o : mi_O) (oc : Outcome) (t : State) : Prop := match o with
  | .inl v => oc = .returned v
  | .inr k => ∃ (x : Addr) (cell : Cell), oc = .threw x ∧ t.heap[x]? = some cell ∧ cell.vm = .none ∧ t.vm.findClass (mi_exn k) = some cell.cls
/-- what the method's end leaves -/
def mi_End (E : mi_E) (A : Nat → Prop) (s : State) (below : List Frame) (cb sb : Nat) (o : mi_O) (h : va_W) (mc ms : Nat) (t : State) : Prop :=
  ∃ (oc : Outcome) (locs : List Loc), t.status = .running ∧ Ended t below oc ∧ s.WarmedH t.vm ∧ s.sameButNew ({ t with vm := s.vm } : State) locs (mc - cb) (ms - sb) ∧ va_S A s.heap t.heap locs ∧ va_P E.2.1 classes h t.heap ∧ va_D A h ∧ mi_oc o oc t ∧ cb ≤ mc ∧ sb ≤ ms ∧ mc ≤ mi_CC ∧ ms ≤ mi_CS
def mi_hs (c : Code) (hs : List (Nat × Nat × Nat × Nat)) : Prop := c.exceptionTable.toList.map (fun x => (x.startPc, x.endPc, x.handlerPc, x.catchType)) = hs
/-- what a walk stands on -/
def mi_Pre (E : mi_E) (M : mi_M) (d : Nat) (lv : List (Option Value)) (h : va_W) (mc ms : Nat) (p : Program) (R : Room) (s : State) (m : MethodId) (args : Array Value) (meth : Method) (c : Code) (H : Heap) (locs : List Loc) (ls : Array Slot) (A : Nat → Prop) (cb sb : Nat) : Prop :=
  (p.tables.exec = Jvm.exec ∧ c.code = M.2.1 ∧ c.maxLocals = M.2.2.1 ∧ s.vm.findClass M.1 = some m.cls ∧ meth.sig.returnType = M.2.2.2.1 ∧ meth.locks = false ∧ mi_hs c M.2.2.2.2.1 ∧ meth.name = M.2.2.2.2.2) ∧
  ((∀ w ∈ mi_T, w.before args s = true) ∧ va_K E.2.1 classes E.2.2.1 s ∧ va_X E.2.2.2.1 E.2.2.2.2.1 E.2.2.2.2.2 s s.heap ∧ E.2.2.2.1 < s.heap.size ∧ ¬ A E.2.2.2.1 ∧ mi_Th E.1 A s s.heap) ∧
  (mi_L ls M.2.2.1 lv ∧ lv.length ≤ M.2.2.1) ∧
  (va_P E.2.1 classes h H ∧ va_D A h ∧ va_S A s.heap H locs ∧ (∀ q, s.heap.size ≤ q → A q)) ∧
  (d ≤ R.frames ∧ 64 * d ≤ R.locals ∧ mi_CC ≤ R.cells + cb ∧ mi_CS ≤ R.slots + sb) ∧ cb ≤ mc ∧ sb ≤ ms ∧ mc ≤ mi_CC ∧ ms ≤ mi_CS
/-- from here the method comes to an end with Q -/
def MW (E : mi_E) (M : mi_M) (d pc : Nat) (lv : List (Option Value)) (st : List Value) (h : va_W) (mc ms : Nat) (Q : mi_O → va_W → Nat → Nat → Prop) : Prop :=
  ∀ (p : Program) (e : Env) (R : Room) (s : State) (m : MethodId) (args : Array Value) (below : List Frame) (meth : Method) (c : Code) (H : Heap) (locs : List Loc) (ls : Array Slot) (A : Nat → Prop) (cb sb : Nat) (Z : State → Prop),
    mi_Pre E M d lv h mc ms p R s m args meth c H locs ls A cb sb →
    (∀ (o : mi_O) (h' : va_W) (mc' ms' : Nat) (t : State), Q o h' mc' ms' → mi_End E A s below cb sb o h' mc' ms' t → Z t) →
    W p E.1 e R s m args below meth c H locs (mc - cb) (ms - sb) Z (F0 m pc ls st)
section MWrows
variable {E : mi_E} {M : mi_M} {d pc : Nat} {lv : List (Option Value)} {st : List Value} {h : va_W} {mc ms : Nat} {Q : mi_O → va_W → Nat → Nat → Prop}
theorem W.mono {p : Program} {l : Launch} {e : Env} {R : Room} {s : State} {m : MethodId} {args : Array Value} {below : List Frame} {meth : Method} {c : Code} {H : Heap} {locs : List Loc} {cells slots : Nat} {Q1 Q2 : State → Prop} {g : JFrame} (k : W p l e R s m args below meth c H locs cells slots Q1 g) (hq : ∀ t, Q1 t → Q2 t) : W p l e R s m args below meth c H locs cells slots Q2 g := fun T hT X => by
  obtain ⟨t, a, b⟩ := k T hT X
  exact ⟨t, a, hq t b⟩
theorem MW.mono {Q' : mi_O → va_W → Nat → Nat → Prop} (k : MW E M d pc lv st h mc ms Q) (hq : ∀ o h' mc' ms', Q o h' mc' ms' → Q' o h' mc' ms') : MW E M d pc lv st h mc ms Q' := by
  intro p e R s m args below meth c H locs ls A cb sb Z hp hz
  exact k p e R s m args below meth c H locs ls A cb sb Z hp (fun o h' mc' ms' t q => hz o h' mc' ms' t (hq _ _ _ _ q))
/-- the locals that are no longer looked at -/
theorem MW.drop {lv' : List (Option Value)} (hs : ∀ (i : Nat) (v : Value), lv'[i]? = some (some v) → lv[i]? = some (some v)) (hl : lv'.length ≤ lv.length) (k : MW E M d pc lv' st h mc ms Q) : MW E M d pc lv st h mc ms Q := by
  intro p e R s m args below meth c H locs ls A cb sb Z hp hz
  exact k p e R s m args below meth c H locs ls A cb sb Z ⟨hp.1, hp.2.1, ⟨hp.2.2.1.1.forget hs, Nat.le_trans hl hp.2.2.1.2⟩, hp.2.2.2⟩ hz

theorem MW.iconst {n : Int} {v : Int32} (hd : decode M.2.1 pc = .ok (Instr.iconst n, 1)) (hv : Int32.ofInt n = v) (k : MW E M d (pc + 1) lv (.int v :: st) h mc ms Q) : MW E M d pc lv (st) h mc ms Q := by
  intro p e R s m args below meth c H locs ls A cb sb Z hp hz
  exact lv_iconst hp.1.1 hp.1.2.1 hd hv (k p e R s m args below meth c H locs ls A cb sb Z hp hz)
theorem MW.bipush {n : Int} {v : Int32} (hd : decode M.2.1 pc = .ok (Instr.bipush n, 2)) (hv : (Int8.ofInt n).toInt32 = v) (k : MW E M d (pc + 2) lv (.int v :: st) h mc ms Q) : MW E M d pc lv (st) h mc ms Q := by
  intro p e R s m args below meth c H locs ls A cb sb Z hp hz
  exact lv_bipush hp.1.1 hp.1.2.1 hd hv (k p e R s m args below meth c H locs ls A cb sb Z hp hz)
theorem MW.sipush {n : Int} {v : Int32} (hd : decode M.2.1 pc = .ok (Instr.sipush n, 3)) (hv : (Int16.ofInt n).toInt32 = v) (k : MW E M d (pc + 3) lv (.int v :: st) h mc ms Q) : MW E M d pc lv (st) h mc ms Q := by
  intro p e R s m args below meth c H locs ls A cb sb Z hp hz
  exact lv_sipush hp.1.1 hp.1.2.1 hd hv (k p e R s m args below meth c H locs ls A cb sb Z hp hz)
theorem MW.ldc {idx : Nat} {v : Int32} (hd : decode M.2.1 pc = .ok (Instr.ldc idx, 2)) (hw : Cond.constant M.1 idx v ∈ mi_T) (k : MW E M d (pc + 2) lv (.int v :: st) h mc ms Q) : MW E M d pc lv (st) h mc ms Q := by
  intro p e R s m args below meth c H locs ls A cb sb Z hp hz
  exact lv_ldc hp.1.1 hp.1.2.1 hp.1.2.2.2.1 (hp.2.1.1 _ hw) hd (k p e R s m args below meth c H locs ls A cb sb Z hp hz)
theorem MW.lconst {n : Fin 2} {v : Int64} (hd : decode M.2.1 pc = .ok (Instr.lconst n, 1)) (hv : Int64.ofNat (n : Nat) = v) (k : MW E M d (pc + 1) lv (.long v :: st) h mc ms Q) : MW E M d pc lv (st) h mc ms Q := by
  intro p e R s m args below meth c H locs ls A cb sb Z hp hz
  exact lv_lconst hp.1.1 hp.1.2.1 hd hv (k p e R s m args below meth c H locs ls A cb sb Z hp hz)
theorem MW.anull  (hd : decode M.2.1 pc = .ok (Instr.aconst_null, 1)) (k : MW E M d (pc + 1) lv (.null :: st) h mc ms Q) : MW E M d pc lv (st) h mc ms Q := by
  intro p e R s m args below meth c H locs ls A cb sb Z hp hz
  exact lv_null hp.1.1 hp.1.2.1 hd (k p e R s m args below meth c H locs ls A cb sb Z hp hz)
theorem MW.iload_n {kk : Fin 4} {x : Int32} (hd : decode M.2.1 pc = .ok (Instr.iload_n kk, 1)) (hl : lv[(kk : Nat)]? = some (some (.int x))) (k : MW E M d (pc + 1) lv (.int x :: st) h mc ms Q) : MW E M d pc lv (st) h mc ms Q := by
  intro p e R s m args below meth c H locs ls A cb sb Z hp hz
  exact lv_iload_n hp.1.1 hp.1.2.1 hd rfl (hp.2.2.1.1.2.2 _ _ hl) (k p e R s m args below meth c H locs ls A cb sb Z hp hz)
theorem MW.iload {i : Nat} {x : Int32} (hd : decode M.2.1 pc = .ok (Instr.iload i, 2)) (hl : lv[i]? = some (some (.int x))) (k : MW E M d (pc + 2) lv (.int x :: st) h mc ms Q) : MW E M d pc lv (st) h mc ms Q := by
  intro p e R s m args below meth c H locs ls A cb sb Z hp hz
  exact lv_iload hp.1.1 hp.1.2.1 hd (hp.2.2.1.1.2.2 _ _ hl) (k p e R s m args below meth c H locs ls A cb sb Z hp hz)
theorem MW.aload_n {kk : Fin 4} {x : Nat} (hd : decode M.2.1 pc = .ok (Instr.aload_n kk, 1)) (hl : lv[(kk : Nat)]? = some (some (.ref x))) (k : MW E M d (pc + 1) lv (.ref x :: st) h mc ms Q) : MW E M d pc lv (st) h mc ms Q := by
  intro p e R s m args below meth c H locs ls A cb sb Z hp hz
  exact lv_aload_n hp.1.1 hp.1.2.1 hd rfl (hp.2.2.1.1.2.2 _ _ hl) (k p e R s m args below meth c H locs ls A cb sb Z hp hz)
theorem MW.aload {i : Nat} {x : Nat} (hd : decode M.2.1 pc = .ok (Instr.aload i, 2)) (hl : lv[i]? = some (some (.ref x))) (k : MW E M d (pc + 2) lv (.ref x :: st) h mc ms Q) : MW E M d pc lv (st) h mc ms Q := by
  intro p e R s m args below meth c H locs ls A cb sb Z hp hz
  exact lv_aload hp.1.1 hp.1.2.1 hd (hp.2.2.1.1.2.2 _ _ hl) (k p e R s m args below meth c H locs ls A cb sb Z hp hz)
theorem MW.lload_n {kk : Fin 4} {x : Int64} (hd : decode M.2.1 pc = .ok (Instr.lload_n kk, 1)) (hl : lv[(kk : Nat)]? = some (some (.long x))) (k : MW E M d (pc + 1) lv (.long x :: st) h mc ms Q) : MW E M d pc lv (st) h mc ms Q := by
  intro p e R s m args below meth c H locs ls A cb sb Z hp hz
  exact lv_lload_n hp.1.1 hp.1.2.1 hd rfl (hp.2.2.1.1.2.2 _ _ hl) (k p e R s m args below meth c H locs ls A cb sb Z hp hz)
theorem MW.lload {i : Nat} {x : Int64} (hd : decode M.2.1 pc = .ok (Instr.lload i, 2)) (hl : lv[i]? = some (some (.long x))) (k : MW E M d (pc + 2) lv (.long x :: st) h mc ms Q) : MW E M d pc lv (st) h mc ms Q := by
  intro p e R s m args below meth c H locs ls A cb sb Z hp hz
  exact lv_lload hp.1.1 hp.1.2.1 hd (hp.2.2.1.1.2.2 _ _ hl) (k p e R s m args below meth c H locs ls A cb sb Z hp hz)
theorem MW.istore_n {kk : Fin 4} {x : Int32} (hd : decode M.2.1 pc = .ok (Instr.istore_n kk, 1)) (hn : Nat.ble ((kk : Nat) + 1) M.2.2.1 = true) (hj : mi_nl lv (kk : Nat) = true) (k : MW E M d (pc + 1) (lv.set (kk : Nat) (some (.int x))) st h mc ms Q) : MW E M d pc lv (.int x :: st) h mc ms Q := by
  intro p e R s m args below meth c H locs ls A cb sb Z hp hz
  refine lv_istore_n hp.1.1 hp.1.2.1 hd rfl hp.2.2.1.1.has (Nat.le_of_ble_eq_true hn) rfl (fun ls' hl => ?_)
  exact k p e R s m args below meth c H locs ls' A cb sb Z ⟨hp.1, hp.2.1, ⟨mi_L.back hj hl hp.2.2.1.2, by rw [List.length_set]; exact hp.2.2.1.2⟩, hp.2.2.2⟩ hz
theorem MW.istore {i : Nat} {x : Int32} (hd : decode M.2.1 pc = .ok (Instr.istore i, 2)) (hn : Nat.ble (i + 1) M.2.2.1 = true) (hj : mi_nl lv i = true) (k : MW E M d (pc + 2) (lv.set i (some (.int x))) st h mc ms Q) : MW E M d pc lv (.int x :: st) h mc ms Q := by
  intro p e R s m args below meth c H locs ls A cb sb Z hp hz
  refine lv_istore hp.1.1 hp.1.2.1 hd hp.2.2.1.1.has (Nat.le_of_ble_eq_true hn) rfl (fun ls' hl => ?_)
  exact k p e R s m args below meth c H locs ls' A cb sb Z ⟨hp.1, hp.2.1, ⟨mi_L.back hj hl hp.2.2.1.2, by rw [List.length_set]; exact hp.2.2.1.2⟩, hp.2.2.2⟩ hz
theorem MW.astore_n {kk : Fin 4} {x : Nat} (hd : decode M.2.1 pc = .ok (Instr.astore_n kk, 1)) (hn : Nat.ble ((kk : Nat) + 1) M.2.2.1 = true) (hj : mi_nl lv (kk : Nat) = true) (k : MW E M d (pc + 1) (lv.set (kk : Nat) (some (.ref x))) st h mc ms Q) : MW E M d pc lv (.ref x :: st) h mc ms Q := by
  intro p e R s m args below meth c H locs ls A cb sb Z hp hz
  refine lv_astore_n hp.1.1 hp.1.2.1 hd rfl hp.2.2.1.1.has (Nat.le_of_ble_eq_true hn) rfl (fun ls' hl => ?_)
  exact k p e R s m args below meth c H locs ls' A cb sb Z ⟨hp.1, hp.2.1, ⟨mi_L.back hj hl hp.2.2.1.2, by rw [List.length_set]; exact hp.2.2.1.2⟩, hp.2.2.2⟩ hz
theorem MW.astore {i : Nat} {x : Nat} (hd : decode M.2.1 pc = .ok (Instr.astore i, 2)) (hn : Nat.ble (i + 1) M.2.2.1 = true) (hj : mi_nl lv i = true) (k : MW E M d (pc + 2) (lv.set i (some (.ref x))) st h mc ms Q) : MW E M d pc lv (.ref x :: st) h mc ms Q := by
  intro p e R s m args below meth c H locs ls A cb sb Z hp hz
  refine lv_astore hp.1.1 hp.1.2.1 hd hp.2.2.1.1.has (Nat.le_of_ble_eq_true hn) rfl (fun ls' hl => ?_)
  exact k p e R s m args below meth c H locs ls' A cb sb Z ⟨hp.1, hp.2.1, ⟨mi_L.back hj hl hp.2.2.1.2, by rw [List.length_set]; exact hp.2.2.1.2⟩, hp.2.2.2⟩ hz
theorem MW.iinc {i : Nat} {n : Int} {x v : Int32} (hd : decode M.2.1 pc = .ok (Instr.iinc i n, 3)) (hl : lv[i]? = some (some (.int x))) (hv : x + Int32.ofInt n = v) (hn : Nat.ble (i + 1) M.2.2.1 = true) (hj : mi_nl lv i = true) (k : MW E M d (pc + 3) (lv.set i (some (.int v))) st h mc ms Q) : MW E M d pc lv st h mc ms Q := by
  intro p e R s m args below meth c H locs ls A cb sb Z hp hz
  have hmem : (i, Value.int x) ∈ mi_al M.2.2.1 lv := mi_al_mem.mpr ⟨Nat.le_of_ble_eq_true hn, hl⟩
  obtain ⟨k0, hk0⟩ := List.getElem?_of_mem hmem
  refine lv_iinc hp.1.1 hp.1.2.1 hd hp.2.2.1.1.has hk0 hv (Nat.le_of_ble_eq_true hn) rfl (fun ls' hl => ?_)
  exact k p e R s m args below meth c H locs ls' A cb sb Z ⟨hp.1, hp.2.1, ⟨mi_L.back hj hl hp.2.2.1.2, by rw [List.length_set]; exact hp.2.2.1.2⟩, hp.2.2.2⟩ hz
theorem MW.iadd {x y : Int32} (hd : decode M.2.1 pc = .ok (Instr.iadd, 1)) (k : MW E M d (pc + 1) lv (.int (x + y) :: st) h mc ms Q) : MW E M d pc lv (.int y :: .int x :: st) h mc ms Q := by
  intro p e R s m args below meth c H locs ls A cb sb Z hp hz
  exact lv_iadd hp.1.1 hp.1.2.1 hd (k p e R s m args below meth c H locs ls A cb sb Z hp hz)
theorem MW.isub {x y : Int32} (hd : decode M.2.1 pc = .ok (Instr.isub, 1)) (k : MW E M d (pc + 1) lv (.int (x - y) :: st) h mc ms Q) : MW E M d pc lv (.int y :: .int x :: st) h mc ms Q := by
  intro p e R s m args below meth c H locs ls A cb sb Z hp hz
  exact lv_isub hp.1.1 hp.1.2.1 hd (k p e R s m args below meth c H locs ls A cb sb Z hp hz)
theorem MW.imul {x y : Int32} (hd : decode M.2.1 pc = .ok (Instr.imul, 1)) (k : MW E M d (pc + 1) lv (.int (x * y) :: st) h mc ms Q) : MW E M d pc lv (.int y :: .int x :: st) h mc ms Q := by
  intro p e R s m args below meth c H locs ls A cb sb Z hp hz
  exact lv_imul hp.1.1 hp.1.2.1 hd (k p e R s m args below meth c H locs ls A cb sb Z hp hz)
theorem MW.iand {x y : Int32} (hd : decode M.2.1 pc = .ok (Instr.iand, 1)) (k : MW E M d (pc + 1) lv (.int (x &&& y) :: st) h mc ms Q) : MW E M d pc lv (.int y :: .int x :: st) h mc ms Q := by
  intro p e R s m args below meth c H locs ls A cb sb Z hp hz
  exact lv_iand hp.1.1 hp.1.2.1 hd (k p e R s m args below meth c H locs ls A cb sb Z hp hz)
theorem MW.ior {x y : Int32} (hd : decode M.2.1 pc = .ok (Instr.ior, 1)) (k : MW E M d (pc + 1) lv (.int (x ||| y) :: st) h mc ms Q) : MW E M d pc lv (.int y :: .int x :: st) h mc ms Q := by
  intro p e R s m args below meth c H locs ls A cb sb Z hp hz
  exact lv_ior hp.1.1 hp.1.2.1 hd (k p e R s m args below meth c H locs ls A cb sb Z hp hz)
theorem MW.ixor {x y : Int32} (hd : decode M.2.1 pc = .ok (Instr.ixor, 1)) (k : MW E M d (pc + 1) lv (.int (x ^^^ y) :: st) h mc ms Q) : MW E M d pc lv (.int y :: .int x :: st) h mc ms Q := by
  intro p e R s m args below meth c H locs ls A cb sb Z hp hz
  exact lv_ixor hp.1.1 hp.1.2.1 hd (k p e R s m args below meth c H locs ls A cb sb Z hp hz)
theorem MW.ladd {x y : Int64} (hd : decode M.2.1 pc = .ok (Instr.ladd, 1)) (k : MW E M d (pc + 1) lv (.long (x + y) :: st) h mc ms Q) : MW E M d pc lv (.long y :: .long x :: st) h mc ms Q := by
  intro p e R s m args below meth c H locs ls A cb sb Z hp hz
  exact lv_ladd hp.1.1 hp.1.2.1 hd (k p e R s m args below meth c H locs ls A cb sb Z hp hz)
theorem MW.lsub {x y : Int64} (hd : decode M.2.1 pc = .ok (Instr.lsub, 1)) (k : MW E M d (pc + 1) lv (.long (x - y) :: st) h mc ms Q) : MW E M d pc lv (.long y :: .long x :: st) h mc ms Q := by
  intro p e R s m args below meth c H locs ls A cb sb Z hp hz
  exact lv_lsub hp.1.1 hp.1.2.1 hd (k p e R s m args below meth c H locs ls A cb sb Z hp hz)
theorem MW.lmul {x y : Int64} (hd : decode M.2.1 pc = .ok (Instr.lmul, 1)) (k : MW E M d (pc + 1) lv (.long (x * y) :: st) h mc ms Q) : MW E M d pc lv (.long y :: .long x :: st) h mc ms Q := by
  intro p e R s m args below meth c H locs ls A cb sb Z hp hz
  exact lv_lmul hp.1.1 hp.1.2.1 hd (k p e R s m args below meth c H locs ls A cb sb Z hp hz)
theorem MW.ineg {x : Int32} (hd : decode M.2.1 pc = .ok (Instr.ineg, 1)) (k : MW E M d (pc + 1) lv (.int (-x) :: st) h mc ms Q) : MW E M d pc lv (.int x :: st) h mc ms Q := by
  intro p e R s m args below meth c H locs ls A cb sb Z hp hz
  exact lv_ineg hp.1.1 hp.1.2.1 hd (k p e R s m args below meth c H locs ls A cb sb Z hp hz)
theorem MW.idiv {x y : Int32} (hd : decode M.2.1 pc = .ok (Instr.idiv, 1)) (hne : ¬ y = 0) (k : MW E M d (pc + 1) lv (.int (x / y) :: st) h mc ms Q) : MW E M d pc lv (.int y :: .int x :: st) h mc ms Q := by
  intro p e R s m args below meth c H locs ls A cb sb Z hp hz
  exact lv_idiv hp.1.1 hp.1.2.1 hd hne (k p e R s m args below meth c H locs ls A cb sb Z hp hz)
theorem MW.irem {x y : Int32} (hd : decode M.2.1 pc = .ok (Instr.irem, 1)) (hne : ¬ y = 0) (k : MW E M d (pc + 1) lv (.int (x - x / y * y) :: st) h mc ms Q) : MW E M d pc lv (.int y :: .int x :: st) h mc ms Q := by
  intro p e R s m args below meth c H locs ls A cb sb Z hp hz
  exact lv_irem hp.1.1 hp.1.2.1 hd hne (k p e R s m args below meth c H locs ls A cb sb Z hp hz)
theorem MW.i2l {x : Int32} (hd : decode M.2.1 pc = .ok (Instr.i2l, 1)) (k : MW E M d (pc + 1) lv (.long x.toInt64 :: st) h mc ms Q) : MW E M d pc lv (.int x :: st) h mc ms Q := by
  intro p e R s m args below meth c H locs ls A cb sb Z hp hz
  exact lv_i2l hp.1.1 hp.1.2.1 hd rfl (k p e R s m args below meth c H locs ls A cb sb Z hp hz)
theorem MW.l2i {x : Int64} (hd : decode M.2.1 pc = .ok (Instr.l2i, 1)) (k : MW E M d (pc + 1) lv (.int x.toInt32 :: st) h mc ms Q) : MW E M d pc lv (.long x :: st) h mc ms Q := by
  intro p e R s m args below meth c H locs ls A cb sb Z hp hz
  exact lv_l2i hp.1.1 hp.1.2.1 hd rfl (k p e R s m args below meth c H locs ls A cb sb Z hp hz)
theorem MW.lcmp {x y : Int64} (hd : decode M.2.1 pc = .ok (Instr.lcmp, 1)) (k : MW E M d (pc + 1) lv (.int (lg_cmp x y) :: st) h mc ms Q) : MW E M d pc lv (.long y :: .long x :: st) h mc ms Q := by
  intro p e R s m args below meth c H locs ls A cb sb Z hp hz
  exact W.lcmp hp.1.1 hp.1.2.1 hd (k p e R s m args below meth c H locs ls A cb sb Z hp hz)
theorem MW.dup {v : Value} (hd : decode M.2.1 pc = .ok (Instr.dup, 1)) (hv : v.category = 1) (k : MW E M d (pc + 1) lv (v :: v :: st) h mc ms Q) : MW E M d pc lv (v :: st) h mc ms Q := by
  intro p e R s m args below meth c H locs ls A cb sb Z hp hz
  exact lv_dup hp.1.1 hp.1.2.1 hd hv (k p e R s m args below meth c H locs ls A cb sb Z hp hz)
theorem MW.pop {v : Value} (hd : decode M.2.1 pc = .ok (Instr.pop, 1)) (hv : v.category = 1) (k : MW E M d (pc + 1) lv (st) h mc ms Q) : MW E M d pc lv (v :: st) h mc ms Q := by
  intro p e R s m args below meth c H locs ls A cb sb Z hp hz
  exact lv_pop hp.1.1 hp.1.2.1 hd hv (k p e R s m args below meth c H locs ls A cb sb Z hp hz)
theorem MW.dup_x1 {v w : Value} (hd : decode M.2.1 pc = .ok (Instr.dup_x1, 1)) (hv : v.category = 1) (hw : w.category = 1) (k : MW E M d (pc + 1) lv (v :: w :: v :: st) h mc ms Q) : MW E M d pc lv (v :: w :: st) h mc ms Q := by
  intro p e R s m args below meth c H locs ls A cb sb Z hp hz
  exact lv_dup_x1 hp.1.1 hp.1.2.1 hd hv hw (k p e R s m args below meth c H locs ls A cb sb Z hp hz)
theorem MW.dup2 {v w : Value} (hd : decode M.2.1 pc = .ok (Instr.dup2, 1)) (hv : v.category = 1) (hw : w.category = 1) (k : MW E M d (pc + 1) lv (v :: w :: v :: w :: st) h mc ms Q) : MW E M d pc lv (v :: w :: st) h mc ms Q := by
  intro p e R s m args below meth c H locs ls A cb sb Z hp hz
  exact lv_dup2_11 hp.1.1 hp.1.2.1 hd hv hw (k p e R s m args below meth c H locs ls A cb sb Z hp hz)
theorem MW.if_eq {x : Int32} {off : Int} (tgt : Nat) (hd : decode M.2.1 pc = .ok (Instr.ifCond .eq off, 3)) (ht : (pc : Int) + off = (tgt : Int)) (kt : x = 0 → MW E M d tgt lv st h mc ms Q) (kf : ¬ x = 0 → MW E M d (pc + 3) lv st h mc ms Q) : MW E M d pc lv (.int x :: st) h mc ms Q := by
  intro p e R s m args below meth c H locs ls A cb sb Z hp hz
  exact lv_if_eq hp.1.1 hp.1.2.1 hd ht (fun q => kt q p e R s m args below meth c H locs ls A cb sb Z hp hz) (fun q => kf q p e R s m args below meth c H locs ls A cb sb Z hp hz)
theorem MW.if_ne {x : Int32} {off : Int} (tgt : Nat) (hd : decode M.2.1 pc = .ok (Instr.ifCond .ne off, 3)) (ht : (pc : Int) + off = (tgt : Int)) (kt : ¬ x = 0 → MW E M d tgt lv st h mc ms Q) (kf : x = 0 → MW E M d (pc + 3) lv st h mc ms Q) : MW E M d pc lv (.int x :: st) h mc ms Q := by
  intro p e R s m args below meth c H locs ls A cb sb Z hp hz
  exact lv_if_ne hp.1.1 hp.1.2.1 hd ht (fun q => kt q p e R s m args below meth c H locs ls A cb sb Z hp hz) (fun q => kf q p e R s m args below meth c H locs ls A cb sb Z hp hz)
theorem MW.if_lt {x : Int32} {off : Int} (tgt : Nat) (hd : decode M.2.1 pc = .ok (Instr.ifCond .lt off, 3)) (ht : (pc : Int) + off = (tgt : Int)) (kt : x < 0 → MW E M d tgt lv st h mc ms Q) (kf : ¬ x < 0 → MW E M d (pc + 3) lv st h mc ms Q) : MW E M d pc lv (.int x :: st) h mc ms Q := by
  intro p e R s m args below meth c H locs ls A cb sb Z hp hz
  exact lv_if_lt hp.1.1 hp.1.2.1 hd ht (fun q => kt q p e R s m args below meth c H locs ls A cb sb Z hp hz) (fun q => kf q p e R s m args below meth c H locs ls A cb sb Z hp hz)
theorem MW.if_ge {x : Int32} {off : Int} (tgt : Nat) (hd : decode M.2.1 pc = .ok (Instr.ifCond .ge off, 3)) (ht : (pc : Int) + off = (tgt : Int)) (kt : 0 ≤ x → MW E M d tgt lv st h mc ms Q) (kf : ¬ 0 ≤ x → MW E M d (pc + 3) lv st h mc ms Q) : MW E M d pc lv (.int x :: st) h mc ms Q := by
  intro p e R s m args below meth c H locs ls A cb sb Z hp hz
  exact lv_if_ge hp.1.1 hp.1.2.1 hd ht (fun q => kt q p e R s m args below meth c H locs ls A cb sb Z hp hz) (fun q => kf q p e R s m args below meth c H locs ls A cb sb Z hp hz)
theorem MW.if_gt {x : Int32} {off : Int} (tgt : Nat) (hd : decode M.2.1 pc = .ok (Instr.ifCond .gt off, 3)) (ht : (pc : Int) + off = (tgt : Int)) (kt : 0 < x → MW E M d tgt lv st h mc ms Q) (kf : ¬ 0 < x → MW E M d (pc + 3) lv st h mc ms Q) : MW E M d pc lv (.int x :: st) h mc ms Q := by
  intro p e R s m args below meth c H locs ls A cb sb Z hp hz
  exact lv_if_gt hp.1.1 hp.1.2.1 hd ht (fun q => kt q p e R s m args below meth c H locs ls A cb sb Z hp hz) (fun q => kf q p e R s m args below meth c H locs ls A cb sb Z hp hz)
theorem MW.if_le {x : Int32} {off : Int} (tgt : Nat) (hd : decode M.2.1 pc = .ok (Instr.ifCond .le off, 3)) (ht : (pc : Int) + off = (tgt : Int)) (kt : x ≤ 0 → MW E M d tgt lv st h mc ms Q) (kf : ¬ x ≤ 0 → MW E M d (pc + 3) lv st h mc ms Q) : MW E M d pc lv (.int x :: st) h mc ms Q := by
  intro p e R s m args below meth c H locs ls A cb sb Z hp hz
  exact lv_if_le hp.1.1 hp.1.2.1 hd ht (fun q => kt q p e R s m args below meth c H locs ls A cb sb Z hp hz) (fun q => kf q p e R s m args below meth c H locs ls A cb sb Z hp hz)
theorem MW.icmp_eq {x y : Int32} {off : Int} (tgt : Nat) (hd : decode M.2.1 pc = .ok (Instr.if_icmp .eq off, 3)) (ht : (pc : Int) + off = (tgt : Int)) (kt : x = y → MW E M d tgt lv st h mc ms Q) (kf : ¬ x = y → MW E M d (pc + 3) lv st h mc ms Q) : MW E M d pc lv (.int y :: .int x :: st) h mc ms Q := by
  intro p e R s m args below meth c H locs ls A cb sb Z hp hz
  exact lv_icmp_eq hp.1.1 hp.1.2.1 hd ht (fun q => kt q p e R s m args below meth c H locs ls A cb sb Z hp hz) (fun q => kf q p e R s m args below meth c H locs ls A cb sb Z hp hz)
theorem MW.icmp_ne {x y : Int32} {off : Int} (tgt : Nat) (hd : decode M.2.1 pc = .ok (Instr.if_icmp .ne off, 3)) (ht : (pc : Int) + off = (tgt : Int)) (kt : ¬ x = y → MW E M d tgt lv st h mc ms Q) (kf : x = y → MW E M d (pc + 3) lv st h mc ms Q) : MW E M d pc lv (.int y :: .int x :: st) h mc ms Q := by
  intro p e R s m args below meth c H locs ls A cb sb Z hp hz
  exact lv_icmp_ne hp.1.1 hp.1.2.1 hd ht (fun q => kt q p e R s m args below meth c H locs ls A cb sb Z hp hz) (fun q => kf q p e R s m args below meth c H locs ls A cb sb Z hp hz)
theorem MW.icmp_lt {x y : Int32} {off : Int} (tgt : Nat) (hd : decode M.2.1 pc = .ok (Instr.if_icmp .lt off, 3)) (ht : (pc : Int) + off = (tgt : Int)) (kt : x < y → MW E M d tgt lv st h mc ms Q) (kf : ¬ x < y → MW E M d (pc + 3) lv st h mc ms Q) : MW E M d pc lv (.int y :: .int x :: st) h mc ms Q := by
  intro p e R s m args below meth c H locs ls A cb sb Z hp hz
  exact lv_icmp_lt hp.1.1 hp.1.2.1 hd ht (fun q => kt q p e R s m args below meth c H locs ls A cb sb Z hp hz) (fun q => kf q p e R s m args below meth c H locs ls A cb sb Z hp hz)
theorem MW.icmp_ge {x y : Int32} {off : Int} (tgt : Nat) (hd : decode M.2.1 pc = .ok (Instr.if_icmp .ge off, 3)) (ht : (pc : Int) + off = (tgt : Int)) (kt : y ≤ x → MW E M d tgt lv st h mc ms Q) (kf : ¬ y ≤ x → MW E M d (pc + 3) lv st h mc ms Q) : MW E M d pc lv (.int y :: .int x :: st) h mc ms Q := by
  intro p e R s m args below meth c H locs ls A cb sb Z hp hz
  exact lv_icmp_ge hp.1.1 hp.1.2.1 hd ht (fun q => kt q p e R s m args below meth c H locs ls A cb sb Z hp hz) (fun q => kf q p e R s m args below meth c H locs ls A cb sb Z hp hz)
theorem MW.icmp_gt {x y : Int32} {off : Int} (tgt : Nat) (hd : decode M.2.1 pc = .ok (Instr.if_icmp .gt off, 3)) (ht : (pc : Int) + off = (tgt : Int)) (kt : y < x → MW E M d tgt lv st h mc ms Q) (kf : ¬ y < x → MW E M d (pc + 3) lv st h mc ms Q) : MW E M d pc lv (.int y :: .int x :: st) h mc ms Q := by
  intro p e R s m args below meth c H locs ls A cb sb Z hp hz
  exact lv_icmp_gt hp.1.1 hp.1.2.1 hd ht (fun q => kt q p e R s m args below meth c H locs ls A cb sb Z hp hz) (fun q => kf q p e R s m args below meth c H locs ls A cb sb Z hp hz)
theorem MW.icmp_le {x y : Int32} {off : Int} (tgt : Nat) (hd : decode M.2.1 pc = .ok (Instr.if_icmp .le off, 3)) (ht : (pc : Int) + off = (tgt : Int)) (kt : x ≤ y → MW E M d tgt lv st h mc ms Q) (kf : ¬ x ≤ y → MW E M d (pc + 3) lv st h mc ms Q) : MW E M d pc lv (.int y :: .int x :: st) h mc ms Q := by
  intro p e R s m args below meth c H locs ls A cb sb Z hp hz
  exact lv_icmp_le hp.1.1 hp.1.2.1 hd ht (fun q => kt q p e R s m args below meth c H locs ls A cb sb Z hp hz) (fun q => kf q p e R s m args below meth c H locs ls A cb sb Z hp hz)
theorem MW.goto {off : Int} (tgt : Nat) (hd : decode M.2.1 pc = .ok (Instr.goto off, 3)) (ht : (pc : Int) + off = (tgt : Int)) (k : MW E M d tgt lv st h mc ms Q) : MW E M d pc lv st h mc ms Q := by
  intro p e R s m args below meth c H locs ls A cb sb Z hp hz
  exact lv_goto hp.1.1 hp.1.2.1 hd ht (k p e R s m args below meth c H locs ls A cb sb Z hp hz)
theorem MW.acmp_eq {a b : Nat} {off : Int} (tgt : Nat) (hd : decode M.2.1 pc = .ok (Instr.if_acmp .eq off, 3)) (ht : (pc : Int) + off = (tgt : Int)) (kt : a = b → MW E M d tgt lv st h mc ms Q) (kf : ¬ a = b → MW E M d (pc + 3) lv st h mc ms Q) : MW E M d pc lv (.ref b :: .ref a :: st) h mc ms Q := by
  intro p e R s m args below meth c H locs ls A cb sb Z hp hz
  exact lv_acmp_eq (rx := some a) (ry := some b) hp.1.1 hp.1.2.1 hd ht (fun q => kt (Option.some.inj q) p e R s m args below meth c H locs ls A cb sb Z hp hz) (fun q => kf (fun z => q (congrArg some z)) p e R s m args below meth c H locs ls A cb sb Z hp hz)
theorem MW.acmp_ne {a b : Nat} {off : Int} (tgt : Nat) (hd : decode M.2.1 pc = .ok (Instr.if_acmp .ne off, 3)) (ht : (pc : Int) + off = (tgt : Int)) (kt : ¬ a = b → MW E M d tgt lv st h mc ms Q) (kf : a = b → MW E M d (pc + 3) lv st h mc ms Q) : MW E M d pc lv (.ref b :: .ref a :: st) h mc ms Q := by
  intro p e R s m args below meth c H locs ls A cb sb Z hp hz
  exact lv_acmp_ne (rx := some a) (ry := some b) hp.1.1 hp.1.2.1 hd ht (fun q => kt (fun z => q (congrArg some z)) p e R s m args below meth c H locs ls A cb sb Z hp hz) (fun q => kf (Option.some.inj q) p e R s m args below meth c H locs ls A cb sb Z hp hz)

/-- a class whose objects the world holds -/
def mi_Cl (ci : Nat) (C : String) (T : u_T) (N : Nat) (ty : Nat → FieldType) : Prop := classes[ci]? = some (C, T, N) ∧ (∀ w ∈ u_ws C T N, w ∈ mi_T) ∧ (∀ k, k < N → parseFieldDescriptor (T k).2.2.1 = some (ty k)) ∧ (∀ a, a < N → ∀ b, b < N → a ≠ b → (T a).2.1 ≠ (T b).2.1)
/-- the instruction at pc reads field k of the class ci -/
def mi_Gf (M : mi_M) (pc ci k : Nat) : Prop := ∃ (idx : Nat) (C : String) (T : u_T) (N : Nat) (ty : Nat → FieldType), mi_Cl ci C T N ty ∧ k < N ∧ decode M.2.1 pc = .ok (Instr.getfield idx, 3) ∧ (Cond.fieldLink M.1 idx (T k).1 (T k).2.1 (T k).2.2.1 ∈ mi_T ∨ ∃ host : String, Cond.fieldLinkNest M.1 idx (T k).1 (T k).2.1 (T k).2.2.1 host ∈ mi_T)
/-- .. writes it; the field's type is fty -/
def mi_Pf (M : mi_M) (pc ci k : Nat) (fty : FieldType) : Prop := ∃ (idx : Nat) (C : String) (T : u_T) (N : Nat) (ty : Nat → FieldType), mi_Cl ci C T N ty ∧ k < N ∧ decode M.2.1 pc = .ok (Instr.putfield idx, 3) ∧ parseFieldDescriptor (T k).2.2.1 = some fty ∧
  (((T k).2.2.2 = false ∧ (Cond.fieldLink M.1 idx (T k).1 (T k).2.1 (T k).2.2.1 ∈ mi_T ∨ ∃ host : String, Cond.fieldLinkNest M.1 idx (T k).1 (T k).2.1 (T k).2.2.1 host ∈ mi_T)) ∨ ((T k).2.2.2 = true ∧ M.2.2.2.2.2 = "<init>" ∧ (T k).1 = M.1 ∧ Cond.fieldLink M.1 idx (T k).1 (T k).2.1 (T k).2.2.1 ∈ mi_T))
theorem MW.getf {ci k a : Nat} (hf : mi_Gf M pc ci k) (q0 : Nat) {fs : List Value} {v : Value} (he : h[q0]? = some (a, .inr (ci, fs))) (hv : fs[k]? = some v) (kk : MW E M d (pc + 3) lv (v :: st) h mc ms Q) : MW E M d pc lv (.ref a :: st) h mc ms Q := by
  intro p e R s m args below meth c H locs ls A cb sb Z hp hz
  obtain ⟨idx, C, T, N, ty, ⟨hc, hin, -, -⟩, hk, hd, hl | ⟨host, hl⟩⟩ := hf
  · exact va_get (D := E.2.1) hp.1.1 hp.1.2.1 hp.2.1.1 hin hp.1.2.2.2.1 hp.2.1.2.1 hp.2.2.2.1.1 q0 he hc k hk (hp.2.1.1 _ hl) (fun _ h9 => h9) hv hd (kk p e R s m args below meth c H locs ls A cb sb Z hp hz)
  · exact va_getN (D := E.2.1) hp.1.1 hp.1.2.1 hp.2.1.1 hin hp.1.2.2.2.1 hp.2.1.2.1 hp.2.2.2.1.1 q0 he hc k hk (hp.2.1.1 _ hl) (fun _ h9 => h9) hv hd (kk p e R s m args below meth c H locs ls A cb sb Z hp hz)
theorem MW.putf {ci k a : Nat} {fty : FieldType} (hf : mi_Pf M pc ci k fty) (q0 : Nat) {fs : List Value} {v : Value} (he : h[q0]? = some (a, .inr (ci, fs))) (hn : narrow fty v = v) (hfit : fits fty v = true) (hl : Nat.ble (k + 1) fs.length = true) (kk : MW E M d (pc + 3) lv st (h.set q0 (a, .inr (ci, fs.set k v))) mc ms Q) : MW E M d pc lv (v :: .ref a :: st) h mc ms Q := by
  intro p e R s m args below meth c H locs ls A cb sb Z hp hz
  obtain ⟨idx, C, T, N, ty, ⟨hc, hin, hty, hnm⟩, hk, hd, hd2, ⟨hfin, hw | ⟨host, hw⟩⟩ | ⟨hfin, hin2, hdecl, hw⟩⟩ := hf
  · refine va_put (D := E.2.1) hp.1.1 hp.1.2.1 hp.2.1.1 hin ty hty hnm hp.1.2.2.2.1 hp.2.1.2.1 hp.2.2.2.1.1 hp.2.2.2.1.2.1 hp.2.2.2.1.2.2.1 q0 he hc k hk (hp.2.1.1 _ hw) (fun _ h9 => h9) hfin hd2 hn hfit (Nat.le_of_ble_eq_true hl) hd (fun H1 locs1 hP hD hS => ?_)
    exact kk p e R s m args below meth c H1 locs1 ls A cb sb Z ⟨hp.1, hp.2.1, hp.2.2.1, ⟨hP, hD, hS, hp.2.2.2.1.2.2.2⟩, hp.2.2.2.2⟩ hz
  · refine va_putN (D := E.2.1) hp.1.1 hp.1.2.1 hp.2.1.1 hin ty hty hnm hp.1.2.2.2.1 hp.2.1.2.1 hp.2.2.2.1.1 hp.2.2.2.1.2.1 hp.2.2.2.1.2.2.1 q0 he hc k hk (hp.2.1.1 _ hw) (fun _ h9 => h9) hfin hd2 hn hfit (Nat.le_of_ble_eq_true hl) hd (fun H1 locs1 hP hD hS => ?_)
    exact kk p e R s m args below meth c H1 locs1 ls A cb sb Z ⟨hp.1, hp.2.1, hp.2.2.1, ⟨hP, hD, hS, hp.2.2.2.1.2.2.2⟩, hp.2.2.2.2⟩ hz
  · refine va_putF (D := E.2.1) hp.1.1 hp.1.2.1 hp.2.1.1 hin ty hty hnm hp.1.2.2.2.1 hp.2.1.2.1 hp.2.2.2.1.1 hp.2.2.2.1.2.1 hp.2.2.2.1.2.2.1 q0 he hc k hk (hp.2.1.1 _ hw) (fun _ h9 => h9) hfin (by rw [hp.1.2.2.2.2.2.2.2]; exact hin2) hdecl hd2 hn hfit (Nat.le_of_ble_eq_true hl) hd (fun H1 locs1 hP hD hS => ?_)
    exact kk p e R s m args below meth c H1 locs1 ls A cb sb Z ⟨hp.1, hp.2.1, hp.2.2.1, ⟨hP, hD, hS, hp.2.2.2.1.2.2.2⟩, hp.2.2.2.2⟩ hz

theorem MW.iald (hd : decode M.2.1 pc = .ok (Instr.iaload, 1)) (q0 t0 : Nat) {a n : Nat} {cA : ClassId} {f : Nat → Int32} (he : h[q0]? = some (a, .inl (cA, n, .inl f))) (ht : E.2.2.1[t0]? = some (cA, .int)) {i : Int32} (hin : vp_in i n) (kk : MW E M d (pc + 1) lv (.int (f i.toNatClampNeg) :: st) h mc ms Q) : MW E M d pc lv (.int i :: .ref a :: st) h mc ms Q := by
  intro p e R s m args below meth c H locs ls A cb sb Z hp hz
  exact va_iald (D := E.2.1) hp.1.1 hp.1.2.1 hp.2.1.2.1 hp.2.2.2.1.1 q0 t0 he ht hin hd (kk p e R s m args below meth c H locs ls A cb sb Z hp hz)
theorem MW.zald (hd : decode M.2.1 pc = .ok (Instr.baload, 1)) (q0 t0 : Nat) {a n : Nat} {cA : ClassId} {f : Nat → Int32} (he : h[q0]? = some (a, .inl (cA, n, .inl f))) (ht : E.2.2.1[t0]? = some (cA, .boolean)) {i : Int32} (hin : vp_in i n) (kk : MW E M d (pc + 1) lv (.int (f i.toNatClampNeg) :: st) h mc ms Q) : MW E M d pc lv (.int i :: .ref a :: st) h mc ms Q := by
  intro p e R s m args below meth c H locs ls A cb sb Z hp hz
  exact va_zald (D := E.2.1) hp.1.1 hp.1.2.1 hp.2.1.2.1 hp.2.2.2.1.1 q0 t0 he ht hin hd (kk p e R s m args below meth c H locs ls A cb sb Z hp hz)
theorem MW.bald (hd : decode M.2.1 pc = .ok (Instr.baload, 1)) (q0 t0 : Nat) {a n : Nat} {cA : ClassId} {f : Nat → Int32} (he : h[q0]? = some (a, .inl (cA, n, .inl f))) (ht : E.2.2.1[t0]? = some (cA, .byte)) {i : Int32} (hin : vp_in i n) (kk : MW E M d (pc + 1) lv (.int (f i.toNatClampNeg) :: st) h mc ms Q) : MW E M d pc lv (.int i :: .ref a :: st) h mc ms Q := by
  intro p e R s m args below meth c H locs ls A cb sb Z hp hz
  exact va_bald (D := E.2.1) hp.1.1 hp.1.2.1 hp.2.1.2.1 hp.2.2.2.1.1 q0 t0 he ht hin hd (kk p e R s m args below meth c H locs ls A cb sb Z hp hz)
theorem MW.lald (hd : decode M.2.1 pc = .ok (Instr.laload, 1)) (q0 t0 : Nat) {a n : Nat} {cA : ClassId} {f : Nat → Int64} (he : h[q0]? = some (a, .inl (cA, n, .inr (.inl f)))) (ht : E.2.2.1[t0]? = some (cA, .long)) {i : Int32} (hin : vp_in i n) (kk : MW E M d (pc + 1) lv (.long (f i.toNatClampNeg) :: st) h mc ms Q) : MW E M d pc lv (.int i :: .ref a :: st) h mc ms Q := by
  intro p e R s m args below meth c H locs ls A cb sb Z hp hz
  exact va_lald (D := E.2.1) hp.1.1 hp.1.2.1 hp.2.1.2.1 hp.2.2.2.1.1 q0 t0 he ht hin hd (kk p e R s m args below meth c H locs ls A cb sb Z hp hz)
theorem MW.aald (hd : decode M.2.1 pc = .ok (Instr.aaload, 1)) (q0 t0 : Nat) {a n : Nat} {cA : ClassId} {C : String} {f : Nat → Option Nat} (he : h[q0]? = some (a, .inl (cA, n, .inr (.inr (.inr (.inr f)))))) (ht : E.2.2.1[t0]? = some (cA, .object C)) {i : Int32} (hin : vp_in i n) {v : Nat} (hv : f i.toNatClampNeg = some v) (kk : MW E M d (pc + 1) lv (.ref v :: st) h mc ms Q) : MW E M d pc lv (.int i :: .ref a :: st) h mc ms Q := by
  intro p e R s m args below meth c H locs ls A cb sb Z hp hz
  refine va_aldq (D := E.2.1) hp.1.1 hp.1.2.1 hp.2.1.2.1 hp.2.2.2.1.1 q0 t0 he ht hin hd ?_
  rw [hv]
  exact kk p e R s m args below meth c H locs ls A cb sb Z hp hz
theorem MW.iast (hd : decode M.2.1 pc = .ok (Instr.iastore, 1)) (q0 t0 : Nat) {a n : Nat} {cA : ClassId} {f : Nat → Int32} (he : h[q0]? = some (a, .inl (cA, n, .inl f))) (ht : E.2.2.1[t0]? = some (cA, .int)) {i : Int32} {x : Int32} (hin : vp_in i n) (kk : MW E M d (pc + 1) lv st (h.set q0 (a, .inl (cA, n, .inl (upd f i.toNatClampNeg x)))) mc ms Q) : MW E M d pc lv (.int x :: .int i :: .ref a :: st) h mc ms Q := by
  intro p e R s m args below meth c H locs ls A cb sb Z hp hz
  refine va_iast (D := E.2.1) hp.1.1 hp.1.2.1 hp.2.1.2.1 hp.2.2.2.1.1 hp.2.2.2.1.2.1 hp.2.2.2.1.2.2.1 q0 t0 he ht hin hd (fun H1 locs1 hP hD hS => ?_)
  exact kk p e R s m args below meth c H1 locs1 ls A cb sb Z ⟨hp.1, hp.2.1, hp.2.2.1, ⟨hP, hD, hS, hp.2.2.2.1.2.2.2⟩, hp.2.2.2.2⟩ hz
theorem MW.zast (hd : decode M.2.1 pc = .ok (Instr.bastore, 1)) (q0 t0 : Nat) {a n : Nat} {cA : ClassId} {f : Nat → Int32} (he : h[q0]? = some (a, .inl (cA, n, .inl f))) (ht : E.2.2.1[t0]? = some (cA, .boolean)) {i : Int32} {x : Int32} (hin : vp_in i n) (kk : MW E M d (pc + 1) lv st (h.set q0 (a, .inl (cA, n, .inl (upd f i.toNatClampNeg (vp_nar .boolean x))))) mc ms Q) : MW E M d pc lv (.int x :: .int i :: .ref a :: st) h mc ms Q := by
  intro p e R s m args below meth c H locs ls A cb sb Z hp hz
  refine va_zast (D := E.2.1) hp.1.1 hp.1.2.1 hp.2.1.2.1 hp.2.2.2.1.1 hp.2.2.2.1.2.1 hp.2.2.2.1.2.2.1 q0 t0 he ht hin hd (fun H1 locs1 hP hD hS => ?_)
  exact kk p e R s m args below meth c H1 locs1 ls A cb sb Z ⟨hp.1, hp.2.1, hp.2.2.1, ⟨hP, hD, hS, hp.2.2.2.1.2.2.2⟩, hp.2.2.2.2⟩ hz
theorem MW.bast (hd : decode M.2.1 pc = .ok (Instr.bastore, 1)) (q0 t0 : Nat) {a n : Nat} {cA : ClassId} {f : Nat → Int32} (he : h[q0]? = some (a, .inl (cA, n, .inl f))) (ht : E.2.2.1[t0]? = some (cA, .byte)) {i : Int32} {x : Int32} (hin : vp_in i n) (kk : MW E M d (pc + 1) lv st (h.set q0 (a, .inl (cA, n, .inl (upd f i.toNatClampNeg (vp_nar .byte x))))) mc ms Q) : MW E M d pc lv (.int x :: .int i :: .ref a :: st) h mc ms Q := by
  intro p e R s m args below meth c H locs ls A cb sb Z hp hz
  refine va_bast (D := E.2.1) hp.1.1 hp.1.2.1 hp.2.1.2.1 hp.2.2.2.1.1 hp.2.2.2.1.2.1 hp.2.2.2.1.2.2.1 q0 t0 he ht hin hd (fun H1 locs1 hP hD hS => ?_)
  exact kk p e R s m args below meth c H1 locs1 ls A cb sb Z ⟨hp.1, hp.2.1, hp.2.2.1, ⟨hP, hD, hS, hp.2.2.2.1.2.2.2⟩, hp.2.2.2.2⟩ hz
theorem MW.last (hd : decode M.2.1 pc = .ok (Instr.lastore, 1)) (q0 t0 : Nat) {a n : Nat} {cA : ClassId} {f : Nat → Int64} (he : h[q0]? = some (a, .inl (cA, n, .inr (.inl f)))) (ht : E.2.2.1[t0]? = some (cA, .long)) {i : Int32} {x : Int64} (hin : vp_in i n) (kk : MW E M d (pc + 1) lv st (h.set q0 (a, .inl (cA, n, .inr (.inl (vp_updL f i.toNatClampNeg x))))) mc ms Q) : MW E M d pc lv (.long x :: .int i :: .ref a :: st) h mc ms Q := by
  intro p e R s m args below meth c H locs ls A cb sb Z hp hz
  refine va_last (D := E.2.1) hp.1.1 hp.1.2.1 hp.2.1.2.1 hp.2.2.2.1.1 hp.2.2.2.1.2.1 hp.2.2.2.1.2.2.1 q0 t0 he ht hin hd (fun H1 locs1 hP hD hS => ?_)
  exact kk p e R s m args below meth c H1 locs1 ls A cb sb Z ⟨hp.1, hp.2.1, hp.2.2.1, ⟨hP, hD, hS, hp.2.2.2.1.2.2.2⟩, hp.2.2.2.2⟩ hz
theorem MW.aast (hd : decode M.2.1 pc = .ok (Instr.aastore, 1)) (q0 t0 qk ci : Nat) {a n v : Nat} {cA : ClassId} {r : vw_C} {vs : List Value} {f : Nat → Option Nat} (he : h[q0]? = some (a, .inl (cA, n, .inr (.inr (.inr (.inr f)))))) (ht : E.2.2.1[t0]? = some (cA, .object r.1)) (hv : h[qk]? = some (v, .inr (ci, vs))) (hc : classes[ci]? = some r) {i : Int32} (hin : vp_in i n) (kk : MW E M d (pc + 1) lv st (h.set q0 (a, .inl (cA, n, .inr (.inr (.inr (.inr (va_up f i.toNatClampNeg (some v)))))))) mc ms Q) : MW E M d pc lv (.ref v :: .int i :: .ref a :: st) h mc ms Q := by
  intro p e R s m args below meth c H locs ls A cb sb Z hp hz
  refine va_astq (D := E.2.1) hp.1.1 hp.1.2.1 hp.2.1.2.1 hp.2.2.2.1.1 hp.2.2.2.1.2.1 hp.2.2.2.1.2.2.1 q0 t0 qk ci he ht hv hc hin hd (fun H1 locs1 hP hD hS => ?_)
  exact kk p e R s m args below meth c H1 locs1 ls A cb sb Z ⟨hp.1, hp.2.1, hp.2.2.1, ⟨hP, hD, hS, hp.2.2.2.1.2.2.2⟩, hp.2.2.2.2⟩ hz
theorem MW.alen (hd : decode M.2.1 pc = .ok (Instr.arraylength, 1)) (q0 t0 : Nat) {a : Nat} {cA : ClassId} {x : vp_A} {ty : FieldType} (he : h[q0]? = some (a, .inl (cA, x))) (ht : E.2.2.1[t0]? = some (cA, ty)) {v : Int32} (hv : Int32.ofNat x.1 = v) (kk : MW E M d (pc + 1) lv (.int v :: st) h mc ms Q) : MW E M d pc lv (.ref a :: st) h mc ms Q := by
  intro p e R s m args below meth c H locs ls A cb sb Z hp hz
  exact va_alen (D := E.2.1) hp.1.1 hp.1.2.1 hp.2.1.2.1 hp.2.2.2.1.1 q0 t0 he ht hv hd (kk p e R s m args below meth c H locs ls A cb sb Z hp hz)
/-- the script -/
theorem MW.sld (hd : decode M.2.1 pc = .ok (Instr.iaload, 1)) {i : Int32} (hin : vp_in i E.2.2.2.2.1) (kk : MW E M d (pc + 1) lv (.int (E.2.2.2.2.2 i.toNatClampNeg) :: st) h mc ms Q) : MW E M d pc lv (.int i :: .ref E.2.2.2.1 :: st) h mc ms Q := by
  intro p e R s m args below meth c H locs ls A cb sb Z hp hz
  exact va_sld hp.1.1 hp.1.2.1 hp.2.1.2.2.1 hp.2.1.2.2.2.1 hp.2.1.2.2.2.2.1 hp.2.2.2.1.2.2.1 hin hd (kk p e R s m args below meth c H locs ls A cb sb Z hp hz)
theorem MW.slen (hd : decode M.2.1 pc = .ok (Instr.arraylength, 1)) (kk : MW E M d (pc + 1) lv (.int (Int32.ofNat E.2.2.2.2.1) :: st) h mc ms Q) : MW E M d pc lv (.ref E.2.2.2.1 :: st) h mc ms Q := by
  intro p e R s m args below meth c H locs ls A cb sb Z hp hz
  exact va_slen hp.1.1 hp.1.2.1 hp.2.1.2.2.1 hp.2.1.2.2.2.1 hp.2.1.2.2.2.2.1 hp.2.2.2.1.2.2.1 hd (kk p e R s m args below meth c H locs ls A cb sb Z hp hz)

theorem mi_RA_inj {U : State} {a b : ClassId} {ty : FieldType} (h1 : va_RA U a ty) (h2 : va_RA U b ty) : a = b := by
  cases ty with
  | object C =>
    obtain ⟨_, _, _, _, _, e1⟩ := h1
    obtain ⟨_, _, _, _, _, e2⟩ := h2
    exact Option.some.inj (e1.symm.trans e2)
  | _ => exact Option.some.inj (Eq.trans (Eq.symm h1) h2)
/-- a new object of the class ci -/
def mi_Nw (M : mi_M) (pc ci N : Nat) (fs : List Value) : Prop := ∃ (idx : Nat) (C : String) (T : u_T) (ty : Nat → FieldType), mi_Cl ci C T N ty ∧ decode M.2.1 pc = .ok (Instr.new idx, 3) ∧ Cond.classLink M.1 idx C ∈ mi_T ∧ Cond.instantiable C N ∈ mi_T ∧ Cond.initialized C ∈ mi_T ∧ ∀ j, j < N → defaultValue (ty j) = vp_V fs j
theorem MW.new {ci N : Nat} {fs : List Value} (hf : mi_Nw M pc ci N fs) (hc1 : mc + 1 ≤ mi_CC) (hc2 : ms + N ≤ mi_CS) (kk : ∀ q : Nat, MW E M d (pc + 3) lv (.ref q :: st) (h ++ [(q, .inr (ci, fs))]) (mc + 1) (ms + N) Q) : MW E M d pc lv st h mc ms Q := by
  intro p e R s m args below meth c H locs ls A cb sb Z hp hz
  obtain ⟨idx, C, T, ty, ⟨hc, hin, hty, -⟩, hd, w1, w2, w3, hfs⟩ := hf
  obtain ⟨⟨-, -, r3, r4⟩, r5, r6, r7, r8⟩ := hp.2.2.2.2
  refine va_new (D := E.2.1) hp.1.1 hp.1.2.1 hp.2.1.1 hin ty hty hp.1.2.2.2.1 (hp.2.1.1 _ w1) (hp.2.1.1 _ w2) (hp.2.1.1 _ w3) hp.2.1.2.1 hp.2.2.2.1.1 hp.2.2.2.1.2.1 hp.2.2.2.1.2.2.1 hp.2.2.2.1.2.2.2 hc hfs (by omega) (by omega) hd (fun q H1 hP hD hS => ?_)
  have e1 : mc - cb + 1 = mc + 1 - cb := by omega
  have e2 : ms - sb + N = ms + N - sb := by omega
  rw [e1, e2]
  exact kk q p e R s m args below meth c H1 locs ls A cb sb Z ⟨hp.1, hp.2.1, hp.2.2.1, ⟨hP, hD, hS, hp.2.2.2.1.2.2.2⟩, hp.2.2.2.2.1, by omega, by omega, hc1, hc2⟩ hz
theorem MW.newa {atype : ArrayType} {ty : FieldType} (hd : decode M.2.1 pc = .ok (Instr.newarray atype, 2)) (hw : Cond.arrayClass (Op.newarray.typeOf atype) ∈ mi_T) (hty : Op.newarray.typeOf atype = ty) (t0 : Nat) {cA : ClassId} (ht : E.2.2.1[t0]? = some (cA, ty)) {n : Int32} {N : Nat} {a0 : vp_A} (ha : ∀ cA : ClassId, vp_cell cA a0 = arrV cA N (fun _ => defaultValue ty)) (hn : ¬ n < 0) (hN : n.toNatClampNeg = N) (hb : N * componentBytes ty ≤ 536870912) (hc1 : mc + 1 ≤ mi_CC) (hc2 : ms + N ≤ mi_CS)
    (kk : ∀ q : Nat, MW E M d (pc + 2) lv (.ref q :: st) (h ++ [(q, .inl (cA, a0))]) (mc + 1) (ms + N) Q) : MW E M d pc lv (.int n :: st) h mc ms Q := by
  intro p e R s m args below meth c H locs ls A cb sb Z hp hz
  obtain ⟨⟨-, -, r3, r4⟩, r5, r6, r7, r8⟩ := hp.2.2.2.2
  refine va_newa (D := E.2.1) hp.1.1 hp.1.2.1 (hp.2.1.1 _ hw) hty hp.2.1.2.1 hp.2.2.2.1.1 hp.2.2.2.1.2.1 hp.2.2.2.1.2.2.1 hp.2.2.2.1.2.2.2 ha hn hN hb (by omega) (by omega) hd (fun q cA' H1 hK hP hD hS => ?_)
  have hca : cA' = cA := mi_RA_inj (hK.2 E.2.2.1.length (cA', ty) (by simp)).2 (hp.2.1.2.1.2 t0 (cA, ty) ht).2
  subst hca
  have e1 : mc - cb + 1 = mc + 1 - cb := by omega
  have e2 : ms - sb + N = ms + N - sb := by omega
  rw [e1, e2]
  exact kk q p e R s m args below meth c H1 locs ls A cb sb Z ⟨hp.1, hp.2.1, hp.2.2.1, ⟨hP, hD, hS, hp.2.2.2.1.2.2.2⟩, hp.2.2.2.2.1, by omega, by omega, hc1, hc2⟩ hz
theorem MW.ireturn {v : Int32} {ty : FieldType} (hd : decode M.2.1 pc = .ok (Instr.ireturn, 1)) (hr : M.2.2.2.1 = some ty) (hn : narrow ty (.int v) = .int v) (hq : Q (.inl (some (.int v))) h mc ms) : MW E M d pc lv [.int v] h mc ms Q := by
  intro p e R s m args below meth c H locs ls A cb sb Z hp hz
  refine W.mono (W.zret (Qc := fun _ _ o t => o = .returned (some (.int v)) ∧ t.heap = H) (free := A) hp.1.1 hp.1.2.1 (hp.1.2.2.2.2.1.trans hr) hn (fun t ht _ => ⟨rfl, ht⟩) hp.2.2.2.1.2.2.1.2.2 hd hp.1.2.2.2.2.2.1) (fun t ht => ?_)
  obtain ⟨o, h1, h2, ⟨rfl, h3⟩, L, ⟨-, h4, h5⟩, h6⟩ := ht
  refine hz _ h mc ms t hq ⟨_, L, h1, h2, h4, h5, ⟨by rw [h3]; exact hp.2.2.2.1.2.2.1.1, fun q q1 q2 => by rw [h3]; exact hp.2.2.2.1.2.2.1.2.1 q q1 q2, h6⟩, by rw [h3]; exact hp.2.2.2.1.1, hp.2.2.2.1.2.1, rfl, hp.2.2.2.2.2⟩
theorem MW.vreturn (hd : decode M.2.1 pc = .ok (Instr.return_, 1)) (hr : M.2.2.2.1 = none) (hq : Q (.inl none) h mc ms) : MW E M d pc lv [] h mc ms Q := by
  intro p e R s m args below meth c H locs ls A cb sb Z hp hz
  refine W.mono (W.vret (Qc := fun _ _ o t => o = .returned none ∧ t.heap = H) (free := A) hp.1.1 hp.1.2.1 (hp.1.2.2.2.2.1.trans hr) (fun t ht _ => ⟨rfl, ht⟩) hp.2.2.2.1.2.2.1.2.2 hd hp.1.2.2.2.2.2.1) (fun t ht => ?_)
  obtain ⟨o, h1, h2, ⟨rfl, h3⟩, L, ⟨-, h4, h5⟩, h6⟩ := ht
  refine hz _ h mc ms t hq ⟨_, L, h1, h2, h4, h5, ⟨by rw [h3]; exact hp.2.2.2.1.2.2.1.1, fun q q1 q2 => by rw [h3]; exact hp.2.2.2.1.2.2.1.2.1 q q1 q2, h6⟩, by rw [h3]; exact hp.2.2.2.1.1, hp.2.2.2.1.2.1, rfl, hp.2.2.2.2.2⟩
theorem MW.areturn {a : Nat} {ty : FieldType} (hd : decode M.2.1 pc = .ok (Instr.areturn, 1)) (hr : M.2.2.2.1 = some ty) (hn : (∃ n, ty = .object n) ∨ ∃ t, ty = .array t) (hq : Q (.inl (some (.ref a))) h mc ms) : MW E M d pc lv [.ref a] h mc ms Q := by
  intro p e R s m args below meth c H locs ls A cb sb Z hp hz
  refine W.mono (W.aret (Qc := fun _ _ o t => o = .returned (some (.ref a)) ∧ t.heap = H) (free := A) hp.1.1 hp.1.2.1 (hp.1.2.2.2.2.1.trans hr) hn (Or.inr ⟨a, rfl⟩) (fun t ht _ => ⟨rfl, ht⟩) hp.2.2.2.1.2.2.1.2.2 hd hp.1.2.2.2.2.2.1) (fun t ht => ?_)
  obtain ⟨o, h1, h2, ⟨rfl, h3⟩, L, ⟨-, h4, h5⟩, h6⟩ := ht
  refine hz _ h mc ms t hq ⟨_, L, h1, h2, h4, h5, ⟨by rw [h3]; exact hp.2.2.2.1.2.2.1.1, fun q q1 q2 => by rw [h3]; exact hp.2.2.2.1.2.2.1.2.1 q q1 q2, h6⟩, by rw [h3]; exact hp.2.2.2.1.1, hp.2.2.2.1.2.1, rfl, hp.2.2.2.2.2⟩

/-- N is the method called y -/
def mi_Me (y : MethodName) (N : mi_M) : Prop := y.cls = N.1 ∧ y.name = N.2.2.2.2.2 ∧ plainName y.cls = true ∧ ((N.2.2.2.2.1 = [] ∧ Cond.code y N.2.1 N.2.2.1 N.2.2.2.1 ∈ mi_T) ∨ Cond.codeWith y N.2.1 N.2.2.1 N.2.2.2.1 N.2.2.2.2.1 ∈ mi_T)
/-- the locals with which a method begins -/
def mi_args : List Value → List (Option Value)
  | [] => []
  | v :: vs => if v.category = 2 then some v :: none :: mi_args vs else some v :: mi_args vs
theorem mi_args_len (vs : List Value) : (mi_args vs).length = (lg_sl vs).length := by
  induction vs with
  | nil => rfl
  | cons v vs ih =>
    by_cases hc : v.category = 2
    · simp [mi_args, lg_sl, hc] at ih ⊢
      exact ih
    · simp [mi_args, lg_sl, hc] at ih ⊢
      exact ih
theorem mi_args_in (vs : List Value) : ∀ (n i : Nat) (v : Value), (mi_args vs)[i]? = some (some v) → (n + i, v) ∈ lv_args n vs := by
  induction vs with
  | nil => intro n i v hv; simp [mi_args] at hv
  | cons w vs ih =>
    intro n i v hv
    by_cases hc : w.category = 2
    · simp only [mi_args, hc, if_true] at hv
      simp only [lv_args, hc, if_true]
      match i, hv with
      | 0, hv => simp at hv; subst hv; simp
      | 1, hv => simp at hv
      | j + 2, hv =>
        have := ih (n + 2) j v (by simpa using hv)
        rw [show n + (j + 2) = n + 2 + j by omega]
        exact List.mem_cons_of_mem _ this
    · simp only [mi_args, hc, if_false] at hv
      simp only [lv_args, hc, if_false]
      match i, hv with
      | 0, hv => simp at hv; subst hv; simp
      | j + 1, hv =>
        have := ih (n + 1) j v (by simpa using hv)
        rw [show n + (j + 1) = n + 1 + j by omega]
        exact List.mem_cons_of_mem _ this
theorem mi_entry (vs : List Value) {n : Nat} (h : (mi_args vs).length ≤ n) : mi_L ((lg_sl vs ++ List.replicate (n - (lg_sl vs).length) Slot.unset).toArray) n (mi_args vs ++ List.replicate (n - (mi_args vs).length) none) := by
  have h2 := lv_entry vs (n := n) (by rw [← mi_args_len]; exact h)
  refine ⟨h2.1, h2.2.1, fun i v hv => ?_⟩
  by_cases hi : i < (mi_args vs).length
  · rw [List.getElem?_append_left hi] at hv
    have := mi_args_in vs 0 i v hv
    rw [Nat.zero_add] at this
    exact h2.2.2 (i, v) this
  · rw [List.getElem?_append_right (by omega)] at hv
    have := List.eq_of_mem_replicate (List.mem_of_getElem? hv)
    cases this
/-- a method's contract: called with As in the world h it ends with Q -/
def MC (E : mi_E) (N : mi_M) (d : Nat) (As : List Value) (h : va_W) (mc ms : Nat) (Q : mi_O → va_W → Nat → Nat → Prop) : Prop := MW E N d 0 (mi_args As ++ List.replicate (N.2.2.1 - (mi_args As).length) none) [] h mc ms Q
theorem MC.mono {E : mi_E} {N : mi_M} {d : Nat} {As : List Value} {h : va_W} {mc ms : Nat} {Q Q' : mi_O → va_W → Nat → Nat → Prop} (k : MC E N d As h mc ms Q) (hq : ∀ o h' mc' ms', Q o h' mc' ms' → Q' o h' mc' ms') : MC E N d As h mc ms Q' := MW.mono k hq
theorem mi_code {args : Array Value} {s : State} {y : MethodName} {N : mi_M} (hy : mi_Me y N) (hts : ∀ w ∈ mi_T, w.before args s = true) {mk : MethodId} (hn : s.methodNamed? y = some mk) : ∃ (meth : Method) (c : Code), s.vm.method? mk = some meth ∧ meth.code = some c ∧ c.code = N.2.1 ∧ c.maxLocals = N.2.2.1 ∧ meth.sig.returnType = N.2.2.2.1 ∧ meth.locks = false ∧ mi_hs c N.2.2.2.2.1 ∧ meth.name = N.2.2.2.2.2 ∧ parseMethodDescriptor y.desc = some meth.sig := by
  obtain ⟨-, hnm, -, ⟨h0, hw⟩ | hw⟩ := hy
  · obtain ⟨meth, c, h1, h2, h3, h4, h5, h6, h7, h8⟩ := Cond.code_spec hn (hts _ hw)
    refine ⟨meth, c, h1, h2, h3, h4, h5, h6, ?_, (name_of_methodNamed hn h1).1.trans hnm, h8⟩
    rw [h0]
    have : c.exceptionTable = #[] := by simpa using h7
    unfold mi_hs
    rw [this]
    rfl
  · obtain ⟨m', meth, c, h0, h1, h2, h3, h4, h7, h5, h6, h8⟩ := Cond.codeWith_spec (hts _ hw)
    cases hn.symm.trans h0
    exact ⟨meth, c, h1, h2, h3, h4, h5, h6, h7, (name_of_methodNamed hn h1).1.trans hnm, h8⟩

theorem mi_call {N : mi_M} {y : MethodName} {As rest : List Value} {Q1 : mi_O → va_W → Nat → Nat → Prop} (hy : mi_Me y N) (hcall : MC E N d As h mc ms Q1) (hlen : Nat.ble (mi_args As).length N.2.2.1 = true) (hml : Nat.ble N.2.2.1 40 = true) (hrest : (rest.map fun v => v.category).sum ≤ 8)
    {p : Program} {e : Env} {R : Room} {s : State} {m : MethodId} {args : Array Value} {below : List Frame} {meth : Method} {c : Code} {H : Heap} {locs : List Loc} {ls : Array Slot} {A : Nat → Prop} {cb sb : Nat} (hp : mi_Pre E M (d + 1) lv h mc ms p R s m args meth c H locs ls A cb sb)
    {T : State} (X : Stand p E.1 e R s m args below meth c T locs (mc - cb) (ms - sb)) (hT : T.heap = H) {mk : MethodId} (hnamed : s.methodNamed? y = some mk) {ig : Instr} (hdg : decode M.2.1 pc = .ok (ig, 3)) :
    ∃ (o : mi_O) (h' : va_W) (mc' ms' : Nat) (t : State), Q1 o h' mc' ms' ∧ (∀ acts, Steps p.tables e below (doInvoke e (T.setTop (F0 m pc ls rest)) acts mk As.toArray).1 t) ∧ mi_End E (va_A h H.size) (T.calling (F0 m pc ls rest) mk As.toArray) (.java (F0 m pc ls rest) :: below) mc ms o h' mc' ms' t := by
  obtain ⟨⟨hx, hb, hmL, hown, hret, hlk, hhs, hnm⟩, ⟨hts, hK, hX, hbs, hbA, hTh⟩, ⟨hL, hLl⟩, ⟨hP, hD, hS, hA⟩, ⟨hR1, hR2, hR3, hR4⟩, hc1, hc2, hc3, hc4⟩ := id hp
  have hlen' : (mi_args As).length ≤ N.2.2.1 := Nat.le_of_ble_eq_true hlen
  have hml' : N.2.2.1 ≤ 40 := Nat.le_of_ble_eq_true hml
  have htr := lw_tr
  -- the callee's own start
  generalize hg : F0 m pc ls rest = g
  have hgm : g.method = m := by rw [← hg]
  have hgs : g.stack = rest := by rw [← hg]
  have hgl : g.locals = ls := by rw [← hg]
  have hgp : g.pc = pc := by rw [← hg]
  have hgr : g.monitorRoom = 0 := by rw [← hg]
  have hWs : s.WarmedH (T.calling g mk As.toArray).vm := X.warmed
  have hhp : (T.calling g mk As.toArray).heap = H := hT
  have hts' : ∀ w ∈ mi_T, w.before As.toArray (T.calling g mk As.toArray) = true := fun w hw => mi_word hWs (htr w hw) (hts w hw)
  have hnT : T.methodNamed? y = some mk := X.named hnamed
  have hnC : (T.calling g mk As.toArray).methodNamed? y = some mk := hnT
  obtain ⟨methk, ck, k1, k2, k3, k4, k5, k6, k7, k8, k9⟩ := mi_code hy hts' hnC
  have hpk : T.plainMethod mk := State.plainMethod.of_named (plainFor_of_name hy.2.2.1) hnT k1
  obtain ⟨Y, hin⟩ := X.into (g := g) hgm (by rw [hgl, hmL]; exact hL.1) (by rw [hgp, hb]; exact hdg) (mk := mk) (methk := methk) (ck := ck) As.toArray (R' := { frames := d, cells := R.cells - (mc - cb), slots := R.slots - (ms - sb), locals := 64 * d }) k1 k2 k6 hpk (by show d + 1 ≤ R.frames; omega) (by rw [hgr, hgs, k4]; show 2 * 0 + _ + (N.2.2.1 + 11) + 64 * d ≤ R.locals; omega) (by show mc - cb + (R.cells - (mc - cb)) ≤ R.cells; omega) (by show ms - sb + (R.slots - (ms - sb)) ≤ R.slots; omega)
  have hsub : ∀ q, va_A h H.size q → A q := by
    intro q hq
    rcases hq with ⟨k, e0, hk⟩ | hq
    · exact hD.2 k _ hk
    · exact hA q (Nat.le_trans hS.1 hq)
  have hfr : entryFrame mk As.toArray ck.maxLocals = F0 mk 0 ((lg_sl As ++ List.replicate (N.2.2.1 - (lg_sl As).length) Slot.unset).toArray) [] := by rw [k4]; exact lg_entry_eq ..
  have K := hcall p e { frames := d, cells := R.cells - (mc - cb), slots := R.slots - (ms - sb), locals := 64 * d } (T.calling g mk As.toArray) mk As.toArray (.java g :: below) methk ck H [] ((lg_sl As ++ List.replicate (N.2.2.1 - (lg_sl As).length) Slot.unset).toArray) (va_A h H.size) mc ms
    (fun t => ∃ (o : mi_O) (h' : va_W) (mc' ms' : Nat), Q1 o h' mc' ms' ∧ mi_End E (va_A h H.size) (T.calling g mk As.toArray) (.java g :: below) mc ms o h' mc' ms' t)
    ⟨⟨hx, k3, k4, by rw [← hy.1]; exact findClass_of_methodNamed hnC, k5, k6, k7, k8⟩,
     ⟨hts', hK.moved hWs.alike, ?_, ?_, ?_, ?_⟩,
     ⟨mi_entry As hlen', by simp; omega⟩,
     ⟨hP, hD.self, by rw [hhp]; exact va_S.rf, fun q hq => Or.inr (by rw [hhp] at hq; exact hq)⟩,
     ⟨by show d ≤ d; omega, by show 64 * d ≤ 64 * d; omega, by show mi_CC ≤ R.cells - (mc - cb) + mc; omega, by show mi_CS ≤ R.slots - (ms - sb) + ms; omega⟩, Nat.le_refl _, Nat.le_refl _, hc3, hc4⟩
    (fun o h' mc' ms' t hq he => ⟨o, h', mc', ms', hq, he⟩)
  · rw [Nat.sub_self, Nat.sub_self] at K
    obtain ⟨t, hst, o, h', mc', ms', hq, he⟩ := K ((T.setTop g).pushFrame (.java (entryFrame mk As.toArray ck.maxLocals))) hT Y
    refine ⟨o, h', mc', ms', t, hq, fun acts => ?_, he⟩
    rw [hin acts]
    rw [hfr] at hst ⊢
    exact Steps.weaken (mid := [.java g]) hst
  · rw [hhp]
    exact (hX.moved hWs.alike).kept (hS.2.1 _ hbs hbA)
  · rw [hhp]
    exact Nat.lt_of_lt_of_le hbs hS.1
  · intro hq
    exact hbA (hsub _ hq)
  · rw [hhp]
    exact mi_Th.call hWs hTh (fun a h1 h2 => hS.2.1 a h1 h2) hsub
/-- behind a call that returned -/
theorem mi_back {N : mi_M} {rest : List Value} {v : Option Value} {h' : va_W} {mc' ms' : Nat}
    {p : Program} {e : Env} {R : Room} {s : State} {m : MethodId} {args : Array Value} {below : List Frame} {meth : Method} {c : Code} {H : Heap} {locs : List Loc} {ls : Array Slot} {A : Nat → Prop} {cb sb : Nat} (hp : mi_Pre E M (d + 1) lv h mc ms p R s m args meth c H locs ls A cb sb)
    {T : State} (X : Stand p E.1 e R s m args below meth c T locs (mc - cb) (ms - sb)) (hT : T.heap = H) {mk : MethodId} {a : Array Value} {ig : Instr} (hdg : decode M.2.1 pc = .ok (ig, 3)) {t : State} {Z : State → Prop}
    (he : mi_End E (va_A h H.size) (T.calling (F0 m pc ls rest) mk a) (.java (F0 m pc ls rest) :: below) mc ms (.inl v) h' mc' ms' t)
    (kk : MW E M (d + 1) (pc + 3) lv (v.toList ++ rest) h' mc' ms' Q) (hz : ∀ (o : mi_O) (h' : va_W) (mc' ms' : Nat) (t : State), Q o h' mc' ms' → mi_End E A s below cb sb o h' mc' ms' t → Z t) :
    ∃ t2, Steps p.tables e below t t2 ∧ Z t2 := by
  obtain ⟨⟨hx, hb, hmL, hown, hret, hlk, hhs, hnm⟩, ⟨hts, hK, hX, hbs, hbA, hTh⟩, ⟨hL, hLl⟩, ⟨hP, hD, hS, hA⟩, ⟨hR1, hR2, hR3, hR4⟩, hc1, hc2, hc3, hc4⟩ := id hp
  obtain ⟨oc, L, e1, e2, e3, e4, e5, e6, e7, e8, c1, c2, c3, c4⟩ := he
  have e8 : oc = .returned v := e8
  subst e8
  obtain ⟨T', X', -, -, ht⟩ := X.outOf (g := F0 m pc ls rest) rfl (by rw [hb]; exact hdg) e2 e3 e4
  have hh : t.heap = T'.heap := by rw [ht]; rfl
  have hhp : (T.calling (F0 m pc ls rest) mk a).heap = H := hT
  rw [hhp, hh] at e5
  rw [hh] at e6
  have hsub : ∀ q, q < H.size → va_A h H.size q → A q := by
    intro q _ hq
    rcases hq with ⟨k, e0, hk⟩ | hq
    · exact hD.2 k _ hk
    · exact hA q (Nat.le_trans hS.1 hq)
  have hsub2 : ∀ q, va_A h H.size q → A q := by
    intro q hq
    rcases hq with ⟨k, e0, hk⟩ | hq
    · exact hD.2 k _ hk
    · exact hA q (Nat.le_trans hS.1 hq)
  have q1 : mc - cb + (mc' - mc) = mc' - cb := by omega
  have q2 : ms - sb + (ms' - ms) = ms' - sb := by omega
  rw [q1, q2] at X'
  obtain ⟨t2, b1, b2⟩ := kk p e R s m args below meth c T'.heap (locs ++ L) ls A cb sb Z ⟨hp.1, hp.2.1, hp.2.2.1, ⟨e6, e7.weaken (fun _ _ _ q => hsub2 _ q), ⟨Nat.le_trans hS.1 e5.1, fun q h1 h2 => by rw [e5.2.1 q (Nat.lt_of_lt_of_le h1 hS.1) (fun z => h2 (hsub2 q z))]; exact hS.2.1 q h1 h2, fun q hq => by
      rcases List.mem_append.mp hq with h9 | h9
      · exact hS.2.2 q h9
      · exact hsub2 _ (e5.2.2 q h9)⟩, hA⟩, ⟨hR1, hR2, hR3, hR4⟩, by omega, by omega, c3, c4⟩ hz T' rfl X'
  exact ⟨t2, by rw [ht]; exact b1, b2⟩

/-- behind a call that threw, in a method without handlers -/
theorem mi_thrown {rest : List Value} {k : Nat} {h' : va_W} {mc' ms' : Nat}
    {p : Program} {e : Env} {R : Room} {s : State} {m : MethodId} {args : Array Value} {below : List Frame} {meth : Method} {c : Code} {H : Heap} {locs : List Loc} {ls : Array Slot} {A : Nat → Prop} {cb sb : Nat} (hp : mi_Pre E M (d + 1) lv h mc ms p R s m args meth c H locs ls A cb sb) (h0 : M.2.2.2.2.1 = [])
    {T : State} (X : Stand p E.1 e R s m args below meth c T locs (mc - cb) (ms - sb)) (hT : T.heap = H) {mk : MethodId} {a : Array Value} {t : State} {Z : State → Prop}
    (he : mi_End E (va_A h H.size) (T.calling (F0 m pc ls rest) mk a) (.java (F0 m pc ls rest) :: below) mc ms (.inr k) h' mc' ms' t)
    (hq : Q (.inr k) h' mc' ms') (hz : ∀ (o : mi_O) (h' : va_W) (mc' ms' : Nat) (t : State), Q o h' mc' ms' → mi_End E A s below cb sb o h' mc' ms' t → Z t) :
    ∃ t2, Steps p.tables e below t t2 ∧ Z t2 := by
  obtain ⟨⟨hx, hb, hmL, hown, hret, hlk, hhs, hnm⟩, ⟨hts, hK, hX, hbs, hbA, hTh⟩, ⟨hL, hLl⟩, ⟨hP, hD, hS, hA⟩, ⟨hR1, hR2, hR3, hR4⟩, hc1, hc2, hc3, hc4⟩ := id hp
  obtain ⟨oc, L, e1, e2, e3, e4, e5, e6, e7, ⟨x, cell, rfl, e8, e9, e10⟩, c1, c2, c3, c4⟩ := he
  obtain ⟨T', X', -, -, ht⟩ := X.outOfThrown (g := F0 m pc ls rest) rfl e2 e3 e4
  have hh : t.heap = T'.heap := by rw [ht]; rfl
  have hv : t.vm = T'.vm := by rw [ht]; rfl
  have hhp : (T.calling (F0 m pc ls rest) mk a).heap = H := hT
  rw [hhp, hh] at e5
  rw [hh] at e6 e8
  rw [hv] at e10
  have hsub2 : ∀ q, va_A h H.size q → A q := by
    intro q hq
    rcases hq with ⟨k, e0, hk⟩ | hq
    · exact hD.2 k _ hk
    · exact hA q (Nat.le_trans hS.1 hq)
  have q1 : mc - cb + (mc' - mc) = mc' - cb := by omega
  have q2 : ms - sb + (ms' - ms) = ms' - sb := by omega
  rw [q1, q2] at X'
  have hout : ∀ y ∈ c.exceptionTable.toList, covers y pc = false := by
    have h9 : c.exceptionTable.toList.map (fun x => (x.startPc, x.endPc, x.handlerPc, x.catchType)) = [] := by rw [← h0]; exact hhs
    rw [List.map_eq_nil_iff.mp h9]
    intro y hy
    cases hy
  obtain ⟨s1, s2, s3, s4, s5⟩ := X'.leaveThrown x (g := F0 m pc ls rest) rfl rfl rfl hout hlk
  refine ⟨_, by rw [ht]; exact s1, hz (.inr k) h' mc' ms' _ hq ⟨_, locs ++ L, s2, s3, s4, s5, ⟨Nat.le_trans hS.1 e5.1, fun q h1 h2 => by
      show T'.heap[q]? = _
      rw [e5.2.1 q (Nat.lt_of_lt_of_le h1 hS.1) (fun z => h2 (hsub2 q z))]; exact hS.2.1 q h1 h2, fun q hq => by
      rcases List.mem_append.mp hq with h9 | h9
      · exact hS.2.2 q h9
      · exact hsub2 _ (e5.2.2 q h9)⟩, e6, e7.weaken (fun _ _ _ q => hsub2 _ q), ⟨x, cell, rfl, e8, e9, e10⟩, by omega, by omega, c3, c4⟩⟩
theorem mi_named {args : Array Value} {s : State} {y : MethodName} {N : mi_M} (hy : mi_Me y N) (hts : ∀ w ∈ mi_T, w.before args s = true) : ∃ mk : MethodId, s.methodNamed? y = some mk := by
  obtain ⟨-, -, -, ⟨-, hw⟩ | hw⟩ := hy
  · exact Cond.code_named (hts _ hw)
  · obtain ⟨m', _, _, h0, -⟩ := Cond.codeWith_spec (hts _ hw)
    exact ⟨m', h0⟩
/-- the instruction at pc calls the static method N, of n parameters -/
def mi_Is (M N : mi_M) (pc n : Nat) : Prop := ∃ (idx : Nat) (y : MethodName), decode M.2.1 pc = .ok (Instr.invokestatic idx, 3) ∧ (Cond.methodLink M.1 idx y ∈ mi_T ∨ ∃ host : String, Cond.methodLinkNest M.1 idx y host ∈ mi_T) ∧ Cond.static y ∈ mi_T ∧ Cond.initialized y.cls ∈ mi_T ∧ mi_Me y N ∧ (y.cls ≠ "java/lang/invoke/MethodHandle" ∧ y.cls ≠ "java/lang/invoke/VarHandle") ∧ (parseMethodDescriptor y.desc).map (fun d => d.parameters.length) = some n
/-- .. the instance method N of the class ci -/
def mi_Iv (M N : mi_M) (pc ci n : Nat) : Prop := ∃ (idx : Nat) (y : MethodName) (r : vw_C), decode M.2.1 pc = .ok (Instr.invokevirtual idx, 3) ∧ classes[ci]? = some r ∧ (Cond.methodLink M.1 idx y ∈ mi_T ∨ ∃ host : String, Cond.methodLinkNest M.1 idx y host ∈ mi_T) ∧ Cond.instanceMethod y ∈ mi_T ∧ Cond.selects r.1 y y ∈ mi_T ∧ mi_Me y N ∧ (y.cls ≠ "java/lang/invoke/MethodHandle" ∧ y.cls ≠ "java/lang/invoke/VarHandle") ∧ (parseMethodDescriptor y.desc).map (fun d => d.parameters.length) = some n
/-- .. the constructor N -/
def mi_Ii (M N : mi_M) (pc n : Nat) : Prop := ∃ (idx : Nat) (y : MethodName), decode M.2.1 pc = .ok (Instr.invokespecial idx, 3) ∧ (Cond.methodLink M.1 idx y ∈ mi_T ∨ ∃ host : String, Cond.methodLinkNest M.1 idx y host ∈ mi_T) ∧ Cond.instanceMethod y ∈ mi_T ∧ Cond.code y N.2.1 N.2.2.1 none ∈ mi_T ∧ mi_Me y N ∧ y.name = "<init>" ∧ (y.cls ≠ "java/lang/invoke/MethodHandle" ∧ y.cls ≠ "java/lang/invoke/VarHandle") ∧ (parseMethodDescriptor y.desc).map (fun d => d.parameters.length) = some n
theorem MW.invS {N : mi_M} {n : Nat} {As rest : List Value} {Q1 : mi_O → va_W → Nat → Nat → Prop} (hf : mi_Is M N pc n) (hcall : MC E N d As h mc ms Q1) (hn : As.length = n) (hst : st = As.reverse ++ rest) (hlen : Nat.ble (mi_args As).length N.2.2.1 = true) (hml : Nat.ble N.2.2.1 40 = true) (hrest : (rest.map fun v => v.category).sum ≤ 8)
    (kr : ∀ (v : Option Value) (h' : va_W) (mc' ms' : Nat), Q1 (.inl v) h' mc' ms' → MW E M (d + 1) (pc + 3) lv (v.toList ++ rest) h' mc' ms' Q)
    (kt : ∀ (k : Nat) (h' : va_W) (mc' ms' : Nat), Q1 (.inr k) h' mc' ms' → M.2.2.2.2.1 = [] ∧ Q (.inr k) h' mc' ms') : MW E M (d + 1) pc lv st h mc ms Q := by
  intro p e R s m args below meth c H locs ls A cb sb Z hp hz T hT X
  obtain ⟨idx, y, hd, hl, hstt, hini, hy, hno, hpar⟩ := hf
  have hts := hp.2.1.1
  obtain ⟨mk, hnamed⟩ := mi_named hy hts
  obtain ⟨meth', c', m1, m2, -, -, -, -, -, -, hsig⟩ := mi_code hy hts hnamed
  have hstatic : meth'.isStatic = true := Cond.static_spec hnamed m1 (hts _ hstt)
  obtain ⟨kP, hkP, -⟩ := className_of_methodNamed hnamed
  have hinitP : kP.init = .initialized := Cond.initialized_spec (findClass_of_methodNamed hnamed) hkP (hts _ hini)
  have hal : As.length = meth'.sig.parameters.length := by
    rw [hsig] at hpar
    rw [hn]
    exact (Option.some.inj hpar).symm
  have hdc : decode c.code pc = .ok (Instr.invokestatic idx, 3) := by rw [hp.1.2.1]; exact hd
  have key : ∃ vm₁, Stand p E.1 e R s m args below meth c (T.setVm vm₁) locs (mc - cb) (ms - sb) ∧ ∀ target, (∀ acts, Steps p.tables e below (doInvoke e ((T.setVm vm₁).setTop (F0 m pc ls rest)) acts mk As.toArray).1 target) → Steps p.tables e below (T.setTop (F0 m pc ls st)) target := by
    rcases hl with hl | ⟨host, hl⟩
    · exact X.invokestatic hp.1.1 hp.1.2.2.2.1 (hts _ hl) hnamed m1 hstatic hkP hinitP hno (g := F0 m pc ls st) rfl (argsL := As) (rest := rest) hal hst hdc
    · exact X.invokestaticNest hp.1.1 hp.1.2.2.2.1 (hts _ hl) hnamed m1 hstatic hkP hinitP hno (g := F0 m pc ls st) rfl (argsL := As) (rest := rest) hal hst hdc
  obtain ⟨vm₁, X₁, hstep⟩ := key
  obtain ⟨o, h', mc', ms', t, hq, hs, he⟩ := mi_call hy hcall hlen hml hrest hp X₁ hT hnamed hd
  cases o with
  | inl v =>
    obtain ⟨t2, a1, b1⟩ := mi_back (N := N) hp X₁ hT hd he (kr v h' mc' ms' hq) hz
    exact ⟨t2, hstep _ (fun acts => (hs acts).trans a1), b1⟩
  | inr k =>
    obtain ⟨h0, hq2⟩ := kt k h' mc' ms' hq
    obtain ⟨t2, a1, b1⟩ := mi_thrown hp h0 X₁ hT he hq2 hz
    exact ⟨t2, hstep _ (fun acts => (hs acts).trans a1), b1⟩
theorem MW.invV {N : mi_M} {n ci b : Nat} {As rest : List Value} {Q1 : mi_O → va_W → Nat → Nat → Prop} (hf : mi_Iv M N pc ci n) (q0 : Nat) {fs : List Value} (he0 : h[q0]? = some (b, .inr (ci, fs))) (hcall : MC E N d (.ref b :: As) h mc ms Q1) (hn : As.length = n) (hst : st = As.reverse ++ .ref b :: rest) (hlen : Nat.ble (mi_args (.ref b :: As)).length N.2.2.1 = true) (hml : Nat.ble N.2.2.1 40 = true) (hrest : (rest.map fun v => v.category).sum ≤ 8)
    (kr : ∀ (v : Option Value) (h' : va_W) (mc' ms' : Nat), Q1 (.inl v) h' mc' ms' → MW E M (d + 1) (pc + 3) lv (v.toList ++ rest) h' mc' ms' Q)
    (kt : ∀ (k : Nat) (h' : va_W) (mc' ms' : Nat), Q1 (.inr k) h' mc' ms' → M.2.2.2.2.1 = [] ∧ Q (.inr k) h' mc' ms') : MW E M (d + 1) pc lv st h mc ms Q := by
  intro p e R s m args below meth c H locs ls A cb sb Z hp hz T hT X
  obtain ⟨idx, y, r, hd, hcl, hl, hins, hsel, hy, hno, hpar⟩ := hf
  have hts := hp.2.1.1
  obtain ⟨cellB, hcell, hobj, hcls⟩ := va_recv hp.2.1.2.1 hp.2.2.2.1.1 hcl he0
  obtain ⟨mk, methM, hnamed, hmethM, hstM, habM⟩ := Cond.instanceMethod_spec (hts _ hins)
  obtain ⟨meth', c', m1, m2, -, -, -, -, -, -, hsig⟩ := mi_code hy hts hnamed
  cases hmethM.symm.trans m1
  obtain ⟨c2, r2, m2', q1, q2, q3, q4, kP, hkP, hkPi⟩ := Cond.selects_spec (hts _ hsel)
  cases hcls.symm.trans q1
  cases (State.methodFound?_of_named hnamed hno).symm.trans q2
  cases hnamed.symm.trans q3
  have hselP : selectMethod e.platform s.vm cellB.cls mk = .method mk := by rw [Launch.admits_selectMethod X.admits]; exact q4
  have hal : As.length = methM.sig.parameters.length := by
    rw [hsig] at hpar
    rw [hn]
    exact (Option.some.inj hpar).symm
  have hdc : decode c.code pc = .ok (Instr.invokevirtual idx, 3) := by rw [hp.1.2.1]; exact hd
  have key : ∃ vm₁, Stand p E.1 e R s m args below meth c (T.setVm vm₁) locs (mc - cb) (ms - sb) ∧ ∀ target, (∀ acts, Steps p.tables e below (doInvoke e ((T.setVm vm₁).setTop (F0 m pc ls rest)) acts mk (Value.ref b :: As).toArray).1 target) → Steps p.tables e below (T.setTop (F0 m pc ls st)) target := by
    rcases hl with hl | ⟨host, hl⟩
    · exact X.invokevirtual hp.1.1 hp.1.2.2.2.1 (hts _ hl) hnamed hmethM hstM hkP hkPi hno (a := b) (cell := cellB) (by rw [hT]; exact hcell) (fun z h => by rw [h] at hobj; cases hobj) hselP hmethM habM hkP hkPi (g := F0 m pc ls st) rfl (argsL := As) (rest := rest) hal hst hdc
    · exact X.invokevirtualNest hp.1.1 hp.1.2.2.2.1 (hts _ hl) hnamed hmethM hstM hkP hkPi hno (a := b) (cell := cellB) (by rw [hT]; exact hcell) (fun z h => by rw [h] at hobj; cases hobj) hselP hmethM habM hkP hkPi (g := F0 m pc ls st) rfl (argsL := As) (rest := rest) hal hst hdc
  obtain ⟨vm₁, X₁, hstep⟩ := key
  obtain ⟨o, h', mc', ms', t, hq, hs, he⟩ := mi_call hy hcall hlen hml hrest hp X₁ hT hnamed hd
  cases o with
  | inl v =>
    obtain ⟨t2, a1, b1⟩ := mi_back (N := N) hp X₁ hT hd he (kr v h' mc' ms' hq) hz
    exact ⟨t2, hstep _ (fun acts => (hs acts).trans a1), b1⟩
  | inr k =>
    obtain ⟨h0, hq2⟩ := kt k h' mc' ms' hq
    obtain ⟨t2, a1, b1⟩ := mi_thrown hp h0 X₁ hT he hq2 hz
    exact ⟨t2, hstep _ (fun acts => (hs acts).trans a1), b1⟩
theorem MW.invI {N : mi_M} {n b : Nat} {As rest : List Value} {Q1 : mi_O → va_W → Nat → Nat → Prop} (hf : mi_Ii M N pc n) (hcall : MC E N d (.ref b :: As) h mc ms Q1) (hn : As.length = n) (hst : st = As.reverse ++ .ref b :: rest) (hlen : Nat.ble (mi_args (.ref b :: As)).length N.2.2.1 = true) (hml : Nat.ble N.2.2.1 40 = true) (hrest : (rest.map fun v => v.category).sum ≤ 8)
    (kr : ∀ (v : Option Value) (h' : va_W) (mc' ms' : Nat), Q1 (.inl v) h' mc' ms' → MW E M (d + 1) (pc + 3) lv (v.toList ++ rest) h' mc' ms' Q)
    (kt : ∀ (k : Nat) (h' : va_W) (mc' ms' : Nat), Q1 (.inr k) h' mc' ms' → M.2.2.2.2.1 = [] ∧ Q (.inr k) h' mc' ms') : MW E M (d + 1) pc lv st h mc ms Q := by
  intro p e R s m args below meth c H locs ls A cb sb Z hp hz T hT X
  obtain ⟨idx, y, hd, hl, hins, hcw, hy, hyn, hno, hpar⟩ := hf
  have hts := hp.2.1.1
  have hal : ∀ sig, parseMethodDescriptor y.desc = some sig → As.length = sig.parameters.length := by
    intro sig hs
    rw [hs] at hpar
    rw [hn]
    exact (Option.some.inj hpar).symm
  have hdc : decode c.code pc = .ok (Instr.invokespecial idx, 3) := by rw [hp.1.2.1]; exact hd
  have hpl : e.platform.magicAccessors = ({} : Platform).magicAccessors := by rw [X.admits.platform]
  have key : ∃ (mk : MethodId) (vm₁ : Vm), s.methodNamed? y = some mk ∧ s.WarmedH vm₁ ∧ ∀ target, (∀ acts, Steps p.tables e below (doInvoke e ((T.setVm vm₁).setTop (F0 m pc ls rest)) acts mk (Value.ref b :: As).toArray).1 target) → Steps p.tables e below (T.setTop (F0 m pc ls st)) target := by
    rcases hl with hl | ⟨host, hl⟩
    · obtain ⟨mk, _, _, _, vm₁, g1, -, -, -, -, -, -, -, g2, g3⟩ := Steps.initColdArgs (e := e) X.here hp.1.1 X.warmed hpl hp.1.2.2.2.1 hyn hno (hts _ hl) (hts _ hins) (hts _ hcw) (f := F0 m pc ls st) rfl hal hst hdc
      exact ⟨mk, vm₁, g1, g2, g3⟩
    · obtain ⟨mk, _, _, _, vm₁, g1, -, -, -, -, -, -, -, g2, g3⟩ := Steps.initColdArgsNest (e := e) X.here hp.1.1 X.warmed hpl hp.1.2.2.2.1 hyn hno (hts _ hl) (hts _ hins) (hts _ hcw) (f := F0 m pc ls st) rfl hal hst hdc
      exact ⟨mk, vm₁, g1, g2, g3⟩
  obtain ⟨mk, vm₁, hnamed, hW₁, hstep⟩ := key
  have X₁ := X.noted hW₁
  obtain ⟨o, h', mc', ms', t, hq, hs, he⟩ := mi_call hy hcall hlen hml hrest hp X₁ hT hnamed hd
  cases o with
  | inl v =>
    obtain ⟨t2, a1, b1⟩ := mi_back (N := N) hp X₁ hT hd he (kr v h' mc' ms' hq) hz
    exact ⟨t2, hstep _ (fun acts => (hs acts).trans a1), b1⟩
  | inr k =>
    obtain ⟨h0, hq2⟩ := kt k h' mc' ms' hq
    obtain ⟨t2, a1, b1⟩ := mi_thrown hp h0 X₁ hT he hq2 hz
    exact ⟨t2, hstep _ (fun acts => (hs acts).trans a1), b1⟩

theorem MW.objInit {idx a : Nat} (hd : decode M.2.1 pc = .ok (Instr.invokespecial idx, 3)) (w1 : Cond.methodLink M.1 idx Lib.objectInit ∈ mi_T) (w2 : Cond.instanceMethod Lib.objectInit ∈ mi_T) (w3 : Cond.code Lib.objectInit ⟨#[0xb1]⟩ 1 none ∈ mi_T) (hrest : (st.map fun v => v.category).sum ≤ 8) (k : MW E M (d + 1) (pc + 3) lv st h mc ms Q) : MW E M (d + 1) pc lv (.ref a :: st) h mc ms Q := by
  intro p e R s m args below meth c H locs ls A cb sb Z hp hz
  obtain ⟨⟨r1, r2, -, -⟩, -⟩ := hp.2.2.2.2
  refine W.objInit hp.1.1 hp.1.2.1 hp.1.2.2.2.1 (hp.2.1.1 _ w1) (hp.2.1.1 _ w2) (hp.2.1.1 _ w3) rfl (by show ls.size = c.maxLocals; rw [hp.1.2.2.1]; exact hp.2.2.1.1.1) rfl hd (by omega) (by show 2 * 0 + _ + 12 ≤ R.locals; omega) ?_
  exact k p e R s m args below meth c H locs ls A cb sb Z hp hz
theorem MW.mmax {idx : Nat} {x y : Int32} (hd : decode M.2.1 pc = .ok (Instr.invokestatic idx, 3)) (w1 : Cond.methodLink M.1 idx Lib.Math.max.name ∈ mi_T) (w2 : Cond.static Lib.Math.max.name ∈ mi_T) (w3 : Cond.initialized "java/lang/Math" ∈ mi_T) (w4 : Cond.code Lib.Math.max.name Lib.Math.max.code 2 (some .int) ∈ mi_T) (hrest : (st.map fun v => v.category).sum ≤ 8) (k : MW E M (d + 1) (pc + 3) lv (.int (if x < y then y else x) :: st) h mc ms Q) : MW E M (d + 1) pc lv (.int y :: .int x :: st) h mc ms Q := by
  intro p e R s m args below meth c H locs ls A cb sb Z hp hz
  obtain ⟨⟨r1, r2, r3, r4⟩, r5, r6, r7, r8⟩ := hp.2.2.2.2
  exact va_mmax hp.1.1 hp.1.2.1 (by rw [hp.1.2.2.1]; exact hp.2.2.1.1.1.symm) hp.1.2.2.2.1 (hp.2.1.1 _ w1) (hp.2.1.1 _ w2) (hp.2.1.1 _ w3) (hp.2.1.1 _ w4) (by omega) (by omega) (by omega) (by omega) hd (k p e R s m args below meth c H locs ls A cb sb Z hp hz)
theorem MW.mmin {idx : Nat} {x y : Int32} (hd : decode M.2.1 pc = .ok (Instr.invokestatic idx, 3)) (w1 : Cond.methodLink M.1 idx Lib.Math.min.name ∈ mi_T) (w2 : Cond.static Lib.Math.min.name ∈ mi_T) (w3 : Cond.initialized "java/lang/Math" ∈ mi_T) (w4 : Cond.code Lib.Math.min.name Lib.Math.min.code 2 (some .int) ∈ mi_T) (hrest : (st.map fun v => v.category).sum ≤ 8) (k : MW E M (d + 1) (pc + 3) lv (.int (if y < x then y else x) :: st) h mc ms Q) : MW E M (d + 1) pc lv (.int y :: .int x :: st) h mc ms Q := by
  intro p e R s m args below meth c H locs ls A cb sb Z hp hz
  obtain ⟨⟨r1, r2, r3, r4⟩, r5, r6, r7, r8⟩ := hp.2.2.2.2
  exact va_mmin hp.1.1 hp.1.2.1 (by rw [hp.1.2.2.1]; exact hp.2.2.1.1.1.symm) hp.1.2.2.2.1 (hp.2.1.1 _ w1) (hp.2.1.1 _ w2) (hp.2.1.1 _ w3) (hp.2.1.1 _ w4) (by omega) (by omega) (by omega) (by omega) hd (k p e R s m args below meth c H locs ls A cb sb Z hp hz)
theorem MW.mabs {idx : Nat} {x : Int32} (hd : decode M.2.1 pc = .ok (Instr.invokestatic idx, 3)) (w1 : Cond.methodLink M.1 idx Lib.Math.abs.name ∈ mi_T) (w2 : Cond.static Lib.Math.abs.name ∈ mi_T) (w3 : Cond.initialized "java/lang/Math" ∈ mi_T) (w4 : Cond.code Lib.Math.abs.name Lib.Math.abs.code 1 (some .int) ∈ mi_T) (hrest : (st.map fun v => v.category).sum ≤ 8) (k : MW E M (d + 1) (pc + 3) lv (.int (if 0 ≤ x then x else 0 - x) :: st) h mc ms Q) : MW E M (d + 1) pc lv (.int x :: st) h mc ms Q := by
  intro p e R s m args below meth c H locs ls A cb sb Z hp hz
  obtain ⟨⟨r1, r2, r3, r4⟩, r5, r6, r7, r8⟩ := hp.2.2.2.2
  exact va_mabs hp.1.1 hp.1.2.1 (by rw [hp.1.2.2.1]; exact hp.2.2.1.1.1.symm) hp.1.2.2.2.1 (hp.2.1.1 _ w1) (hp.2.1.1 _ w2) (hp.2.1.1 _ w3) (hp.2.1.1 _ w4) (by omega) (by omega) (by omega) (by omega) hd (k p e R s m args below meth c H locs ls A cb sb Z hp hz)
theorem MW.newq {C : String} {idx : Nat} (hd : decode M.2.1 pc = .ok (Instr.anewarray idx, 3)) (hw : Cond.classLink M.1 idx C ∈ mi_T) (ho : ∀ (args : Array Value) (s : State), (∀ w ∈ mi_T, w.before args s = true) → va_AO C s) (t0 : Nat) {cA : ClassId} (ht : E.2.2.1[t0]? = some (cA, .object C)) {n : Int32} {N : Nat} (hn : ¬ n < 0) (hN : n.toNatClampNeg = N) (hb : N * 4 ≤ 536870912) (hc1 : mc + 1 ≤ mi_CC) (hc2 : ms + N ≤ mi_CS)
    (kk : ∀ q : Nat, MW E M d (pc + 3) lv (.ref q :: st) (h ++ [(q, .inl (cA, N, .inr (.inr (.inr (.inr (fun _ => none))))))]) (mc + 1) (ms + N) Q) : MW E M d pc lv (.int n :: st) h mc ms Q := by
  intro p e R s m args below meth c H locs ls A cb sb Z hp hz
  obtain ⟨⟨-, -, r3, r4⟩, r5, r6, r7, r8⟩ := hp.2.2.2.2
  refine va_newq (D := E.2.1) hp.1.1 hp.1.2.1 hp.1.2.2.2.1 (hp.2.1.1 _ hw) (ho args s hp.2.1.1) hp.2.1.2.1 hp.2.2.2.1.1 hp.2.2.2.1.2.1 hp.2.2.2.1.2.2.1 hp.2.2.2.1.2.2.2 hn hN hb (by omega) (by omega) hd (fun q cA' H1 hK hP hD hS => ?_)
  have hca : cA' = cA := mi_RA_inj (hK.2 E.2.2.1.length (cA', .object C) (by simp)).2 (hp.2.1.2.1.2 t0 (cA, .object C) ht).2
  subst hca
  have e1 : mc - cb + 1 = mc + 1 - cb := by omega
  have e2 : ms - sb + N = ms + N - sb := by omega
  rw [e1, e2]
  exact kk q p e R s m args below meth c H1 locs ls A cb sb Z ⟨hp.1, hp.2.1, hp.2.2.1, ⟨hP, hD, hS, hp.2.2.2.1.2.2.2⟩, hp.2.2.2.2.1, by omega, by omega, hc1, hc2⟩ hz
end MWrows
end
section
/-- 'throw new E("text")' at pc, E the k-th of mi_exn -/
def mi_Tw (M : mi_M) (pc k : Nat) : Prop := ∃ (ik is ic : Nat) (text : String) (names : List String), Bundle.fit (mi_exn k) = true ∧ (∀ n ∈ names, Bundle.fit n = true) ∧ Cond.classLink M.1 ik (mi_exn k) ∈ mi_T ∧ Cond.initialized (mi_exn k) ∈ mi_T ∧ (M.1, is, text) ∈ mi_strs ∧ (∀ w ∈ vx_atS M.1 ic (mi_exn k) names, w ∈ mi_T) ∧
  (∀ w ∈ Cond.classLink M.1 ik (mi_exn k) :: Cond.initialized (mi_exn k) :: vx_atS M.1 ic (mi_exn k) names, vx_ot w = true) ∧ names.length ≤ 4 ∧ M.2.2.2.2.1 = [] ∧
  decode M.2.1 pc = .ok (Instr.new ik, 3) ∧ decode M.2.1 (pc + 3) = .ok (Instr.dup, 1) ∧ decode M.2.1 (pc + 4) = .ok (Instr.ldc is, 2) ∧ decode M.2.1 (pc + 6) = .ok (Instr.invokespecial ic, 3) ∧ decode M.2.1 (pc + 9) = .ok (Instr.athrow, 1)
theorem MW.throwS {E : mi_E} {M : mi_M} {d pc : Nat} {lv : List (Option Value)} {st : List Value} {h : va_W} {mc ms : Nat} {Q : mi_O → va_W → Nat → Nat → Prop} {k : Nat} (hf : mi_Tw M pc k) (hrest : (st.map fun v => v.category).sum ≤ 8) (hc1 : mc + 1 ≤ mi_CC) (hc2 : ms + 6 ≤ mi_CS) (hq : Q (.inr k) h (mc + 1) (ms + 6)) : MW E M (d + 8) pc lv st h mc ms Q := by
  intro p e R s m args below meth c H locs ls A cb sb Z hp hz
  obtain ⟨ik, is, ic, text, names, f1, f2, w1, w2, w3, w4, w5, hn, h0, d0, d3, d4, d6, d9⟩ := hf
  obtain ⟨⟨hx, hb, hmL, hown, hret, hlk, hhs, hnm⟩, ⟨hts, hK, hX, hbs, hbA, hTh⟩, ⟨hL, hLl⟩, ⟨hP, hD, hS, hA⟩, ⟨hR1, hR2, hR3, hR4⟩, hc1', hc2', hc3, hc4⟩ := id hp
  obtain ⟨t1, t2, t3, t4, -⟩ := hTh
  obtain ⟨sa, hsa⟩ := t4 _ w3
  have hout : ∀ y ∈ c.exceptionTable.toList, covers y (pc + 9) = false := by
    have h9 : c.exceptionTable.toList.map (fun x => (x.startPc, x.endPc, x.handlerPc, x.catchType)) = [] := by rw [← h0]; exact hhs
    rw [List.map_eq_nil_iff.mp h9]
    intro y hy
    cases hy
  refine W.mono (vx_throwS (Qc := fun _ _ _ _ => False) (XC := fun E1 _ t => E1 = mi_exn k ∧ H.size ≤ t.heap.size ∧ ∀ q : Nat, q < H.size → t.heap[q]? = H[q]?) (free := A) (mc := mc + 1 - cb) (ms := ms + 6 - sb) hx hb t1 hown f1 f2 (hts _ w1) (hts _ w2) hsa (fun w hw => hts w (w4 w hw)) w5 t2 t3 hS (by rw [hmL]; exact hL.1) d0 d3 d4 d6 d9 hout (by omega) (by omega) (by omega) (by omega) hlk (fun t _ h1 h2 => ⟨rfl, h1, h2⟩) hS.2.2 (by omega) (by omega)) (fun t ht => ?_)
  obtain ⟨o, g1, g2, ⟨g3, -⟩ | ⟨q, rfl, E1, ce, L, ⟨rfl, g4, g5⟩, g6, g7, g8, g9, g10, g11⟩⟩ := ht
  · exact g3.elim
  · refine hz (.inr k) h (mc + 1) (ms + 6) t hq ⟨.threw q, L, g1, g2, g9, g10, ⟨Nat.le_trans hS.1 g4, fun a a1 a2 => ?_, g11⟩, ?_, hD, ⟨q, ce, rfl, g6, g7, ?_⟩, by omega, by omega, hc1, hc2⟩
    · rw [g5 a (Nat.lt_of_lt_of_le a1 hS.1)]
      exact hS.2.1 a a1 a2
    · exact hP.kept (fun k2 x hx2 => g5 _ (hP k2 x hx2).lt)
    · rw [g9.alike.findClass]
      exact g8
end
section
theorem mi_cl0_in : ∀ w ∈ u_ws RX0 TX0 4, w ∈ tables_1 ∧ mi_tr w = true := by decide +kernel
theorem mi_cl0 : mi_Cl 0 RX0 TX0 4 tyX0 := ⟨rfl, fun w hw => List.mem_filter.mpr ⟨List.mem_append_right _ (mi_cl0_in w hw).1, (mi_cl0_in w hw).2⟩, tyX0_ok, nmX0⟩
theorem mi_cl1_in : ∀ w ∈ u_ws RX1 TX1 6, w ∈ tables_1 ∧ mi_tr w = true := by decide +kernel
theorem mi_cl1 : mi_Cl 1 RX1 TX1 6 tyX1 := ⟨rfl, fun w hw => List.mem_filter.mpr ⟨List.mem_append_right _ (mi_cl1_in w hw).1, (mi_cl1_in w hw).2⟩, tyX1_ok, nmX1⟩
theorem mi_cl2_in : ∀ w ∈ u_ws RX2 TX2 6, w ∈ tables_1 ∧ mi_tr w = true := by decide +kernel
theorem mi_cl2 : mi_Cl 2 RX2 TX2 6 tyX2 := ⟨rfl, fun w hw => List.mem_filter.mpr ⟨List.mem_append_right _ (mi_cl2_in w hw).1, (mi_cl2_in w hw).2⟩, tyX2_ok, nmX2⟩
theorem mi_cl3_in : ∀ w ∈ u_ws RX3 TX3 3, w ∈ tables_1 ∧ mi_tr w = true := by decide +kernel
theorem mi_cl3 : mi_Cl 3 RX3 TX3 3 tyX3 := ⟨rfl, fun w hw => List.mem_filter.mpr ⟨List.mem_append_right _ (mi_cl3_in w hw).1, (mi_cl3_in w hw).2⟩, tyX3_ok, nmX3⟩
theorem mi_cl4_in : ∀ w ∈ u_ws RX4 TX4 3, w ∈ tables_1 ∧ mi_tr w = true := by decide +kernel
theorem mi_cl4 : mi_Cl 4 RX4 TX4 3 tyX4 := ⟨rfl, fun w hw => List.mem_filter.mpr ⟨List.mem_append_right _ (mi_cl4_in w hw).1, (mi_cl4_in w hw).2⟩, tyX4_ok, nmX4⟩
theorem mi_cl5_in : ∀ w ∈ u_ws RX5 TX5 5, w ∈ tables_1 ∧ mi_tr w = true := by decide +kernel
theorem mi_cl5 : mi_Cl 5 RX5 TX5 5 tyX5 := ⟨rfl, fun w hw => List.mem_filter.mpr ⟨List.mem_append_right _ (mi_cl5_in w hw).1, (mi_cl5_in w hw).2⟩, tyX5_ok, nmX5⟩
theorem mi_cl6_in : ∀ w ∈ u_ws RX6 TX6 21, w ∈ tables_1 ∧ mi_tr w = true := by decide +kernel
theorem mi_cl6 : mi_Cl 6 RX6 TX6 21 tyX6 := ⟨rfl, fun w hw => List.mem_filter.mpr ⟨List.mem_append_right _ (mi_cl6_in w hw).1, (mi_cl6_in w hw).2⟩, tyX6_ok, nmX6⟩
def MX5_init : mi_M := (RX5, cX5_init, 2, none, [], "<init>")
theorem meX5_init : mi_Me yX5_init MX5_init := ⟨rfl, rfl, by decide +kernel, Or.inl ⟨rfl, mi_in 23 (by decide +kernel) rfl⟩⟩
def MX5_cell : mi_M := (RX5, cX5_cell, 4, none, [], "cell")
theorem meX5_cell : mi_Me yX5_cell MX5_cell := ⟨rfl, rfl, by decide +kernel, Or.inl ⟨rfl, mi_in 228 (by decide +kernel) rfl⟩⟩
def MX5_axles : mi_M := (RX5, cX5_axles, 5, none, [], "axles")
theorem meX5_axles : mi_Me yX5_axles MX5_axles := ⟨rfl, rfl, by decide +kernel, Or.inl ⟨rfl, mi_in 351 (by decide +kernel) rfl⟩⟩
def MX5_pallet : mi_M := (RX5, cX5_pallet, 7, some .int, [], "pallet")
theorem meX5_pallet : mi_Me yX5_pallet MX5_pallet := ⟨rfl, rfl, by decide +kernel, Or.inl ⟨rfl, mi_in 364 (by decide +kernel) rfl⟩⟩
def MX5_solve : mi_M := (RX5, cX5_solve, 2, some .int, [], "solve")
theorem meX5_solve : mi_Me yX5_solve MX5_solve := ⟨rfl, rfl, by decide +kernel, Or.inl ⟨rfl, mi_in 396 (by decide +kernel) rfl⟩⟩
def MX5_exact : mi_M := (RX5, cX5_exact, 1, some .boolean, [], "exact")
theorem meX5_exact : mi_Me yX5_exact MX5_exact := ⟨rfl, rfl, by decide +kernel, Or.inl ⟨rfl, mi_in 178 (by decide +kernel) rfl⟩⟩
def MX5_bound : mi_M := (RX5, cX5_bound, 1, some .int, [], "bound")
theorem meX5_bound : mi_Me yX5_bound MX5_bound := ⟨rfl, rfl, by decide +kernel, Or.inl ⟨rfl, mi_in 182 (by decide +kernel) rfl⟩⟩
def MX5_place : mi_M := (RX5, cX5_place, 5, some .int, [], "place")
theorem meX5_place : mi_Me yX5_place MX5_place := ⟨rfl, rfl, by decide +kernel, Or.inl ⟨rfl, mi_in 490 (by decide +kernel) rfl⟩⟩
def MX5_at : mi_M := (RX5, cX5_at, 2, some .int, [], "at")
theorem meX5_at : mi_Me yX5_at MX5_at := ⟨rfl, rfl, by decide +kernel, Or.inl ⟨rfl, mi_in 528 (by decide +kernel) rfl⟩⟩
def MX5_axle : mi_M := (RX5, cX5_axle, 3, some .int, [], "axle")
theorem meX5_axle : mi_Me yX5_axle MX5_axle := ⟨rfl, rfl, by decide +kernel, Or.inl ⟨rfl, mi_in 536 (by decide +kernel) rfl⟩⟩
def MX5_bar : mi_M := (RX5, cX5_bar, 3, some .int, [], "bar")
theorem meX5_bar : mi_Me yX5_bar MX5_bar := ⟨rfl, rfl, by decide +kernel, Or.inl ⟨rfl, mi_in 564 (by decide +kernel) rfl⟩⟩
def MX5_change : mi_M := (RX5, cX5_change, 4, some .boolean, [], "change")
theorem meX5_change : mi_Me yX5_change MX5_change := ⟨rfl, rfl, by decide +kernel, Or.inl ⟨rfl, mi_in 578 (by decide +kernel) rfl⟩⟩
def MX5_doors : mi_M := (RX5, cX5_doors, 3, some .boolean, [], "doors")
theorem meX5_doors : mi_Me yX5_doors MX5_doors := ⟨rfl, rfl, by decide +kernel, Or.inl ⟨rfl, mi_in 586 (by decide +kernel) rfl⟩⟩
def MX5_seal : mi_M := (RX5, cX5_seal, 2, some .boolean, [], "seal")
theorem meX5_seal : mi_Me yX5_seal MX5_seal := ⟨rfl, rfl, by decide +kernel, Or.inl ⟨rfl, mi_in 593 (by decide +kernel) rfl⟩⟩
def MX5_broken : mi_M := (RX5, cX5_broken, 1, some .int, [], "broken")
theorem meX5_broken : mi_Me yX5_broken MX5_broken := ⟨rfl, rfl, by decide +kernel, Or.inl ⟨rfl, mi_in 610 (by decide +kernel) rfl⟩⟩
def MX5_order : mi_M := (RX5, cX5_order, 3, some .int, [], "order")
theorem meX5_order : mi_Me yX5_order MX5_order := ⟨rfl, rfl, by decide +kernel, Or.inl ⟨rfl, mi_in 622 (by decide +kernel) rfl⟩⟩
def MX5_manifest : mi_M := (RX5, cX5_manifest, 2, some .int, [], "manifest")
theorem meX5_manifest : mi_Me yX5_manifest MX5_manifest := ⟨rfl, rfl, by decide +kernel, Or.inl ⟨rfl, mi_in 638 (by decide +kernel) rfl⟩⟩
def MX5_count : mi_M := (RX5, cX5_count, 2, some .int, [], "count")
theorem meX5_count : mi_Me yX5_count MX5_count := ⟨rfl, rfl, by decide +kernel, Or.inl ⟨rfl, mi_in 207 (by decide +kernel) rfl⟩⟩
def MX5_knownPallet : mi_M := (RX5, cX5_knownPallet, 2, some (.object "TruckLoads$Pallet"), [], "knownPallet")
theorem meX5_knownPallet : mi_Me yX5_knownPallet MX5_knownPallet := ⟨rfl, rfl, by decide +kernel, Or.inl ⟨rfl, mi_in 494 (by decide +kernel) rfl⟩⟩
def MX5_requireWithin : mi_M := (RX5, cX5_requireWithin, 3, none, [], "requireWithin")
theorem meX5_requireWithin : mi_Me yX5_requireWithin MX5_requireWithin := ⟨rfl, rfl, by decide +kernel, Or.inl ⟨rfl, mi_in 308 (by decide +kernel) rfl⟩⟩
def MX5_requireShut : mi_M := (RX5, cX5_requireShut, 1, none, [], "requireShut")
theorem meX5_requireShut : mi_Me yX5_requireShut MX5_requireShut := ⟨rfl, rfl, by decide +kernel, Or.inl ⟨rfl, mi_in 368 (by decide +kernel) rfl⟩⟩
def MX5_requireNoSeal : mi_M := (RX5, cX5_requireNoSeal, 1, none, [], "requireNoSeal")
theorem meX5_requireNoSeal : mi_Me yX5_requireNoSeal MX5_requireNoSeal := ⟨rfl, rfl, by decide +kernel, Or.inl ⟨rfl, mi_in 400 (by decide +kernel) rfl⟩⟩
def MX5_sideInLowestTerms : mi_M := (RX5, cX5_sideInLowestTerms, 5, some .int, [], "sideInLowestTerms")
theorem meX5_sideInLowestTerms : mi_Me yX5_sideInLowestTerms MX5_sideInLowestTerms := ⟨rfl, rfl, by decide +kernel, Or.inl ⟨rfl, mi_in 557 (by decide +kernel) rfl⟩⟩
def MX6_init : mi_M := (RX6, cX6_init, 2, none, [], "<init>")
theorem meX6_init : mi_Me yX6_init MX6_init := ⟨rfl, rfl, by decide +kernel, Or.inl ⟨rfl, mi_in 644 (by decide +kernel) rfl⟩⟩
def MX6_thrown : mi_M := (RX6, cX6_thrown, 1, some .int, [], "thrown")
theorem meX6_thrown : mi_Me yX6_thrown MX6_thrown := ⟨rfl, rfl, by decide +kernel, Or.inl ⟨rfl, mi_in 713 (by decide +kernel) rfl⟩⟩
def MX6_within : mi_M := (RX6, cX6_within, 3, some .boolean, [], "within")
theorem meX6_within : mi_Me yX6_within MX6_within := ⟨rfl, rfl, by decide +kernel, Or.inl ⟨rfl, mi_in 720 (by decide +kernel) rfl⟩⟩
def MX6_isPallet : mi_M := (RX6, cX6_isPallet, 2, some .boolean, [], "isPallet")
theorem meX6_isPallet : mi_Me yX6_isPallet MX6_isPallet := ⟨rfl, rfl, by decide +kernel, Or.inl ⟨rfl, mi_in 788 (by decide +kernel) rfl⟩⟩
def MX6_cell : mi_M := (RX6, cX6_cell, 4, none, [], "cell")
theorem meX6_cell : mi_Me yX6_cell MX6_cell := ⟨rfl, rfl, by decide +kernel, Or.inl ⟨rfl, mi_in 717 (by decide +kernel) rfl⟩⟩
def MX6_axles : mi_M := (RX6, cX6_axles, 5, none, [], "axles")
theorem meX6_axles : mi_Me yX6_axles MX6_axles := ⟨rfl, rfl, by decide +kernel, Or.inl ⟨rfl, mi_in 728 (by decide +kernel) rfl⟩⟩
def MX6_pallet : mi_M := (RX6, cX6_pallet, 7, some .int, [], "pallet")
theorem meX6_pallet : mi_Me yX6_pallet MX6_pallet := ⟨rfl, rfl, by decide +kernel, Or.inl ⟨rfl, mi_in 732 (by decide +kernel) rfl⟩⟩
def MX6_standsAt : mi_M := (RX6, cX6_standsAt, 3, some .int, [], "standsAt")
theorem meX6_standsAt : mi_Me yX6_standsAt MX6_standsAt := ⟨rfl, rfl, by decide +kernel, Or.inl ⟨rfl, mi_in 724 (by decide +kernel) rfl⟩⟩
def MX6_load : mi_M := (RX6, cX6_load, 4, some .int, [], "load")
theorem meX6_load : mi_Me yX6_load MX6_load := ⟨rfl, rfl, by decide +kernel, Or.inl ⟨rfl, mi_in 768 (by decide +kernel) rfl⟩⟩
def MX6_axlesBear : mi_M := (RX6, cX6_axlesBear, 1, some .boolean, [], "axlesBear")
theorem meX6_axlesBear : mi_Me yX6_axlesBear MX6_axlesBear := ⟨rfl, rfl, by decide +kernel, Or.inl ⟨rfl, mi_in 764 (by decide +kernel) rfl⟩⟩
def MX6_keepsOff : mi_M := (RX6, cX6_keepsOff, 6, some .boolean, [], "keepsOff")
theorem meX6_keepsOff : mi_Me yX6_keepsOff MX6_keepsOff := ⟨rfl, rfl, by decide +kernel, Or.inl ⟨rfl, mi_in 752 (by decide +kernel) rfl⟩⟩
def MX6_bars : mi_M := (RX6, cX6_bars, 4, some .int, [], "bars")
theorem meX6_bars : mi_Me yX6_bars MX6_bars := ⟨rfl, rfl, by decide +kernel, Or.inl ⟨rfl, mi_in 792 (by decide +kernel) rfl⟩⟩
def MX6_axlesBearAt : mi_M := (RX6, cX6_axlesBearAt, 5, some .boolean, [], "axlesBearAt")
theorem meX6_axlesBearAt : mi_Me yX6_axlesBearAt MX6_axlesBearAt := ⟨rfl, rfl, by decide +kernel, Or.inl ⟨rfl, mi_in 796 (by decide +kernel) rfl⟩⟩
def MX6_standing : mi_M := (RX6, cX6_standing, 3, some .int, [], "standing")
theorem meX6_standing : mi_Me yX6_standing MX6_standing := ⟨rfl, rfl, by decide +kernel, Or.inl ⟨rfl, mi_in 756 (by decide +kernel) rfl⟩⟩
def MX6_standingWeight : mi_M := (RX6, cX6_standingWeight, 3, some .int, [], "standingWeight")
theorem meX6_standingWeight : mi_Me yX6_standingWeight MX6_standingWeight := ⟨rfl, rfl, by decide +kernel, Or.inl ⟨rfl, mi_in 760 (by decide +kernel) rfl⟩⟩
def MX6_fits : mi_M := (RX6, cX6_fits, 4, some .boolean, [], "fits")
theorem meX6_fits : mi_Me yX6_fits MX6_fits := ⟨rfl, rfl, by decide +kernel, Or.inl ⟨rfl, mi_in 748 (by decide +kernel) rfl⟩⟩
def MX6_nextPlace : mi_M := (RX6, cX6_nextPlace, 2, some .int, [], "nextPlace")
theorem meX6_nextPlace : mi_Me yX6_nextPlace MX6_nextPlace := ⟨rfl, rfl, by decide +kernel, Or.inl ⟨rfl, mi_in 744 (by decide +kernel) rfl⟩⟩
def MX6_solveExactly : mi_M := (RX6, cX6_solveExactly, 7, none, [], "solveExactly")
theorem meX6_solveExactly : mi_Me yX6_solveExactly MX6_solveExactly := ⟨rfl, rfl, by decide +kernel, Or.inl ⟨rfl, mi_in 740 (by decide +kernel) rfl⟩⟩
def MX6_solveByRule : mi_M := (RX6, cX6_solveByRule, 5, none, [], "solveByRule")
theorem meX6_solveByRule : mi_Me yX6_solveByRule MX6_solveByRule := ⟨rfl, rfl, by decide +kernel, Or.inl ⟨rfl, mi_in 772 (by decide +kernel) rfl⟩⟩
def MX6_solve : mi_M := (RX6, cX6_solve, 2, some .int, [], "solve")
theorem meX6_solve : mi_Me yX6_solve MX6_solve := ⟨rfl, rfl, by decide +kernel, Or.inl ⟨rfl, mi_in 736 (by decide +kernel) rfl⟩⟩
def MX6_exact : mi_M := (RX6, cX6_exact, 1, some .boolean, [], "exact")
theorem meX6_exact : mi_Me yX6_exact MX6_exact := ⟨rfl, rfl, by decide +kernel, Or.inl ⟨rfl, mi_in 776 (by decide +kernel) rfl⟩⟩
def MX6_bound : mi_M := (RX6, cX6_bound, 5, some .int, [], "bound")
theorem meX6_bound : mi_Me yX6_bound MX6_bound := ⟨rfl, rfl, by decide +kernel, Or.inl ⟨rfl, mi_in 780 (by decide +kernel) rfl⟩⟩
def MX6_place : mi_M := (RX6, cX6_place, 4, some .int, [], "place")
theorem meX6_place : mi_Me yX6_place MX6_place := ⟨rfl, rfl, by decide +kernel, Or.inl ⟨rfl, mi_in 784 (by decide +kernel) rfl⟩⟩
def MX6_at : mi_M := (RX6, cX6_at, 2, some .int, [], "at")
theorem meX6_at : mi_Me yX6_at MX6_at := ⟨rfl, rfl, by decide +kernel, Or.inl ⟨rfl, mi_in 800 (by decide +kernel) rfl⟩⟩
def MX6_common : mi_M := (RX6, cX6_common, 5, some .int, [], "common")
theorem meX6_common : mi_Me yX6_common MX6_common := ⟨rfl, rfl, by decide +kernel, Or.inl ⟨rfl, mi_in 807 (by decide +kernel) rfl⟩⟩
def MX6_axle : mi_M := (RX6, cX6_axle, 6, some .int, [], "axle")
theorem meX6_axle : mi_Me yX6_axle MX6_axle := ⟨rfl, rfl, by decide +kernel, Or.inl ⟨rfl, mi_in 804 (by decide +kernel) rfl⟩⟩
def MX6_isLeft : mi_M := (RX6, cX6_isLeft, 4, some .boolean, [], "isLeft")
theorem meX6_isLeft : mi_Me yX6_isLeft MX6_isLeft := ⟨rfl, rfl, by decide +kernel, Or.inl ⟨rfl, mi_in 815 (by decide +kernel) rfl⟩⟩
def MX6_bar : mi_M := (RX6, cX6_bar, 7, some .int, [], "bar")
theorem meX6_bar : mi_Me yX6_bar MX6_bar := ⟨rfl, rfl, by decide +kernel, Or.inl ⟨rfl, mi_in 811 (by decide +kernel) rfl⟩⟩
def MX6_change : mi_M := (RX6, cX6_change, 4, some .boolean, [], "change")
theorem meX6_change : mi_Me yX6_change MX6_change := ⟨rfl, rfl, by decide +kernel, Or.inl ⟨rfl, mi_in 819 (by decide +kernel) rfl⟩⟩
def MX6_doors : mi_M := (RX6, cX6_doors, 3, some .boolean, [], "doors")
theorem meX6_doors : mi_Me yX6_doors MX6_doors := ⟨rfl, rfl, by decide +kernel, Or.inl ⟨rfl, mi_in 823 (by decide +kernel) rfl⟩⟩
def MX6_seal : mi_M := (RX6, cX6_seal, 3, some .boolean, [], "seal")
theorem meX6_seal : mi_Me yX6_seal MX6_seal := ⟨rfl, rfl, by decide +kernel, Or.inl ⟨rfl, mi_in 827 (by decide +kernel) rfl⟩⟩
def MX6_broken : mi_M := (RX6, cX6_broken, 2, some .int, [], "broken")
theorem meX6_broken : mi_Me yX6_broken MX6_broken := ⟨rfl, rfl, by decide +kernel, Or.inl ⟨rfl, mi_in 832 (by decide +kernel) rfl⟩⟩
def MX6_order : mi_M := (RX6, cX6_order, 6, some .int, [], "order")
theorem meX6_order : mi_Me yX6_order MX6_order := ⟨rfl, rfl, by decide +kernel, Or.inl ⟨rfl, mi_in 836 (by decide +kernel) rfl⟩⟩
def MX6_manifest : mi_M := (RX6, cX6_manifest, 2, some .int, [], "manifest")
theorem meX6_manifest : mi_Me yX6_manifest MX6_manifest := ⟨rfl, rfl, by decide +kernel, Or.inl ⟨rfl, mi_in 840 (by decide +kernel) rfl⟩⟩
def MX6_count : mi_M := (RX6, cX6_count, 2, some .int, [], "count")
theorem meX6_count : mi_Me yX6_count MX6_count := ⟨rfl, rfl, by decide +kernel, Or.inl ⟨rfl, mi_in 844 (by decide +kernel) rfl⟩⟩
def MX0_init : mi_M := (RX0, cX0_init, 1, none, [], "<init>")
theorem meX0_init : mi_Me yX0_init MX0_init := ⟨rfl, rfl, by decide +kernel, Or.inl ⟨rfl, mi_in 45 (by decide +kernel) rfl⟩⟩
def MX0_set : mi_M := (RX0, cX0_set, 5, none, [], "set")
theorem meX0_set : mi_Me yX0_set MX0_set := ⟨rfl, rfl, by decide +kernel, Or.inl ⟨rfl, mi_in 356 (by decide +kernel) rfl⟩⟩
def MX0_span : mi_M := (RX0, cX0_span, 1, some .int, [], "span")
theorem meX0_span : mi_Me yX0_span MX0_span := ⟨rfl, rfl, by decide +kernel, Or.inl ⟨rfl, mi_in 444 (by decide +kernel) rfl⟩⟩
def MX0_share : mi_M := (RX0, cX0_share, 4, some .int, [], "share")
theorem meX0_share : mi_Me yX0_share MX0_share := ⟨rfl, rfl, by decide +kernel, Or.inl ⟨rfl, mi_in 430 (by decide +kernel) rfl⟩⟩
def MX0_bear : mi_M := (RX0, cX0_bear, 3, some .boolean, [], "bear")
theorem meX0_bear : mi_Me yX0_bear MX0_bear := ⟨rfl, rfl, by decide +kernel, Or.inl ⟨rfl, mi_in 440 (by decide +kernel) rfl⟩⟩
def MX1_init : mi_M := (RX1, cX1_init, 3, none, [], "<init>")
theorem meX1_init : mi_Me yX1_init MX1_init := ⟨rfl, rfl, by decide +kernel, Or.inl ⟨rfl, mi_in 31 (by decide +kernel) rfl⟩⟩
def MX1_hasCell : mi_M := (RX1, cX1_hasCell, 2, some .boolean, [], "hasCell")
theorem meX1_hasCell : mi_Me yX1_hasCell MX1_hasCell := ⟨rfl, rfl, by decide +kernel, Or.inl ⟨rfl, mi_in 198 (by decide +kernel) rfl⟩⟩
def MX1_isTaken : mi_M := (RX1, cX1_isTaken, 3, some .boolean, [], "isTaken")
theorem meX1_isTaken : mi_Me yX1_isTaken MX1_isTaken := ⟨rfl, rfl, by decide +kernel, Or.inl ⟨rfl, mi_in 328 (by decide +kernel) rfl⟩⟩
def MX1_standing : mi_M := (RX1, cX1_standing, 3, some .int, [], "standing")
theorem meX1_standing : mi_Me yX1_standing MX1_standing := ⟨rfl, rfl, by decide +kernel, Or.inl ⟨rfl, mi_in 211 (by decide +kernel) rfl⟩⟩
def MX1_weight : mi_M := (RX1, cX1_weight, 3, some .int, [], "weight")
theorem meX1_weight : mi_Me yX1_weight MX1_weight := ⟨rfl, rfl, by decide +kernel, Or.inl ⟨rfl, mi_in 426 (by decide +kernel) rfl⟩⟩
def MX1_onAxle : mi_M := (RX1, cX1_onAxle, 4, some .int, [], "onAxle")
theorem meX1_onAxle : mi_Me yX1_onAxle MX1_onAxle := ⟨rfl, rfl, by decide +kernel, Or.inl ⟨rfl, mi_in 435 (by decide +kernel) rfl⟩⟩
def MX1_palletsWithSomeCell : mi_M := (RX1, cX1_palletsWithSomeCell, 3, some .int, [], "palletsWithSomeCell")
theorem meX1_palletsWithSomeCell : mi_Me yX1_palletsWithSomeCell MX1_palletsWithSomeCell := ⟨rfl, rfl, by decide +kernel, Or.inl ⟨rfl, mi_in 186 (by decide +kernel) rfl⟩⟩
def MX1_fitsSomeCell : mi_M := (RX1, cX1_fitsSomeCell, 3, some .boolean, [], "fitsSomeCell")
theorem meX1_fitsSomeCell : mi_Me yX1_fitsSomeCell MX1_fitsSomeCell := ⟨rfl, rfl, by decide +kernel, Or.inl ⟨rfl, mi_in 190 (by decide +kernel) rfl⟩⟩
def MX1_firstBar : mi_M := (RX1, cX1_firstBar, 4, some .int, [], "firstBar")
theorem meX1_firstBar : mi_Me yX1_firstBar MX1_firstBar := ⟨rfl, rfl, by decide +kernel, Or.inl ⟨rfl, mi_in 515 (by decide +kernel) rfl⟩⟩
def MX1_firstBarButAxles : mi_M := (RX1, cX1_firstBarButAxles, 3, some .int, [], "firstBarButAxles")
theorem meX1_firstBarButAxles : mi_Me yX1_firstBarButAxles MX1_firstBarButAxles := ⟨rfl, rfl, by decide +kernel, Or.inl ⟨rfl, mi_in 456 (by decide +kernel) rfl⟩⟩
def MX1_barFromAllCells : mi_M := (RX1, cX1_barFromAllCells, 5, some .int, [], "barFromAllCells")
theorem meX1_barFromAllCells : mi_Me yX1_barFromAllCells MX1_barFromAllCells := ⟨rfl, rfl, by decide +kernel, Or.inl ⟨rfl, mi_in 570 (by decide +kernel) rfl⟩⟩
def MX1_othersBar : mi_M := (RX1, cX1_othersBar, 3, some .boolean, [], "othersBar")
theorem meX1_othersBar : mi_Me yX1_othersBar MX1_othersBar := ⟨rfl, rfl, by decide +kernel, Or.inl ⟨rfl, mi_in 460 (by decide +kernel) rfl⟩⟩
def MX1_heightBars : mi_M := (RX1, cX1_heightBars, 3, some .boolean, [], "heightBars")
theorem meX1_heightBars : mi_Me yX1_heightBars MX1_heightBars := ⟨rfl, rfl, by decide +kernel, Or.inl ⟨rfl, mi_in 194 (by decide +kernel) rfl⟩⟩
def MX1_coldBars : mi_M := (RX1, cX1_coldBars, 3, some .boolean, [], "coldBars")
theorem meX1_coldBars : mi_Me yX1_coldBars MX1_coldBars := ⟨rfl, rfl, by decide +kernel, Or.inl ⟨rfl, mi_in 202 (by decide +kernel) rfl⟩⟩
def MX1_dangerBars : mi_M := (RX1, cX1_dangerBars, 5, some .boolean, [], "dangerBars")
theorem meX1_dangerBars : mi_Me yX1_dangerBars MX1_dangerBars := ⟨rfl, rfl, by decide +kernel, Or.inl ⟨rfl, mi_in 465 (by decide +kernel) rfl⟩⟩
def MX1_stopsBar : mi_M := (RX1, cX1_stopsBar, 6, some .boolean, [], "stopsBar")
theorem meX1_stopsBar : mi_Me yX1_stopsBar MX1_stopsBar := ⟨rfl, rfl, by decide +kernel, Or.inl ⟨rfl, mi_in 472 (by decide +kernel) rfl⟩⟩
def MX1_axlesBar : mi_M := (RX1, cX1_axlesBar, 5, some .boolean, [], "axlesBar")
theorem meX1_axlesBar : mi_Me yX1_axlesBar MX1_axlesBar := ⟨rfl, rfl, by decide +kernel, Or.inl ⟨rfl, mi_in 519 (by decide +kernel) rfl⟩⟩
def MX1_takeAllOut : mi_M := (RX1, cX1_takeAllOut, 2, none, [], "takeAllOut")
theorem meX1_takeAllOut : mi_Me yX1_takeAllOut MX1_takeAllOut := ⟨rfl, rfl, by decide +kernel, Or.inl ⟨rfl, mi_in 413 (by decide +kernel) rfl⟩⟩
def MX1_placeByRule : mi_M := (RX1, cX1_placeByRule, 4, none, [], "placeByRule")
theorem meX1_placeByRule : mi_Me yX1_placeByRule MX1_placeByRule := ⟨rfl, rfl, by decide +kernel, Or.inl ⟨rfl, mi_in 476 (by decide +kernel) rfl⟩⟩
def MX1_placeFrom : mi_M := (RX1, cX1_placeFrom, 4, some .int, [], "placeFrom")
theorem meX1_placeFrom : mi_Me yX1_placeFrom MX1_placeFrom := ⟨rfl, rfl, by decide +kernel, Or.inl ⟨rfl, mi_in 481 (by decide +kernel) rfl⟩⟩
def MX1_fromDoors : mi_M := (RX1, cX1_fromDoors, 6, some .int, [], "fromDoors")
theorem meX1_fromDoors : mi_Me yX1_fromDoors MX1_fromDoors := ⟨rfl, rfl, by decide +kernel, Or.inl ⟨rfl, mi_in 627 (by decide +kernel) rfl⟩⟩
def MX1_standingFor : mi_M := (RX1, cX1_standingFor, 4, some .int, [], "standingFor")
theorem meX1_standingFor : mi_Me yX1_standingFor MX1_standingFor := ⟨rfl, rfl, by decide +kernel, Or.inl ⟨rfl, mi_in 631 (by decide +kernel) rfl⟩⟩
def MX2_init : mi_M := (RX2, cX2_init, 1, none, [], "<init>")
theorem meX2_init : mi_Me yX2_init MX2_init := ⟨rfl, rfl, by decide +kernel, Or.inl ⟨rfl, mi_in 65 (by decide +kernel) rfl⟩⟩
def MX2_set : mi_M := (RX2, cX2_set, 6, none, [], "set")
theorem meX2_set : mi_Me yX2_set MX2_set := ⟨rfl, rfl, by decide +kernel, Or.inl ⟨rfl, mi_in 389 (by decide +kernel) rfl⟩⟩
def MX2_stands : mi_M := (RX2, cX2_stands, 1, some .boolean, [], "stands")
theorem meX2_stands : mi_Me yX2_stands MX2_stands := ⟨rfl, rfl, by decide +kernel, Or.inl ⟨rfl, mi_in 215 (by decide +kernel) rfl⟩⟩
def MX3_init : mi_M := (RX3, cX3_init, 1, none, [], "<init>")
theorem meX3_init : mi_Me yX3_init MX3_init := ⟨rfl, rfl, by decide +kernel, Or.inl ⟨rfl, mi_in 145 (by decide +kernel) rfl⟩⟩
def MX3_isOn : mi_M := (RX3, cX3_isOn, 1, some .boolean, [], "isOn")
theorem meX3_isOn : mi_Me yX3_isOn MX3_isOn := ⟨rfl, rfl, by decide +kernel, Or.inl ⟨rfl, mi_in 404 (by decide +kernel) rfl⟩⟩
def MX3_wasOn : mi_M := (RX3, cX3_wasOn, 3, some .boolean, [], "wasOn")
theorem meX3_wasOn : mi_Me yX3_wasOn MX3_wasOn := ⟨rfl, rfl, by decide +kernel, Or.inl ⟨rfl, mi_in 599 (by decide +kernel) rfl⟩⟩
def MX3_putOn : mi_M := (RX3, cX3_putOn, 2, none, [], "putOn")
theorem meX3_putOn : mi_Me yX3_putOn MX3_putOn := ⟨rfl, rfl, by decide +kernel, Or.inl ⟨rfl, mi_in 603 (by decide +kernel) rfl⟩⟩
def MX3_takeOff : mi_M := (RX3, cX3_takeOff, 2, some .int, [], "takeOff")
theorem meX3_takeOff : mi_Me yX3_takeOff MX3_takeOff := ⟨rfl, rfl, by decide +kernel, Or.inl ⟨rfl, mi_in 615 (by decide +kernel) rfl⟩⟩
def MX4_init : mi_M := (RX4, cX4_init, 1, none, [], "<init>")
theorem meX4_init : mi_Me yX4_init MX4_init := ⟨rfl, rfl, by decide +kernel, Or.inl ⟨rfl, mi_in 129 (by decide +kernel) rfl⟩⟩
def MX4_run : mi_M := (RX4, cX4_run, 3, none, [], "run")
theorem meX4_run : mi_Me yX4_run MX4_run := ⟨rfl, rfl, by decide +kernel, Or.inl ⟨rfl, mi_in 409 (by decide +kernel) rfl⟩⟩
def MX4_tryFrom : mi_M := (RX4, cX4_tryFrom, 4, none, [], "tryFrom")
theorem meX4_tryFrom : mi_Me yX4_tryFrom MX4_tryFrom := ⟨rfl, rfl, by decide +kernel, Or.inl ⟨rfl, mi_in 417 (by decide +kernel) rfl⟩⟩
def MX4_tryIn : mi_M := (RX4, cX4_tryIn, 5, none, [], "tryIn")
theorem meX4_tryIn : mi_Me yX4_tryIn MX4_tryIn := ⟨rfl, rfl, by decide +kernel, Or.inl ⟨rfl, mi_in 452 (by decide +kernel) rfl⟩⟩
def MX4_isHopeless : mi_M := (RX4, cX4_isHopeless, 7, some .boolean, [], "isHopeless")
theorem meX4_isHopeless : mi_Me yX4_isHopeless MX4_isHopeless := ⟨rfl, rfl, by decide +kernel, Or.inl ⟨rfl, mi_in 421 (by decide +kernel) rfl⟩⟩
def MX4_keep : mi_M := (RX4, cX4_keep, 3, none, [], "keep")
theorem meX4_keep : mi_Me yX4_keep MX4_keep := ⟨rfl, rfl, by decide +kernel, Or.inl ⟨rfl, mi_in 448 (by decide +kernel) rfl⟩⟩
def ML_cell : mi_M := (RL, cL_cell, 2, some .int, [], "cell")
theorem meL_cell : mi_Me yL_cell ML_cell := ⟨rfl, rfl, by decide +kernel, Or.inl ⟨rfl, mi_in 218 (by decide +kernel) rfl⟩⟩
def ML_cell_ : mi_M := (RL, cL_cell_, 5, some .int, [(0, 7, 10, 13), (0, 7, 14, 15), (0, 7, 18, 17)], "cell")
theorem meL_cell_ : mi_Me yL_cell_ ML_cell_ := ⟨rfl, rfl, by decide +kernel, Or.inr (mi_in 221 (by decide +kernel) rfl)⟩
def ML_axles : mi_M := (RL, cL_axles, 6, some .int, [(0, 9, 12, 15)], "axles")
theorem meL_axles : mi_Me yL_axles ML_axles := ⟨rfl, rfl, by decide +kernel, Or.inr (mi_in 347 (by decide +kernel) rfl)⟩
def ML_pallet : mi_M := (RL, cL_pallet, 8, some .int, [(0, 16, 19, 15), (0, 16, 23, 17), (0, 16, 27, 27)], "pallet")
theorem meL_pallet : mi_Me yL_pallet ML_pallet := ⟨rfl, rfl, by decide +kernel, Or.inr (mi_in 359 (by decide +kernel) rfl)⟩
def ML_solve : mi_M := (RL, cL_solve, 4, some .int, [(0, 9, 12, 15), (0, 9, 15, 17)], "solve")
theorem meL_solve : mi_Me yL_solve ML_solve := ⟨rfl, rfl, by decide +kernel, Or.inr (mi_in 392 (by decide +kernel) rfl)⟩
def ML_place : mi_M := (RL, cL_place, 5, some .int, [(0, 10, 13, 37), (0, 10, 17, 15), (0, 10, 21, 17)], "place")
theorem meL_place : mi_Me yL_place ML_place := ⟨rfl, rfl, by decide +kernel, Or.inr (mi_in 485 (by decide +kernel) rfl)⟩
def ML_at : mi_M := (RL, cL_at, 4, some .int, [(0, 9, 12, 37)], "at")
theorem meL_at : mi_Me yL_at ML_at := ⟨rfl, rfl, by decide +kernel, Or.inr (mi_in 524 (by decide +kernel) rfl)⟩
def ML_axle : mi_M := (RL, cL_axle, 5, some .int, [(0, 10, 13, 15), (0, 10, 17, 45)], "axle")
theorem meL_axle : mi_Me yL_axle ML_axle := ⟨rfl, rfl, by decide +kernel, Or.inr (mi_in 531 (by decide +kernel) rfl)⟩
def ML_bar : mi_M := (RL, cL_bar, 4, some .int, [(0, 9, 12, 37), (0, 9, 15, 17)], "bar")
theorem meL_bar : mi_Me yL_bar ML_bar := ⟨rfl, rfl, by decide +kernel, Or.inr (mi_in 560 (by decide +kernel) rfl)⟩
def ML_change : mi_M := (RL, cL_change, 5, some .int, [(0, 17, 20, 37), (0, 17, 24, 15), (0, 17, 28, 17)], "change")
theorem meL_change : mi_Me yL_change ML_change := ⟨rfl, rfl, by decide +kernel, Or.inr (mi_in 574 (by decide +kernel) rfl)⟩
def ML_doors : mi_M := (RL, cL_doors, 4, some .int, [(0, 16, 19, 17)], "doors")
theorem meL_doors : mi_Me yL_doors ML_doors := ⟨rfl, rfl, by decide +kernel, Or.inr (mi_in 582 (by decide +kernel) rfl)⟩
def ML_seal : mi_M := (RL, cL_seal, 4, some .int, [(0, 16, 19, 15), (0, 16, 22, 17), (0, 16, 25, 27)], "seal")
theorem meL_seal : mi_Me yL_seal ML_seal := ⟨rfl, rfl, by decide +kernel, Or.inr (mi_in 589 (by decide +kernel) rfl)⟩
def ML_broken : mi_M := (RL, cL_broken, 3, some .int, [(0, 8, 11, 17)], "broken")
theorem meL_broken : mi_Me yL_broken ML_broken := ⟨rfl, rfl, by decide +kernel, Or.inr (mi_in 606 (by decide +kernel) rfl)⟩
def ML_order : mi_M := (RL, cL_order, 5, some .int, [(0, 10, 13, 15)], "order")
theorem meL_order : mi_Me yL_order ML_order := ⟨rfl, rfl, by decide +kernel, Or.inr (mi_in 618 (by decide +kernel) rfl)⟩
def ML_manifest : mi_M := (RL, cL_manifest, 4, some .int, [(0, 9, 12, 15)], "manifest")
theorem meL_manifest : mi_Me yL_manifest ML_manifest := ⟨rfl, rfl, by decide +kernel, Or.inr (mi_in 634 (by decide +kernel) rfl)⟩
def ML_law : mi_M := (RL, cL_law, 7, some .boolean, [], "law")
theorem tw_5_47 : ∀ w ∈ vx_atS RX5 47 (mi_exn 5) ["java/lang/IndexOutOfBoundsException", "java/lang/RuntimeException", "java/lang/Exception"], (w ∈ tables_1 ∧ mi_tr w = true) ∧ vx_ot w = true := by decide +kernel
theorem tw_2_61 : ∀ w ∈ vx_atS RX5 61 (mi_exn 2) ["java/lang/RuntimeException", "java/lang/Exception"], (w ∈ tables_1 ∧ mi_tr w = true) ∧ vx_ot w = true := by decide +kernel
theorem tw_1_74 : ∀ w ∈ vx_atS RX5 74 (mi_exn 1) ["java/lang/RuntimeException", "java/lang/Exception"], (w ∈ tables_1 ∧ mi_tr w = true) ∧ vx_ot w = true := by decide +kernel
theorem tw_3_96 : ∀ w ∈ vx_atS RX5 96 (mi_exn 3) ["java/lang/RuntimeException", "java/lang/Exception"], (w ∈ tables_1 ∧ mi_tr w = true) ∧ vx_ot w = true := by decide +kernel
theorem tw_4_149 : ∀ w ∈ vx_atS RX5 149 (mi_exn 4) ["java/lang/RuntimeException", "java/lang/Exception"], (w ∈ tables_1 ∧ mi_tr w = true) ∧ vx_ot w = true := by decide +kernel
theorem ac_I : Cond.arrayClass (Op.newarray.typeOf .int) ∈ mi_T := (mi_in 60 (by decide +kernel) rfl)
theorem ac_Z : Cond.arrayClass (Op.newarray.typeOf .boolean) ∈ mi_T := (mi_in 61 (by decide +kernel) rfl)
theorem ac_J : Cond.arrayClass (Op.newarray.typeOf .long) ∈ mi_T := (mi_in 845 (by decide +kernel) rfl)
theorem wo_1 : Cond.instanceMethod Lib.objectInit ∈ mi_T := (mi_in 25 (by decide +kernel) rfl)
theorem wm_i : Cond.initialized "java/lang/Math" ∈ mi_T := (mi_in 3 (by decide +kernel) rfl)
theorem wo_2 : Cond.code Lib.objectInit ⟨#[0xb1]⟩ 1 none ∈ mi_T := mi_in 26 (by decide +kernel) rfl
theorem wm_min1 : Cond.static Lib.Math.min.name ∈ mi_T := (mi_in 34 (by decide +kernel) rfl)
theorem wm_min2 : Cond.code Lib.Math.min.name Lib.Math.min.code 2 (some .int) ∈ mi_T := mi_in 35 (by decide +kernel) rfl
theorem wm_max1 : Cond.static Lib.Math.max.name ∈ mi_T := (mi_in 37 (by decide +kernel) rfl)
theorem wm_max2 : Cond.code Lib.Math.max.name Lib.Math.max.code 2 (some .int) ∈ mi_T := mi_in 38 (by decide +kernel) rfl
theorem wm_abs1 : Cond.static Lib.Math.abs.name ∈ mi_T := (mi_in 467 (by decide +kernel) rfl)
theorem wm_abs2 : Cond.code Lib.Math.abs.name Lib.Math.abs.code 1 (some .int) ∈ mi_T := mi_in 468 (by decide +kernel) rfl
end
section
theorem fX0_init_1 : Cond.methodLink (MX0_init).1 3 Lib.objectInit ∈ mi_T := (mi_in 46 (by decide +kernel) rfl)
theorem fX0_init_6 : mi_Pf MX0_init 6 0 0 .int := ⟨9, RX0, TX0, 4, tyX0, mi_cl0, by decide, dX0_init_6, by decide +kernel, Or.inl ⟨rfl, Or.inl (mi_in 47 (by decide +kernel) rfl)⟩⟩
theorem fX0_init_12 : mi_Pf MX0_init 12 0 1 .int := ⟨15, RX0, TX0, 4, tyX0, mi_cl0, by decide, dX0_init_12, by decide +kernel, Or.inl ⟨rfl, Or.inl (mi_in 48 (by decide +kernel) rfl)⟩⟩
theorem fX0_init_19 : mi_Pf MX0_init 19 0 2 .int := ⟨18, RX0, TX0, 4, tyX0, mi_cl0, by decide, dX0_init_19, by decide +kernel, Or.inl ⟨rfl, Or.inl (mi_in 49 (by decide +kernel) rfl)⟩⟩
theorem fX0_init_26 : mi_Pf MX0_init 26 0 3 .int := ⟨21, RX0, TX0, 4, tyX0, mi_cl0, by decide, dX0_init_26, by decide +kernel, Or.inl ⟨rfl, Or.inl (mi_in 50 (by decide +kernel) rfl)⟩⟩
theorem fX0_set_2 : mi_Pf MX0_set 2 0 0 .int := ⟨9, RX0, TX0, 4, tyX0, mi_cl0, by decide, dX0_set_2, by decide +kernel, Or.inl ⟨rfl, Or.inl (mi_in 47 (by decide +kernel) rfl)⟩⟩
theorem fX0_set_7 : mi_Pf MX0_set 7 0 1 .int := ⟨15, RX0, TX0, 4, tyX0, mi_cl0, by decide, dX0_set_7, by decide +kernel, Or.inl ⟨rfl, Or.inl (mi_in 48 (by decide +kernel) rfl)⟩⟩
theorem fX0_set_12 : mi_Pf MX0_set 12 0 2 .int := ⟨18, RX0, TX0, 4, tyX0, mi_cl0, by decide, dX0_set_12, by decide +kernel, Or.inl ⟨rfl, Or.inl (mi_in 49 (by decide +kernel) rfl)⟩⟩
theorem fX0_set_18 : mi_Pf MX0_set 18 0 3 .int := ⟨21, RX0, TX0, 4, tyX0, mi_cl0, by decide, dX0_set_18, by decide +kernel, Or.inl ⟨rfl, Or.inl (mi_in 50 (by decide +kernel) rfl)⟩⟩
theorem fX0_span_1 : mi_Gf MX0_span 1 0 1 := ⟨15, RX0, TX0, 4, tyX0, mi_cl0, by decide, dX0_span_1, Or.inl (mi_in 48 (by decide +kernel) rfl)⟩
theorem fX0_span_5 : mi_Gf MX0_span 5 0 0 := ⟨9, RX0, TX0, 4, tyX0, mi_cl0, by decide, dX0_span_5, Or.inl (mi_in 47 (by decide +kernel) rfl)⟩
theorem fX0_share_6 : mi_Gf MX0_share 6 0 1 := ⟨15, RX0, TX0, 4, tyX0, mi_cl0, by decide, dX0_share_6, Or.inl (mi_in 48 (by decide +kernel) rfl)⟩
theorem fX0_share_18 : mi_Gf MX0_share 18 0 0 := ⟨9, RX0, TX0, 4, tyX0, mi_cl0, by decide, dX0_share_18, Or.inl (mi_in 47 (by decide +kernel) rfl)⟩
theorem fX0_bear_2 : mi_Gf MX0_bear 2 0 2 := ⟨18, RX0, TX0, 4, tyX0, mi_cl0, by decide, dX0_bear_2, Or.inl (mi_in 49 (by decide +kernel) rfl)⟩
theorem fX0_bear_6 : mi_Iv MX0_bear MX0_span 6 0 0 := ⟨24, yX0_span, _, dX0_bear_6, rfl, Or.inl (mi_in 441 (by decide +kernel) rfl), (mi_in 443 (by decide +kernel) rfl), (mi_inP 22 (by decide +kernel) rfl), meX0_span, ⟨by decide, by decide⟩, by decide +kernel⟩
theorem fX0_bear_15 : mi_Gf MX0_bear 15 0 3 := ⟨21, RX0, TX0, 4, tyX0, mi_cl0, by decide, dX0_bear_15, Or.inl (mi_in 50 (by decide +kernel) rfl)⟩
theorem fX0_bear_19 : mi_Iv MX0_bear MX0_span 19 0 0 := ⟨24, yX0_span, _, dX0_bear_19, rfl, Or.inl (mi_in 441 (by decide +kernel) rfl), (mi_in 443 (by decide +kernel) rfl), (mi_inP 22 (by decide +kernel) rfl), meX0_span, ⟨by decide, by decide⟩, by decide +kernel⟩
theorem fX1_init_1 : Cond.methodLink (MX1_init).1 3 Lib.objectInit ∈ mi_T := (mi_in 32 (by decide +kernel) rfl)
theorem fX1_init_9 : Cond.methodLink (MX1_init).1 9 Lib.Math.min.name ∈ mi_T := (mi_in 33 (by decide +kernel) rfl)
theorem fX1_init_12 : Cond.methodLink (MX1_init).1 15 Lib.Math.max.name ∈ mi_T := (mi_in 36 (by decide +kernel) rfl)
theorem fX1_init_15 : mi_Pf MX1_init 15 1 0 .int := ⟨18, RX1, TX1, 6, tyX1, mi_cl1, by decide, dX1_init_15, by decide +kernel, Or.inr ⟨rfl, rfl, rfl, (mi_in 96 (by decide +kernel) rfl)⟩⟩
theorem fX1_init_23 : mi_Pf MX1_init 23 1 1 (.array .int) := ⟨24, RX1, TX1, 6, tyX1, mi_cl1, by decide, dX1_init_23, by decide +kernel, Or.inr ⟨rfl, rfl, rfl, (mi_in 99 (by decide +kernel) rfl)⟩⟩
theorem fX1_init_31 : mi_Pf MX1_init 31 1 2 (.array .boolean) := ⟨28, RX1, TX1, 6, tyX1, mi_cl1, by decide, dX1_init_31, by decide +kernel, Or.inr ⟨rfl, rfl, rfl, (mi_in 101 (by decide +kernel) rfl)⟩⟩
theorem fX1_init_37 : Cond.classLink (MX1_init).1 32 "TruckLoads$Pallet" ∈ mi_T := (mi_in 39 (by decide +kernel) rfl)
theorem fX1_init_40 : mi_Pf MX1_init 40 1 3 (.array (.object "TruckLoads$Pallet")) := ⟨34, RX1, TX1, 6, tyX1, mi_cl1, by decide, dX1_init_40, by decide +kernel, Or.inr ⟨rfl, rfl, rfl, (mi_in 103 (by decide +kernel) rfl)⟩⟩
theorem fX1_init_44 : mi_Nw MX1_init 44 0 4 [.int 0, .int 0, .int 0, .int 0] := ⟨38, RX0, TX0, tyX0, mi_cl0, dX1_init_44, (mi_in 41 (by decide +kernel) rfl), (mi_in 42 (by decide +kernel) rfl), (mi_in 4 (by decide +kernel) rfl), by decide +kernel⟩
theorem fX1_init_48 : mi_Ii MX1_init MX0_init 48 0 := ⟨40, yX0_init, dX1_init_48, Or.inr ⟨"TruckLoads", (mi_in 43 (by decide +kernel) rfl)⟩, (mi_in 44 (by decide +kernel) rfl), (mi_in 45 (by decide +kernel) rfl), meX0_init, rfl, ⟨by decide, by decide⟩, by decide +kernel⟩
theorem fX1_init_51 : mi_Pf MX1_init 51 1 4 (.object "TruckLoads$Axles") := ⟨41, RX1, TX1, 6, tyX1, mi_cl1, by decide, dX1_init_51, by decide +kernel, Or.inr ⟨rfl, rfl, rfl, (mi_in 106 (by decide +kernel) rfl)⟩⟩
theorem fX1_init_56 : mi_Pf MX1_init 56 1 5 .int := ⟨45, RX1, TX1, 6, tyX1, mi_cl1, by decide, dX1_init_56, by decide +kernel, Or.inl ⟨rfl, Or.inl (mi_in 109 (by decide +kernel) rfl)⟩⟩
theorem fX1_init_68 : mi_Gf MX1_init 68 1 1 := ⟨24, RX1, TX1, 6, tyX1, mi_cl1, by decide, dX1_init_68, Or.inl (mi_in 99 (by decide +kernel) rfl)⟩
theorem fX1_init_90 : mi_Gf MX1_init 90 1 3 := ⟨34, RX1, TX1, 6, tyX1, mi_cl1, by decide, dX1_init_90, Or.inl (mi_in 103 (by decide +kernel) rfl)⟩
theorem fX1_init_94 : mi_Nw MX1_init 94 2 6 [.int 0, .int 0, .int 0, .int 0, .int 0, .int 0] := ⟨32, RX2, TX2, tyX2, mi_cl2, dX1_init_94, (mi_in 39 (by decide +kernel) rfl), (mi_in 62 (by decide +kernel) rfl), (mi_in 5 (by decide +kernel) rfl), by decide +kernel⟩
theorem fX1_init_98 : mi_Ii MX1_init MX2_init 98 0 := ⟨48, yX2_init, dX1_init_98, Or.inr ⟨"TruckLoads", (mi_in 63 (by decide +kernel) rfl)⟩, (mi_in 64 (by decide +kernel) rfl), (mi_in 65 (by decide +kernel) rfl), meX2_init, rfl, ⟨by decide, by decide⟩, by decide +kernel⟩
theorem fX1_hasCell_6 : mi_Gf MX1_hasCell 6 1 0 := ⟨18, RX1, TX1, 6, tyX1, mi_cl1, by decide, dX1_hasCell_6, Or.inl (mi_in 96 (by decide +kernel) rfl)⟩
theorem fX1_isTaken_4 : mi_Gf MX1_isTaken 4 1 5 := ⟨45, RX1, TX1, 6, tyX1, mi_cl1, by decide, dX1_isTaken_4, Or.inl (mi_in 109 (by decide +kernel) rfl)⟩
theorem fX1_isTaken_11 : mi_Gf MX1_isTaken 11 1 3 := ⟨34, RX1, TX1, 6, tyX1, mi_cl1, by decide, dX1_isTaken_11, Or.inl (mi_in 103 (by decide +kernel) rfl)⟩
theorem fX1_isTaken_16 : mi_Gf MX1_isTaken 16 2 5 := ⟨49, RX2, TX2, 6, tyX2, mi_cl2, by decide, dX1_isTaken_16, Or.inr ⟨"TruckLoads", (mi_in 81 (by decide +kernel) rfl)⟩⟩
theorem fX1_standing_6 : mi_Gf MX1_standing 6 1 5 := ⟨45, RX1, TX1, 6, tyX1, mi_cl1, by decide, dX1_standing_6, Or.inl (mi_in 109 (by decide +kernel) rfl)⟩
theorem fX1_standing_13 : mi_Gf MX1_standing 13 1 3 := ⟨34, RX1, TX1, 6, tyX1, mi_cl1, by decide, dX1_standing_13, Or.inl (mi_in 103 (by decide +kernel) rfl)⟩
theorem fX1_standing_18 : mi_Iv MX1_standing MX2_stands 18 2 0 := ⟨52, yX2_stands, _, dX1_standing_18, rfl, Or.inr ⟨"TruckLoads", (mi_in 212 (by decide +kernel) rfl)⟩, (mi_in 214 (by decide +kernel) rfl), (mi_inP 6 (by decide +kernel) rfl), meX2_stands, ⟨by decide, by decide⟩, by decide +kernel⟩
theorem fX1_weight_6 : mi_Gf MX1_weight 6 1 5 := ⟨45, RX1, TX1, 6, tyX1, mi_cl1, by decide, dX1_weight_6, Or.inl (mi_in 109 (by decide +kernel) rfl)⟩
theorem fX1_weight_13 : mi_Gf MX1_weight 13 1 3 := ⟨34, RX1, TX1, 6, tyX1, mi_cl1, by decide, dX1_weight_13, Or.inl (mi_in 103 (by decide +kernel) rfl)⟩
theorem fX1_weight_18 : mi_Iv MX1_weight MX2_stands 18 2 0 := ⟨52, yX2_stands, _, dX1_weight_18, rfl, Or.inr ⟨"TruckLoads", (mi_in 212 (by decide +kernel) rfl)⟩, (mi_in 214 (by decide +kernel) rfl), (mi_inP 6 (by decide +kernel) rfl), meX2_stands, ⟨by decide, by decide⟩, by decide +kernel⟩
theorem fX1_weight_26 : mi_Gf MX1_weight 26 1 3 := ⟨34, RX1, TX1, 6, tyX1, mi_cl1, by decide, dX1_weight_26, Or.inl (mi_in 103 (by decide +kernel) rfl)⟩
theorem fX1_weight_31 : mi_Gf MX1_weight 31 2 0 := ⟨56, RX2, TX2, 6, tyX2, mi_cl2, by decide, dX1_weight_31, Or.inr ⟨"TruckLoads", (mi_in 69 (by decide +kernel) rfl)⟩⟩
theorem fX1_onAxle_6 : mi_Gf MX1_onAxle 6 1 5 := ⟨45, RX1, TX1, 6, tyX1, mi_cl1, by decide, dX1_onAxle_6, Or.inl (mi_in 109 (by decide +kernel) rfl)⟩
theorem fX1_onAxle_13 : mi_Gf MX1_onAxle 13 1 3 := ⟨34, RX1, TX1, 6, tyX1, mi_cl1, by decide, dX1_onAxle_13, Or.inl (mi_in 103 (by decide +kernel) rfl)⟩
theorem fX1_onAxle_18 : mi_Iv MX1_onAxle MX2_stands 18 2 0 := ⟨52, yX2_stands, _, dX1_onAxle_18, rfl, Or.inr ⟨"TruckLoads", (mi_in 212 (by decide +kernel) rfl)⟩, (mi_in 214 (by decide +kernel) rfl), (mi_inP 6 (by decide +kernel) rfl), meX2_stands, ⟨by decide, by decide⟩, by decide +kernel⟩
theorem fX1_onAxle_26 : mi_Gf MX1_onAxle 26 1 4 := ⟨41, RX1, TX1, 6, tyX1, mi_cl1, by decide, dX1_onAxle_26, Or.inl (mi_in 106 (by decide +kernel) rfl)⟩
theorem fX1_onAxle_31 : mi_Gf MX1_onAxle 31 1 3 := ⟨34, RX1, TX1, 6, tyX1, mi_cl1, by decide, dX1_onAxle_31, Or.inl (mi_in 103 (by decide +kernel) rfl)⟩
theorem fX1_onAxle_36 : mi_Gf MX1_onAxle 36 2 0 := ⟨56, RX2, TX2, 6, tyX2, mi_cl2, by decide, dX1_onAxle_36, Or.inr ⟨"TruckLoads", (mi_in 69 (by decide +kernel) rfl)⟩⟩
theorem fX1_onAxle_40 : mi_Gf MX1_onAxle 40 1 3 := ⟨34, RX1, TX1, 6, tyX1, mi_cl1, by decide, dX1_onAxle_40, Or.inl (mi_in 103 (by decide +kernel) rfl)⟩
theorem fX1_onAxle_45 : mi_Gf MX1_onAxle 45 2 5 := ⟨49, RX2, TX2, 6, tyX2, mi_cl2, by decide, dX1_onAxle_45, Or.inr ⟨"TruckLoads", (mi_in 81 (by decide +kernel) rfl)⟩⟩
theorem fX1_onAxle_48 : mi_Iv MX1_onAxle MX0_share 48 0 3 := ⟨59, yX0_share, _, dX1_onAxle_48, rfl, Or.inr ⟨"TruckLoads", (mi_in 436 (by decide +kernel) rfl)⟩, (mi_in 429 (by decide +kernel) rfl), (mi_inP 19 (by decide +kernel) rfl), meX0_share, ⟨by decide, by decide⟩, by decide +kernel⟩
theorem fX1_palletsWithSomeCell_6 : mi_Gf MX1_palletsWithSomeCell 6 1 5 := ⟨45, RX1, TX1, 6, tyX1, mi_cl1, by decide, dX1_palletsWithSomeCell_6, Or.inl (mi_in 109 (by decide +kernel) rfl)⟩
theorem fX1_palletsWithSomeCell_14 : mi_Gf MX1_palletsWithSomeCell 14 1 3 := ⟨34, RX1, TX1, 6, tyX1, mi_cl1, by decide, dX1_palletsWithSomeCell_14, Or.inl (mi_in 103 (by decide +kernel) rfl)⟩
theorem fX1_palletsWithSomeCell_19 : mi_Iv MX1_palletsWithSomeCell MX1_fitsSomeCell 19 1 1 := ⟨63, yX1_fitsSomeCell, _, dX1_palletsWithSomeCell_19, rfl, Or.inl (mi_in 187 (by decide +kernel) rfl), (mi_in 189 (by decide +kernel) rfl), (mi_inP 1 (by decide +kernel) rfl), meX1_fitsSomeCell, ⟨by decide, by decide⟩, by decide +kernel⟩
theorem fX1_fitsSomeCell_4 : mi_Gf MX1_fitsSomeCell 4 1 0 := ⟨18, RX1, TX1, 6, tyX1, mi_cl1, by decide, dX1_fitsSomeCell_4, Or.inl (mi_in 96 (by decide +kernel) rfl)⟩
theorem fX1_fitsSomeCell_13 : mi_Iv MX1_fitsSomeCell MX1_heightBars 13 1 2 := ⟨67, yX1_heightBars, _, dX1_fitsSomeCell_13, rfl, Or.inl (mi_in 191 (by decide +kernel) rfl), (mi_in 193 (by decide +kernel) rfl), (mi_inP 2 (by decide +kernel) rfl), meX1_heightBars, ⟨by decide, by decide⟩, by decide +kernel⟩
theorem fX1_fitsSomeCell_22 : mi_Iv MX1_fitsSomeCell MX1_coldBars 22 1 2 := ⟨71, yX1_coldBars, _, dX1_fitsSomeCell_22, rfl, Or.inl (mi_in 199 (by decide +kernel) rfl), (mi_in 201 (by decide +kernel) rfl), (mi_inP 4 (by decide +kernel) rfl), meX1_coldBars, ⟨by decide, by decide⟩, by decide +kernel⟩
theorem fX1_firstBar_3 : mi_Iv MX1_firstBar MX1_firstBarButAxles 3 1 2 := ⟨74, yX1_firstBarButAxles, _, dX1_firstBar_3, rfl, Or.inl (mi_in 482 (by decide +kernel) rfl), (mi_in 455 (by decide +kernel) rfl), (mi_inP 25 (by decide +kernel) rfl), meX1_firstBarButAxles, ⟨by decide, by decide⟩, by decide +kernel⟩
theorem fX1_firstBar_16 : mi_Iv MX1_firstBar MX1_axlesBar 16 1 2 := ⟨78, yX1_axlesBar, _, dX1_firstBar_16, rfl, Or.inl (mi_in 516 (by decide +kernel) rfl), (mi_in 518 (by decide +kernel) rfl), (mi_inP 33 (by decide +kernel) rfl), meX1_axlesBar, ⟨by decide, by decide⟩, by decide +kernel⟩
theorem fX1_firstBarButAxles_3 : mi_Iv MX1_firstBarButAxles MX1_othersBar 3 1 2 := ⟨81, yX1_othersBar, _, dX1_firstBarButAxles_3, rfl, Or.inl (mi_in 457 (by decide +kernel) rfl), (mi_in 459 (by decide +kernel) rfl), (mi_inP 26 (by decide +kernel) rfl), meX1_othersBar, ⟨by decide, by decide⟩, by decide +kernel⟩
theorem fX1_firstBarButAxles_14 : mi_Iv MX1_firstBarButAxles MX1_heightBars 14 1 2 := ⟨67, yX1_heightBars, _, dX1_firstBarButAxles_14, rfl, Or.inl (mi_in 191 (by decide +kernel) rfl), (mi_in 193 (by decide +kernel) rfl), (mi_inP 2 (by decide +kernel) rfl), meX1_heightBars, ⟨by decide, by decide⟩, by decide +kernel⟩
theorem fX1_firstBarButAxles_25 : mi_Iv MX1_firstBarButAxles MX1_coldBars 25 1 2 := ⟨71, yX1_coldBars, _, dX1_firstBarButAxles_25, rfl, Or.inl (mi_in 199 (by decide +kernel) rfl), (mi_in 201 (by decide +kernel) rfl), (mi_inP 4 (by decide +kernel) rfl), meX1_coldBars, ⟨by decide, by decide⟩, by decide +kernel⟩
theorem fX1_firstBarButAxles_36 : mi_Iv MX1_firstBarButAxles MX1_dangerBars 36 1 2 := ⟨84, yX1_dangerBars, _, dX1_firstBarButAxles_36, rfl, Or.inl (mi_in 462 (by decide +kernel) rfl), (mi_in 464 (by decide +kernel) rfl), (mi_inP 27 (by decide +kernel) rfl), meX1_dangerBars, ⟨by decide, by decide⟩, by decide +kernel⟩
theorem fX1_firstBarButAxles_47 : mi_Gf MX1_firstBarButAxles 47 2 3 := ⟨87, RX2, TX2, 6, tyX2, mi_cl2, by decide, dX1_firstBarButAxles_47, Or.inr ⟨"TruckLoads", (mi_in 75 (by decide +kernel) rfl)⟩⟩
theorem fX1_firstBarButAxles_51 : mi_Iv MX1_firstBarButAxles MX1_stopsBar 51 1 3 := ⟨90, yX1_stopsBar, _, dX1_firstBarButAxles_51, rfl, Or.inl (mi_in 469 (by decide +kernel) rfl), (mi_in 471 (by decide +kernel) rfl), (mi_inP 28 (by decide +kernel) rfl), meX1_stopsBar, ⟨by decide, by decide⟩, by decide +kernel⟩
theorem fX1_barFromAllCells_6 : mi_Gf MX1_barFromAllCells 6 1 0 := ⟨18, RX1, TX1, 6, tyX1, mi_cl1, by decide, dX1_barFromAllCells_6, Or.inl (mi_in 96 (by decide +kernel) rfl)⟩
theorem fX1_barFromAllCells_15 : mi_Iv MX1_barFromAllCells MX1_firstBar 15 1 2 := ⟨94, yX1_firstBar, _, dX1_barFromAllCells_15, rfl, Or.inl (mi_in 571 (by decide +kernel) rfl), (mi_in 514 (by decide +kernel) rfl), (mi_inP 32 (by decide +kernel) rfl), meX1_firstBar, ⟨by decide, by decide⟩, by decide +kernel⟩
theorem fX1_barFromAllCells_30 : Cond.methodLink (MX1_barFromAllCells).1 15 Lib.Math.max.name ∈ mi_T := (mi_in 36 (by decide +kernel) rfl)
theorem fX1_othersBar_1 : mi_Gf MX1_othersBar 1 2 5 := ⟨49, RX2, TX2, 6, tyX2, mi_cl2, by decide, dX1_othersBar_1, Or.inr ⟨"TruckLoads", (mi_in 81 (by decide +kernel) rfl)⟩⟩
theorem fX1_othersBar_10 : mi_Iv MX1_othersBar MX1_isTaken 10 1 1 := ⟨97, yX1_isTaken, _, dX1_othersBar_10, rfl, Or.inl (mi_in 461 (by decide +kernel) rfl), (mi_in 327 (by decide +kernel) rfl), (mi_inP 8 (by decide +kernel) rfl), meX1_isTaken, ⟨by decide, by decide⟩, by decide +kernel⟩
theorem fX1_heightBars_2 : mi_Iv MX1_heightBars MX1_hasCell 2 1 1 := ⟨101, yX1_hasCell, _, dX1_heightBars_2, rfl, Or.inl (mi_in 195 (by decide +kernel) rfl), (mi_in 197 (by decide +kernel) rfl), (mi_inP 3 (by decide +kernel) rfl), meX1_hasCell, ⟨by decide, by decide⟩, by decide +kernel⟩
theorem fX1_heightBars_9 : mi_Gf MX1_heightBars 9 1 1 := ⟨24, RX1, TX1, 6, tyX1, mi_cl1, by decide, dX1_heightBars_9, Or.inl (mi_in 99 (by decide +kernel) rfl)⟩
theorem fX1_heightBars_15 : mi_Gf MX1_heightBars 15 2 4 := ⟨104, RX2, TX2, 6, tyX2, mi_cl2, by decide, dX1_heightBars_15, Or.inr ⟨"TruckLoads", (mi_in 78 (by decide +kernel) rfl)⟩⟩
theorem fX1_coldBars_2 : mi_Iv MX1_coldBars MX1_hasCell 2 1 1 := ⟨101, yX1_hasCell, _, dX1_coldBars_2, rfl, Or.inl (mi_in 195 (by decide +kernel) rfl), (mi_in 197 (by decide +kernel) rfl), (mi_inP 3 (by decide +kernel) rfl), meX1_hasCell, ⟨by decide, by decide⟩, by decide +kernel⟩
theorem fX1_coldBars_9 : mi_Gf MX1_coldBars 9 2 1 := ⟨107, RX2, TX2, 6, tyX2, mi_cl2, by decide, dX1_coldBars_9, Or.inr ⟨"TruckLoads", (mi_in 71 (by decide +kernel) rfl)⟩⟩
theorem fX1_coldBars_16 : mi_Gf MX1_coldBars 16 1 2 := ⟨28, RX1, TX1, 6, tyX1, mi_cl1, by decide, dX1_coldBars_16, Or.inl (mi_in 101 (by decide +kernel) rfl)⟩
theorem fX1_dangerBars_4 : mi_Gf MX1_dangerBars 4 1 5 := ⟨45, RX1, TX1, 6, tyX1, mi_cl1, by decide, dX1_dangerBars_4, Or.inl (mi_in 109 (by decide +kernel) rfl)⟩
theorem fX1_dangerBars_11 : mi_Gf MX1_dangerBars 11 1 3 := ⟨34, RX1, TX1, 6, tyX1, mi_cl1, by decide, dX1_dangerBars_11, Or.inl (mi_in 103 (by decide +kernel) rfl)⟩
theorem fX1_dangerBars_26 : mi_Iv MX1_dangerBars MX2_stands 26 2 0 := ⟨52, yX2_stands, _, dX1_dangerBars_26, rfl, Or.inr ⟨"TruckLoads", (mi_in 212 (by decide +kernel) rfl)⟩, (mi_in 214 (by decide +kernel) rfl), (mi_inP 6 (by decide +kernel) rfl), meX2_stands, ⟨by decide, by decide⟩, by decide +kernel⟩
theorem fX1_dangerBars_33 : mi_Gf MX1_dangerBars 33 2 2 := ⟨111, RX2, TX2, 6, tyX2, mi_cl2, by decide, dX1_dangerBars_33, Or.inr ⟨"TruckLoads", (mi_in 73 (by decide +kernel) rfl)⟩⟩
theorem fX1_dangerBars_41 : mi_Gf MX1_dangerBars 41 2 2 := ⟨111, RX2, TX2, 6, tyX2, mi_cl2, by decide, dX1_dangerBars_41, Or.inr ⟨"TruckLoads", (mi_in 73 (by decide +kernel) rfl)⟩⟩
theorem fX1_dangerBars_49 : mi_Gf MX1_dangerBars 49 2 5 := ⟨49, RX2, TX2, 6, tyX2, mi_cl2, by decide, dX1_dangerBars_49, Or.inr ⟨"TruckLoads", (mi_in 81 (by decide +kernel) rfl)⟩⟩
theorem fX1_dangerBars_54 : Cond.methodLink (MX1_dangerBars).1 114 Lib.Math.abs.name ∈ mi_T := (mi_in 466 (by decide +kernel) rfl)
theorem fX1_stopsBar_6 : mi_Gf MX1_stopsBar 6 1 5 := ⟨45, RX1, TX1, 6, tyX1, mi_cl1, by decide, dX1_stopsBar_6, Or.inl (mi_in 109 (by decide +kernel) rfl)⟩
theorem fX1_stopsBar_13 : mi_Gf MX1_stopsBar 13 1 3 := ⟨34, RX1, TX1, 6, tyX1, mi_cl1, by decide, dX1_stopsBar_13, Or.inl (mi_in 103 (by decide +kernel) rfl)⟩
theorem fX1_stopsBar_29 : mi_Iv MX1_stopsBar MX2_stands 29 2 0 := ⟨52, yX2_stands, _, dX1_stopsBar_29, rfl, Or.inr ⟨"TruckLoads", (mi_in 212 (by decide +kernel) rfl)⟩, (mi_in 214 (by decide +kernel) rfl), (mi_inP 6 (by decide +kernel) rfl), meX2_stands, ⟨by decide, by decide⟩, by decide +kernel⟩
theorem fX1_stopsBar_37 : mi_Gf MX1_stopsBar 37 2 3 := ⟨87, RX2, TX2, 6, tyX2, mi_cl2, by decide, dX1_stopsBar_37, Or.inr ⟨"TruckLoads", (mi_in 75 (by decide +kernel) rfl)⟩⟩
theorem fX1_stopsBar_46 : mi_Gf MX1_stopsBar 46 2 5 := ⟨49, RX2, TX2, 6, tyX2, mi_cl2, by decide, dX1_stopsBar_46, Or.inr ⟨"TruckLoads", (mi_in 81 (by decide +kernel) rfl)⟩⟩
theorem fX1_stopsBar_55 : mi_Gf MX1_stopsBar 55 2 3 := ⟨87, RX2, TX2, 6, tyX2, mi_cl2, by decide, dX1_stopsBar_55, Or.inr ⟨"TruckLoads", (mi_in 75 (by decide +kernel) rfl)⟩⟩
theorem fX1_stopsBar_64 : mi_Gf MX1_stopsBar 64 2 5 := ⟨49, RX2, TX2, 6, tyX2, mi_cl2, by decide, dX1_stopsBar_64, Or.inr ⟨"TruckLoads", (mi_in 81 (by decide +kernel) rfl)⟩⟩
theorem fX1_axlesBar_1 : mi_Gf MX1_axlesBar 1 2 5 := ⟨49, RX2, TX2, 6, tyX2, mi_cl2, by decide, dX1_axlesBar_1, Or.inr ⟨"TruckLoads", (mi_in 81 (by decide +kernel) rfl)⟩⟩
theorem fX1_axlesBar_7 : mi_Pf MX1_axlesBar 7 2 5 .int := ⟨49, RX2, TX2, 6, tyX2, mi_cl2, by decide, dX1_axlesBar_7, by decide +kernel, Or.inl ⟨rfl, Or.inr ⟨"TruckLoads", (mi_in 81 (by decide +kernel) rfl)⟩⟩⟩
theorem fX1_axlesBar_11 : mi_Gf MX1_axlesBar 11 1 4 := ⟨41, RX1, TX1, 6, tyX1, mi_cl1, by decide, dX1_axlesBar_11, Or.inl (mi_in 106 (by decide +kernel) rfl)⟩
theorem fX1_axlesBar_16 : mi_Iv MX1_axlesBar MX1_onAxle 16 1 1 := ⟨118, yX1_onAxle, _, dX1_axlesBar_16, rfl, Or.inl (mi_in 520 (by decide +kernel) rfl), (mi_in 434 (by decide +kernel) rfl), (mi_inP 20 (by decide +kernel) rfl), meX1_onAxle, ⟨by decide, by decide⟩, by decide +kernel⟩
theorem fX1_axlesBar_21 : mi_Iv MX1_axlesBar MX1_onAxle 21 1 1 := ⟨118, yX1_onAxle, _, dX1_axlesBar_21, rfl, Or.inl (mi_in 520 (by decide +kernel) rfl), (mi_in 434 (by decide +kernel) rfl), (mi_inP 20 (by decide +kernel) rfl), meX1_onAxle, ⟨by decide, by decide⟩, by decide +kernel⟩
theorem fX1_axlesBar_24 : mi_Iv MX1_axlesBar MX0_bear 24 0 2 := ⟨121, yX0_bear, _, dX1_axlesBar_24, rfl, Or.inr ⟨"TruckLoads", (mi_in 521 (by decide +kernel) rfl)⟩, (mi_in 439 (by decide +kernel) rfl), (mi_inP 21 (by decide +kernel) rfl), meX0_bear, ⟨by decide, by decide⟩, by decide +kernel⟩
theorem fX1_axlesBar_31 : mi_Pf MX1_axlesBar 31 2 5 .int := ⟨49, RX2, TX2, 6, tyX2, mi_cl2, by decide, dX1_axlesBar_31, by decide +kernel, Or.inl ⟨rfl, Or.inr ⟨"TruckLoads", (mi_in 81 (by decide +kernel) rfl)⟩⟩⟩
theorem fX1_takeAllOut_4 : mi_Gf MX1_takeAllOut 4 1 5 := ⟨45, RX1, TX1, 6, tyX1, mi_cl1, by decide, dX1_takeAllOut_4, Or.inl (mi_in 109 (by decide +kernel) rfl)⟩
theorem fX1_takeAllOut_11 : mi_Gf MX1_takeAllOut 11 1 3 := ⟨34, RX1, TX1, 6, tyX1, mi_cl1, by decide, dX1_takeAllOut_11, Or.inl (mi_in 103 (by decide +kernel) rfl)⟩
theorem fX1_takeAllOut_17 : mi_Pf MX1_takeAllOut 17 2 5 .int := ⟨49, RX2, TX2, 6, tyX2, mi_cl2, by decide, dX1_takeAllOut_17, by decide +kernel, Or.inl ⟨rfl, Or.inr ⟨"TruckLoads", (mi_in 81 (by decide +kernel) rfl)⟩⟩⟩
theorem fX1_placeByRule_1 : mi_Iv MX1_placeByRule MX1_takeAllOut 1 1 0 := ⟨125, yX1_takeAllOut, _, dX1_placeByRule_1, rfl, Or.inl (mi_in 477 (by decide +kernel) rfl), (mi_in 412 (by decide +kernel) rfl), (mi_inP 15 (by decide +kernel) rfl), meX1_takeAllOut, ⟨by decide, by decide⟩, by decide +kernel⟩
theorem fX1_placeByRule_18 : mi_Gf MX1_placeByRule 18 1 5 := ⟨45, RX1, TX1, 6, tyX1, mi_cl1, by decide, dX1_placeByRule_18, Or.inl (mi_in 109 (by decide +kernel) rfl)⟩
theorem fX1_placeByRule_25 : mi_Gf MX1_placeByRule 25 1 3 := ⟨34, RX1, TX1, 6, tyX1, mi_cl1, by decide, dX1_placeByRule_25, Or.inl (mi_in 103 (by decide +kernel) rfl)⟩
theorem fX1_placeByRule_30 : mi_Gf MX1_placeByRule 30 2 3 := ⟨87, RX2, TX2, 6, tyX2, mi_cl2, by decide, dX1_placeByRule_30, Or.inr ⟨"TruckLoads", (mi_in 75 (by decide +kernel) rfl)⟩⟩
theorem fX1_placeByRule_40 : mi_Gf MX1_placeByRule 40 1 3 := ⟨34, RX1, TX1, 6, tyX1, mi_cl1, by decide, dX1_placeByRule_40, Or.inl (mi_in 103 (by decide +kernel) rfl)⟩
theorem fX1_placeByRule_45 : mi_Iv MX1_placeByRule MX1_placeFrom 45 1 2 := ⟨128, yX1_placeFrom, _, dX1_placeByRule_45, rfl, Or.inl (mi_in 478 (by decide +kernel) rfl), (mi_in 480 (by decide +kernel) rfl), (mi_inP 30 (by decide +kernel) rfl), meX1_placeFrom, ⟨by decide, by decide⟩, by decide +kernel⟩
theorem fX1_placeFrom_4 : mi_Gf MX1_placeFrom 4 1 0 := ⟨18, RX1, TX1, 6, tyX1, mi_cl1, by decide, dX1_placeFrom_4, Or.inl (mi_in 96 (by decide +kernel) rfl)⟩
theorem fX1_placeFrom_13 : mi_Iv MX1_placeFrom MX1_firstBarButAxles 13 1 2 := ⟨74, yX1_firstBarButAxles, _, dX1_placeFrom_13, rfl, Or.inl (mi_in 482 (by decide +kernel) rfl), (mi_in 455 (by decide +kernel) rfl), (mi_inP 25 (by decide +kernel) rfl), meX1_firstBarButAxles, ⟨by decide, by decide⟩, by decide +kernel⟩
theorem fX1_placeFrom_21 : mi_Pf MX1_placeFrom 21 2 5 .int := ⟨49, RX2, TX2, 6, tyX2, mi_cl2, by decide, dX1_placeFrom_21, by decide +kernel, Or.inl ⟨rfl, Or.inr ⟨"TruckLoads", (mi_in 81 (by decide +kernel) rfl)⟩⟩⟩
theorem fX1_fromDoors_3 : mi_Gf MX1_fromDoors 3 1 0 := ⟨18, RX1, TX1, 6, tyX1, mi_cl1, by decide, dX1_fromDoors_3, Or.inl (mi_in 96 (by decide +kernel) rfl)⟩
theorem fX1_fromDoors_19 : mi_Iv MX1_fromDoors MX1_standingFor 19 1 2 := ⟨132, yX1_standingFor, _, dX1_fromDoors_19, rfl, Or.inl (mi_in 628 (by decide +kernel) rfl), (mi_in 630 (by decide +kernel) rfl), (mi_inP 39 (by decide +kernel) rfl), meX1_standingFor, ⟨by decide, by decide⟩, by decide +kernel⟩
theorem fX1_standingFor_4 : mi_Gf MX1_standingFor 4 1 5 := ⟨45, RX1, TX1, 6, tyX1, mi_cl1, by decide, dX1_standingFor_4, Or.inl (mi_in 109 (by decide +kernel) rfl)⟩
theorem fX1_standingFor_11 : mi_Gf MX1_standingFor 11 1 3 := ⟨34, RX1, TX1, 6, tyX1, mi_cl1, by decide, dX1_standingFor_11, Or.inl (mi_in 103 (by decide +kernel) rfl)⟩
theorem fX1_standingFor_16 : mi_Gf MX1_standingFor 16 2 5 := ⟨49, RX2, TX2, 6, tyX2, mi_cl2, by decide, dX1_standingFor_16, Or.inr ⟨"TruckLoads", (mi_in 81 (by decide +kernel) rfl)⟩⟩
theorem fX1_standingFor_24 : mi_Gf MX1_standingFor 24 1 3 := ⟨34, RX1, TX1, 6, tyX1, mi_cl1, by decide, dX1_standingFor_24, Or.inl (mi_in 103 (by decide +kernel) rfl)⟩
theorem fX1_standingFor_29 : mi_Gf MX1_standingFor 29 2 3 := ⟨87, RX2, TX2, 6, tyX2, mi_cl2, by decide, dX1_standingFor_29, Or.inr ⟨"TruckLoads", (mi_in 75 (by decide +kernel) rfl)⟩⟩
theorem fX2_init_1 : Cond.methodLink (MX2_init).1 3 Lib.objectInit ∈ mi_T := (mi_in 66 (by decide +kernel) rfl)
theorem fX2_init_6 : mi_Pf MX2_init 6 2 0 .int := ⟨9, RX2, TX2, 6, tyX2, mi_cl2, by decide, dX2_init_6, by decide +kernel, Or.inl ⟨rfl, Or.inl (mi_in 67 (by decide +kernel) rfl)⟩⟩
theorem fX2_init_11 : mi_Pf MX2_init 11 2 1 .boolean := ⟨15, RX2, TX2, 6, tyX2, mi_cl2, by decide, dX2_init_11, by decide +kernel, Or.inl ⟨rfl, Or.inl (mi_in 70 (by decide +kernel) rfl)⟩⟩
theorem fX2_init_16 : mi_Pf MX2_init 16 2 2 .boolean := ⟨19, RX2, TX2, 6, tyX2, mi_cl2, by decide, dX2_init_16, by decide +kernel, Or.inl ⟨rfl, Or.inl (mi_in 72 (by decide +kernel) rfl)⟩⟩
theorem fX2_init_21 : mi_Pf MX2_init 21 2 3 .int := ⟨22, RX2, TX2, 6, tyX2, mi_cl2, by decide, dX2_init_21, by decide +kernel, Or.inl ⟨rfl, Or.inl (mi_in 74 (by decide +kernel) rfl)⟩⟩
theorem fX2_init_26 : mi_Pf MX2_init 26 2 4 .int := ⟨25, RX2, TX2, 6, tyX2, mi_cl2, by decide, dX2_init_26, by decide +kernel, Or.inl ⟨rfl, Or.inl (mi_in 77 (by decide +kernel) rfl)⟩⟩
theorem fX2_init_31 : mi_Pf MX2_init 31 2 5 .int := ⟨28, RX2, TX2, 6, tyX2, mi_cl2, by decide, dX2_init_31, by decide +kernel, Or.inl ⟨rfl, Or.inl (mi_in 79 (by decide +kernel) rfl)⟩⟩
theorem fX2_set_2 : mi_Pf MX2_set 2 2 0 .int := ⟨9, RX2, TX2, 6, tyX2, mi_cl2, by decide, dX2_set_2, by decide +kernel, Or.inl ⟨rfl, Or.inl (mi_in 67 (by decide +kernel) rfl)⟩⟩
theorem fX2_set_7 : mi_Pf MX2_set 7 2 1 .boolean := ⟨15, RX2, TX2, 6, tyX2, mi_cl2, by decide, dX2_set_7, by decide +kernel, Or.inl ⟨rfl, Or.inl (mi_in 70 (by decide +kernel) rfl)⟩⟩
theorem fX2_set_12 : mi_Pf MX2_set 12 2 2 .boolean := ⟨19, RX2, TX2, 6, tyX2, mi_cl2, by decide, dX2_set_12, by decide +kernel, Or.inl ⟨rfl, Or.inl (mi_in 72 (by decide +kernel) rfl)⟩⟩
theorem fX2_set_18 : mi_Pf MX2_set 18 2 3 .int := ⟨22, RX2, TX2, 6, tyX2, mi_cl2, by decide, dX2_set_18, by decide +kernel, Or.inl ⟨rfl, Or.inl (mi_in 74 (by decide +kernel) rfl)⟩⟩
theorem fX2_set_24 : mi_Pf MX2_set 24 2 4 .int := ⟨25, RX2, TX2, 6, tyX2, mi_cl2, by decide, dX2_set_24, by decide +kernel, Or.inl ⟨rfl, Or.inl (mi_in 77 (by decide +kernel) rfl)⟩⟩
theorem fX2_stands_1 : mi_Gf MX2_stands 1 2 5 := ⟨28, RX2, TX2, 6, tyX2, mi_cl2, by decide, dX2_stands_1, Or.inl (mi_in 79 (by decide +kernel) rfl)⟩
theorem fX3_init_1 : Cond.methodLink (MX3_init).1 3 Lib.objectInit ∈ mi_T := (mi_in 146 (by decide +kernel) rfl)
theorem fX3_init_9 : mi_Pf MX3_init 9 3 0 (.array .int) := ⟨9, RX3, TX3, 3, tyX3, mi_cl3, by decide, dX3_init_9, by decide +kernel, Or.inr ⟨rfl, rfl, rfl, (mi_in 147 (by decide +kernel) rfl)⟩⟩
theorem fX3_init_14 : mi_Pf MX3_init 14 3 1 .int := ⟨15, RX3, TX3, 3, tyX3, mi_cl3, by decide, dX3_init_14, by decide +kernel, Or.inl ⟨rfl, Or.inl (mi_in 148 (by decide +kernel) rfl)⟩⟩
theorem fX3_init_19 : mi_Pf MX3_init 19 3 2 .int := ⟨19, RX3, TX3, 3, tyX3, mi_cl3, by decide, dX3_init_19, by decide +kernel, Or.inl ⟨rfl, Or.inl (mi_in 150 (by decide +kernel) rfl)⟩⟩
theorem fX3_isOn_1 : mi_Gf MX3_isOn 1 3 2 := ⟨19, RX3, TX3, 3, tyX3, mi_cl3, by decide, dX3_isOn_1, Or.inl (mi_in 150 (by decide +kernel) rfl)⟩
theorem fX3_wasOn_4 : mi_Gf MX3_wasOn 4 3 1 := ⟨15, RX3, TX3, 3, tyX3, mi_cl3, by decide, dX3_wasOn_4, Or.inl (mi_in 148 (by decide +kernel) rfl)⟩
theorem fX3_wasOn_11 : mi_Gf MX3_wasOn 11 3 0 := ⟨9, RX3, TX3, 3, tyX3, mi_cl3, by decide, dX3_wasOn_11, Or.inl (mi_in 147 (by decide +kernel) rfl)⟩
theorem fX3_putOn_1 : mi_Gf MX3_putOn 1 3 1 := ⟨15, RX3, TX3, 3, tyX3, mi_cl3, by decide, dX3_putOn_1, Or.inl (mi_in 148 (by decide +kernel) rfl)⟩
theorem fX3_putOn_10 : mi_Gf MX3_putOn 10 3 0 := ⟨9, RX3, TX3, 3, tyX3, mi_cl3, by decide, dX3_putOn_10, Or.inl (mi_in 147 (by decide +kernel) rfl)⟩
theorem fX3_putOn_14 : mi_Gf MX3_putOn 14 3 1 := ⟨15, RX3, TX3, 3, tyX3, mi_cl3, by decide, dX3_putOn_14, Or.inl (mi_in 148 (by decide +kernel) rfl)⟩
theorem fX3_putOn_21 : mi_Gf MX3_putOn 21 3 1 := ⟨15, RX3, TX3, 3, tyX3, mi_cl3, by decide, dX3_putOn_21, Or.inl (mi_in 148 (by decide +kernel) rfl)⟩
theorem fX3_putOn_26 : mi_Pf MX3_putOn 26 3 1 .int := ⟨15, RX3, TX3, 3, tyX3, mi_cl3, by decide, dX3_putOn_26, by decide +kernel, Or.inl ⟨rfl, Or.inl (mi_in 148 (by decide +kernel) rfl)⟩⟩
theorem fX3_putOn_31 : mi_Pf MX3_putOn 31 3 2 .int := ⟨19, RX3, TX3, 3, tyX3, mi_cl3, by decide, dX3_putOn_31, by decide +kernel, Or.inl ⟨rfl, Or.inl (mi_in 150 (by decide +kernel) rfl)⟩⟩
theorem fX3_takeOff_1 : mi_Gf MX3_takeOff 1 3 2 := ⟨19, RX3, TX3, 3, tyX3, mi_cl3, by decide, dX3_takeOff_1, Or.inl (mi_in 150 (by decide +kernel) rfl)⟩
theorem fX3_takeOff_7 : mi_Pf MX3_takeOff 7 3 2 .int := ⟨19, RX3, TX3, 3, tyX3, mi_cl3, by decide, dX3_takeOff_7, by decide +kernel, Or.inl ⟨rfl, Or.inl (mi_in 150 (by decide +kernel) rfl)⟩⟩
theorem fX4_init_1 : Cond.methodLink (MX4_init).1 3 Lib.objectInit ∈ mi_T := (mi_in 130 (by decide +kernel) rfl)
theorem fX4_init_8 : mi_Pf MX4_init 8 4 0 (.array .int) := ⟨9, RX4, TX4, 3, tyX4, mi_cl4, by decide, dX4_init_8, by decide +kernel, Or.inr ⟨rfl, rfl, rfl, (mi_in 131 (by decide +kernel) rfl)⟩⟩
theorem fX4_init_13 : mi_Pf MX4_init 13 4 1 .int := ⟨15, RX4, TX4, 3, tyX4, mi_cl4, by decide, dX4_init_13, by decide +kernel, Or.inl ⟨rfl, Or.inl (mi_in 132 (by decide +kernel) rfl)⟩⟩
theorem fX4_init_18 : mi_Pf MX4_init 18 4 2 .int := ⟨19, RX4, TX4, 3, tyX4, mi_cl4, by decide, dX4_init_18, by decide +kernel, Or.inl ⟨rfl, Or.inl (mi_in 133 (by decide +kernel) rfl)⟩⟩
theorem fX4_run_1 : mi_Iv MX4_run MX1_takeAllOut 1 1 0 := ⟨22, yX1_takeAllOut, _, dX4_run_1, rfl, Or.inr ⟨"TruckLoads", (mi_in 410 (by decide +kernel) rfl)⟩, (mi_in 412 (by decide +kernel) rfl), (mi_inP 15 (by decide +kernel) rfl), meX1_takeAllOut, ⟨by decide, by decide⟩, by decide +kernel⟩
theorem fX4_run_6 : mi_Pf MX4_run 6 4 1 .int := ⟨15, RX4, TX4, 3, tyX4, mi_cl4, by decide, dX4_run_6, by decide +kernel, Or.inl ⟨rfl, Or.inl (mi_in 132 (by decide +kernel) rfl)⟩⟩
theorem fX4_run_11 : mi_Pf MX4_run 11 4 2 .int := ⟨19, RX4, TX4, 3, tyX4, mi_cl4, by decide, dX4_run_11, by decide +kernel, Or.inl ⟨rfl, Or.inl (mi_in 133 (by decide +kernel) rfl)⟩⟩
theorem fX4_run_17 : mi_Iv MX4_run MX4_tryFrom 17 4 2 := ⟨27, yX4_tryFrom, _, dX4_run_17, rfl, Or.inl (mi_in 414 (by decide +kernel) rfl), (mi_in 416 (by decide +kernel) rfl), (mi_inP 16 (by decide +kernel) rfl), meX4_tryFrom, ⟨by decide, by decide⟩, by decide +kernel⟩
theorem fX4_run_24 : mi_Gf MX4_run 24 1 5 := ⟨31, RX1, TX1, 6, tyX1, mi_cl1, by decide, dX4_run_24, Or.inr ⟨"TruckLoads", (mi_in 110 (by decide +kernel) rfl)⟩⟩
theorem fX4_run_36 : mi_Gf MX4_run 36 1 3 := ⟨34, RX1, TX1, 6, tyX1, mi_cl1, by decide, dX4_run_36, Or.inr ⟨"TruckLoads", (mi_in 104 (by decide +kernel) rfl)⟩⟩
theorem fX4_run_42 : mi_Gf MX4_run 42 4 0 := ⟨9, RX4, TX4, 3, tyX4, mi_cl4, by decide, dX4_run_42, Or.inl (mi_in 131 (by decide +kernel) rfl)⟩
theorem fX4_run_47 : mi_Pf MX4_run 47 2 5 .int := ⟨38, RX2, TX2, 6, tyX2, mi_cl2, by decide, dX4_run_47, by decide +kernel, Or.inl ⟨rfl, Or.inr ⟨"TruckLoads", (mi_in 80 (by decide +kernel) rfl)⟩⟩⟩
theorem fX4_tryFrom_8 : mi_Iv MX4_tryFrom MX4_isHopeless 8 4 2 := ⟨43, yX4_isHopeless, _, dX4_tryFrom_8, rfl, Or.inl (mi_in 418 (by decide +kernel) rfl), (mi_in 420 (by decide +kernel) rfl), (mi_inP 17 (by decide +kernel) rfl), meX4_isHopeless, ⟨by decide, by decide⟩, by decide +kernel⟩
theorem fX4_tryFrom_17 : mi_Gf MX4_tryFrom 17 1 5 := ⟨31, RX1, TX1, 6, tyX1, mi_cl1, by decide, dX4_tryFrom_17, Or.inr ⟨"TruckLoads", (mi_in 110 (by decide +kernel) rfl)⟩⟩
theorem fX4_tryFrom_25 : mi_Iv MX4_tryFrom MX4_keep 25 4 1 := ⟨47, yX4_keep, _, dX4_tryFrom_25, rfl, Or.inl (mi_in 445 (by decide +kernel) rfl), (mi_in 447 (by decide +kernel) rfl), (mi_inP 23 (by decide +kernel) rfl), meX4_keep, ⟨by decide, by decide⟩, by decide +kernel⟩
theorem fX4_tryFrom_33 : mi_Gf MX4_tryFrom 33 1 0 := ⟨51, RX1, TX1, 6, tyX1, mi_cl1, by decide, dX4_tryFrom_33, Or.inr ⟨"TruckLoads", (mi_in 97 (by decide +kernel) rfl)⟩⟩
theorem fX4_tryFrom_43 : mi_Iv MX4_tryFrom MX4_tryIn 43 4 3 := ⟨54, yX4_tryIn, _, dX4_tryFrom_43, rfl, Or.inl (mi_in 449 (by decide +kernel) rfl), (mi_in 451 (by decide +kernel) rfl), (mi_inP 24 (by decide +kernel) rfl), meX4_tryIn, ⟨by decide, by decide⟩, by decide +kernel⟩
theorem fX4_tryFrom_57 : mi_Iv MX4_tryFrom MX4_tryFrom 57 4 2 := ⟨27, yX4_tryFrom, _, dX4_tryFrom_57, rfl, Or.inl (mi_in 414 (by decide +kernel) rfl), (mi_in 416 (by decide +kernel) rfl), (mi_inP 16 (by decide +kernel) rfl), meX4_tryFrom, ⟨by decide, by decide⟩, by decide +kernel⟩
theorem fX4_tryIn_2 : mi_Gf MX4_tryIn 2 1 5 := ⟨31, RX1, TX1, 6, tyX1, mi_cl1, by decide, dX4_tryIn_2, Or.inr ⟨"TruckLoads", (mi_in 110 (by decide +kernel) rfl)⟩⟩
theorem fX4_tryIn_10 : mi_Gf MX4_tryIn 10 1 3 := ⟨34, RX1, TX1, 6, tyX1, mi_cl1, by decide, dX4_tryIn_10, Or.inr ⟨"TruckLoads", (mi_in 104 (by decide +kernel) rfl)⟩⟩
theorem fX4_tryIn_21 : mi_Iv MX4_tryIn MX1_firstBarButAxles 21 1 2 := ⟨58, yX1_firstBarButAxles, _, dX4_tryIn_21, rfl, Or.inr ⟨"TruckLoads", (mi_in 453 (by decide +kernel) rfl)⟩, (mi_in 455 (by decide +kernel) rfl), (mi_inP 25 (by decide +kernel) rfl), meX1_firstBarButAxles, ⟨by decide, by decide⟩, by decide +kernel⟩
theorem fX4_tryIn_30 : mi_Pf MX4_tryIn 30 2 5 .int := ⟨38, RX2, TX2, 6, tyX2, mi_cl2, by decide, dX4_tryIn_30, by decide +kernel, Or.inl ⟨rfl, Or.inr ⟨"TruckLoads", (mi_in 80 (by decide +kernel) rfl)⟩⟩⟩
theorem fX4_tryIn_38 : mi_Iv MX4_tryIn MX4_tryFrom 38 4 2 := ⟨27, yX4_tryFrom, _, dX4_tryIn_38, rfl, Or.inl (mi_in 414 (by decide +kernel) rfl), (mi_in 416 (by decide +kernel) rfl), (mi_inP 16 (by decide +kernel) rfl), meX4_tryFrom, ⟨by decide, by decide⟩, by decide +kernel⟩
theorem fX4_tryIn_44 : mi_Pf MX4_tryIn 44 2 5 .int := ⟨38, RX2, TX2, 6, tyX2, mi_cl2, by decide, dX4_tryIn_44, by decide +kernel, Or.inl ⟨rfl, Or.inr ⟨"TruckLoads", (mi_in 80 (by decide +kernel) rfl)⟩⟩⟩
theorem fX4_isHopeless_8 : mi_Gf MX4_isHopeless 8 1 5 := ⟨31, RX1, TX1, 6, tyX1, mi_cl1, by decide, dX4_isHopeless_8, Or.inr ⟨"TruckLoads", (mi_in 110 (by decide +kernel) rfl)⟩⟩
theorem fX4_isHopeless_16 : mi_Gf MX4_isHopeless 16 1 3 := ⟨34, RX1, TX1, 6, tyX1, mi_cl1, by decide, dX4_isHopeless_16, Or.inr ⟨"TruckLoads", (mi_in 104 (by decide +kernel) rfl)⟩⟩
theorem fX4_isHopeless_22 : mi_Gf MX4_isHopeless 22 2 0 := ⟨62, RX2, TX2, 6, tyX2, mi_cl2, by decide, dX4_isHopeless_22, Or.inr ⟨"TruckLoads", (mi_in 68 (by decide +kernel) rfl)⟩⟩
theorem fX4_isHopeless_34 : mi_Iv MX4_isHopeless MX1_standing 34 1 0 := ⟨65, yX1_standing, _, dX4_isHopeless_34, rfl, Or.inr ⟨"TruckLoads", (mi_in 422 (by decide +kernel) rfl)⟩, (mi_in 210 (by decide +kernel) rfl), (mi_inP 5 (by decide +kernel) rfl), meX1_standing, ⟨by decide, by decide⟩, by decide +kernel⟩
theorem fX4_isHopeless_38 : mi_Gf MX4_isHopeless 38 1 5 := ⟨31, RX1, TX1, 6, tyX1, mi_cl1, by decide, dX4_isHopeless_38, Or.inr ⟨"TruckLoads", (mi_in 110 (by decide +kernel) rfl)⟩⟩
theorem fX4_isHopeless_49 : mi_Gf MX4_isHopeless 49 4 1 := ⟨15, RX4, TX4, 3, tyX4, mi_cl4, by decide, dX4_isHopeless_49, Or.inl (mi_in 132 (by decide +kernel) rfl)⟩
theorem fX4_isHopeless_58 : mi_Gf MX4_isHopeless 58 4 1 := ⟨15, RX4, TX4, 3, tyX4, mi_cl4, by decide, dX4_isHopeless_58, Or.inl (mi_in 132 (by decide +kernel) rfl)⟩
theorem fX4_isHopeless_65 : mi_Iv MX4_isHopeless MX1_weight 65 1 0 := ⟨69, yX1_weight, _, dX4_isHopeless_65, rfl, Or.inr ⟨"TruckLoads", (mi_in 423 (by decide +kernel) rfl)⟩, (mi_in 425 (by decide +kernel) rfl), (mi_inP 18 (by decide +kernel) rfl), meX1_weight, ⟨by decide, by decide⟩, by decide +kernel⟩
theorem fX4_isHopeless_71 : mi_Gf MX4_isHopeless 71 4 2 := ⟨19, RX4, TX4, 3, tyX4, mi_cl4, by decide, dX4_isHopeless_71, Or.inl (mi_in 133 (by decide +kernel) rfl)⟩
theorem fX4_isHopeless_81 : mi_Gf MX4_isHopeless 81 1 4 := ⟨71, RX1, TX1, 6, tyX1, mi_cl1, by decide, dX4_isHopeless_81, Or.inr ⟨"TruckLoads", (mi_in 108 (by decide +kernel) rfl)⟩⟩
theorem fX4_isHopeless_87 : mi_Gf MX4_isHopeless 87 1 0 := ⟨51, RX1, TX1, 6, tyX1, mi_cl1, by decide, dX4_isHopeless_87, Or.inr ⟨"TruckLoads", (mi_in 97 (by decide +kernel) rfl)⟩⟩
theorem fX4_isHopeless_92 : mi_Iv MX4_isHopeless MX0_share 92 0 3 := ⟨75, yX0_share, _, dX4_isHopeless_92, rfl, Or.inr ⟨"TruckLoads", (mi_in 427 (by decide +kernel) rfl)⟩, (mi_in 429 (by decide +kernel) rfl), (mi_inP 19 (by decide +kernel) rfl), meX0_share, ⟨by decide, by decide⟩, by decide +kernel⟩
theorem fX4_isHopeless_95 : Cond.methodLink (MX4_isHopeless).1 81 Lib.Math.min.name ∈ mi_T := (mi_in 431 (by decide +kernel) rfl)
theorem fX4_isHopeless_102 : mi_Gf MX4_isHopeless 102 1 4 := ⟨71, RX1, TX1, 6, tyX1, mi_cl1, by decide, dX4_isHopeless_102, Or.inr ⟨"TruckLoads", (mi_in 108 (by decide +kernel) rfl)⟩⟩
theorem fX4_isHopeless_108 : mi_Iv MX4_isHopeless MX0_share 108 0 3 := ⟨75, yX0_share, _, dX4_isHopeless_108, rfl, Or.inr ⟨"TruckLoads", (mi_in 427 (by decide +kernel) rfl)⟩, (mi_in 429 (by decide +kernel) rfl), (mi_inP 19 (by decide +kernel) rfl), meX0_share, ⟨by decide, by decide⟩, by decide +kernel⟩
theorem fX4_isHopeless_111 : Cond.methodLink (MX4_isHopeless).1 81 Lib.Math.min.name ∈ mi_T := (mi_in 431 (by decide +kernel) rfl)
theorem fX4_isHopeless_117 : mi_Gf MX4_isHopeless 117 1 4 := ⟨71, RX1, TX1, 6, tyX1, mi_cl1, by decide, dX4_isHopeless_117, Or.inr ⟨"TruckLoads", (mi_in 108 (by decide +kernel) rfl)⟩⟩
theorem fX4_isHopeless_122 : mi_Iv MX4_isHopeless MX1_onAxle 122 1 1 := ⟨87, yX1_onAxle, _, dX4_isHopeless_122, rfl, Or.inr ⟨"TruckLoads", (mi_in 432 (by decide +kernel) rfl)⟩, (mi_in 434 (by decide +kernel) rfl), (mi_inP 20 (by decide +kernel) rfl), meX1_onAxle, ⟨by decide, by decide⟩, by decide +kernel⟩
theorem fX4_isHopeless_130 : mi_Iv MX4_isHopeless MX1_onAxle 130 1 1 := ⟨87, yX1_onAxle, _, dX4_isHopeless_130, rfl, Or.inr ⟨"TruckLoads", (mi_in 432 (by decide +kernel) rfl)⟩, (mi_in 434 (by decide +kernel) rfl), (mi_inP 20 (by decide +kernel) rfl), meX1_onAxle, ⟨by decide, by decide⟩, by decide +kernel⟩
theorem fX4_isHopeless_136 : mi_Iv MX4_isHopeless MX0_bear 136 0 2 := ⟨91, yX0_bear, _, dX4_isHopeless_136, rfl, Or.inr ⟨"TruckLoads", (mi_in 437 (by decide +kernel) rfl)⟩, (mi_in 439 (by decide +kernel) rfl), (mi_inP 21 (by decide +kernel) rfl), meX0_bear, ⟨by decide, by decide⟩, by decide +kernel⟩
theorem fX4_keep_2 : mi_Iv MX4_keep MX1_standing 2 1 0 := ⟨65, yX1_standing, _, dX4_keep_2, rfl, Or.inr ⟨"TruckLoads", (mi_in 422 (by decide +kernel) rfl)⟩, (mi_in 210 (by decide +kernel) rfl), (mi_inP 5 (by decide +kernel) rfl), meX1_standing, ⟨by decide, by decide⟩, by decide +kernel⟩
theorem fX4_keep_5 : mi_Pf MX4_keep 5 4 1 .int := ⟨15, RX4, TX4, 3, tyX4, mi_cl4, by decide, dX4_keep_5, by decide +kernel, Or.inl ⟨rfl, Or.inl (mi_in 132 (by decide +kernel) rfl)⟩⟩
theorem fX4_keep_10 : mi_Iv MX4_keep MX1_weight 10 1 0 := ⟨69, yX1_weight, _, dX4_keep_10, rfl, Or.inr ⟨"TruckLoads", (mi_in 423 (by decide +kernel) rfl)⟩, (mi_in 425 (by decide +kernel) rfl), (mi_inP 18 (by decide +kernel) rfl), meX1_weight, ⟨by decide, by decide⟩, by decide +kernel⟩
theorem fX4_keep_13 : mi_Pf MX4_keep 13 4 2 .int := ⟨19, RX4, TX4, 3, tyX4, mi_cl4, by decide, dX4_keep_13, by decide +kernel, Or.inl ⟨rfl, Or.inl (mi_in 133 (by decide +kernel) rfl)⟩⟩
theorem fX4_keep_20 : mi_Gf MX4_keep 20 1 5 := ⟨31, RX1, TX1, 6, tyX1, mi_cl1, by decide, dX4_keep_20, Or.inr ⟨"TruckLoads", (mi_in 110 (by decide +kernel) rfl)⟩⟩
theorem fX4_keep_32 : mi_Gf MX4_keep 32 4 0 := ⟨9, RX4, TX4, 3, tyX4, mi_cl4, by decide, dX4_keep_32, Or.inl (mi_in 131 (by decide +kernel) rfl)⟩
theorem fX4_keep_37 : mi_Gf MX4_keep 37 1 3 := ⟨34, RX1, TX1, 6, tyX1, mi_cl1, by decide, dX4_keep_37, Or.inr ⟨"TruckLoads", (mi_in 104 (by decide +kernel) rfl)⟩⟩
theorem fX4_keep_42 : mi_Gf MX4_keep 42 2 5 := ⟨38, RX2, TX2, 6, tyX2, mi_cl2, by decide, dX4_keep_42, Or.inr ⟨"TruckLoads", (mi_in 80 (by decide +kernel) rfl)⟩⟩
end
section
theorem fX5_init_1 : Cond.methodLink (MX5_init).1 1 Lib.objectInit ∈ mi_T := (mi_in 24 (by decide +kernel) rfl)
theorem fX5_init_5 : mi_Nw MX5_init 5 1 6 [.int 0, .null, .null, .null, .null, .int 0] := ⟨7, RX1, TX1, tyX1, mi_cl1, dX5_init_5, (mi_in 27 (by decide +kernel) rfl), (mi_in 28 (by decide +kernel) rfl), (mi_in 2 (by decide +kernel) rfl), by decide +kernel⟩
theorem fX5_init_10 : mi_Ii MX5_init MX1_init 10 1 := ⟨9, yX1_init, dX5_init_10, Or.inr ⟨"TruckLoads", (mi_in 29 (by decide +kernel) rfl)⟩, (mi_in 30 (by decide +kernel) rfl), (mi_in 31 (by decide +kernel) rfl), meX1_init, rfl, ⟨by decide, by decide⟩, by decide +kernel⟩
theorem fX5_init_13 : mi_Pf MX5_init 13 5 0 (.object "TruckLoads$Load") := ⟨12, RX5, TX5, 5, tyX5, mi_cl5, by decide, dX5_init_13, by decide +kernel, Or.inr ⟨rfl, rfl, rfl, (mi_in 159 (by decide +kernel) rfl)⟩⟩
theorem fX5_init_17 : mi_Nw MX5_init 17 4 3 [.null, .int 0, .int 0] := ⟨18, RX4, TX4, tyX4, mi_cl4, dX5_init_17, (mi_in 125 (by decide +kernel) rfl), (mi_in 126 (by decide +kernel) rfl), (mi_in 6 (by decide +kernel) rfl), by decide +kernel⟩
theorem fX5_init_21 : mi_Ii MX5_init MX4_init 21 0 := ⟨20, yX4_init, dX5_init_21, Or.inr ⟨"TruckLoads", (mi_in 127 (by decide +kernel) rfl)⟩, (mi_in 128 (by decide +kernel) rfl), (mi_in 129 (by decide +kernel) rfl), meX4_init, rfl, ⟨by decide, by decide⟩, by decide +kernel⟩
theorem fX5_init_24 : mi_Pf MX5_init 24 5 1 (.object "TruckLoads$Search") := ⟨21, RX5, TX5, 5, tyX5, mi_cl5, by decide, dX5_init_24, by decide +kernel, Or.inr ⟨rfl, rfl, rfl, (mi_in 160 (by decide +kernel) rfl)⟩⟩
theorem fX5_init_28 : mi_Nw MX5_init 28 3 3 [.null, .int 0, .int 0] := ⟨25, RX3, TX3, tyX3, mi_cl3, dX5_init_28, (mi_in 141 (by decide +kernel) rfl), (mi_in 142 (by decide +kernel) rfl), (mi_in 7 (by decide +kernel) rfl), by decide +kernel⟩
theorem fX5_init_32 : mi_Ii MX5_init MX3_init 32 0 := ⟨27, yX3_init, dX5_init_32, Or.inr ⟨"TruckLoads", (mi_in 143 (by decide +kernel) rfl)⟩, (mi_in 144 (by decide +kernel) rfl), (mi_in 145 (by decide +kernel) rfl), meX3_init, rfl, ⟨by decide, by decide⟩, by decide +kernel⟩
theorem fX5_init_35 : mi_Pf MX5_init 35 5 2 (.object "TruckLoads$Seals") := ⟨28, RX5, TX5, 5, tyX5, mi_cl5, by decide, dX5_init_35, by decide +kernel, Or.inr ⟨rfl, rfl, rfl, (mi_in 161 (by decide +kernel) rfl)⟩⟩
theorem fX5_init_40 : mi_Pf MX5_init 40 5 3 .boolean := ⟨32, RX5, TX5, 5, tyX5, mi_cl5, by decide, dX5_init_40, by decide +kernel, Or.inl ⟨rfl, Or.inl (mi_in 162 (by decide +kernel) rfl)⟩⟩
theorem fX5_init_45 : mi_Pf MX5_init 45 5 4 .boolean := ⟨36, RX5, TX5, 5, tyX5, mi_cl5, by decide, dX5_init_45, by decide +kernel, Or.inl ⟨rfl, Or.inl (mi_in 163 (by decide +kernel) rfl)⟩⟩
theorem fX5_cell_1 : mi_Gf MX5_cell 1 5 0 := ⟨12, RX5, TX5, 5, tyX5, mi_cl5, by decide, dX5_cell_1, Or.inl (mi_in 159 (by decide +kernel) rfl)⟩
theorem fX5_cell_5 : mi_Iv MX5_cell MX1_hasCell 5 1 1 := ⟨39, yX1_hasCell, _, dX5_cell_5, rfl, Or.inr ⟨"TruckLoads", (mi_in 229 (by decide +kernel) rfl)⟩, (mi_in 197 (by decide +kernel) rfl), (mi_inP 3 (by decide +kernel) rfl), meX1_hasCell, ⟨by decide, by decide⟩, by decide +kernel⟩
theorem fX5_cell_11 : mi_Tw MX5_cell 11 5 := ⟨43, 45, 47, "no such cell", ["java/lang/IndexOutOfBoundsException", "java/lang/RuntimeException", "java/lang/Exception"], by decide +kernel, by decide +kernel, (mi_in 230 (by decide +kernel) rfl), (mi_in 13 (by decide +kernel) rfl), by decide +kernel, fun w hw => List.mem_filter.mpr ⟨List.mem_append_right _ (tw_5_47 w hw).1.1, (tw_5_47 w hw).1.2⟩, fun w hw => (List.mem_cons.mp hw).elim (fun e => by rw [e]; rfl) (fun hw => (List.mem_cons.mp hw).elim (fun e => by rw [e]; rfl) (fun hw => (tw_5_47 w hw).2)), by decide, rfl, dX5_cell_11, dX5_cell_14, dX5_cell_15, dX5_cell_17, dX5_cell_20⟩
theorem fX5_cell_25 : mi_Is MX5_cell MX5_requireWithin 25 3 := ⟨50, yX5_requireWithin, dX5_cell_25, Or.inl (mi_in 306 (by decide +kernel) rfl), (mi_in 307 (by decide +kernel) rfl), (mi_in 1 (by decide +kernel) rfl), meX5_requireWithin, ⟨by decide, by decide⟩, by decide +kernel⟩
theorem fX5_cell_29 : mi_Gf MX5_cell 29 5 0 := ⟨12, RX5, TX5, 5, tyX5, mi_cl5, by decide, dX5_cell_29, Or.inl (mi_in 159 (by decide +kernel) rfl)⟩
theorem fX5_cell_33 : mi_Iv MX5_cell MX1_isTaken 33 1 1 := ⟨54, yX1_isTaken, _, dX5_cell_33, rfl, Or.inr ⟨"TruckLoads", (mi_in 325 (by decide +kernel) rfl)⟩, (mi_in 327 (by decide +kernel) rfl), (mi_inP 8 (by decide +kernel) rfl), meX1_isTaken, ⟨by decide, by decide⟩, by decide +kernel⟩
theorem fX5_cell_39 : mi_Tw MX5_cell 39 2 := ⟨57, 59, 61, "a pallet stands there", ["java/lang/RuntimeException", "java/lang/Exception"], by decide +kernel, by decide +kernel, (mi_in 329 (by decide +kernel) rfl), (mi_in 15 (by decide +kernel) rfl), by decide +kernel, fun w hw => List.mem_filter.mpr ⟨List.mem_append_right _ (tw_2_61 w hw).1.1, (tw_2_61 w hw).1.2⟩, fun w hw => (List.mem_cons.mp hw).elim (fun e => by rw [e]; rfl) (fun hw => (List.mem_cons.mp hw).elim (fun e => by rw [e]; rfl) (fun hw => (tw_2_61 w hw).2)), by decide, rfl, dX5_cell_39, dX5_cell_42, dX5_cell_43, dX5_cell_45, dX5_cell_48⟩
theorem fX5_cell_50 : mi_Gf MX5_cell 50 5 0 := ⟨12, RX5, TX5, 5, tyX5, mi_cl5, by decide, dX5_cell_50, Or.inl (mi_in 159 (by decide +kernel) rfl)⟩
theorem fX5_cell_53 : mi_Gf MX5_cell 53 1 1 := ⟨62, RX1, TX1, 6, tyX1, mi_cl1, by decide, dX5_cell_53, Or.inr ⟨"TruckLoads", (mi_in 100 (by decide +kernel) rfl)⟩⟩
theorem fX5_cell_60 : mi_Gf MX5_cell 60 5 0 := ⟨12, RX5, TX5, 5, tyX5, mi_cl5, by decide, dX5_cell_60, Or.inl (mi_in 159 (by decide +kernel) rfl)⟩
theorem fX5_cell_63 : mi_Gf MX5_cell 63 1 2 := ⟨66, RX1, TX1, 6, tyX1, mi_cl1, by decide, dX5_cell_63, Or.inr ⟨"TruckLoads", (mi_in 102 (by decide +kernel) rfl)⟩⟩
theorem fX5_axles_4 : mi_Is MX5_axles MX5_requireWithin 4 3 := ⟨50, yX5_requireWithin, dX5_axles_4, Or.inl (mi_in 306 (by decide +kernel) rfl), (mi_in 307 (by decide +kernel) rfl), (mi_in 1 (by decide +kernel) rfl), meX5_requireWithin, ⟨by decide, by decide⟩, by decide +kernel⟩
theorem fX5_axles_11 : mi_Is MX5_axles MX5_requireWithin 11 3 := ⟨50, yX5_requireWithin, dX5_axles_11, Or.inl (mi_in 306 (by decide +kernel) rfl), (mi_in 307 (by decide +kernel) rfl), (mi_in 1 (by decide +kernel) rfl), meX5_requireWithin, ⟨by decide, by decide⟩, by decide +kernel⟩
theorem fX5_axles_19 : mi_Is MX5_axles MX5_requireWithin 19 3 := ⟨50, yX5_requireWithin, dX5_axles_19, Or.inl (mi_in 306 (by decide +kernel) rfl), (mi_in 307 (by decide +kernel) rfl), (mi_in 1 (by decide +kernel) rfl), meX5_requireWithin, ⟨by decide, by decide⟩, by decide +kernel⟩
theorem fX5_axles_28 : mi_Is MX5_axles MX5_requireWithin 28 3 := ⟨50, yX5_requireWithin, dX5_axles_28, Or.inl (mi_in 306 (by decide +kernel) rfl), (mi_in 307 (by decide +kernel) rfl), (mi_in 1 (by decide +kernel) rfl), meX5_requireWithin, ⟨by decide, by decide⟩, by decide +kernel⟩
theorem fX5_axles_36 : mi_Tw MX5_axles 36 1 := ⟨70, 72, 74, "the second axle is not behind the first", ["java/lang/RuntimeException", "java/lang/Exception"], by decide +kernel, by decide +kernel, (mi_in 309 (by decide +kernel) rfl), (mi_in 14 (by decide +kernel) rfl), by decide +kernel, fun w hw => List.mem_filter.mpr ⟨List.mem_append_right _ (tw_1_74 w hw).1.1, (tw_1_74 w hw).1.2⟩, fun w hw => (List.mem_cons.mp hw).elim (fun e => by rw [e]; rfl) (fun hw => (List.mem_cons.mp hw).elim (fun e => by rw [e]; rfl) (fun hw => (tw_1_74 w hw).2)), by decide, rfl, dX5_axles_36, dX5_axles_39, dX5_axles_40, dX5_axles_42, dX5_axles_45⟩
theorem fX5_axles_47 : mi_Gf MX5_axles 47 5 0 := ⟨12, RX5, TX5, 5, tyX5, mi_cl5, by decide, dX5_axles_47, Or.inl (mi_in 159 (by decide +kernel) rfl)⟩
theorem fX5_axles_50 : mi_Gf MX5_axles 50 1 4 := ⟨75, RX1, TX1, 6, tyX1, mi_cl1, by decide, dX5_axles_50, Or.inr ⟨"TruckLoads", (mi_in 107 (by decide +kernel) rfl)⟩⟩
theorem fX5_axles_58 : mi_Iv MX5_axles MX0_set 58 0 4 := ⟨79, yX0_set, _, dX5_axles_58, rfl, Or.inr ⟨"TruckLoads", (mi_in 353 (by decide +kernel) rfl)⟩, (mi_in 355 (by decide +kernel) rfl), (mi_inP 9 (by decide +kernel) rfl), meX0_set, ⟨by decide, by decide⟩, by decide +kernel⟩
theorem fX5_pallet_5 : mi_Is MX5_pallet MX5_requireWithin 5 3 := ⟨50, yX5_requireWithin, dX5_pallet_5, Or.inl (mi_in 306 (by decide +kernel) rfl), (mi_in 307 (by decide +kernel) rfl), (mi_in 1 (by decide +kernel) rfl), meX5_requireWithin, ⟨by decide, by decide⟩, by decide +kernel⟩
theorem fX5_pallet_13 : mi_Is MX5_pallet MX5_requireWithin 13 3 := ⟨50, yX5_requireWithin, dX5_pallet_13, Or.inl (mi_in 306 (by decide +kernel) rfl), (mi_in 307 (by decide +kernel) rfl), (mi_in 1 (by decide +kernel) rfl), meX5_requireWithin, ⟨by decide, by decide⟩, by decide +kernel⟩
theorem fX5_pallet_21 : mi_Is MX5_pallet MX5_requireWithin 21 3 := ⟨50, yX5_requireWithin, dX5_pallet_21, Or.inl (mi_in 306 (by decide +kernel) rfl), (mi_in 307 (by decide +kernel) rfl), (mi_in 1 (by decide +kernel) rfl), meX5_requireWithin, ⟨by decide, by decide⟩, by decide +kernel⟩
theorem fX5_pallet_25 : mi_Iv MX5_pallet MX5_requireShut 25 5 0 := ⟨85, yX5_requireShut, _, dX5_pallet_25, rfl, Or.inl (mi_in 365 (by decide +kernel) rfl), (mi_in 367 (by decide +kernel) rfl), (mi_inP 10 (by decide +kernel) rfl), meX5_requireShut, ⟨by decide, by decide⟩, by decide +kernel⟩
theorem fX5_pallet_29 : mi_Gf MX5_pallet 29 5 0 := ⟨12, RX5, TX5, 5, tyX5, mi_cl5, by decide, dX5_pallet_29, Or.inl (mi_in 159 (by decide +kernel) rfl)⟩
theorem fX5_pallet_32 : mi_Gf MX5_pallet 32 1 5 := ⟨88, RX1, TX1, 6, tyX1, mi_cl1, by decide, dX5_pallet_32, Or.inr ⟨"TruckLoads", (mi_in 111 (by decide +kernel) rfl)⟩⟩
theorem fX5_pallet_40 : mi_Tw MX5_pallet 40 3 := ⟨92, 94, 96, "no room for a pallet", ["java/lang/RuntimeException", "java/lang/Exception"], by decide +kernel, by decide +kernel, (mi_in 370 (by decide +kernel) rfl), (mi_in 16 (by decide +kernel) rfl), by decide +kernel, fun w hw => List.mem_filter.mpr ⟨List.mem_append_right _ (tw_3_96 w hw).1.1, (tw_3_96 w hw).1.2⟩, fun w hw => (List.mem_cons.mp hw).elim (fun e => by rw [e]; rfl) (fun hw => (List.mem_cons.mp hw).elim (fun e => by rw [e]; rfl) (fun hw => (tw_3_96 w hw).2)), by decide, rfl, dX5_pallet_40, dX5_pallet_43, dX5_pallet_44, dX5_pallet_46, dX5_pallet_49⟩
theorem fX5_pallet_51 : mi_Gf MX5_pallet 51 5 0 := ⟨12, RX5, TX5, 5, tyX5, mi_cl5, by decide, dX5_pallet_51, Or.inl (mi_in 159 (by decide +kernel) rfl)⟩
theorem fX5_pallet_54 : mi_Gf MX5_pallet 54 1 5 := ⟨88, RX1, TX1, 6, tyX1, mi_cl1, by decide, dX5_pallet_54, Or.inr ⟨"TruckLoads", (mi_in 111 (by decide +kernel) rfl)⟩⟩
theorem fX5_pallet_60 : mi_Gf MX5_pallet 60 5 0 := ⟨12, RX5, TX5, 5, tyX5, mi_cl5, by decide, dX5_pallet_60, Or.inl (mi_in 159 (by decide +kernel) rfl)⟩
theorem fX5_pallet_63 : mi_Gf MX5_pallet 63 1 3 := ⟨97, RX1, TX1, 6, tyX1, mi_cl1, by decide, dX5_pallet_63, Or.inr ⟨"TruckLoads", (mi_in 105 (by decide +kernel) rfl)⟩⟩
theorem fX5_pallet_76 : mi_Iv MX5_pallet MX2_set 76 2 5 := ⟨101, yX2_set, _, dX5_pallet_76, rfl, Or.inr ⟨"TruckLoads", (mi_in 386 (by decide +kernel) rfl)⟩, (mi_in 388 (by decide +kernel) rfl), (mi_inP 11 (by decide +kernel) rfl), meX2_set, ⟨by decide, by decide⟩, by decide +kernel⟩
theorem fX5_pallet_80 : mi_Gf MX5_pallet 80 5 0 := ⟨12, RX5, TX5, 5, tyX5, mi_cl5, by decide, dX5_pallet_80, Or.inl (mi_in 159 (by decide +kernel) rfl)⟩
theorem fX5_pallet_87 : mi_Pf MX5_pallet 87 1 5 .int := ⟨88, RX1, TX1, 6, tyX1, mi_cl1, by decide, dX5_pallet_87, by decide +kernel, Or.inl ⟨rfl, Or.inr ⟨"TruckLoads", (mi_in 111 (by decide +kernel) rfl)⟩⟩⟩
theorem fX5_solve_3 : mi_Is MX5_solve MX5_requireWithin 3 3 := ⟨50, yX5_requireWithin, dX5_solve_3, Or.inl (mi_in 306 (by decide +kernel) rfl), (mi_in 307 (by decide +kernel) rfl), (mi_in 1 (by decide +kernel) rfl), meX5_requireWithin, ⟨by decide, by decide⟩, by decide +kernel⟩
theorem fX5_solve_7 : mi_Iv MX5_solve MX5_requireShut 7 5 0 := ⟨85, yX5_requireShut, _, dX5_solve_7, rfl, Or.inl (mi_in 365 (by decide +kernel) rfl), (mi_in 367 (by decide +kernel) rfl), (mi_inP 10 (by decide +kernel) rfl), meX5_requireShut, ⟨by decide, by decide⟩, by decide +kernel⟩
theorem fX5_solve_11 : mi_Iv MX5_solve MX5_requireNoSeal 11 5 0 := ⟨106, yX5_requireNoSeal, _, dX5_solve_11, rfl, Or.inl (mi_in 397 (by decide +kernel) rfl), (mi_in 399 (by decide +kernel) rfl), (mi_inP 12 (by decide +kernel) rfl), meX5_requireNoSeal, ⟨by decide, by decide⟩, by decide +kernel⟩
theorem fX5_solve_16 : mi_Gf MX5_solve 16 5 0 := ⟨12, RX5, TX5, 5, tyX5, mi_cl5, by decide, dX5_solve_16, Or.inl (mi_in 159 (by decide +kernel) rfl)⟩
theorem fX5_solve_19 : mi_Gf MX5_solve 19 1 5 := ⟨88, RX1, TX1, 6, tyX1, mi_cl1, by decide, dX5_solve_19, Or.inr ⟨"TruckLoads", (mi_in 111 (by decide +kernel) rfl)⟩⟩
theorem fX5_solve_31 : mi_Pf MX5_solve 31 5 4 .boolean := ⟨36, RX5, TX5, 5, tyX5, mi_cl5, by decide, dX5_solve_31, by decide +kernel, Or.inl ⟨rfl, Or.inl (mi_in 163 (by decide +kernel) rfl)⟩⟩
theorem fX5_solve_35 : mi_Gf MX5_solve 35 5 4 := ⟨36, RX5, TX5, 5, tyX5, mi_cl5, by decide, dX5_solve_35, Or.inl (mi_in 163 (by decide +kernel) rfl)⟩
theorem fX5_solve_42 : mi_Gf MX5_solve 42 5 1 := ⟨21, RX5, TX5, 5, tyX5, mi_cl5, by decide, dX5_solve_42, Or.inl (mi_in 160 (by decide +kernel) rfl)⟩
theorem fX5_solve_46 : mi_Gf MX5_solve 46 5 0 := ⟨12, RX5, TX5, 5, tyX5, mi_cl5, by decide, dX5_solve_46, Or.inl (mi_in 159 (by decide +kernel) rfl)⟩
theorem fX5_solve_49 : mi_Iv MX5_solve MX4_run 49 4 1 := ⟨109, yX4_run, _, dX5_solve_49, rfl, Or.inr ⟨"TruckLoads", (mi_in 406 (by decide +kernel) rfl)⟩, (mi_in 408 (by decide +kernel) rfl), (mi_inP 14 (by decide +kernel) rfl), meX4_run, ⟨by decide, by decide⟩, by decide +kernel⟩
theorem fX5_solve_56 : mi_Gf MX5_solve 56 5 0 := ⟨12, RX5, TX5, 5, tyX5, mi_cl5, by decide, dX5_solve_56, Or.inl (mi_in 159 (by decide +kernel) rfl)⟩
theorem fX5_solve_59 : mi_Iv MX5_solve MX1_placeByRule 59 1 0 := ⟨113, yX1_placeByRule, _, dX5_solve_59, rfl, Or.inr ⟨"TruckLoads", (mi_in 473 (by decide +kernel) rfl)⟩, (mi_in 475 (by decide +kernel) rfl), (mi_inP 29 (by decide +kernel) rfl), meX1_placeByRule, ⟨by decide, by decide⟩, by decide +kernel⟩
theorem fX5_solve_63 : mi_Gf MX5_solve 63 5 0 := ⟨12, RX5, TX5, 5, tyX5, mi_cl5, by decide, dX5_solve_63, Or.inl (mi_in 159 (by decide +kernel) rfl)⟩
theorem fX5_solve_66 : mi_Iv MX5_solve MX1_standing 66 1 0 := ⟨116, yX1_standing, _, dX5_solve_66, rfl, Or.inr ⟨"TruckLoads", (mi_in 208 (by decide +kernel) rfl)⟩, (mi_in 210 (by decide +kernel) rfl), (mi_inP 5 (by decide +kernel) rfl), meX1_standing, ⟨by decide, by decide⟩, by decide +kernel⟩
theorem fX5_exact_1 : mi_Gf MX5_exact 1 5 4 := ⟨36, RX5, TX5, 5, tyX5, mi_cl5, by decide, dX5_exact_1, Or.inl (mi_in 163 (by decide +kernel) rfl)⟩
theorem fX5_bound_1 : mi_Gf MX5_bound 1 5 0 := ⟨12, RX5, TX5, 5, tyX5, mi_cl5, by decide, dX5_bound_1, Or.inl (mi_in 159 (by decide +kernel) rfl)⟩
theorem fX5_bound_4 : mi_Iv MX5_bound MX1_palletsWithSomeCell 4 1 0 := ⟨120, yX1_palletsWithSomeCell, _, dX5_bound_4, rfl, Or.inr ⟨"TruckLoads", (mi_in 183 (by decide +kernel) rfl)⟩, (mi_in 185 (by decide +kernel) rfl), (mi_inP 0 (by decide +kernel) rfl), meX1_palletsWithSomeCell, ⟨by decide, by decide⟩, by decide +kernel⟩
theorem fX5_bound_8 : mi_Gf MX5_bound 8 5 0 := ⟨12, RX5, TX5, 5, tyX5, mi_cl5, by decide, dX5_bound_8, Or.inl (mi_in 159 (by decide +kernel) rfl)⟩
theorem fX5_bound_11 : mi_Gf MX5_bound 11 1 0 := ⟨123, RX1, TX1, 6, tyX1, mi_cl1, by decide, dX5_bound_11, Or.inr ⟨"TruckLoads", (mi_in 98 (by decide +kernel) rfl)⟩⟩
theorem fX5_bound_14 : Cond.methodLink (MX5_bound).1 126 Lib.Math.min.name ∈ mi_T := (mi_in 203 (by decide +kernel) rfl)
theorem fX5_place_2 : mi_Iv MX5_place MX5_knownPallet 2 5 1 := ⟨132, yX5_knownPallet, _, dX5_place_2, rfl, Or.inl (mi_in 491 (by decide +kernel) rfl), (mi_in 493 (by decide +kernel) rfl), (mi_inP 31 (by decide +kernel) rfl), meX5_knownPallet, ⟨by decide, by decide⟩, by decide +kernel⟩
theorem fX5_place_12 : mi_Gf MX5_place 12 5 0 := ⟨12, RX5, TX5, 5, tyX5, mi_cl5, by decide, dX5_place_12, Or.inl (mi_in 159 (by decide +kernel) rfl)⟩
theorem fX5_place_16 : mi_Iv MX5_place MX1_hasCell 16 1 1 := ⟨39, yX1_hasCell, _, dX5_place_16, rfl, Or.inr ⟨"TruckLoads", (mi_in 229 (by decide +kernel) rfl)⟩, (mi_in 197 (by decide +kernel) rfl), (mi_inP 3 (by decide +kernel) rfl), meX1_hasCell, ⟨by decide, by decide⟩, by decide +kernel⟩
theorem fX5_place_22 : mi_Tw MX5_place 22 1 := ⟨70, 45, 74, "no such cell", ["java/lang/RuntimeException", "java/lang/Exception"], by decide +kernel, by decide +kernel, (mi_in 309 (by decide +kernel) rfl), (mi_in 14 (by decide +kernel) rfl), by decide +kernel, fun w hw => List.mem_filter.mpr ⟨List.mem_append_right _ (tw_1_74 w hw).1.1, (tw_1_74 w hw).1.2⟩, fun w hw => (List.mem_cons.mp hw).elim (fun e => by rw [e]; rfl) (fun hw => (List.mem_cons.mp hw).elim (fun e => by rw [e]; rfl) (fun hw => (tw_1_74 w hw).2)), by decide, rfl, dX5_place_22, dX5_place_25, dX5_place_26, dX5_place_28, dX5_place_31⟩
theorem fX5_place_33 : mi_Gf MX5_place 33 5 3 := ⟨32, RX5, TX5, 5, tyX5, mi_cl5, by decide, dX5_place_33, Or.inl (mi_in 162 (by decide +kernel) rfl)⟩
theorem fX5_place_39 : mi_Tw MX5_place 39 2 := ⟨57, 136, 61, "the doors are shut", ["java/lang/RuntimeException", "java/lang/Exception"], by decide +kernel, by decide +kernel, (mi_in 329 (by decide +kernel) rfl), (mi_in 15 (by decide +kernel) rfl), by decide +kernel, fun w hw => List.mem_filter.mpr ⟨List.mem_append_right _ (tw_2_61 w hw).1.1, (tw_2_61 w hw).1.2⟩, fun w hw => (List.mem_cons.mp hw).elim (fun e => by rw [e]; rfl) (fun hw => (List.mem_cons.mp hw).elim (fun e => by rw [e]; rfl) (fun hw => (tw_2_61 w hw).2)), by decide, rfl, dX5_place_39, dX5_place_42, dX5_place_43, dX5_place_45, dX5_place_48⟩
theorem fX5_place_50 : mi_Iv MX5_place MX5_requireNoSeal 50 5 0 := ⟨106, yX5_requireNoSeal, _, dX5_place_50, rfl, Or.inl (mi_in 397 (by decide +kernel) rfl), (mi_in 399 (by decide +kernel) rfl), (mi_inP 12 (by decide +kernel) rfl), meX5_requireNoSeal, ⟨by decide, by decide⟩, by decide +kernel⟩
theorem fX5_place_63 : mi_Gf MX5_place 63 5 0 := ⟨12, RX5, TX5, 5, tyX5, mi_cl5, by decide, dX5_place_63, Or.inl (mi_in 159 (by decide +kernel) rfl)⟩
theorem fX5_place_68 : mi_Iv MX5_place MX1_firstBar 68 1 2 := ⟨138, yX1_firstBar, _, dX5_place_68, rfl, Or.inr ⟨"TruckLoads", (mi_in 512 (by decide +kernel) rfl)⟩, (mi_in 514 (by decide +kernel) rfl), (mi_inP 32 (by decide +kernel) rfl), meX1_firstBar, ⟨by decide, by decide⟩, by decide +kernel⟩
theorem fX5_place_80 : mi_Pf MX5_place 80 2 5 .int := ⟨142, RX2, TX2, 6, tyX2, mi_cl2, by decide, dX5_place_80, by decide +kernel, Or.inl ⟨rfl, Or.inr ⟨"TruckLoads", (mi_in 82 (by decide +kernel) rfl)⟩⟩⟩
theorem fX5_at_2 : mi_Iv MX5_at MX5_knownPallet 2 5 1 := ⟨132, yX5_knownPallet, _, dX5_at_2, rfl, Or.inl (mi_in 491 (by decide +kernel) rfl), (mi_in 493 (by decide +kernel) rfl), (mi_inP 31 (by decide +kernel) rfl), meX5_knownPallet, ⟨by decide, by decide⟩, by decide +kernel⟩
theorem fX5_at_5 : mi_Gf MX5_at 5 2 5 := ⟨142, RX2, TX2, 6, tyX2, mi_cl2, by decide, dX5_at_5, Or.inr ⟨"TruckLoads", (mi_in 82 (by decide +kernel) rfl)⟩⟩
theorem fX5_axle_3 : mi_Is MX5_axle MX5_requireWithin 3 3 := ⟨50, yX5_requireWithin, dX5_axle_3, Or.inl (mi_in 306 (by decide +kernel) rfl), (mi_in 307 (by decide +kernel) rfl), (mi_in 1 (by decide +kernel) rfl), meX5_requireWithin, ⟨by decide, by decide⟩, by decide +kernel⟩
theorem fX5_axle_9 : mi_Is MX5_axle MX5_requireWithin 9 3 := ⟨50, yX5_requireWithin, dX5_axle_9, Or.inl (mi_in 306 (by decide +kernel) rfl), (mi_in 307 (by decide +kernel) rfl), (mi_in 1 (by decide +kernel) rfl), meX5_requireWithin, ⟨by decide, by decide⟩, by decide +kernel⟩
theorem fX5_axle_13 : mi_Gf MX5_axle 13 5 0 := ⟨12, RX5, TX5, 5, tyX5, mi_cl5, by decide, dX5_axle_13, Or.inl (mi_in 159 (by decide +kernel) rfl)⟩
theorem fX5_axle_16 : mi_Iv MX5_axle MX1_standing 16 1 0 := ⟨116, yX1_standing, _, dX5_axle_16, rfl, Or.inr ⟨"TruckLoads", (mi_in 208 (by decide +kernel) rfl)⟩, (mi_in 210 (by decide +kernel) rfl), (mi_inP 5 (by decide +kernel) rfl), meX1_standing, ⟨by decide, by decide⟩, by decide +kernel⟩
theorem fX5_axle_22 : mi_Tw MX5_axle 22 4 := ⟨145, 147, 149, "no pallet stands", ["java/lang/RuntimeException", "java/lang/Exception"], by decide +kernel, by decide +kernel, (mi_in 537 (by decide +kernel) rfl), (mi_in 18 (by decide +kernel) rfl), by decide +kernel, fun w hw => List.mem_filter.mpr ⟨List.mem_append_right _ (tw_4_149 w hw).1.1, (tw_4_149 w hw).1.2⟩, fun w hw => (List.mem_cons.mp hw).elim (fun e => by rw [e]; rfl) (fun hw => (List.mem_cons.mp hw).elim (fun e => by rw [e]; rfl) (fun hw => (tw_4_149 w hw).2)), by decide, rfl, dX5_axle_22, dX5_axle_25, dX5_axle_26, dX5_axle_28, dX5_axle_31⟩
theorem fX5_axle_33 : mi_Gf MX5_axle 33 5 0 := ⟨12, RX5, TX5, 5, tyX5, mi_cl5, by decide, dX5_axle_33, Or.inl (mi_in 159 (by decide +kernel) rfl)⟩
theorem fX5_axle_37 : mi_Iv MX5_axle MX1_onAxle 37 1 1 := ⟨150, yX1_onAxle, _, dX5_axle_37, rfl, Or.inr ⟨"TruckLoads", (mi_in 553 (by decide +kernel) rfl)⟩, (mi_in 434 (by decide +kernel) rfl), (mi_inP 20 (by decide +kernel) rfl), meX1_onAxle, ⟨by decide, by decide⟩, by decide +kernel⟩
theorem fX5_axle_41 : mi_Gf MX5_axle 41 5 0 := ⟨12, RX5, TX5, 5, tyX5, mi_cl5, by decide, dX5_axle_41, Or.inl (mi_in 159 (by decide +kernel) rfl)⟩
theorem fX5_axle_44 : mi_Gf MX5_axle 44 1 4 := ⟨75, RX1, TX1, 6, tyX1, mi_cl1, by decide, dX5_axle_44, Or.inr ⟨"TruckLoads", (mi_in 107 (by decide +kernel) rfl)⟩⟩
theorem fX5_axle_47 : mi_Iv MX5_axle MX0_span 47 0 0 := ⟨154, yX0_span, _, dX5_axle_47, rfl, Or.inr ⟨"TruckLoads", (mi_in 554 (by decide +kernel) rfl)⟩, (mi_in 443 (by decide +kernel) rfl), (mi_inP 22 (by decide +kernel) rfl), meX0_span, ⟨by decide, by decide⟩, by decide +kernel⟩
theorem fX5_axle_51 : mi_Is MX5_axle MX5_sideInLowestTerms 51 3 := ⟨157, yX5_sideInLowestTerms, dX5_axle_51, Or.inl (mi_in 555 (by decide +kernel) rfl), (mi_in 556 (by decide +kernel) rfl), (mi_in 1 (by decide +kernel) rfl), meX5_sideInLowestTerms, ⟨by decide, by decide⟩, by decide +kernel⟩
theorem fX5_bar_2 : mi_Iv MX5_bar MX5_knownPallet 2 5 1 := ⟨132, yX5_knownPallet, _, dX5_bar_2, rfl, Or.inl (mi_in 491 (by decide +kernel) rfl), (mi_in 493 (by decide +kernel) rfl), (mi_inP 31 (by decide +kernel) rfl), meX5_knownPallet, ⟨by decide, by decide⟩, by decide +kernel⟩
theorem fX5_bar_7 : mi_Iv MX5_bar MX2_stands 7 2 0 := ⟨161, yX2_stands, _, dX5_bar_7, rfl, Or.inr ⟨"TruckLoads", (mi_in 565 (by decide +kernel) rfl)⟩, (mi_in 214 (by decide +kernel) rfl), (mi_inP 6 (by decide +kernel) rfl), meX2_stands, ⟨by decide, by decide⟩, by decide +kernel⟩
theorem fX5_bar_13 : mi_Tw MX5_bar 13 2 := ⟨57, 165, 61, "the pallet stands", ["java/lang/RuntimeException", "java/lang/Exception"], by decide +kernel, by decide +kernel, (mi_in 329 (by decide +kernel) rfl), (mi_in 15 (by decide +kernel) rfl), by decide +kernel, fun w hw => List.mem_filter.mpr ⟨List.mem_append_right _ (tw_2_61 w hw).1.1, (tw_2_61 w hw).1.2⟩, fun w hw => (List.mem_cons.mp hw).elim (fun e => by rw [e]; rfl) (fun hw => (List.mem_cons.mp hw).elim (fun e => by rw [e]; rfl) (fun hw => (tw_2_61 w hw).2)), by decide, rfl, dX5_bar_13, dX5_bar_16, dX5_bar_17, dX5_bar_19, dX5_bar_22⟩
theorem fX5_bar_24 : mi_Gf MX5_bar 24 5 0 := ⟨12, RX5, TX5, 5, tyX5, mi_cl5, by decide, dX5_bar_24, Or.inl (mi_in 159 (by decide +kernel) rfl)⟩
theorem fX5_bar_28 : mi_Iv MX5_bar MX1_barFromAllCells 28 1 1 := ⟨167, yX1_barFromAllCells, _, dX5_bar_28, rfl, Or.inr ⟨"TruckLoads", (mi_in 567 (by decide +kernel) rfl)⟩, (mi_in 569 (by decide +kernel) rfl), (mi_inP 34 (by decide +kernel) rfl), meX1_barFromAllCells, ⟨by decide, by decide⟩, by decide +kernel⟩
theorem fX5_change_2 : mi_Iv MX5_change MX5_knownPallet 2 5 1 := ⟨132, yX5_knownPallet, _, dX5_change_2, rfl, Or.inl (mi_in 491 (by decide +kernel) rfl), (mi_in 493 (by decide +kernel) rfl), (mi_inP 31 (by decide +kernel) rfl), meX5_knownPallet, ⟨by decide, by decide⟩, by decide +kernel⟩
theorem fX5_change_10 : mi_Is MX5_change MX5_requireWithin 10 3 := ⟨50, yX5_requireWithin, dX5_change_10, Or.inl (mi_in 306 (by decide +kernel) rfl), (mi_in 307 (by decide +kernel) rfl), (mi_in 1 (by decide +kernel) rfl), meX5_requireWithin, ⟨by decide, by decide⟩, by decide +kernel⟩
theorem fX5_change_14 : mi_Iv MX5_change MX5_requireShut 14 5 0 := ⟨85, yX5_requireShut, _, dX5_change_14, rfl, Or.inl (mi_in 365 (by decide +kernel) rfl), (mi_in 367 (by decide +kernel) rfl), (mi_inP 10 (by decide +kernel) rfl), meX5_requireShut, ⟨by decide, by decide⟩, by decide +kernel⟩
theorem fX5_change_18 : mi_Iv MX5_change MX2_stands 18 2 0 := ⟨161, yX2_stands, _, dX5_change_18, rfl, Or.inr ⟨"TruckLoads", (mi_in 565 (by decide +kernel) rfl)⟩, (mi_in 214 (by decide +kernel) rfl), (mi_inP 6 (by decide +kernel) rfl), meX2_stands, ⟨by decide, by decide⟩, by decide +kernel⟩
theorem fX5_change_25 : mi_Gf MX5_change 25 5 0 := ⟨12, RX5, TX5, 5, tyX5, mi_cl5, by decide, dX5_change_25, Or.inl (mi_in 159 (by decide +kernel) rfl)⟩
theorem fX5_change_31 : mi_Gf MX5_change 31 2 5 := ⟨142, RX2, TX2, 6, tyX2, mi_cl2, by decide, dX5_change_31, Or.inr ⟨"TruckLoads", (mi_in 82 (by decide +kernel) rfl)⟩⟩
theorem fX5_change_34 : mi_Iv MX5_change MX1_stopsBar 34 1 3 := ⟨171, yX1_stopsBar, _, dX5_change_34, rfl, Or.inr ⟨"TruckLoads", (mi_in 579 (by decide +kernel) rfl)⟩, (mi_in 471 (by decide +kernel) rfl), (mi_inP 28 (by decide +kernel) rfl), meX1_stopsBar, ⟨by decide, by decide⟩, by decide +kernel⟩
theorem fX5_change_44 : mi_Pf MX5_change 44 2 3 .int := ⟨175, RX2, TX2, 6, tyX2, mi_cl2, by decide, dX5_change_44, by decide +kernel, Or.inl ⟨rfl, Or.inr ⟨"TruckLoads", (mi_in 76 (by decide +kernel) rfl)⟩⟩⟩
theorem fX5_doors_5 : mi_Iv MX5_doors MX5_requireNoSeal 5 5 0 := ⟨106, yX5_requireNoSeal, _, dX5_doors_5, rfl, Or.inl (mi_in 397 (by decide +kernel) rfl), (mi_in 399 (by decide +kernel) rfl), (mi_inP 12 (by decide +kernel) rfl), meX5_requireNoSeal, ⟨by decide, by decide⟩, by decide +kernel⟩
theorem fX5_doors_9 : mi_Gf MX5_doors 9 5 3 := ⟨32, RX5, TX5, 5, tyX5, mi_cl5, by decide, dX5_doors_9, Or.inl (mi_in 162 (by decide +kernel) rfl)⟩
theorem fX5_doors_15 : mi_Pf MX5_doors 15 5 3 .boolean := ⟨32, RX5, TX5, 5, tyX5, mi_cl5, by decide, dX5_doors_15, by decide +kernel, Or.inl ⟨rfl, Or.inl (mi_in 162 (by decide +kernel) rfl)⟩⟩
theorem fX5_seal_2 : Cond.constant (MX5_seal).1 178 1000000 ∈ mi_T := (mi_in 594 (by decide +kernel) rfl)
theorem fX5_seal_4 : mi_Is MX5_seal MX5_requireWithin 4 3 := ⟨50, yX5_requireWithin, dX5_seal_4, Or.inl (mi_in 306 (by decide +kernel) rfl), (mi_in 307 (by decide +kernel) rfl), (mi_in 1 (by decide +kernel) rfl), meX5_requireWithin, ⟨by decide, by decide⟩, by decide +kernel⟩
theorem fX5_seal_8 : mi_Iv MX5_seal MX5_requireShut 8 5 0 := ⟨85, yX5_requireShut, _, dX5_seal_8, rfl, Or.inl (mi_in 365 (by decide +kernel) rfl), (mi_in 367 (by decide +kernel) rfl), (mi_inP 10 (by decide +kernel) rfl), meX5_requireShut, ⟨by decide, by decide⟩, by decide +kernel⟩
theorem fX5_seal_12 : mi_Iv MX5_seal MX5_requireNoSeal 12 5 0 := ⟨106, yX5_requireNoSeal, _, dX5_seal_12, rfl, Or.inl (mi_in 397 (by decide +kernel) rfl), (mi_in 399 (by decide +kernel) rfl), (mi_inP 12 (by decide +kernel) rfl), meX5_requireNoSeal, ⟨by decide, by decide⟩, by decide +kernel⟩
theorem fX5_seal_16 : mi_Gf MX5_seal 16 5 2 := ⟨28, RX5, TX5, 5, tyX5, mi_cl5, by decide, dX5_seal_16, Or.inl (mi_in 161 (by decide +kernel) rfl)⟩
theorem fX5_seal_19 : mi_Gf MX5_seal 19 3 1 := ⟨179, RX3, TX3, 3, tyX3, mi_cl3, by decide, dX5_seal_19, Or.inr ⟨"TruckLoads", (mi_in 149 (by decide +kernel) rfl)⟩⟩
theorem fX5_seal_27 : mi_Tw MX5_seal 27 3 := ⟨92, 182, 96, "no room for a seal", ["java/lang/RuntimeException", "java/lang/Exception"], by decide +kernel, by decide +kernel, (mi_in 370 (by decide +kernel) rfl), (mi_in 16 (by decide +kernel) rfl), by decide +kernel, fun w hw => List.mem_filter.mpr ⟨List.mem_append_right _ (tw_3_96 w hw).1.1, (tw_3_96 w hw).1.2⟩, fun w hw => (List.mem_cons.mp hw).elim (fun e => by rw [e]; rfl) (fun hw => (List.mem_cons.mp hw).elim (fun e => by rw [e]; rfl) (fun hw => (tw_3_96 w hw).2)), by decide, rfl, dX5_seal_27, dX5_seal_30, dX5_seal_31, dX5_seal_33, dX5_seal_36⟩
theorem fX5_seal_38 : mi_Gf MX5_seal 38 5 2 := ⟨28, RX5, TX5, 5, tyX5, mi_cl5, by decide, dX5_seal_38, Or.inl (mi_in 161 (by decide +kernel) rfl)⟩
theorem fX5_seal_42 : mi_Iv MX5_seal MX3_wasOn 42 3 1 := ⟨184, yX3_wasOn, _, dX5_seal_42, rfl, Or.inr ⟨"TruckLoads", (mi_in 596 (by decide +kernel) rfl)⟩, (mi_in 598 (by decide +kernel) rfl), (mi_inP 35 (by decide +kernel) rfl), meX3_wasOn, ⟨by decide, by decide⟩, by decide +kernel⟩
theorem fX5_seal_51 : mi_Gf MX5_seal 51 5 2 := ⟨28, RX5, TX5, 5, tyX5, mi_cl5, by decide, dX5_seal_51, Or.inl (mi_in 161 (by decide +kernel) rfl)⟩
theorem fX5_seal_55 : mi_Iv MX5_seal MX3_putOn 55 3 1 := ⟨187, yX3_putOn, _, dX5_seal_55, rfl, Or.inr ⟨"TruckLoads", (mi_in 600 (by decide +kernel) rfl)⟩, (mi_in 602 (by decide +kernel) rfl), (mi_inP 36 (by decide +kernel) rfl), meX3_putOn, ⟨by decide, by decide⟩, by decide +kernel⟩
theorem fX5_broken_1 : mi_Gf MX5_broken 1 5 2 := ⟨28, RX5, TX5, 5, tyX5, mi_cl5, by decide, dX5_broken_1, Or.inl (mi_in 161 (by decide +kernel) rfl)⟩
theorem fX5_broken_4 : mi_Iv MX5_broken MX3_isOn 4 3 0 := ⟨190, yX3_isOn, _, dX5_broken_4, rfl, Or.inr ⟨"TruckLoads", (mi_in 401 (by decide +kernel) rfl)⟩, (mi_in 403 (by decide +kernel) rfl), (mi_inP 13 (by decide +kernel) rfl), meX3_isOn, ⟨by decide, by decide⟩, by decide +kernel⟩
theorem fX5_broken_10 : mi_Tw MX5_broken 10 2 := ⟨57, 193, 61, "there is no seal", ["java/lang/RuntimeException", "java/lang/Exception"], by decide +kernel, by decide +kernel, (mi_in 329 (by decide +kernel) rfl), (mi_in 15 (by decide +kernel) rfl), by decide +kernel, fun w hw => List.mem_filter.mpr ⟨List.mem_append_right _ (tw_2_61 w hw).1.1, (tw_2_61 w hw).1.2⟩, fun w hw => (List.mem_cons.mp hw).elim (fun e => by rw [e]; rfl) (fun hw => (List.mem_cons.mp hw).elim (fun e => by rw [e]; rfl) (fun hw => (tw_2_61 w hw).2)), by decide, rfl, dX5_broken_10, dX5_broken_13, dX5_broken_14, dX5_broken_16, dX5_broken_19⟩
theorem fX5_broken_21 : mi_Gf MX5_broken 21 5 2 := ⟨28, RX5, TX5, 5, tyX5, mi_cl5, by decide, dX5_broken_21, Or.inl (mi_in 161 (by decide +kernel) rfl)⟩
theorem fX5_broken_24 : mi_Iv MX5_broken MX3_takeOff 24 3 0 := ⟨195, yX3_takeOff, _, dX5_broken_24, rfl, Or.inr ⟨"TruckLoads", (mi_in 612 (by decide +kernel) rfl)⟩, (mi_in 614 (by decide +kernel) rfl), (mi_inP 37 (by decide +kernel) rfl), meX3_takeOff, ⟨by decide, by decide⟩, by decide +kernel⟩
theorem fX5_order_4 : mi_Is MX5_order MX5_requireWithin 4 3 := ⟨50, yX5_requireWithin, dX5_order_4, Or.inl (mi_in 306 (by decide +kernel) rfl), (mi_in 307 (by decide +kernel) rfl), (mi_in 1 (by decide +kernel) rfl), meX5_requireWithin, ⟨by decide, by decide⟩, by decide +kernel⟩
theorem fX5_order_11 : mi_Tw MX5_order 11 1 := ⟨70, 198, 74, "below 0", ["java/lang/RuntimeException", "java/lang/Exception"], by decide +kernel, by decide +kernel, (mi_in 309 (by decide +kernel) rfl), (mi_in 14 (by decide +kernel) rfl), by decide +kernel, fun w hw => List.mem_filter.mpr ⟨List.mem_append_right _ (tw_1_74 w hw).1.1, (tw_1_74 w hw).1.2⟩, fun w hw => (List.mem_cons.mp hw).elim (fun e => by rw [e]; rfl) (fun hw => (List.mem_cons.mp hw).elim (fun e => by rw [e]; rfl) (fun hw => (tw_1_74 w hw).2)), by decide, rfl, dX5_order_11, dX5_order_14, dX5_order_15, dX5_order_17, dX5_order_20⟩
theorem fX5_order_22 : mi_Gf MX5_order 22 5 0 := ⟨12, RX5, TX5, 5, tyX5, mi_cl5, by decide, dX5_order_22, Or.inl (mi_in 159 (by decide +kernel) rfl)⟩
theorem fX5_order_27 : mi_Iv MX5_order MX1_fromDoors 27 1 2 := ⟨200, yX1_fromDoors, _, dX5_order_27, rfl, Or.inr ⟨"TruckLoads", (mi_in 624 (by decide +kernel) rfl)⟩, (mi_in 626 (by decide +kernel) rfl), (mi_inP 38 (by decide +kernel) rfl), meX1_fromDoors, ⟨by decide, by decide⟩, by decide +kernel⟩
theorem fX5_manifest_5 : mi_Is MX5_manifest MX5_requireWithin 5 3 := ⟨50, yX5_requireWithin, dX5_manifest_5, Or.inl (mi_in 306 (by decide +kernel) rfl), (mi_in 307 (by decide +kernel) rfl), (mi_in 1 (by decide +kernel) rfl), meX5_requireWithin, ⟨by decide, by decide⟩, by decide +kernel⟩
theorem fX5_manifest_10 : mi_Gf MX5_manifest 10 5 0 := ⟨12, RX5, TX5, 5, tyX5, mi_cl5, by decide, dX5_manifest_10, Or.inl (mi_in 159 (by decide +kernel) rfl)⟩
theorem fX5_manifest_13 : mi_Iv MX5_manifest MX1_weight 13 1 0 := ⟨203, yX1_weight, _, dX5_manifest_13, rfl, Or.inr ⟨"TruckLoads", (mi_in 639 (by decide +kernel) rfl)⟩, (mi_in 425 (by decide +kernel) rfl), (mi_inP 18 (by decide +kernel) rfl), meX1_weight, ⟨by decide, by decide⟩, by decide +kernel⟩
theorem fX5_count_41 : mi_Gf MX5_count 41 5 0 := ⟨12, RX5, TX5, 5, tyX5, mi_cl5, by decide, dX5_count_41, Or.inl (mi_in 159 (by decide +kernel) rfl)⟩
theorem fX5_count_44 : mi_Gf MX5_count 44 1 0 := ⟨123, RX1, TX1, 6, tyX1, mi_cl1, by decide, dX5_count_44, Or.inr ⟨"TruckLoads", (mi_in 98 (by decide +kernel) rfl)⟩⟩
theorem fX5_count_49 : mi_Gf MX5_count 49 5 0 := ⟨12, RX5, TX5, 5, tyX5, mi_cl5, by decide, dX5_count_49, Or.inl (mi_in 159 (by decide +kernel) rfl)⟩
theorem fX5_count_52 : mi_Gf MX5_count 52 1 5 := ⟨88, RX1, TX1, 6, tyX1, mi_cl1, by decide, dX5_count_52, Or.inr ⟨"TruckLoads", (mi_in 111 (by decide +kernel) rfl)⟩⟩
theorem fX5_count_57 : mi_Gf MX5_count 57 5 0 := ⟨12, RX5, TX5, 5, tyX5, mi_cl5, by decide, dX5_count_57, Or.inl (mi_in 159 (by decide +kernel) rfl)⟩
theorem fX5_count_60 : mi_Iv MX5_count MX1_standing 60 1 0 := ⟨116, yX1_standing, _, dX5_count_60, rfl, Or.inr ⟨"TruckLoads", (mi_in 208 (by decide +kernel) rfl)⟩, (mi_in 210 (by decide +kernel) rfl), (mi_inP 5 (by decide +kernel) rfl), meX1_standing, ⟨by decide, by decide⟩, by decide +kernel⟩
theorem fX5_count_65 : mi_Gf MX5_count 65 5 3 := ⟨32, RX5, TX5, 5, tyX5, mi_cl5, by decide, dX5_count_65, Or.inl (mi_in 162 (by decide +kernel) rfl)⟩
theorem fX5_count_78 : mi_Gf MX5_count 78 5 2 := ⟨28, RX5, TX5, 5, tyX5, mi_cl5, by decide, dX5_count_78, Or.inl (mi_in 161 (by decide +kernel) rfl)⟩
theorem fX5_count_81 : mi_Gf MX5_count 81 3 2 := ⟨206, RX3, TX3, 3, tyX3, mi_cl3, by decide, dX5_count_81, Or.inr ⟨"TruckLoads", (mi_in 151 (by decide +kernel) rfl)⟩⟩
theorem fX5_count_86 : mi_Gf MX5_count 86 5 2 := ⟨28, RX5, TX5, 5, tyX5, mi_cl5, by decide, dX5_count_86, Or.inl (mi_in 161 (by decide +kernel) rfl)⟩
theorem fX5_count_89 : mi_Gf MX5_count 89 3 1 := ⟨179, RX3, TX3, 3, tyX3, mi_cl3, by decide, dX5_count_89, Or.inr ⟨"TruckLoads", (mi_in 149 (by decide +kernel) rfl)⟩⟩
theorem fX5_knownPallet_6 : mi_Gf MX5_knownPallet 6 5 0 := ⟨12, RX5, TX5, 5, tyX5, mi_cl5, by decide, dX5_knownPallet_6, Or.inl (mi_in 159 (by decide +kernel) rfl)⟩
theorem fX5_knownPallet_9 : mi_Gf MX5_knownPallet 9 1 5 := ⟨88, RX1, TX1, 6, tyX1, mi_cl1, by decide, dX5_knownPallet_9, Or.inr ⟨"TruckLoads", (mi_in 111 (by decide +kernel) rfl)⟩⟩
theorem fX5_knownPallet_26 : mi_Gf MX5_knownPallet 26 5 0 := ⟨12, RX5, TX5, 5, tyX5, mi_cl5, by decide, dX5_knownPallet_26, Or.inl (mi_in 159 (by decide +kernel) rfl)⟩
theorem fX5_knownPallet_29 : mi_Gf MX5_knownPallet 29 1 3 := ⟨97, RX1, TX1, 6, tyX1, mi_cl1, by decide, dX5_knownPallet_29, Or.inr ⟨"TruckLoads", (mi_in 105 (by decide +kernel) rfl)⟩⟩
theorem fX5_requireWithin_10 : mi_Tw MX5_requireWithin 10 1 := ⟨70, 214, 74, "a number outside its range", ["java/lang/RuntimeException", "java/lang/Exception"], by decide +kernel, by decide +kernel, (mi_in 309 (by decide +kernel) rfl), (mi_in 14 (by decide +kernel) rfl), by decide +kernel, fun w hw => List.mem_filter.mpr ⟨List.mem_append_right _ (tw_1_74 w hw).1.1, (tw_1_74 w hw).1.2⟩, fun w hw => (List.mem_cons.mp hw).elim (fun e => by rw [e]; rfl) (fun hw => (List.mem_cons.mp hw).elim (fun e => by rw [e]; rfl) (fun hw => (tw_1_74 w hw).2)), by decide, rfl, dX5_requireWithin_10, dX5_requireWithin_13, dX5_requireWithin_14, dX5_requireWithin_16, dX5_requireWithin_19⟩
theorem fX5_requireShut_1 : mi_Gf MX5_requireShut 1 5 3 := ⟨32, RX5, TX5, 5, tyX5, mi_cl5, by decide, dX5_requireShut_1, Or.inl (mi_in 162 (by decide +kernel) rfl)⟩
theorem fX5_requireShut_7 : mi_Tw MX5_requireShut 7 2 := ⟨57, 216, 61, "the doors are open", ["java/lang/RuntimeException", "java/lang/Exception"], by decide +kernel, by decide +kernel, (mi_in 329 (by decide +kernel) rfl), (mi_in 15 (by decide +kernel) rfl), by decide +kernel, fun w hw => List.mem_filter.mpr ⟨List.mem_append_right _ (tw_2_61 w hw).1.1, (tw_2_61 w hw).1.2⟩, fun w hw => (List.mem_cons.mp hw).elim (fun e => by rw [e]; rfl) (fun hw => (List.mem_cons.mp hw).elim (fun e => by rw [e]; rfl) (fun hw => (tw_2_61 w hw).2)), by decide, rfl, dX5_requireShut_7, dX5_requireShut_10, dX5_requireShut_11, dX5_requireShut_13, dX5_requireShut_16⟩
theorem fX5_requireNoSeal_1 : mi_Gf MX5_requireNoSeal 1 5 2 := ⟨28, RX5, TX5, 5, tyX5, mi_cl5, by decide, dX5_requireNoSeal_1, Or.inl (mi_in 161 (by decide +kernel) rfl)⟩
theorem fX5_requireNoSeal_4 : mi_Iv MX5_requireNoSeal MX3_isOn 4 3 0 := ⟨190, yX3_isOn, _, dX5_requireNoSeal_4, rfl, Or.inr ⟨"TruckLoads", (mi_in 401 (by decide +kernel) rfl)⟩, (mi_in 403 (by decide +kernel) rfl), (mi_inP 13 (by decide +kernel) rfl), meX3_isOn, ⟨by decide, by decide⟩, by decide +kernel⟩
theorem fX5_requireNoSeal_10 : mi_Tw MX5_requireNoSeal 10 2 := ⟨57, 218, 61, "there is a seal", ["java/lang/RuntimeException", "java/lang/Exception"], by decide +kernel, by decide +kernel, (mi_in 329 (by decide +kernel) rfl), (mi_in 15 (by decide +kernel) rfl), by decide +kernel, fun w hw => List.mem_filter.mpr ⟨List.mem_append_right _ (tw_2_61 w hw).1.1, (tw_2_61 w hw).1.2⟩, fun w hw => (List.mem_cons.mp hw).elim (fun e => by rw [e]; rfl) (fun hw => (List.mem_cons.mp hw).elim (fun e => by rw [e]; rfl) (fun hw => (tw_2_61 w hw).2)), by decide, rfl, dX5_requireNoSeal_10, dX5_requireNoSeal_13, dX5_requireNoSeal_14, dX5_requireNoSeal_16, dX5_requireNoSeal_19⟩
end
section
theorem fX6_init_1 : Cond.methodLink (MX6_init).1 1 Lib.objectInit ∈ mi_T := (mi_in 645 (by decide +kernel) rfl)
theorem fX6_init_75 : mi_Pf MX6_init 75 6 1 (.array .int) := ⟨7, RX6, TX6, 21, tyX6, mi_cl6, by decide, dX6_init_75, by decide +kernel, Or.inr ⟨rfl, rfl, rfl, (mi_in 647 (by decide +kernel) rfl)⟩⟩
theorem fX6_init_83 : mi_Pf MX6_init 83 6 2 (.array .boolean) := ⟨13, RX6, TX6, 21, tyX6, mi_cl6, by decide, dX6_init_83, by decide +kernel, Or.inr ⟨rfl, rfl, rfl, (mi_in 648 (by decide +kernel) rfl)⟩⟩
theorem fX6_init_89 : mi_Pf MX6_init 89 6 4 .int := ⟨17, RX6, TX6, 21, tyX6, mi_cl6, by decide, dX6_init_89, by decide +kernel, Or.inl ⟨rfl, Or.inl (mi_in 650 (by decide +kernel) rfl)⟩⟩
theorem fX6_init_96 : mi_Pf MX6_init 96 6 5 .int := ⟨21, RX6, TX6, 21, tyX6, mi_cl6, by decide, dX6_init_96, by decide +kernel, Or.inl ⟨rfl, Or.inl (mi_in 651 (by decide +kernel) rfl)⟩⟩
theorem fX6_init_103 : mi_Pf MX6_init 103 6 6 .int := ⟨24, RX6, TX6, 21, tyX6, mi_cl6, by decide, dX6_init_103, by decide +kernel, Or.inl ⟨rfl, Or.inl (mi_in 652 (by decide +kernel) rfl)⟩⟩
theorem fX6_init_111 : mi_Pf MX6_init 111 6 9 (.array .int) := ⟨27, RX6, TX6, 21, tyX6, mi_cl6, by decide, dX6_init_111, by decide +kernel, Or.inr ⟨rfl, rfl, rfl, (mi_in 655 (by decide +kernel) rfl)⟩⟩
theorem fX6_init_119 : mi_Pf MX6_init 119 6 10 (.array .boolean) := ⟨30, RX6, TX6, 21, tyX6, mi_cl6, by decide, dX6_init_119, by decide +kernel, Or.inr ⟨rfl, rfl, rfl, (mi_in 656 (by decide +kernel) rfl)⟩⟩
theorem fX6_init_127 : mi_Pf MX6_init 127 6 11 (.array .boolean) := ⟨33, RX6, TX6, 21, tyX6, mi_cl6, by decide, dX6_init_127, by decide +kernel, Or.inr ⟨rfl, rfl, rfl, (mi_in 657 (by decide +kernel) rfl)⟩⟩
theorem fX6_init_135 : mi_Pf MX6_init 135 6 12 (.array .int) := ⟨36, RX6, TX6, 21, tyX6, mi_cl6, by decide, dX6_init_135, by decide +kernel, Or.inr ⟨rfl, rfl, rfl, (mi_in 658 (by decide +kernel) rfl)⟩⟩
theorem fX6_init_143 : mi_Pf MX6_init 143 6 13 (.array .int) := ⟨39, RX6, TX6, 21, tyX6, mi_cl6, by decide, dX6_init_143, by decide +kernel, Or.inr ⟨rfl, rfl, rfl, (mi_in 659 (by decide +kernel) rfl)⟩⟩
theorem fX6_init_151 : mi_Pf MX6_init 151 6 14 (.array .int) := ⟨42, RX6, TX6, 21, tyX6, mi_cl6, by decide, dX6_init_151, by decide +kernel, Or.inr ⟨rfl, rfl, rfl, (mi_in 660 (by decide +kernel) rfl)⟩⟩
theorem fX6_init_159 : mi_Pf MX6_init 159 6 15 (.array .int) := ⟨45, RX6, TX6, 21, tyX6, mi_cl6, by decide, dX6_init_159, by decide +kernel, Or.inr ⟨rfl, rfl, rfl, (mi_in 661 (by decide +kernel) rfl)⟩⟩
theorem fX6_init_167 : mi_Pf MX6_init 167 6 20 (.array .int) := ⟨48, RX6, TX6, 21, tyX6, mi_cl6, by decide, dX6_init_167, by decide +kernel, Or.inr ⟨rfl, rfl, rfl, (mi_in 666 (by decide +kernel) rfl)⟩⟩
theorem fX6_init_191 : mi_Pf MX6_init 191 6 0 .int := ⟨51, RX6, TX6, 21, tyX6, mi_cl6, by decide, dX6_init_191, by decide +kernel, Or.inr ⟨rfl, rfl, rfl, (mi_in 646 (by decide +kernel) rfl)⟩⟩
theorem fX6_thrown_1 : mi_Gf MX6_thrown 1 6 8 := ⟨54, RX6, TX6, 21, tyX6, mi_cl6, by decide, dX6_thrown_1, Or.inl (mi_in 654 (by decide +kernel) rfl)⟩
theorem fX6_isPallet_6 : mi_Gf MX6_isPallet 6 6 7 := ⟨57, RX6, TX6, 21, tyX6, mi_cl6, by decide, dX6_isPallet_6, Or.inl (mi_in 653 (by decide +kernel) rfl)⟩
theorem fX6_cell_4 : mi_Gf MX6_cell 4 6 0 := ⟨51, RX6, TX6, 21, tyX6, mi_cl6, by decide, dX6_cell_4, Or.inl (mi_in 646 (by decide +kernel) rfl)⟩
theorem fX6_cell_9 : mi_Is MX6_cell MX6_within 9 3 := ⟨60, yX6_within, dX6_cell_9, Or.inl (mi_in 718 (by decide +kernel) rfl), (mi_in 719 (by decide +kernel) rfl), (mi_in 8 (by decide +kernel) rfl), meX6_within, ⟨by decide, by decide⟩, by decide +kernel⟩
theorem fX6_cell_23 : mi_Is MX6_cell MX6_within 23 3 := ⟨60, yX6_within, dX6_cell_23, Or.inl (mi_in 718 (by decide +kernel) rfl), (mi_in 719 (by decide +kernel) rfl), (mi_in 8 (by decide +kernel) rfl), meX6_within, ⟨by decide, by decide⟩, by decide +kernel⟩
theorem fX6_cell_35 : mi_Iv MX6_cell MX6_standsAt 35 6 1 := ⟨64, yX6_standsAt, _, dX6_cell_35, rfl, Or.inl (mi_in 721 (by decide +kernel) rfl), (mi_in 723 (by decide +kernel) rfl), (mi_inP 40 (by decide +kernel) rfl), meX6_standsAt, ⟨by decide, by decide⟩, by decide +kernel⟩
theorem fX6_cell_47 : mi_Pf MX6_cell 47 6 8 .int := ⟨54, RX6, TX6, 21, tyX6, mi_cl6, by decide, dX6_cell_47, by decide +kernel, Or.inl ⟨rfl, Or.inl (mi_in 654 (by decide +kernel) rfl)⟩⟩
theorem fX6_cell_51 : mi_Gf MX6_cell 51 6 8 := ⟨54, RX6, TX6, 21, tyX6, mi_cl6, by decide, dX6_cell_51, Or.inl (mi_in 654 (by decide +kernel) rfl)⟩
theorem fX6_cell_59 : mi_Gf MX6_cell 59 6 1 := ⟨7, RX6, TX6, 21, tyX6, mi_cl6, by decide, dX6_cell_59, Or.inl (mi_in 647 (by decide +kernel) rfl)⟩
theorem fX6_cell_66 : mi_Gf MX6_cell 66 6 2 := ⟨13, RX6, TX6, 21, tyX6, mi_cl6, by decide, dX6_cell_66, Or.inl (mi_in 648 (by decide +kernel) rfl)⟩
theorem fX6_axles_5 : mi_Is MX6_axles MX6_within 5 3 := ⟨60, yX6_within, dX6_axles_5, Or.inl (mi_in 718 (by decide +kernel) rfl), (mi_in 719 (by decide +kernel) rfl), (mi_in 8 (by decide +kernel) rfl), meX6_within, ⟨by decide, by decide⟩, by decide +kernel⟩
theorem fX6_axles_15 : mi_Is MX6_axles MX6_within 15 3 := ⟨60, yX6_within, dX6_axles_15, Or.inl (mi_in 718 (by decide +kernel) rfl), (mi_in 719 (by decide +kernel) rfl), (mi_in 8 (by decide +kernel) rfl), meX6_within, ⟨by decide, by decide⟩, by decide +kernel⟩
theorem fX6_axles_31 : mi_Is MX6_axles MX6_within 31 3 := ⟨60, yX6_within, dX6_axles_31, Or.inl (mi_in 718 (by decide +kernel) rfl), (mi_in 719 (by decide +kernel) rfl), (mi_in 8 (by decide +kernel) rfl), meX6_within, ⟨by decide, by decide⟩, by decide +kernel⟩
theorem fX6_axles_43 : mi_Is MX6_axles MX6_within 43 3 := ⟨60, yX6_within, dX6_axles_43, Or.inl (mi_in 718 (by decide +kernel) rfl), (mi_in 719 (by decide +kernel) rfl), (mi_in 8 (by decide +kernel) rfl), meX6_within, ⟨by decide, by decide⟩, by decide +kernel⟩
theorem fX6_axles_54 : mi_Pf MX6_axles 54 6 8 .int := ⟨54, RX6, TX6, 21, tyX6, mi_cl6, by decide, dX6_axles_54, by decide +kernel, Or.inl ⟨rfl, Or.inl (mi_in 654 (by decide +kernel) rfl)⟩⟩
theorem fX6_axles_58 : mi_Gf MX6_axles 58 6 8 := ⟨54, RX6, TX6, 21, tyX6, mi_cl6, by decide, dX6_axles_58, Or.inl (mi_in 654 (by decide +kernel) rfl)⟩
theorem fX6_axles_67 : mi_Pf MX6_axles 67 6 3 .int := ⟨68, RX6, TX6, 21, tyX6, mi_cl6, by decide, dX6_axles_67, by decide +kernel, Or.inl ⟨rfl, Or.inl (mi_in 649 (by decide +kernel) rfl)⟩⟩
theorem fX6_axles_72 : mi_Pf MX6_axles 72 6 4 .int := ⟨17, RX6, TX6, 21, tyX6, mi_cl6, by decide, dX6_axles_72, by decide +kernel, Or.inl ⟨rfl, Or.inl (mi_in 650 (by decide +kernel) rfl)⟩⟩
theorem fX6_axles_77 : mi_Pf MX6_axles 77 6 5 .int := ⟨21, RX6, TX6, 21, tyX6, mi_cl6, by decide, dX6_axles_77, by decide +kernel, Or.inl ⟨rfl, Or.inl (mi_in 651 (by decide +kernel) rfl)⟩⟩
theorem fX6_axles_83 : mi_Pf MX6_axles 83 6 6 .int := ⟨24, RX6, TX6, 21, tyX6, mi_cl6, by decide, dX6_axles_83, by decide +kernel, Or.inl ⟨rfl, Or.inl (mi_in 652 (by decide +kernel) rfl)⟩⟩
theorem fX6_pallet_5 : mi_Is MX6_pallet MX6_within 5 3 := ⟨60, yX6_within, dX6_pallet_5, Or.inl (mi_in 718 (by decide +kernel) rfl), (mi_in 719 (by decide +kernel) rfl), (mi_in 8 (by decide +kernel) rfl), meX6_within, ⟨by decide, by decide⟩, by decide +kernel⟩
theorem fX6_pallet_16 : mi_Is MX6_pallet MX6_within 16 3 := ⟨60, yX6_within, dX6_pallet_16, Or.inl (mi_in 718 (by decide +kernel) rfl), (mi_in 719 (by decide +kernel) rfl), (mi_in 8 (by decide +kernel) rfl), meX6_within, ⟨by decide, by decide⟩, by decide +kernel⟩
theorem fX6_pallet_27 : mi_Is MX6_pallet MX6_within 27 3 := ⟨60, yX6_within, dX6_pallet_27, Or.inl (mi_in 718 (by decide +kernel) rfl), (mi_in 719 (by decide +kernel) rfl), (mi_in 8 (by decide +kernel) rfl), meX6_within, ⟨by decide, by decide⟩, by decide +kernel⟩
theorem fX6_pallet_51 : mi_Gf MX6_pallet 51 6 17 := ⟨71, RX6, TX6, 21, tyX6, mi_cl6, by decide, dX6_pallet_51, Or.inl (mi_in 663 (by decide +kernel) rfl)⟩
theorem fX6_pallet_62 : mi_Gf MX6_pallet 62 6 7 := ⟨57, RX6, TX6, 21, tyX6, mi_cl6, by decide, dX6_pallet_62, Or.inl (mi_in 653 (by decide +kernel) rfl)⟩
theorem fX6_pallet_75 : mi_Pf MX6_pallet 75 6 8 .int := ⟨54, RX6, TX6, 21, tyX6, mi_cl6, by decide, dX6_pallet_75, by decide +kernel, Or.inl ⟨rfl, Or.inl (mi_in 654 (by decide +kernel) rfl)⟩⟩
theorem fX6_pallet_79 : mi_Gf MX6_pallet 79 6 8 := ⟨54, RX6, TX6, 21, tyX6, mi_cl6, by decide, dX6_pallet_79, Or.inl (mi_in 654 (by decide +kernel) rfl)⟩
theorem fX6_pallet_88 : mi_Gf MX6_pallet 88 6 9 := ⟨27, RX6, TX6, 21, tyX6, mi_cl6, by decide, dX6_pallet_88, Or.inl (mi_in 655 (by decide +kernel) rfl)⟩
theorem fX6_pallet_92 : mi_Gf MX6_pallet 92 6 7 := ⟨57, RX6, TX6, 21, tyX6, mi_cl6, by decide, dX6_pallet_92, Or.inl (mi_in 653 (by decide +kernel) rfl)⟩
theorem fX6_pallet_98 : mi_Gf MX6_pallet 98 6 10 := ⟨30, RX6, TX6, 21, tyX6, mi_cl6, by decide, dX6_pallet_98, Or.inl (mi_in 656 (by decide +kernel) rfl)⟩
theorem fX6_pallet_102 : mi_Gf MX6_pallet 102 6 7 := ⟨57, RX6, TX6, 21, tyX6, mi_cl6, by decide, dX6_pallet_102, Or.inl (mi_in 653 (by decide +kernel) rfl)⟩
theorem fX6_pallet_108 : mi_Gf MX6_pallet 108 6 11 := ⟨33, RX6, TX6, 21, tyX6, mi_cl6, by decide, dX6_pallet_108, Or.inl (mi_in 657 (by decide +kernel) rfl)⟩
theorem fX6_pallet_112 : mi_Gf MX6_pallet 112 6 7 := ⟨57, RX6, TX6, 21, tyX6, mi_cl6, by decide, dX6_pallet_112, Or.inl (mi_in 653 (by decide +kernel) rfl)⟩
theorem fX6_pallet_118 : mi_Gf MX6_pallet 118 6 12 := ⟨36, RX6, TX6, 21, tyX6, mi_cl6, by decide, dX6_pallet_118, Or.inl (mi_in 658 (by decide +kernel) rfl)⟩
theorem fX6_pallet_122 : mi_Gf MX6_pallet 122 6 7 := ⟨57, RX6, TX6, 21, tyX6, mi_cl6, by decide, dX6_pallet_122, Or.inl (mi_in 653 (by decide +kernel) rfl)⟩
theorem fX6_pallet_129 : mi_Gf MX6_pallet 129 6 13 := ⟨39, RX6, TX6, 21, tyX6, mi_cl6, by decide, dX6_pallet_129, Or.inl (mi_in 659 (by decide +kernel) rfl)⟩
theorem fX6_pallet_133 : mi_Gf MX6_pallet 133 6 7 := ⟨57, RX6, TX6, 21, tyX6, mi_cl6, by decide, dX6_pallet_133, Or.inl (mi_in 653 (by decide +kernel) rfl)⟩
theorem fX6_pallet_140 : mi_Gf MX6_pallet 140 6 14 := ⟨42, RX6, TX6, 21, tyX6, mi_cl6, by decide, dX6_pallet_140, Or.inl (mi_in 660 (by decide +kernel) rfl)⟩
theorem fX6_pallet_144 : mi_Gf MX6_pallet 144 6 7 := ⟨57, RX6, TX6, 21, tyX6, mi_cl6, by decide, dX6_pallet_144, Or.inl (mi_in 653 (by decide +kernel) rfl)⟩
theorem fX6_pallet_151 : mi_Gf MX6_pallet 151 6 7 := ⟨57, RX6, TX6, 21, tyX6, mi_cl6, by decide, dX6_pallet_151, Or.inl (mi_in 653 (by decide +kernel) rfl)⟩
theorem fX6_pallet_156 : mi_Pf MX6_pallet 156 6 7 .int := ⟨57, RX6, TX6, 21, tyX6, mi_cl6, by decide, dX6_pallet_156, by decide +kernel, Or.inl ⟨rfl, Or.inl (mi_in 653 (by decide +kernel) rfl)⟩⟩
theorem fX6_pallet_160 : mi_Gf MX6_pallet 160 6 7 := ⟨57, RX6, TX6, 21, tyX6, mi_cl6, by decide, dX6_pallet_160, Or.inl (mi_in 653 (by decide +kernel) rfl)⟩
theorem fX6_standsAt_4 : mi_Gf MX6_standsAt 4 6 7 := ⟨57, RX6, TX6, 21, tyX6, mi_cl6, by decide, dX6_standsAt_4, Or.inl (mi_in 653 (by decide +kernel) rfl)⟩
theorem fX6_standsAt_11 : mi_Gf MX6_standsAt 11 6 14 := ⟨42, RX6, TX6, 21, tyX6, mi_cl6, by decide, dX6_standsAt_11, Or.inl (mi_in 660 (by decide +kernel) rfl)⟩
theorem fX6_load_6 : mi_Gf MX6_load 6 6 7 := ⟨57, RX6, TX6, 21, tyX6, mi_cl6, by decide, dX6_load_6, Or.inl (mi_in 653 (by decide +kernel) rfl)⟩
theorem fX6_load_13 : mi_Gf MX6_load 13 6 14 := ⟨42, RX6, TX6, 21, tyX6, mi_cl6, by decide, dX6_load_13, Or.inl (mi_in 660 (by decide +kernel) rfl)⟩
theorem fX6_load_24 : mi_Gf MX6_load 24 6 9 := ⟨27, RX6, TX6, 21, tyX6, mi_cl6, by decide, dX6_load_24, Or.inl (mi_in 655 (by decide +kernel) rfl)⟩
theorem fX6_load_35 : mi_Gf MX6_load 35 6 14 := ⟨42, RX6, TX6, 21, tyX6, mi_cl6, by decide, dX6_load_35, Or.inl (mi_in 660 (by decide +kernel) rfl)⟩
theorem fX6_load_41 : mi_Gf MX6_load 41 6 3 := ⟨68, RX6, TX6, 21, tyX6, mi_cl6, by decide, dX6_load_41, Or.inl (mi_in 649 (by decide +kernel) rfl)⟩
theorem fX6_load_49 : mi_Gf MX6_load 49 6 4 := ⟨17, RX6, TX6, 21, tyX6, mi_cl6, by decide, dX6_load_49, Or.inl (mi_in 650 (by decide +kernel) rfl)⟩
theorem fX6_load_53 : mi_Gf MX6_load 53 6 14 := ⟨42, RX6, TX6, 21, tyX6, mi_cl6, by decide, dX6_load_53, Or.inl (mi_in 660 (by decide +kernel) rfl)⟩
theorem fX6_axlesBear_2 : mi_Iv MX6_axlesBear MX6_load 2 6 1 := ⟨75, yX6_load, _, dX6_axlesBear_2, rfl, Or.inl (mi_in 765 (by decide +kernel) rfl), (mi_in 767 (by decide +kernel) rfl), (mi_inP 48 (by decide +kernel) rfl), meX6_load, ⟨by decide, by decide⟩, by decide +kernel⟩
theorem fX6_axlesBear_6 : mi_Gf MX6_axlesBear 6 6 5 := ⟨21, RX6, TX6, 21, tyX6, mi_cl6, by decide, dX6_axlesBear_6, Or.inl (mi_in 651 (by decide +kernel) rfl)⟩
theorem fX6_axlesBear_10 : mi_Gf MX6_axlesBear 10 6 4 := ⟨17, RX6, TX6, 21, tyX6, mi_cl6, by decide, dX6_axlesBear_10, Or.inl (mi_in 650 (by decide +kernel) rfl)⟩
theorem fX6_axlesBear_14 : mi_Gf MX6_axlesBear 14 6 3 := ⟨68, RX6, TX6, 21, tyX6, mi_cl6, by decide, dX6_axlesBear_14, Or.inl (mi_in 649 (by decide +kernel) rfl)⟩
theorem fX6_axlesBear_24 : mi_Iv MX6_axlesBear MX6_load 24 6 1 := ⟨75, yX6_load, _, dX6_axlesBear_24, rfl, Or.inl (mi_in 765 (by decide +kernel) rfl), (mi_in 767 (by decide +kernel) rfl), (mi_inP 48 (by decide +kernel) rfl), meX6_load, ⟨by decide, by decide⟩, by decide +kernel⟩
theorem fX6_axlesBear_28 : mi_Gf MX6_axlesBear 28 6 6 := ⟨24, RX6, TX6, 21, tyX6, mi_cl6, by decide, dX6_axlesBear_28, Or.inl (mi_in 652 (by decide +kernel) rfl)⟩
theorem fX6_axlesBear_32 : mi_Gf MX6_axlesBear 32 6 4 := ⟨17, RX6, TX6, 21, tyX6, mi_cl6, by decide, dX6_axlesBear_32, Or.inl (mi_in 650 (by decide +kernel) rfl)⟩
theorem fX6_axlesBear_36 : mi_Gf MX6_axlesBear 36 6 3 := ⟨68, RX6, TX6, 21, tyX6, mi_cl6, by decide, dX6_axlesBear_36, Or.inl (mi_in 649 (by decide +kernel) rfl)⟩
theorem fX6_keepsOff_6 : mi_Gf MX6_keepsOff 6 6 1 := ⟨7, RX6, TX6, 21, tyX6, mi_cl6, by decide, dX6_keepsOff_6, Or.inl (mi_in 647 (by decide +kernel) rfl)⟩
theorem fX6_keepsOff_12 : mi_Gf MX6_keepsOff 12 6 13 := ⟨39, RX6, TX6, 21, tyX6, mi_cl6, by decide, dX6_keepsOff_12, Or.inl (mi_in 659 (by decide +kernel) rfl)⟩
theorem fX6_keepsOff_32 : mi_Gf MX6_keepsOff 32 6 10 := ⟨30, RX6, TX6, 21, tyX6, mi_cl6, by decide, dX6_keepsOff_32, Or.inl (mi_in 656 (by decide +kernel) rfl)⟩
theorem fX6_keepsOff_41 : mi_Gf MX6_keepsOff 41 6 2 := ⟨13, RX6, TX6, 21, tyX6, mi_cl6, by decide, dX6_keepsOff_41, Or.inl (mi_in 648 (by decide +kernel) rfl)⟩
theorem fX6_keepsOff_61 : mi_Gf MX6_keepsOff 61 6 7 := ⟨57, RX6, TX6, 21, tyX6, mi_cl6, by decide, dX6_keepsOff_61, Or.inl (mi_in 653 (by decide +kernel) rfl)⟩
theorem fX6_keepsOff_78 : mi_Gf MX6_keepsOff 78 6 14 := ⟨42, RX6, TX6, 21, tyX6, mi_cl6, by decide, dX6_keepsOff_78, Or.inl (mi_in 660 (by decide +kernel) rfl)⟩
theorem fX6_keepsOff_111 : mi_Gf MX6_keepsOff 111 6 11 := ⟨33, RX6, TX6, 21, tyX6, mi_cl6, by decide, dX6_keepsOff_111, Or.inl (mi_in 657 (by decide +kernel) rfl)⟩
theorem fX6_keepsOff_120 : mi_Gf MX6_keepsOff 120 6 11 := ⟨33, RX6, TX6, 21, tyX6, mi_cl6, by decide, dX6_keepsOff_120, Or.inl (mi_in 657 (by decide +kernel) rfl)⟩
theorem fX6_keepsOff_153 : mi_Gf MX6_keepsOff 153 6 12 := ⟨36, RX6, TX6, 21, tyX6, mi_cl6, by decide, dX6_keepsOff_153, Or.inl (mi_in 658 (by decide +kernel) rfl)⟩
theorem fX6_keepsOff_159 : mi_Gf MX6_keepsOff 159 6 12 := ⟨36, RX6, TX6, 21, tyX6, mi_cl6, by decide, dX6_keepsOff_159, Or.inl (mi_in 658 (by decide +kernel) rfl)⟩
theorem fX6_keepsOff_175 : mi_Gf MX6_keepsOff 175 6 12 := ⟨36, RX6, TX6, 21, tyX6, mi_cl6, by decide, dX6_keepsOff_175, Or.inl (mi_in 658 (by decide +kernel) rfl)⟩
theorem fX6_keepsOff_181 : mi_Gf MX6_keepsOff 181 6 12 := ⟨36, RX6, TX6, 21, tyX6, mi_cl6, by decide, dX6_keepsOff_181, Or.inl (mi_in 658 (by decide +kernel) rfl)⟩
theorem fX6_bars_11 : mi_Iv MX6_bars MX6_keepsOff 11 6 3 := ⟨78, yX6_keepsOff, _, dX6_bars_11, rfl, Or.inl (mi_in 749 (by decide +kernel) rfl), (mi_in 751 (by decide +kernel) rfl), (mi_inP 44 (by decide +kernel) rfl), meX6_keepsOff, ⟨by decide, by decide⟩, by decide +kernel⟩
theorem fX6_bars_28 : mi_Iv MX6_bars MX6_axlesBearAt 28 6 2 := ⟨81, yX6_axlesBearAt, _, dX6_bars_28, rfl, Or.inl (mi_in 793 (by decide +kernel) rfl), (mi_in 795 (by decide +kernel) rfl), (mi_inP 52 (by decide +kernel) rfl), meX6_axlesBearAt, ⟨by decide, by decide⟩, by decide +kernel⟩
theorem fX6_axlesBearAt_1 : mi_Gf MX6_axlesBearAt 1 6 14 := ⟨42, RX6, TX6, 21, tyX6, mi_cl6, by decide, dX6_axlesBearAt_1, Or.inl (mi_in 660 (by decide +kernel) rfl)⟩
theorem fX6_axlesBearAt_8 : mi_Gf MX6_axlesBearAt 8 6 14 := ⟨42, RX6, TX6, 21, tyX6, mi_cl6, by decide, dX6_axlesBearAt_8, Or.inl (mi_in 660 (by decide +kernel) rfl)⟩
theorem fX6_axlesBearAt_15 : mi_Iv MX6_axlesBearAt MX6_axlesBear 15 6 0 := ⟨85, yX6_axlesBear, _, dX6_axlesBearAt_15, rfl, Or.inl (mi_in 761 (by decide +kernel) rfl), (mi_in 763 (by decide +kernel) rfl), (mi_inP 47 (by decide +kernel) rfl), meX6_axlesBear, ⟨by decide, by decide⟩, by decide +kernel⟩
theorem fX6_axlesBearAt_21 : mi_Gf MX6_axlesBearAt 21 6 14 := ⟨42, RX6, TX6, 21, tyX6, mi_cl6, by decide, dX6_axlesBearAt_21, Or.inl (mi_in 660 (by decide +kernel) rfl)⟩
theorem fX6_standing_6 : mi_Gf MX6_standing 6 6 7 := ⟨57, RX6, TX6, 21, tyX6, mi_cl6, by decide, dX6_standing_6, Or.inl (mi_in 653 (by decide +kernel) rfl)⟩
theorem fX6_standing_13 : mi_Gf MX6_standing 13 6 14 := ⟨42, RX6, TX6, 21, tyX6, mi_cl6, by decide, dX6_standing_13, Or.inl (mi_in 660 (by decide +kernel) rfl)⟩
theorem fX6_standingWeight_6 : mi_Gf MX6_standingWeight 6 6 7 := ⟨57, RX6, TX6, 21, tyX6, mi_cl6, by decide, dX6_standingWeight_6, Or.inl (mi_in 653 (by decide +kernel) rfl)⟩
theorem fX6_standingWeight_13 : mi_Gf MX6_standingWeight 13 6 14 := ⟨42, RX6, TX6, 21, tyX6, mi_cl6, by decide, dX6_standingWeight_13, Or.inl (mi_in 660 (by decide +kernel) rfl)⟩
theorem fX6_standingWeight_24 : mi_Gf MX6_standingWeight 24 6 9 := ⟨27, RX6, TX6, 21, tyX6, mi_cl6, by decide, dX6_standingWeight_24, Or.inl (mi_in 655 (by decide +kernel) rfl)⟩
theorem fX6_fits_1 : mi_Gf MX6_fits 1 6 14 := ⟨42, RX6, TX6, 21, tyX6, mi_cl6, by decide, dX6_fits_1, Or.inl (mi_in 660 (by decide +kernel) rfl)⟩
theorem fX6_fits_20 : mi_Gf MX6_fits 20 6 7 := ⟨57, RX6, TX6, 21, tyX6, mi_cl6, by decide, dX6_fits_20, Or.inl (mi_in 653 (by decide +kernel) rfl)⟩
theorem fX6_fits_27 : mi_Gf MX6_fits 27 6 14 := ⟨42, RX6, TX6, 21, tyX6, mi_cl6, by decide, dX6_fits_27, Or.inl (mi_in 660 (by decide +kernel) rfl)⟩
theorem fX6_fits_50 : mi_Iv MX6_fits MX6_keepsOff 50 6 3 := ⟨78, yX6_keepsOff, _, dX6_fits_50, rfl, Or.inl (mi_in 749 (by decide +kernel) rfl), (mi_in 751 (by decide +kernel) rfl), (mi_inP 44 (by decide +kernel) rfl), meX6_keepsOff, ⟨by decide, by decide⟩, by decide +kernel⟩
theorem fX6_nextPlace_14 : mi_Gf MX6_nextPlace 14 6 0 := ⟨51, RX6, TX6, 21, tyX6, mi_cl6, by decide, dX6_nextPlace_14, Or.inl (mi_in 646 (by decide +kernel) rfl)⟩
theorem fX6_solveExactly_12 : mi_Gf MX6_solveExactly 12 6 7 := ⟨57, RX6, TX6, 21, tyX6, mi_cl6, by decide, dX6_solveExactly_12, Or.inl (mi_in 653 (by decide +kernel) rfl)⟩
theorem fX6_solveExactly_19 : mi_Gf MX6_solveExactly 19 6 14 := ⟨42, RX6, TX6, 21, tyX6, mi_cl6, by decide, dX6_solveExactly_19, Or.inl (mi_in 660 (by decide +kernel) rfl)⟩
theorem fX6_solveExactly_27 : mi_Gf MX6_solveExactly 27 6 15 := ⟨45, RX6, TX6, 21, tyX6, mi_cl6, by decide, dX6_solveExactly_27, Or.inl (mi_in 661 (by decide +kernel) rfl)⟩
theorem fX6_solveExactly_41 : mi_Gf MX6_solveExactly 41 6 7 := ⟨57, RX6, TX6, 21, tyX6, mi_cl6, by decide, dX6_solveExactly_41, Or.inl (mi_in 653 (by decide +kernel) rfl)⟩
theorem fX6_solveExactly_49 : mi_Gf MX6_solveExactly 49 6 14 := ⟨42, RX6, TX6, 21, tyX6, mi_cl6, by decide, dX6_solveExactly_49, Or.inl (mi_in 660 (by decide +kernel) rfl)⟩
theorem fX6_solveExactly_54 : mi_Gf MX6_solveExactly 54 6 0 := ⟨51, RX6, TX6, 21, tyX6, mi_cl6, by decide, dX6_solveExactly_54, Or.inl (mi_in 646 (by decide +kernel) rfl)⟩
theorem fX6_solveExactly_71 : mi_Gf MX6_solveExactly 71 6 14 := ⟨42, RX6, TX6, 21, tyX6, mi_cl6, by decide, dX6_solveExactly_71, Or.inl (mi_in 660 (by decide +kernel) rfl)⟩
theorem fX6_solveExactly_82 : mi_Gf MX6_solveExactly 82 6 14 := ⟨42, RX6, TX6, 21, tyX6, mi_cl6, by decide, dX6_solveExactly_82, Or.inl (mi_in 660 (by decide +kernel) rfl)⟩
theorem fX6_solveExactly_96 : mi_Gf MX6_solveExactly 96 6 14 := ⟨42, RX6, TX6, 21, tyX6, mi_cl6, by decide, dX6_solveExactly_96, Or.inl (mi_in 660 (by decide +kernel) rfl)⟩
theorem fX6_solveExactly_102 : mi_Gf MX6_solveExactly 102 6 14 := ⟨42, RX6, TX6, 21, tyX6, mi_cl6, by decide, dX6_solveExactly_102, Or.inl (mi_in 660 (by decide +kernel) rfl)⟩
theorem fX6_solveExactly_107 : mi_Iv MX6_solveExactly MX6_nextPlace 107 6 1 := ⟨89, yX6_nextPlace, _, dX6_solveExactly_107, rfl, Or.inl (mi_in 741 (by decide +kernel) rfl), (mi_in 743 (by decide +kernel) rfl), (mi_inP 42 (by decide +kernel) rfl), meX6_nextPlace, ⟨by decide, by decide⟩, by decide +kernel⟩
theorem fX6_solveExactly_116 : mi_Iv MX6_solveExactly MX6_fits 116 6 1 := ⟨92, yX6_fits, _, dX6_solveExactly_116, rfl, Or.inl (mi_in 745 (by decide +kernel) rfl), (mi_in 747 (by decide +kernel) rfl), (mi_inP 43 (by decide +kernel) rfl), meX6_fits, ⟨by decide, by decide⟩, by decide +kernel⟩
theorem fX6_solveExactly_123 : mi_Gf MX6_solveExactly 123 6 14 := ⟨42, RX6, TX6, 21, tyX6, mi_cl6, by decide, dX6_solveExactly_123, Or.inl (mi_in 660 (by decide +kernel) rfl)⟩
theorem fX6_solveExactly_129 : mi_Gf MX6_solveExactly 129 6 14 := ⟨42, RX6, TX6, 21, tyX6, mi_cl6, by decide, dX6_solveExactly_129, Or.inl (mi_in 660 (by decide +kernel) rfl)⟩
theorem fX6_solveExactly_134 : mi_Iv MX6_solveExactly MX6_nextPlace 134 6 1 := ⟨89, yX6_nextPlace, _, dX6_solveExactly_134, rfl, Or.inl (mi_in 741 (by decide +kernel) rfl), (mi_in 743 (by decide +kernel) rfl), (mi_inP 42 (by decide +kernel) rfl), meX6_nextPlace, ⟨by decide, by decide⟩, by decide +kernel⟩
theorem fX6_solveExactly_145 : mi_Gf MX6_solveExactly 145 6 7 := ⟨57, RX6, TX6, 21, tyX6, mi_cl6, by decide, dX6_solveExactly_145, Or.inl (mi_in 653 (by decide +kernel) rfl)⟩
theorem fX6_solveExactly_155 : mi_Gf MX6_solveExactly 155 6 14 := ⟨42, RX6, TX6, 21, tyX6, mi_cl6, by decide, dX6_solveExactly_155, Or.inl (mi_in 660 (by decide +kernel) rfl)⟩
theorem fX6_solveExactly_160 : mi_Gf MX6_solveExactly 160 6 0 := ⟨51, RX6, TX6, 21, tyX6, mi_cl6, by decide, dX6_solveExactly_160, Or.inl (mi_in 646 (by decide +kernel) rfl)⟩
theorem fX6_solveExactly_176 : mi_Iv MX6_solveExactly MX6_standing 176 6 0 := ⟨96, yX6_standing, _, dX6_solveExactly_176, rfl, Or.inl (mi_in 753 (by decide +kernel) rfl), (mi_in 755 (by decide +kernel) rfl), (mi_inP 45 (by decide +kernel) rfl), meX6_standing, ⟨by decide, by decide⟩, by decide +kernel⟩
theorem fX6_solveExactly_182 : mi_Iv MX6_solveExactly MX6_standingWeight 182 6 0 := ⟨100, yX6_standingWeight, _, dX6_solveExactly_182, rfl, Or.inl (mi_in 757 (by decide +kernel) rfl), (mi_in 759 (by decide +kernel) rfl), (mi_inP 46 (by decide +kernel) rfl), meX6_standingWeight, ⟨by decide, by decide⟩, by decide +kernel⟩
theorem fX6_solveExactly_206 : mi_Iv MX6_solveExactly MX6_axlesBear 206 6 0 := ⟨85, yX6_axlesBear, _, dX6_solveExactly_206, rfl, Or.inl (mi_in 761 (by decide +kernel) rfl), (mi_in 763 (by decide +kernel) rfl), (mi_inP 47 (by decide +kernel) rfl), meX6_axlesBear, ⟨by decide, by decide⟩, by decide +kernel⟩
theorem fX6_solveExactly_224 : mi_Gf MX6_solveExactly 224 6 7 := ⟨57, RX6, TX6, 21, tyX6, mi_cl6, by decide, dX6_solveExactly_224, Or.inl (mi_in 653 (by decide +kernel) rfl)⟩
theorem fX6_solveExactly_231 : mi_Gf MX6_solveExactly 231 6 15 := ⟨45, RX6, TX6, 21, tyX6, mi_cl6, by decide, dX6_solveExactly_231, Or.inl (mi_in 661 (by decide +kernel) rfl)⟩
theorem fX6_solveExactly_237 : mi_Gf MX6_solveExactly 237 6 14 := ⟨42, RX6, TX6, 21, tyX6, mi_cl6, by decide, dX6_solveExactly_237, Or.inl (mi_in 660 (by decide +kernel) rfl)⟩
theorem fX6_solveExactly_251 : mi_Gf MX6_solveExactly 251 6 14 := ⟨42, RX6, TX6, 21, tyX6, mi_cl6, by decide, dX6_solveExactly_251, Or.inl (mi_in 660 (by decide +kernel) rfl)⟩
theorem fX6_solveExactly_257 : mi_Gf MX6_solveExactly 257 6 14 := ⟨42, RX6, TX6, 21, tyX6, mi_cl6, by decide, dX6_solveExactly_257, Or.inl (mi_in 660 (by decide +kernel) rfl)⟩
theorem fX6_solveExactly_262 : mi_Iv MX6_solveExactly MX6_nextPlace 262 6 1 := ⟨89, yX6_nextPlace, _, dX6_solveExactly_262, rfl, Or.inl (mi_in 741 (by decide +kernel) rfl), (mi_in 743 (by decide +kernel) rfl), (mi_inP 42 (by decide +kernel) rfl), meX6_nextPlace, ⟨by decide, by decide⟩, by decide +kernel⟩
theorem fX6_solveExactly_275 : mi_Gf MX6_solveExactly 275 6 7 := ⟨57, RX6, TX6, 21, tyX6, mi_cl6, by decide, dX6_solveExactly_275, Or.inl (mi_in 653 (by decide +kernel) rfl)⟩
theorem fX6_solveExactly_282 : mi_Gf MX6_solveExactly 282 6 14 := ⟨42, RX6, TX6, 21, tyX6, mi_cl6, by decide, dX6_solveExactly_282, Or.inl (mi_in 660 (by decide +kernel) rfl)⟩
theorem fX6_solveExactly_288 : mi_Gf MX6_solveExactly 288 6 15 := ⟨45, RX6, TX6, 21, tyX6, mi_cl6, by decide, dX6_solveExactly_288, Or.inl (mi_in 661 (by decide +kernel) rfl)⟩
theorem fX6_solveByRule_4 : mi_Gf MX6_solveByRule 4 6 7 := ⟨57, RX6, TX6, 21, tyX6, mi_cl6, by decide, dX6_solveByRule_4, Or.inl (mi_in 653 (by decide +kernel) rfl)⟩
theorem fX6_solveByRule_11 : mi_Gf MX6_solveByRule 11 6 14 := ⟨42, RX6, TX6, 21, tyX6, mi_cl6, by decide, dX6_solveByRule_11, Or.inl (mi_in 660 (by decide +kernel) rfl)⟩
theorem fX6_solveByRule_36 : mi_Gf MX6_solveByRule 36 6 7 := ⟨57, RX6, TX6, 21, tyX6, mi_cl6, by decide, dX6_solveByRule_36, Or.inl (mi_in 653 (by decide +kernel) rfl)⟩
theorem fX6_solveByRule_43 : mi_Gf MX6_solveByRule 43 6 12 := ⟨36, RX6, TX6, 21, tyX6, mi_cl6, by decide, dX6_solveByRule_43, Or.inl (mi_in 658 (by decide +kernel) rfl)⟩
theorem fX6_solveByRule_60 : mi_Gf MX6_solveByRule 60 6 0 := ⟨51, RX6, TX6, 21, tyX6, mi_cl6, by decide, dX6_solveByRule_60, Or.inl (mi_in 646 (by decide +kernel) rfl)⟩
theorem fX6_solveByRule_71 : mi_Iv MX6_solveByRule MX6_keepsOff 71 6 3 := ⟨78, yX6_keepsOff, _, dX6_solveByRule_71, rfl, Or.inl (mi_in 749 (by decide +kernel) rfl), (mi_in 751 (by decide +kernel) rfl), (mi_inP 44 (by decide +kernel) rfl), meX6_keepsOff, ⟨by decide, by decide⟩, by decide +kernel⟩
theorem fX6_solveByRule_82 : mi_Iv MX6_solveByRule MX6_keepsOff 82 6 3 := ⟨78, yX6_keepsOff, _, dX6_solveByRule_82, rfl, Or.inl (mi_in 749 (by decide +kernel) rfl), (mi_in 751 (by decide +kernel) rfl), (mi_inP 44 (by decide +kernel) rfl), meX6_keepsOff, ⟨by decide, by decide⟩, by decide +kernel⟩
theorem fX6_solveByRule_93 : mi_Iv MX6_solveByRule MX6_keepsOff 93 6 3 := ⟨78, yX6_keepsOff, _, dX6_solveByRule_93, rfl, Or.inl (mi_in 749 (by decide +kernel) rfl), (mi_in 751 (by decide +kernel) rfl), (mi_inP 44 (by decide +kernel) rfl), meX6_keepsOff, ⟨by decide, by decide⟩, by decide +kernel⟩
theorem fX6_solveByRule_104 : mi_Iv MX6_solveByRule MX6_keepsOff 104 6 3 := ⟨78, yX6_keepsOff, _, dX6_solveByRule_104, rfl, Or.inl (mi_in 749 (by decide +kernel) rfl), (mi_in 751 (by decide +kernel) rfl), (mi_inP 44 (by decide +kernel) rfl), meX6_keepsOff, ⟨by decide, by decide⟩, by decide +kernel⟩
theorem fX6_solveByRule_119 : mi_Gf MX6_solveByRule 119 6 0 := ⟨51, RX6, TX6, 21, tyX6, mi_cl6, by decide, dX6_solveByRule_119, Or.inl (mi_in 646 (by decide +kernel) rfl)⟩
theorem fX6_solveByRule_126 : mi_Gf MX6_solveByRule 126 6 14 := ⟨42, RX6, TX6, 21, tyX6, mi_cl6, by decide, dX6_solveByRule_126, Or.inl (mi_in 660 (by decide +kernel) rfl)⟩
theorem fX6_solve_4 : mi_Is MX6_solve MX6_within 4 3 := ⟨60, yX6_within, dX6_solve_4, Or.inl (mi_in 718 (by decide +kernel) rfl), (mi_in 719 (by decide +kernel) rfl), (mi_in 8 (by decide +kernel) rfl), meX6_within, ⟨by decide, by decide⟩, by decide +kernel⟩
theorem fX6_solve_15 : mi_Gf MX6_solve 15 6 17 := ⟨71, RX6, TX6, 21, tyX6, mi_cl6, by decide, dX6_solve_15, Or.inl (mi_in 663 (by decide +kernel) rfl)⟩
theorem fX6_solve_22 : mi_Gf MX6_solve 22 6 18 := ⟨103, RX6, TX6, 21, tyX6, mi_cl6, by decide, dX6_solve_22, Or.inl (mi_in 664 (by decide +kernel) rfl)⟩
theorem fX6_solve_33 : mi_Pf MX6_solve 33 6 8 .int := ⟨54, RX6, TX6, 21, tyX6, mi_cl6, by decide, dX6_solve_33, by decide +kernel, Or.inl ⟨rfl, Or.inl (mi_in 654 (by decide +kernel) rfl)⟩⟩
theorem fX6_solve_37 : mi_Gf MX6_solve 37 6 8 := ⟨54, RX6, TX6, 21, tyX6, mi_cl6, by decide, dX6_solve_37, Or.inl (mi_in 654 (by decide +kernel) rfl)⟩
theorem fX6_solve_47 : mi_Gf MX6_solve 47 6 7 := ⟨57, RX6, TX6, 21, tyX6, mi_cl6, by decide, dX6_solve_47, Or.inl (mi_in 653 (by decide +kernel) rfl)⟩
theorem fX6_solve_59 : mi_Pf MX6_solve 59 6 16 .boolean := ⟨106, RX6, TX6, 21, tyX6, mi_cl6, by decide, dX6_solve_59, by decide +kernel, Or.inl ⟨rfl, Or.inl (mi_in 662 (by decide +kernel) rfl)⟩⟩
theorem fX6_solve_63 : mi_Gf MX6_solve 63 6 16 := ⟨106, RX6, TX6, 21, tyX6, mi_cl6, by decide, dX6_solve_63, Or.inl (mi_in 662 (by decide +kernel) rfl)⟩
theorem fX6_solve_70 : mi_Iv MX6_solve MX6_solveExactly 70 6 0 := ⟨109, yX6_solveExactly, _, dX6_solve_70, rfl, Or.inl (mi_in 737 (by decide +kernel) rfl), (mi_in 739 (by decide +kernel) rfl), (mi_inP 41 (by decide +kernel) rfl), meX6_solveExactly, ⟨by decide, by decide⟩, by decide +kernel⟩
theorem fX6_solve_77 : mi_Iv MX6_solve MX6_solveByRule 77 6 0 := ⟨112, yX6_solveByRule, _, dX6_solve_77, rfl, Or.inl (mi_in 769 (by decide +kernel) rfl), (mi_in 771 (by decide +kernel) rfl), (mi_inP 49 (by decide +kernel) rfl), meX6_solveByRule, ⟨by decide, by decide⟩, by decide +kernel⟩
theorem fX6_solve_81 : mi_Iv MX6_solve MX6_standing 81 6 0 := ⟨96, yX6_standing, _, dX6_solve_81, rfl, Or.inl (mi_in 753 (by decide +kernel) rfl), (mi_in 755 (by decide +kernel) rfl), (mi_inP 45 (by decide +kernel) rfl), meX6_standing, ⟨by decide, by decide⟩, by decide +kernel⟩
theorem fX6_exact_2 : mi_Pf MX6_exact 2 6 8 .int := ⟨54, RX6, TX6, 21, tyX6, mi_cl6, by decide, dX6_exact_2, by decide +kernel, Or.inl ⟨rfl, Or.inl (mi_in 654 (by decide +kernel) rfl)⟩⟩
theorem fX6_exact_6 : mi_Gf MX6_exact 6 6 16 := ⟨106, RX6, TX6, 21, tyX6, mi_cl6, by decide, dX6_exact_6, Or.inl (mi_in 662 (by decide +kernel) rfl)⟩
theorem fX6_bound_2 : mi_Pf MX6_bound 2 6 8 .int := ⟨54, RX6, TX6, 21, tyX6, mi_cl6, by decide, dX6_bound_2, by decide +kernel, Or.inl ⟨rfl, Or.inl (mi_in 654 (by decide +kernel) rfl)⟩⟩
theorem fX6_bound_11 : mi_Gf MX6_bound 11 6 7 := ⟨57, RX6, TX6, 21, tyX6, mi_cl6, by decide, dX6_bound_11, Or.inl (mi_in 653 (by decide +kernel) rfl)⟩
theorem fX6_bound_25 : mi_Gf MX6_bound 25 6 0 := ⟨51, RX6, TX6, 21, tyX6, mi_cl6, by decide, dX6_bound_25, Or.inl (mi_in 646 (by decide +kernel) rfl)⟩
theorem fX6_bound_36 : mi_Iv MX6_bound MX6_keepsOff 36 6 3 := ⟨78, yX6_keepsOff, _, dX6_bound_36, rfl, Or.inl (mi_in 749 (by decide +kernel) rfl), (mi_in 751 (by decide +kernel) rfl), (mi_inP 44 (by decide +kernel) rfl), meX6_keepsOff, ⟨by decide, by decide⟩, by decide +kernel⟩
theorem fX6_bound_47 : mi_Iv MX6_bound MX6_keepsOff 47 6 3 := ⟨78, yX6_keepsOff, _, dX6_bound_47, rfl, Or.inl (mi_in 749 (by decide +kernel) rfl), (mi_in 751 (by decide +kernel) rfl), (mi_inP 44 (by decide +kernel) rfl), meX6_keepsOff, ⟨by decide, by decide⟩, by decide +kernel⟩
theorem fX6_bound_76 : mi_Gf MX6_bound 76 6 0 := ⟨51, RX6, TX6, 21, tyX6, mi_cl6, by decide, dX6_bound_76, Or.inl (mi_in 646 (by decide +kernel) rfl)⟩
theorem fX6_bound_87 : mi_Gf MX6_bound 87 6 0 := ⟨51, RX6, TX6, 21, tyX6, mi_cl6, by decide, dX6_bound_87, Or.inl (mi_in 646 (by decide +kernel) rfl)⟩
theorem fX6_place_3 : mi_Iv MX6_place MX6_isPallet 3 6 1 := ⟨115, yX6_isPallet, _, dX6_place_3, rfl, Or.inl (mi_in 785 (by decide +kernel) rfl), (mi_in 787 (by decide +kernel) rfl), (mi_inP 50 (by decide +kernel) rfl), meX6_isPallet, ⟨by decide, by decide⟩, by decide +kernel⟩
theorem fX6_place_16 : mi_Gf MX6_place 16 6 0 := ⟨51, RX6, TX6, 21, tyX6, mi_cl6, by decide, dX6_place_16, Or.inl (mi_in 646 (by decide +kernel) rfl)⟩
theorem fX6_place_21 : mi_Is MX6_place MX6_within 21 3 := ⟨60, yX6_within, dX6_place_21, Or.inl (mi_in 718 (by decide +kernel) rfl), (mi_in 719 (by decide +kernel) rfl), (mi_in 8 (by decide +kernel) rfl), meX6_within, ⟨by decide, by decide⟩, by decide +kernel⟩
theorem fX6_place_32 : mi_Gf MX6_place 32 6 17 := ⟨71, RX6, TX6, 21, tyX6, mi_cl6, by decide, dX6_place_32, Or.inl (mi_in 663 (by decide +kernel) rfl)⟩
theorem fX6_place_39 : mi_Gf MX6_place 39 6 18 := ⟨103, RX6, TX6, 21, tyX6, mi_cl6, by decide, dX6_place_39, Or.inl (mi_in 664 (by decide +kernel) rfl)⟩
theorem fX6_place_50 : mi_Pf MX6_place 50 6 8 .int := ⟨54, RX6, TX6, 21, tyX6, mi_cl6, by decide, dX6_place_50, by decide +kernel, Or.inl ⟨rfl, Or.inl (mi_in 654 (by decide +kernel) rfl)⟩⟩
theorem fX6_place_54 : mi_Gf MX6_place 54 6 8 := ⟨54, RX6, TX6, 21, tyX6, mi_cl6, by decide, dX6_place_54, Or.inl (mi_in 654 (by decide +kernel) rfl)⟩
theorem fX6_place_74 : mi_Iv MX6_place MX6_bars 74 6 2 := ⟨118, yX6_bars, _, dX6_place_74, rfl, Or.inl (mi_in 789 (by decide +kernel) rfl), (mi_in 791 (by decide +kernel) rfl), (mi_inP 51 (by decide +kernel) rfl), meX6_bars, ⟨by decide, by decide⟩, by decide +kernel⟩
theorem fX6_place_83 : mi_Gf MX6_place 83 6 14 := ⟨42, RX6, TX6, 21, tyX6, mi_cl6, by decide, dX6_place_83, Or.inl (mi_in 660 (by decide +kernel) rfl)⟩
theorem fX6_at_3 : mi_Iv MX6_at MX6_isPallet 3 6 1 := ⟨115, yX6_isPallet, _, dX6_at_3, rfl, Or.inl (mi_in 785 (by decide +kernel) rfl), (mi_in 787 (by decide +kernel) rfl), (mi_inP 50 (by decide +kernel) rfl), meX6_isPallet, ⟨by decide, by decide⟩, by decide +kernel⟩
theorem fX6_at_14 : mi_Pf MX6_at 14 6 8 .int := ⟨54, RX6, TX6, 21, tyX6, mi_cl6, by decide, dX6_at_14, by decide +kernel, Or.inl ⟨rfl, Or.inl (mi_in 654 (by decide +kernel) rfl)⟩⟩
theorem fX6_at_18 : mi_Gf MX6_at 18 6 8 := ⟨54, RX6, TX6, 21, tyX6, mi_cl6, by decide, dX6_at_18, Or.inl (mi_in 654 (by decide +kernel) rfl)⟩
theorem fX6_at_29 : mi_Gf MX6_at 29 6 14 := ⟨42, RX6, TX6, 21, tyX6, mi_cl6, by decide, dX6_at_29, Or.inl (mi_in 660 (by decide +kernel) rfl)⟩
theorem fX6_axle_4 : mi_Is MX6_axle MX6_within 4 3 := ⟨60, yX6_within, dX6_axle_4, Or.inl (mi_in 718 (by decide +kernel) rfl), (mi_in 719 (by decide +kernel) rfl), (mi_in 8 (by decide +kernel) rfl), meX6_within, ⟨by decide, by decide⟩, by decide +kernel⟩
theorem fX6_axle_13 : mi_Is MX6_axle MX6_within 13 3 := ⟨60, yX6_within, dX6_axle_13, Or.inl (mi_in 718 (by decide +kernel) rfl), (mi_in 719 (by decide +kernel) rfl), (mi_in 8 (by decide +kernel) rfl), meX6_within, ⟨by decide, by decide⟩, by decide +kernel⟩
theorem fX6_axle_24 : mi_Iv MX6_axle MX6_standing 24 6 0 := ⟨96, yX6_standing, _, dX6_axle_24, rfl, Or.inl (mi_in 753 (by decide +kernel) rfl), (mi_in 755 (by decide +kernel) rfl), (mi_inP 45 (by decide +kernel) rfl), meX6_standing, ⟨by decide, by decide⟩, by decide +kernel⟩
theorem fX6_axle_35 : mi_Pf MX6_axle 35 6 8 .int := ⟨54, RX6, TX6, 21, tyX6, mi_cl6, by decide, dX6_axle_35, by decide +kernel, Or.inl ⟨rfl, Or.inl (mi_in 654 (by decide +kernel) rfl)⟩⟩
theorem fX6_axle_39 : mi_Gf MX6_axle 39 6 8 := ⟨54, RX6, TX6, 21, tyX6, mi_cl6, by decide, dX6_axle_39, Or.inl (mi_in 654 (by decide +kernel) rfl)⟩
theorem fX6_axle_49 : mi_Iv MX6_axle MX6_load 49 6 1 := ⟨75, yX6_load, _, dX6_axle_49, rfl, Or.inl (mi_in 765 (by decide +kernel) rfl), (mi_in 767 (by decide +kernel) rfl), (mi_inP 48 (by decide +kernel) rfl), meX6_load, ⟨by decide, by decide⟩, by decide +kernel⟩
theorem fX6_axle_54 : mi_Gf MX6_axle 54 6 4 := ⟨17, RX6, TX6, 21, tyX6, mi_cl6, by decide, dX6_axle_54, Or.inl (mi_in 650 (by decide +kernel) rfl)⟩
theorem fX6_axle_58 : mi_Gf MX6_axle 58 6 3 := ⟨68, RX6, TX6, 21, tyX6, mi_cl6, by decide, dX6_axle_58, Or.inl (mi_in 649 (by decide +kernel) rfl)⟩
theorem fX6_axle_67 : mi_Is MX6_axle MX6_common 67 2 := ⟨122, yX6_common, dX6_axle_67, Or.inl (mi_in 805 (by decide +kernel) rfl), (mi_in 806 (by decide +kernel) rfl), (mi_in 8 (by decide +kernel) rfl), meX6_common, ⟨by decide, by decide⟩, by decide +kernel⟩
theorem fX6_isLeft_9 : mi_Iv MX6_isLeft MX6_axlesBearAt 9 6 2 := ⟨81, yX6_axlesBearAt, _, dX6_isLeft_9, rfl, Or.inl (mi_in 793 (by decide +kernel) rfl), (mi_in 795 (by decide +kernel) rfl), (mi_inP 52 (by decide +kernel) rfl), meX6_axlesBearAt, ⟨by decide, by decide⟩, by decide +kernel⟩
theorem fX6_isLeft_19 : mi_Iv MX6_isLeft MX6_keepsOff 19 6 3 := ⟨78, yX6_keepsOff, _, dX6_isLeft_19, rfl, Or.inl (mi_in 749 (by decide +kernel) rfl), (mi_in 751 (by decide +kernel) rfl), (mi_inP 44 (by decide +kernel) rfl), meX6_keepsOff, ⟨by decide, by decide⟩, by decide +kernel⟩
theorem fX6_bar_3 : mi_Iv MX6_bar MX6_isPallet 3 6 1 := ⟨115, yX6_isPallet, _, dX6_bar_3, rfl, Or.inl (mi_in 785 (by decide +kernel) rfl), (mi_in 787 (by decide +kernel) rfl), (mi_inP 50 (by decide +kernel) rfl), meX6_isPallet, ⟨by decide, by decide⟩, by decide +kernel⟩
theorem fX6_bar_14 : mi_Gf MX6_bar 14 6 14 := ⟨42, RX6, TX6, 21, tyX6, mi_cl6, by decide, dX6_bar_14, Or.inl (mi_in 660 (by decide +kernel) rfl)⟩
theorem fX6_bar_28 : mi_Pf MX6_bar 28 6 8 .int := ⟨54, RX6, TX6, 21, tyX6, mi_cl6, by decide, dX6_bar_28, by decide +kernel, Or.inl ⟨rfl, Or.inl (mi_in 654 (by decide +kernel) rfl)⟩⟩
theorem fX6_bar_32 : mi_Gf MX6_bar 32 6 8 := ⟨54, RX6, TX6, 21, tyX6, mi_cl6, by decide, dX6_bar_32, Or.inl (mi_in 654 (by decide +kernel) rfl)⟩
theorem fX6_bar_56 : mi_Gf MX6_bar 56 6 0 := ⟨51, RX6, TX6, 21, tyX6, mi_cl6, by decide, dX6_bar_56, Or.inl (mi_in 646 (by decide +kernel) rfl)⟩
theorem fX6_bar_85 : mi_Iv MX6_bar MX6_isLeft 85 6 3 := ⟨125, yX6_isLeft, _, dX6_bar_85, rfl, Or.inl (mi_in 812 (by decide +kernel) rfl), (mi_in 814 (by decide +kernel) rfl), (mi_inP 53 (by decide +kernel) rfl), meX6_isLeft, ⟨by decide, by decide⟩, by decide +kernel⟩
theorem fX6_change_3 : mi_Iv MX6_change MX6_isPallet 3 6 1 := ⟨115, yX6_isPallet, _, dX6_change_3, rfl, Or.inl (mi_in 785 (by decide +kernel) rfl), (mi_in 787 (by decide +kernel) rfl), (mi_inP 50 (by decide +kernel) rfl), meX6_isPallet, ⟨by decide, by decide⟩, by decide +kernel⟩
theorem fX6_change_17 : mi_Is MX6_change MX6_within 17 3 := ⟨60, yX6_within, dX6_change_17, Or.inl (mi_in 718 (by decide +kernel) rfl), (mi_in 719 (by decide +kernel) rfl), (mi_in 8 (by decide +kernel) rfl), meX6_within, ⟨by decide, by decide⟩, by decide +kernel⟩
theorem fX6_change_28 : mi_Gf MX6_change 28 6 17 := ⟨71, RX6, TX6, 21, tyX6, mi_cl6, by decide, dX6_change_28, Or.inl (mi_in 663 (by decide +kernel) rfl)⟩
theorem fX6_change_39 : mi_Pf MX6_change 39 6 8 .int := ⟨54, RX6, TX6, 21, tyX6, mi_cl6, by decide, dX6_change_39, by decide +kernel, Or.inl ⟨rfl, Or.inl (mi_in 654 (by decide +kernel) rfl)⟩⟩
theorem fX6_change_43 : mi_Gf MX6_change 43 6 8 := ⟨54, RX6, TX6, 21, tyX6, mi_cl6, by decide, dX6_change_43, Or.inl (mi_in 654 (by decide +kernel) rfl)⟩
theorem fX6_change_52 : mi_Gf MX6_change 52 6 12 := ⟨36, RX6, TX6, 21, tyX6, mi_cl6, by decide, dX6_change_52, Or.inl (mi_in 658 (by decide +kernel) rfl)⟩
theorem fX6_change_59 : mi_Gf MX6_change 59 6 12 := ⟨36, RX6, TX6, 21, tyX6, mi_cl6, by decide, dX6_change_59, Or.inl (mi_in 658 (by decide +kernel) rfl)⟩
theorem fX6_change_66 : mi_Gf MX6_change 66 6 14 := ⟨42, RX6, TX6, 21, tyX6, mi_cl6, by decide, dX6_change_66, Or.inl (mi_in 660 (by decide +kernel) rfl)⟩
theorem fX6_change_79 : mi_Gf MX6_change 79 6 14 := ⟨42, RX6, TX6, 21, tyX6, mi_cl6, by decide, dX6_change_79, Or.inl (mi_in 660 (by decide +kernel) rfl)⟩
theorem fX6_change_84 : mi_Iv MX6_change MX6_keepsOff 84 6 3 := ⟨78, yX6_keepsOff, _, dX6_change_84, rfl, Or.inl (mi_in 749 (by decide +kernel) rfl), (mi_in 751 (by decide +kernel) rfl), (mi_inP 44 (by decide +kernel) rfl), meX6_keepsOff, ⟨by decide, by decide⟩, by decide +kernel⟩
theorem fX6_change_91 : mi_Gf MX6_change 91 6 12 := ⟨36, RX6, TX6, 21, tyX6, mi_cl6, by decide, dX6_change_91, Or.inl (mi_in 658 (by decide +kernel) rfl)⟩
theorem fX6_doors_6 : mi_Gf MX6_doors 6 6 18 := ⟨103, RX6, TX6, 21, tyX6, mi_cl6, by decide, dX6_doors_6, Or.inl (mi_in 664 (by decide +kernel) rfl)⟩
theorem fX6_doors_17 : mi_Pf MX6_doors 17 6 8 .int := ⟨54, RX6, TX6, 21, tyX6, mi_cl6, by decide, dX6_doors_17, by decide +kernel, Or.inl ⟨rfl, Or.inl (mi_in 654 (by decide +kernel) rfl)⟩⟩
theorem fX6_doors_21 : mi_Gf MX6_doors 21 6 8 := ⟨54, RX6, TX6, 21, tyX6, mi_cl6, by decide, dX6_doors_21, Or.inl (mi_in 654 (by decide +kernel) rfl)⟩
theorem fX6_doors_30 : mi_Gf MX6_doors 30 6 17 := ⟨71, RX6, TX6, 21, tyX6, mi_cl6, by decide, dX6_doors_30, Or.inl (mi_in 663 (by decide +kernel) rfl)⟩
theorem fX6_doors_36 : mi_Pf MX6_doors 36 6 17 .boolean := ⟨71, RX6, TX6, 21, tyX6, mi_cl6, by decide, dX6_doors_36, by decide +kernel, Or.inl ⟨rfl, Or.inl (mi_in 663 (by decide +kernel) rfl)⟩⟩
theorem fX6_seal_3 : Cond.constant (MX6_seal).1 128 1000000 ∈ mi_T := (mi_in 828 (by decide +kernel) rfl)
theorem fX6_seal_5 : mi_Is MX6_seal MX6_within 5 3 := ⟨60, yX6_within, dX6_seal_5, Or.inl (mi_in 718 (by decide +kernel) rfl), (mi_in 719 (by decide +kernel) rfl), (mi_in 8 (by decide +kernel) rfl), meX6_within, ⟨by decide, by decide⟩, by decide +kernel⟩
theorem fX6_seal_16 : mi_Gf MX6_seal 16 6 17 := ⟨71, RX6, TX6, 21, tyX6, mi_cl6, by decide, dX6_seal_16, Or.inl (mi_in 663 (by decide +kernel) rfl)⟩
theorem fX6_seal_23 : mi_Gf MX6_seal 23 6 18 := ⟨103, RX6, TX6, 21, tyX6, mi_cl6, by decide, dX6_seal_23, Or.inl (mi_in 664 (by decide +kernel) rfl)⟩
theorem fX6_seal_34 : mi_Gf MX6_seal 34 6 19 := ⟨129, RX6, TX6, 21, tyX6, mi_cl6, by decide, dX6_seal_34, Or.inl (mi_in 665 (by decide +kernel) rfl)⟩
theorem fX6_seal_47 : mi_Pf MX6_seal 47 6 8 .int := ⟨54, RX6, TX6, 21, tyX6, mi_cl6, by decide, dX6_seal_47, by decide +kernel, Or.inl ⟨rfl, Or.inl (mi_in 654 (by decide +kernel) rfl)⟩⟩
theorem fX6_seal_51 : mi_Gf MX6_seal 51 6 8 := ⟨54, RX6, TX6, 21, tyX6, mi_cl6, by decide, dX6_seal_51, Or.inl (mi_in 654 (by decide +kernel) rfl)⟩
theorem fX6_seal_63 : mi_Gf MX6_seal 63 6 19 := ⟨129, RX6, TX6, 21, tyX6, mi_cl6, by decide, dX6_seal_63, Or.inl (mi_in 665 (by decide +kernel) rfl)⟩
theorem fX6_seal_70 : mi_Gf MX6_seal 70 6 20 := ⟨48, RX6, TX6, 21, tyX6, mi_cl6, by decide, dX6_seal_70, Or.inl (mi_in 666 (by decide +kernel) rfl)⟩
theorem fX6_seal_88 : mi_Gf MX6_seal 88 6 20 := ⟨48, RX6, TX6, 21, tyX6, mi_cl6, by decide, dX6_seal_88, Or.inl (mi_in 666 (by decide +kernel) rfl)⟩
theorem fX6_seal_92 : mi_Gf MX6_seal 92 6 19 := ⟨129, RX6, TX6, 21, tyX6, mi_cl6, by decide, dX6_seal_92, Or.inl (mi_in 665 (by decide +kernel) rfl)⟩
theorem fX6_seal_99 : mi_Gf MX6_seal 99 6 19 := ⟨129, RX6, TX6, 21, tyX6, mi_cl6, by decide, dX6_seal_99, Or.inl (mi_in 665 (by decide +kernel) rfl)⟩
theorem fX6_seal_104 : mi_Pf MX6_seal 104 6 19 .int := ⟨129, RX6, TX6, 21, tyX6, mi_cl6, by decide, dX6_seal_104, by decide +kernel, Or.inl ⟨rfl, Or.inl (mi_in 665 (by decide +kernel) rfl)⟩⟩
theorem fX6_seal_109 : mi_Pf MX6_seal 109 6 18 .int := ⟨103, RX6, TX6, 21, tyX6, mi_cl6, by decide, dX6_seal_109, by decide +kernel, Or.inl ⟨rfl, Or.inl (mi_in 664 (by decide +kernel) rfl)⟩⟩
theorem fX6_broken_2 : mi_Gf MX6_broken 2 6 18 := ⟨103, RX6, TX6, 21, tyX6, mi_cl6, by decide, dX6_broken_2, Or.inl (mi_in 664 (by decide +kernel) rfl)⟩
theorem fX6_broken_13 : mi_Pf MX6_broken 13 6 8 .int := ⟨54, RX6, TX6, 21, tyX6, mi_cl6, by decide, dX6_broken_13, by decide +kernel, Or.inl ⟨rfl, Or.inl (mi_in 654 (by decide +kernel) rfl)⟩⟩
theorem fX6_broken_17 : mi_Gf MX6_broken 17 6 18 := ⟨103, RX6, TX6, 21, tyX6, mi_cl6, by decide, dX6_broken_17, Or.inl (mi_in 664 (by decide +kernel) rfl)⟩
theorem fX6_broken_23 : mi_Pf MX6_broken 23 6 18 .int := ⟨103, RX6, TX6, 21, tyX6, mi_cl6, by decide, dX6_broken_23, by decide +kernel, Or.inl ⟨rfl, Or.inl (mi_in 664 (by decide +kernel) rfl)⟩⟩
theorem fX6_order_5 : mi_Is MX6_order MX6_within 5 3 := ⟨60, yX6_within, dX6_order_5, Or.inl (mi_in 718 (by decide +kernel) rfl), (mi_in 719 (by decide +kernel) rfl), (mi_in 8 (by decide +kernel) rfl), meX6_within, ⟨by decide, by decide⟩, by decide +kernel⟩
theorem fX6_order_20 : mi_Pf MX6_order 20 6 8 .int := ⟨54, RX6, TX6, 21, tyX6, mi_cl6, by decide, dX6_order_20, by decide +kernel, Or.inl ⟨rfl, Or.inl (mi_in 654 (by decide +kernel) rfl)⟩⟩
theorem fX6_order_24 : mi_Gf MX6_order 24 6 8 := ⟨54, RX6, TX6, 21, tyX6, mi_cl6, by decide, dX6_order_24, Or.inl (mi_in 654 (by decide +kernel) rfl)⟩
theorem fX6_order_35 : mi_Gf MX6_order 35 6 0 := ⟨51, RX6, TX6, 21, tyX6, mi_cl6, by decide, dX6_order_35, Or.inl (mi_in 646 (by decide +kernel) rfl)⟩
theorem fX6_order_50 : mi_Iv MX6_order MX6_standsAt 50 6 1 := ⟨64, yX6_standsAt, _, dX6_order_50, rfl, Or.inl (mi_in 721 (by decide +kernel) rfl), (mi_in 723 (by decide +kernel) rfl), (mi_inP 40 (by decide +kernel) rfl), meX6_standsAt, ⟨by decide, by decide⟩, by decide +kernel⟩
theorem fX6_order_62 : mi_Gf MX6_order 62 6 12 := ⟨36, RX6, TX6, 21, tyX6, mi_cl6, by decide, dX6_order_62, Or.inl (mi_in 658 (by decide +kernel) rfl)⟩
theorem fX6_manifest_6 : mi_Is MX6_manifest MX6_within 6 3 := ⟨60, yX6_within, dX6_manifest_6, Or.inl (mi_in 718 (by decide +kernel) rfl), (mi_in 719 (by decide +kernel) rfl), (mi_in 8 (by decide +kernel) rfl), meX6_within, ⟨by decide, by decide⟩, by decide +kernel⟩
theorem fX6_manifest_17 : mi_Pf MX6_manifest 17 6 8 .int := ⟨54, RX6, TX6, 21, tyX6, mi_cl6, by decide, dX6_manifest_17, by decide +kernel, Or.inl ⟨rfl, Or.inl (mi_in 654 (by decide +kernel) rfl)⟩⟩
theorem fX6_manifest_21 : mi_Gf MX6_manifest 21 6 8 := ⟨54, RX6, TX6, 21, tyX6, mi_cl6, by decide, dX6_manifest_21, Or.inl (mi_in 654 (by decide +kernel) rfl)⟩
theorem fX6_manifest_33 : mi_Iv MX6_manifest MX6_standingWeight 33 6 0 := ⟨100, yX6_standingWeight, _, dX6_manifest_33, rfl, Or.inl (mi_in 757 (by decide +kernel) rfl), (mi_in 759 (by decide +kernel) rfl), (mi_inP 46 (by decide +kernel) rfl), meX6_standingWeight, ⟨by decide, by decide⟩, by decide +kernel⟩
theorem fX6_count_2 : mi_Pf MX6_count 2 6 8 .int := ⟨54, RX6, TX6, 21, tyX6, mi_cl6, by decide, dX6_count_2, by decide +kernel, Or.inl ⟨rfl, Or.inl (mi_in 654 (by decide +kernel) rfl)⟩⟩
theorem fX6_count_45 : mi_Gf MX6_count 45 6 0 := ⟨51, RX6, TX6, 21, tyX6, mi_cl6, by decide, dX6_count_45, Or.inl (mi_in 646 (by decide +kernel) rfl)⟩
theorem fX6_count_50 : mi_Gf MX6_count 50 6 7 := ⟨57, RX6, TX6, 21, tyX6, mi_cl6, by decide, dX6_count_50, Or.inl (mi_in 653 (by decide +kernel) rfl)⟩
theorem fX6_count_55 : mi_Iv MX6_count MX6_standing 55 6 0 := ⟨96, yX6_standing, _, dX6_count_55, rfl, Or.inl (mi_in 753 (by decide +kernel) rfl), (mi_in 755 (by decide +kernel) rfl), (mi_inP 45 (by decide +kernel) rfl), meX6_standing, ⟨by decide, by decide⟩, by decide +kernel⟩
theorem fX6_count_60 : mi_Gf MX6_count 60 6 17 := ⟨71, RX6, TX6, 21, tyX6, mi_cl6, by decide, dX6_count_60, Or.inl (mi_in 663 (by decide +kernel) rfl)⟩
theorem fX6_count_73 : mi_Gf MX6_count 73 6 18 := ⟨103, RX6, TX6, 21, tyX6, mi_cl6, by decide, dX6_count_73, Or.inl (mi_in 664 (by decide +kernel) rfl)⟩
theorem fX6_count_78 : mi_Gf MX6_count 78 6 19 := ⟨129, RX6, TX6, 21, tyX6, mi_cl6, by decide, dX6_count_78, Or.inl (mi_in 665 (by decide +kernel) rfl)⟩
end
section
theorem fL_cell__4 : mi_Iv ML_cell_ MX5_cell 4 5 3 := ⟨7, yX5_cell, _, dL_cell__4, rfl, Or.inl (mi_in 225 (by decide +kernel) rfl), (mi_in 226 (by decide +kernel) rfl), (mi_in 227 (by decide +kernel) rfl), meX5_cell, ⟨by decide, by decide⟩, by decide +kernel⟩
theorem fL_axles_6 : mi_Iv ML_axles MX5_axles 6 5 4 := ⟨19, yX5_axles, _, dL_axles_6, rfl, Or.inl (mi_in 348 (by decide +kernel) rfl), (mi_in 349 (by decide +kernel) rfl), (mi_in 350 (by decide +kernel) rfl), meX5_axles, ⟨by decide, by decide⟩, by decide +kernel⟩
theorem fL_pallet_11 : mi_Iv ML_pallet MX5_pallet 11 5 5 := ⟨23, yX5_pallet, _, dL_pallet_11, rfl, Or.inl (mi_in 361 (by decide +kernel) rfl), (mi_in 362 (by decide +kernel) rfl), (mi_in 363 (by decide +kernel) rfl), meX5_pallet, ⟨by decide, by decide⟩, by decide +kernel⟩
theorem fL_solve_4 : mi_Iv ML_solve MX5_solve 4 5 1 := ⟨29, yX5_solve, _, dL_solve_4, rfl, Or.inl (mi_in 393 (by decide +kernel) rfl), (mi_in 394 (by decide +kernel) rfl), (mi_in 395 (by decide +kernel) rfl), meX5_solve, ⟨by decide, by decide⟩, by decide +kernel⟩
theorem fL_place_5 : mi_Iv ML_place MX5_place 5 5 2 := ⟨33, yX5_place, _, dL_place_5, rfl, Or.inl (mi_in 487 (by decide +kernel) rfl), (mi_in 488 (by decide +kernel) rfl), (mi_in 489 (by decide +kernel) rfl), meX5_place, ⟨by decide, by decide⟩, by decide +kernel⟩
theorem fL_at_4 : mi_Iv ML_at MX5_at 4 5 1 := ⟨39, yX5_at, _, dL_at_4, rfl, Or.inl (mi_in 525 (by decide +kernel) rfl), (mi_in 526 (by decide +kernel) rfl), (mi_in 527 (by decide +kernel) rfl), meX5_at, ⟨by decide, by decide⟩, by decide +kernel⟩
theorem fL_axle_5 : mi_Iv ML_axle MX5_axle 5 5 2 := ⟨42, yX5_axle, _, dL_axle_5, rfl, Or.inl (mi_in 533 (by decide +kernel) rfl), (mi_in 534 (by decide +kernel) rfl), (mi_in 535 (by decide +kernel) rfl), meX5_axle, ⟨by decide, by decide⟩, by decide +kernel⟩
theorem fL_bar_4 : mi_Iv ML_bar MX5_bar 4 5 1 := ⟨47, yX5_bar, _, dL_bar_4, rfl, Or.inl (mi_in 561 (by decide +kernel) rfl), (mi_in 562 (by decide +kernel) rfl), (mi_in 563 (by decide +kernel) rfl), meX5_bar, ⟨by decide, by decide⟩, by decide +kernel⟩
theorem fL_change_5 : mi_Iv ML_change MX5_change 5 5 2 := ⟨50, yX5_change, _, dL_change_5, rfl, Or.inl (mi_in 575 (by decide +kernel) rfl), (mi_in 576 (by decide +kernel) rfl), (mi_in 577 (by decide +kernel) rfl), meX5_change, ⟨by decide, by decide⟩, by decide +kernel⟩
theorem fL_doors_4 : mi_Iv ML_doors MX5_doors 4 5 1 := ⟨54, yX5_doors, _, dL_doors_4, rfl, Or.inl (mi_in 583 (by decide +kernel) rfl), (mi_in 584 (by decide +kernel) rfl), (mi_in 585 (by decide +kernel) rfl), meX5_doors, ⟨by decide, by decide⟩, by decide +kernel⟩
theorem fL_seal_4 : mi_Iv ML_seal MX5_seal 4 5 1 := ⟨58, yX5_seal, _, dL_seal_4, rfl, Or.inl (mi_in 590 (by decide +kernel) rfl), (mi_in 591 (by decide +kernel) rfl), (mi_in 592 (by decide +kernel) rfl), meX5_seal, ⟨by decide, by decide⟩, by decide +kernel⟩
theorem fL_broken_3 : mi_Iv ML_broken MX5_broken 3 5 0 := ⟨62, yX5_broken, _, dL_broken_3, rfl, Or.inl (mi_in 607 (by decide +kernel) rfl), (mi_in 608 (by decide +kernel) rfl), (mi_in 609 (by decide +kernel) rfl), meX5_broken, ⟨by decide, by decide⟩, by decide +kernel⟩
theorem fL_order_5 : mi_Iv ML_order MX5_order 5 5 2 := ⟨66, yX5_order, _, dL_order_5, rfl, Or.inl (mi_in 619 (by decide +kernel) rfl), (mi_in 620 (by decide +kernel) rfl), (mi_in 621 (by decide +kernel) rfl), meX5_order, ⟨by decide, by decide⟩, by decide +kernel⟩
theorem fL_manifest_4 : mi_Iv ML_manifest MX5_manifest 4 5 1 := ⟨69, yX5_manifest, _, dL_manifest_4, rfl, Or.inl (mi_in 635 (by decide +kernel) rfl), (mi_in 636 (by decide +kernel) rfl), (mi_in 637 (by decide +kernel) rfl), meX5_manifest, ⟨by decide, by decide⟩, by decide +kernel⟩
theorem fL_law_0 : mi_Nw ML_law 0 5 5 [.null, .null, .null, .int 0, .int 0] := ⟨8, RX5, TX5, tyX5, mi_cl5, dL_law_0, (mi_in 19 (by decide +kernel) rfl), (mi_in 20 (by decide +kernel) rfl), (mi_in 1 (by decide +kernel) rfl), by decide +kernel⟩
theorem fL_law_6 : mi_Is ML_law ML_cell 6 2 := ⟨72, yL_cell, dL_law_6, Or.inl (mi_in 216 (by decide +kernel) rfl), (mi_in 217 (by decide +kernel) rfl), (mi_in 0 (by decide +kernel) rfl), meL_cell, ⟨by decide, by decide⟩, by decide +kernel⟩
theorem fL_law_9 : mi_Ii ML_law MX5_init 9 1 := ⟨77, yX5_init, dL_law_9, Or.inl (mi_in 21 (by decide +kernel) rfl), (mi_in 22 (by decide +kernel) rfl), (mi_in 23 (by decide +kernel) rfl), meX5_init, rfl, ⟨by decide, by decide⟩, by decide +kernel⟩
theorem fL_law_13 : mi_Nw ML_law 13 6 21 [.int 0, .null, .null, .int 0, .int 0, .int 0, .int 0, .int 0, .int 0, .null, .null, .null, .null, .null, .null, .null, .int 0, .int 0, .int 0, .int 0, .null] := ⟨80, RX6, TX6, tyX6, mi_cl6, dL_law_13, (mi_in 640 (by decide +kernel) rfl), (mi_in 641 (by decide +kernel) rfl), (mi_in 8 (by decide +kernel) rfl), by decide +kernel⟩
theorem fL_law_19 : mi_Is ML_law ML_cell 19 2 := ⟨72, yL_cell, dL_law_19, Or.inl (mi_in 216 (by decide +kernel) rfl), (mi_in 217 (by decide +kernel) rfl), (mi_in 0 (by decide +kernel) rfl), meL_cell, ⟨by decide, by decide⟩, by decide +kernel⟩
theorem fL_law_22 : mi_Ii ML_law MX6_init 22 1 := ⟨82, yX6_init, dL_law_22, Or.inl (mi_in 642 (by decide +kernel) rfl), (mi_in 643 (by decide +kernel) rfl), (mi_in 644 (by decide +kernel) rfl), meX6_init, rfl, ⟨by decide, by decide⟩, by decide +kernel⟩
theorem fL_law_159 : mi_Is ML_law ML_cell_ 159 4 := ⟨83, yL_cell_, dL_law_159, Or.inl (mi_in 219 (by decide +kernel) rfl), (mi_in 220 (by decide +kernel) rfl), (mi_in 0 (by decide +kernel) rfl), meL_cell_, ⟨by decide, by decide⟩, by decide +kernel⟩
theorem fL_law_191 : mi_Iv ML_law MX6_cell 191 6 3 := ⟨86, yX6_cell, _, dL_law_191, rfl, Or.inl (mi_in 714 (by decide +kernel) rfl), (mi_in 715 (by decide +kernel) rfl), (mi_in 716 (by decide +kernel) rfl), meX6_cell, ⟨by decide, by decide⟩, by decide +kernel⟩
theorem fL_law_195 : mi_Iv ML_law MX6_thrown 195 6 0 := ⟨87, yX6_thrown, _, dL_law_195, rfl, Or.inl (mi_in 710 (by decide +kernel) rfl), (mi_in 711 (by decide +kernel) rfl), (mi_in 712 (by decide +kernel) rfl), meX6_thrown, ⟨by decide, by decide⟩, by decide +kernel⟩
theorem fL_law_233 : mi_Is ML_law ML_axles 233 5 := ⟨90, yL_axles, dL_law_233, Or.inl (mi_in 345 (by decide +kernel) rfl), (mi_in 346 (by decide +kernel) rfl), (mi_in 0 (by decide +kernel) rfl), meL_axles, ⟨by decide, by decide⟩, by decide +kernel⟩
theorem fL_law_263 : mi_Iv ML_law MX6_axles 263 6 4 := ⟨93, yX6_axles, _, dL_law_263, rfl, Or.inl (mi_in 725 (by decide +kernel) rfl), (mi_in 726 (by decide +kernel) rfl), (mi_in 727 (by decide +kernel) rfl), meX6_axles, ⟨by decide, by decide⟩, by decide +kernel⟩
theorem fL_law_267 : mi_Iv ML_law MX6_thrown 267 6 0 := ⟨87, yX6_thrown, _, dL_law_267, rfl, Or.inl (mi_in 710 (by decide +kernel) rfl), (mi_in 711 (by decide +kernel) rfl), (mi_in 712 (by decide +kernel) rfl), meX6_thrown, ⟨by decide, by decide⟩, by decide +kernel⟩
theorem fL_law_328 : mi_Is ML_law ML_pallet 328 7 := ⟨94, yL_pallet, dL_law_328, Or.inl (mi_in 357 (by decide +kernel) rfl), (mi_in 358 (by decide +kernel) rfl), (mi_in 0 (by decide +kernel) rfl), meL_pallet, ⟨by decide, by decide⟩, by decide +kernel⟩
theorem fL_law_380 : mi_Iv ML_law MX6_pallet 380 6 5 := ⟨97, yX6_pallet, _, dL_law_380, rfl, Or.inl (mi_in 729 (by decide +kernel) rfl), (mi_in 730 (by decide +kernel) rfl), (mi_in 731 (by decide +kernel) rfl), meX6_pallet, ⟨by decide, by decide⟩, by decide +kernel⟩
theorem fL_law_386 : mi_Iv ML_law MX6_thrown 386 6 0 := ⟨87, yX6_thrown, _, dL_law_386, rfl, Or.inl (mi_in 710 (by decide +kernel) rfl), (mi_in 711 (by decide +kernel) rfl), (mi_in 712 (by decide +kernel) rfl), meX6_thrown, ⟨by decide, by decide⟩, by decide +kernel⟩
theorem fL_law_424 : mi_Is ML_law ML_solve 424 3 := ⟨98, yL_solve, dL_law_424, Or.inl (mi_in 390 (by decide +kernel) rfl), (mi_in 391 (by decide +kernel) rfl), (mi_in 0 (by decide +kernel) rfl), meL_solve, ⟨by decide, by decide⟩, by decide +kernel⟩
theorem fL_law_436 : mi_Iv ML_law MX6_solve 436 6 1 := ⟨101, yX6_solve, _, dL_law_436, rfl, Or.inl (mi_in 733 (by decide +kernel) rfl), (mi_in 734 (by decide +kernel) rfl), (mi_in 735 (by decide +kernel) rfl), meX6_solve, ⟨by decide, by decide⟩, by decide +kernel⟩
theorem fL_law_442 : mi_Iv ML_law MX6_thrown 442 6 0 := ⟨87, yX6_thrown, _, dL_law_442, rfl, Or.inl (mi_in 710 (by decide +kernel) rfl), (mi_in 711 (by decide +kernel) rfl), (mi_in 712 (by decide +kernel) rfl), meX6_thrown, ⟨by decide, by decide⟩, by decide +kernel⟩
theorem fL_law_473 : mi_Iv ML_law MX5_exact 473 5 0 := ⟨102, yX5_exact, _, dL_law_473, rfl, Or.inl (mi_in 175 (by decide +kernel) rfl), (mi_in 176 (by decide +kernel) rfl), (mi_in 177 (by decide +kernel) rfl), meX5_exact, ⟨by decide, by decide⟩, by decide +kernel⟩
theorem fL_law_477 : mi_Iv ML_law MX6_exact 477 6 0 := ⟨106, yX6_exact, _, dL_law_477, rfl, Or.inl (mi_in 773 (by decide +kernel) rfl), (mi_in 774 (by decide +kernel) rfl), (mi_in 775 (by decide +kernel) rfl), meX6_exact, ⟨by decide, by decide⟩, by decide +kernel⟩
theorem fL_law_486 : mi_Iv ML_law MX5_bound 486 5 0 := ⟨107, yX5_bound, _, dL_law_486, rfl, Or.inl (mi_in 179 (by decide +kernel) rfl), (mi_in 180 (by decide +kernel) rfl), (mi_in 181 (by decide +kernel) rfl), meX5_bound, ⟨by decide, by decide⟩, by decide +kernel⟩
theorem fL_law_490 : mi_Iv ML_law MX6_bound 490 6 0 := ⟨110, yX6_bound, _, dL_law_490, rfl, Or.inl (mi_in 777 (by decide +kernel) rfl), (mi_in 778 (by decide +kernel) rfl), (mi_in 779 (by decide +kernel) rfl), meX6_bound, ⟨by decide, by decide⟩, by decide +kernel⟩
theorem fL_law_512 : mi_Is ML_law ML_place 512 4 := ⟨111, yL_place, dL_law_512, Or.inl (mi_in 483 (by decide +kernel) rfl), (mi_in 484 (by decide +kernel) rfl), (mi_in 0 (by decide +kernel) rfl), meL_place, ⟨by decide, by decide⟩, by decide +kernel⟩
theorem fL_law_530 : mi_Iv ML_law MX6_place 530 6 2 := ⟨114, yX6_place, _, dL_law_530, rfl, Or.inl (mi_in 781 (by decide +kernel) rfl), (mi_in 782 (by decide +kernel) rfl), (mi_in 783 (by decide +kernel) rfl), meX6_place, ⟨by decide, by decide⟩, by decide +kernel⟩
theorem fL_law_536 : mi_Iv ML_law MX6_thrown 536 6 0 := ⟨87, yX6_thrown, _, dL_law_536, rfl, Or.inl (mi_in 710 (by decide +kernel) rfl), (mi_in 711 (by decide +kernel) rfl), (mi_in 712 (by decide +kernel) rfl), meX6_thrown, ⟨by decide, by decide⟩, by decide +kernel⟩
theorem fL_law_574 : mi_Is ML_law ML_at 574 3 := ⟨115, yL_at, dL_law_574, Or.inl (mi_in 522 (by decide +kernel) rfl), (mi_in 523 (by decide +kernel) rfl), (mi_in 0 (by decide +kernel) rfl), meL_at, ⟨by decide, by decide⟩, by decide +kernel⟩
theorem fL_law_586 : mi_Iv ML_law MX6_at 586 6 1 := ⟨117, yX6_at, _, dL_law_586, rfl, Or.inl (mi_in 797 (by decide +kernel) rfl), (mi_in 798 (by decide +kernel) rfl), (mi_in 799 (by decide +kernel) rfl), meX6_at, ⟨by decide, by decide⟩, by decide +kernel⟩
theorem fL_law_592 : mi_Iv ML_law MX6_thrown 592 6 0 := ⟨87, yX6_thrown, _, dL_law_592, rfl, Or.inl (mi_in 710 (by decide +kernel) rfl), (mi_in 711 (by decide +kernel) rfl), (mi_in 712 (by decide +kernel) rfl), meX6_thrown, ⟨by decide, by decide⟩, by decide +kernel⟩
theorem fL_law_636 : mi_Is ML_law ML_axle 636 4 := ⟨118, yL_axle, dL_law_636, Or.inl (mi_in 529 (by decide +kernel) rfl), (mi_in 530 (by decide +kernel) rfl), (mi_in 0 (by decide +kernel) rfl), meL_axle, ⟨by decide, by decide⟩, by decide +kernel⟩
theorem fL_law_654 : mi_Iv ML_law MX6_axle 654 6 2 := ⟨120, yX6_axle, _, dL_law_654, rfl, Or.inl (mi_in 801 (by decide +kernel) rfl), (mi_in 802 (by decide +kernel) rfl), (mi_in 803 (by decide +kernel) rfl), meX6_axle, ⟨by decide, by decide⟩, by decide +kernel⟩
theorem fL_law_660 : mi_Iv ML_law MX6_thrown 660 6 0 := ⟨87, yX6_thrown, _, dL_law_660, rfl, Or.inl (mi_in 710 (by decide +kernel) rfl), (mi_in 711 (by decide +kernel) rfl), (mi_in 712 (by decide +kernel) rfl), meX6_thrown, ⟨by decide, by decide⟩, by decide +kernel⟩
theorem fL_law_698 : mi_Is ML_law ML_bar 698 3 := ⟨121, yL_bar, dL_law_698, Or.inl (mi_in 558 (by decide +kernel) rfl), (mi_in 559 (by decide +kernel) rfl), (mi_in 0 (by decide +kernel) rfl), meL_bar, ⟨by decide, by decide⟩, by decide +kernel⟩
theorem fL_law_710 : mi_Iv ML_law MX6_bar 710 6 1 := ⟨123, yX6_bar, _, dL_law_710, rfl, Or.inl (mi_in 808 (by decide +kernel) rfl), (mi_in 809 (by decide +kernel) rfl), (mi_in 810 (by decide +kernel) rfl), meX6_bar, ⟨by decide, by decide⟩, by decide +kernel⟩
theorem fL_law_716 : mi_Iv ML_law MX6_thrown 716 6 0 := ⟨87, yX6_thrown, _, dL_law_716, rfl, Or.inl (mi_in 710 (by decide +kernel) rfl), (mi_in 711 (by decide +kernel) rfl), (mi_in 712 (by decide +kernel) rfl), meX6_thrown, ⟨by decide, by decide⟩, by decide +kernel⟩
theorem fL_law_760 : mi_Is ML_law ML_change 760 4 := ⟨124, yL_change, dL_law_760, Or.inl (mi_in 572 (by decide +kernel) rfl), (mi_in 573 (by decide +kernel) rfl), (mi_in 0 (by decide +kernel) rfl), meL_change, ⟨by decide, by decide⟩, by decide +kernel⟩
theorem fL_law_778 : mi_Iv ML_law MX6_change 778 6 2 := ⟨126, yX6_change, _, dL_law_778, rfl, Or.inl (mi_in 816 (by decide +kernel) rfl), (mi_in 817 (by decide +kernel) rfl), (mi_in 818 (by decide +kernel) rfl), meX6_change, ⟨by decide, by decide⟩, by decide +kernel⟩
theorem fL_law_784 : mi_Iv ML_law MX6_thrown 784 6 0 := ⟨87, yX6_thrown, _, dL_law_784, rfl, Or.inl (mi_in 710 (by decide +kernel) rfl), (mi_in 711 (by decide +kernel) rfl), (mi_in 712 (by decide +kernel) rfl), meX6_thrown, ⟨by decide, by decide⟩, by decide +kernel⟩
theorem fL_law_837 : mi_Is ML_law ML_doors 837 3 := ⟨127, yL_doors, dL_law_837, Or.inl (mi_in 580 (by decide +kernel) rfl), (mi_in 581 (by decide +kernel) rfl), (mi_in 0 (by decide +kernel) rfl), meL_doors, ⟨by decide, by decide⟩, by decide +kernel⟩
theorem fL_law_857 : mi_Iv ML_law MX6_doors 857 6 1 := ⟨130, yX6_doors, _, dL_law_857, rfl, Or.inl (mi_in 820 (by decide +kernel) rfl), (mi_in 821 (by decide +kernel) rfl), (mi_in 822 (by decide +kernel) rfl), meX6_doors, ⟨by decide, by decide⟩, by decide +kernel⟩
theorem fL_law_863 : mi_Iv ML_law MX6_thrown 863 6 0 := ⟨87, yX6_thrown, _, dL_law_863, rfl, Or.inl (mi_in 710 (by decide +kernel) rfl), (mi_in 711 (by decide +kernel) rfl), (mi_in 712 (by decide +kernel) rfl), meX6_thrown, ⟨by decide, by decide⟩, by decide +kernel⟩
theorem fL_law_908 : mi_Is ML_law ML_seal 908 3 := ⟨131, yL_seal, dL_law_908, Or.inl (mi_in 587 (by decide +kernel) rfl), (mi_in 588 (by decide +kernel) rfl), (mi_in 0 (by decide +kernel) rfl), meL_seal, ⟨by decide, by decide⟩, by decide +kernel⟩
theorem fL_law_920 : mi_Iv ML_law MX6_seal 920 6 1 := ⟨133, yX6_seal, _, dL_law_920, rfl, Or.inl (mi_in 824 (by decide +kernel) rfl), (mi_in 825 (by decide +kernel) rfl), (mi_in 826 (by decide +kernel) rfl), meX6_seal, ⟨by decide, by decide⟩, by decide +kernel⟩
theorem fL_law_926 : mi_Iv ML_law MX6_thrown 926 6 0 := ⟨87, yX6_thrown, _, dL_law_926, rfl, Or.inl (mi_in 710 (by decide +kernel) rfl), (mi_in 711 (by decide +kernel) rfl), (mi_in 712 (by decide +kernel) rfl), meX6_thrown, ⟨by decide, by decide⟩, by decide +kernel⟩
theorem fL_law_965 : mi_Is ML_law ML_broken 965 2 := ⟨134, yL_broken, dL_law_965, Or.inl (mi_in 604 (by decide +kernel) rfl), (mi_in 605 (by decide +kernel) rfl), (mi_in 0 (by decide +kernel) rfl), meL_broken, ⟨by decide, by decide⟩, by decide +kernel⟩
theorem fL_law_971 : mi_Iv ML_law MX6_broken 971 6 0 := ⟨137, yX6_broken, _, dL_law_971, rfl, Or.inl (mi_in 829 (by decide +kernel) rfl), (mi_in 830 (by decide +kernel) rfl), (mi_in 831 (by decide +kernel) rfl), meX6_broken, ⟨by decide, by decide⟩, by decide +kernel⟩
theorem fL_law_977 : mi_Iv ML_law MX6_thrown 977 6 0 := ⟨87, yX6_thrown, _, dL_law_977, rfl, Or.inl (mi_in 710 (by decide +kernel) rfl), (mi_in 711 (by decide +kernel) rfl), (mi_in 712 (by decide +kernel) rfl), meX6_thrown, ⟨by decide, by decide⟩, by decide +kernel⟩
theorem fL_law_1021 : mi_Is ML_law ML_order 1021 4 := ⟨138, yL_order, dL_law_1021, Or.inl (mi_in 616 (by decide +kernel) rfl), (mi_in 617 (by decide +kernel) rfl), (mi_in 0 (by decide +kernel) rfl), meL_order, ⟨by decide, by decide⟩, by decide +kernel⟩
theorem fL_law_1039 : mi_Iv ML_law MX6_order 1039 6 2 := ⟨140, yX6_order, _, dL_law_1039, rfl, Or.inl (mi_in 833 (by decide +kernel) rfl), (mi_in 834 (by decide +kernel) rfl), (mi_in 835 (by decide +kernel) rfl), meX6_order, ⟨by decide, by decide⟩, by decide +kernel⟩
theorem fL_law_1045 : mi_Iv ML_law MX6_thrown 1045 6 0 := ⟨87, yX6_thrown, _, dL_law_1045, rfl, Or.inl (mi_in 710 (by decide +kernel) rfl), (mi_in 711 (by decide +kernel) rfl), (mi_in 712 (by decide +kernel) rfl), meX6_thrown, ⟨by decide, by decide⟩, by decide +kernel⟩
theorem fL_law_1083 : mi_Is ML_law ML_manifest 1083 3 := ⟨141, yL_manifest, dL_law_1083, Or.inl (mi_in 632 (by decide +kernel) rfl), (mi_in 633 (by decide +kernel) rfl), (mi_in 0 (by decide +kernel) rfl), meL_manifest, ⟨by decide, by decide⟩, by decide +kernel⟩
theorem fL_law_1095 : mi_Iv ML_law MX6_manifest 1095 6 1 := ⟨143, yX6_manifest, _, dL_law_1095, rfl, Or.inl (mi_in 837 (by decide +kernel) rfl), (mi_in 838 (by decide +kernel) rfl), (mi_in 839 (by decide +kernel) rfl), meX6_manifest, ⟨by decide, by decide⟩, by decide +kernel⟩
theorem fL_law_1101 : mi_Iv ML_law MX6_thrown 1101 6 0 := ⟨87, yX6_thrown, _, dL_law_1101, rfl, Or.inl (mi_in 710 (by decide +kernel) rfl), (mi_in 711 (by decide +kernel) rfl), (mi_in 712 (by decide +kernel) rfl), meX6_thrown, ⟨by decide, by decide⟩, by decide +kernel⟩
theorem fL_law_1138 : mi_Iv ML_law MX5_count 1138 5 1 := ⟨144, yX5_count, _, dL_law_1138, rfl, Or.inl (mi_in 204 (by decide +kernel) rfl), (mi_in 205 (by decide +kernel) rfl), (mi_in 206 (by decide +kernel) rfl), meX5_count, ⟨by decide, by decide⟩, by decide +kernel⟩
theorem fL_law_1148 : mi_Iv ML_law MX6_count 1148 6 1 := ⟨147, yX6_count, _, dL_law_1148, rfl, Or.inl (mi_in 841 (by decide +kernel) rfl), (mi_in 842 (by decide +kernel) rfl), (mi_in 843 (by decide +kernel) rfl), meX6_count, ⟨by decide, by decide⟩, by decide +kernel⟩
end
section
/-! THE WORLD: the class's 18 cells (its object, Load, two rows, the row of pallets, Axles, eight pallets, Search and its row, Seals and its row), the reference's 11, the law's long[1]. Numbers by i (scalars) and a (rows). -/
/-- a family of rows, one of them changed -/
def au (a : Nat → Nat → Int32) (k : Nat) (f : Nat → Int32) : Nat → Nat → Int32 := fun m => if m = k then f else a m
/-- the array classes -/
abbrev ty4 : Type := ClassId × ClassId × ClassId × ClassId
abbrev tys4 (t : ty4) : List (ClassId × FieldType) := [(t.1, .int), (t.2.1, .boolean), (t.2.2.1, .object "TruckLoads$Pallet"), (t.2.2.2, .long)]
/-- what stays: launch, classes, array classes, script -/
abbrev En (l : Launch) (D : va_G) (t : ty4) (b L : Nat) (xs : Nat → Int32) : mi_E := (l, D, tys4 t, b, L, xs)
def hw (t : ty4) (q : Nat → Nat) (i : Nat → Int32) (a : Nat → Nat → Int32) (w : Int64) : va_W :=
  [(q 0, .inr (5, [.ref (q 1), .ref (q 14), .ref (q 16), .int (i 0), .int (i 1)])),
   (q 1, .inr (1, [.int (i 2), .ref (q 2), .ref (q 3), .ref (q 4), .ref (q 5), .int (i 3)])),
   (q 2, .inl (t.1, 12, .inl (a 0))),
   (q 3, .inl (t.2.1, 12, .inl (a 1))),
   (q 4, .inl (t.2.2.1, 8, .inr (.inr (.inr (.inr (fun j => some (q (6 + j)))))))),
   (q 5, .inr (0, [.int (i 4), .int (i 5), .int (i 6), .int (i 7)])),
   (q 6, .inr (2, [.int (a 2 0), .int (a 3 0), .int (a 4 0), .int (a 5 0), .int (a 6 0), .int (a 7 0)])),
   (q 7, .inr (2, [.int (a 2 1), .int (a 3 1), .int (a 4 1), .int (a 5 1), .int (a 6 1), .int (a 7 1)])),
   (q 8, .inr (2, [.int (a 2 2), .int (a 3 2), .int (a 4 2), .int (a 5 2), .int (a 6 2), .int (a 7 2)])),
   (q 9, .inr (2, [.int (a 2 3), .int (a 3 3), .int (a 4 3), .int (a 5 3), .int (a 6 3), .int (a 7 3)])),
   (q 10, .inr (2, [.int (a 2 4), .int (a 3 4), .int (a 4 4), .int (a 5 4), .int (a 6 4), .int (a 7 4)])),
   (q 11, .inr (2, [.int (a 2 5), .int (a 3 5), .int (a 4 5), .int (a 5 5), .int (a 6 5), .int (a 7 5)])),
   (q 12, .inr (2, [.int (a 2 6), .int (a 3 6), .int (a 4 6), .int (a 5 6), .int (a 6 6), .int (a 7 6)])),
   (q 13, .inr (2, [.int (a 2 7), .int (a 3 7), .int (a 4 7), .int (a 5 7), .int (a 6 7), .int (a 7 7)])),
   (q 14, .inr (4, [.ref (q 15), .int (i 8), .int (i 9)])),
   (q 15, .inl (t.1, 5, .inl (a 8))),
   (q 16, .inr (3, [.ref (q 17), .int (i 10), .int (i 11)])),
   (q 17, .inl (t.1, 10, .inl (a 9))),
   (q 18, .inr (6, [.int (i 12), .ref (q 19), .ref (q 20), .int (i 13), .int (i 14), .int (i 15), .int (i 16), .int (i 17), .int (i 18), .ref (q 21), .ref (q 22), .ref (q 23), .ref (q 24), .ref (q 25), .ref (q 26), .ref (q 27), .int (i 19), .int (i 20), .int (i 21), .int (i 22), .ref (q 28)])),
   (q 19, .inl (t.1, 12, .inl (a 10))),
   (q 20, .inl (t.2.1, 12, .inl (a 11))),
   (q 21, .inl (t.1, 8, .inl (a 12))),
   (q 22, .inl (t.2.1, 8, .inl (a 13))),
   (q 23, .inl (t.2.1, 8, .inl (a 14))),
   (q 24, .inl (t.1, 8, .inl (a 15))),
   (q 25, .inl (t.1, 8, .inl (a 16))),
   (q 26, .inl (t.1, 8, .inl (a 17))),
   (q 27, .inl (t.1, 8, .inl (a 18))),
   (q 28, .inl (t.1, 10, .inl (a 19))),
   (q 29, .inl (t.2.2.2, 1, .inr (.inl (fun _ => w))))]
/-- a pallet's cell by its number -/
theorem hw_pal {t : ty4} {q : Nat → Nat} {i : Nat → Int32} {a : Nat → Nat → Int32} {w : Int64} : ∀ {j : Nat}, j < 8 → (hw t q i a w)[6 + j]? = some (q (6 + j), .inr (2, [.int (a 2 j), .int (a 3 j), .int (a 4 j), .int (a 5 j), .int (a 6 j), .int (a 7 j)]))
  | 0, _ => rfl
  | 1, _ => rfl
  | 2, _ => rfl
  | 3, _ => rfl
  | 4, _ => rfl
  | 5, _ => rfl
  | 6, _ => rfl
  | 7, _ => rfl
  | _ + 8, h => absurd h (by omega)
/-- .. and one field of it changed -/
theorem hw_palset {t : ty4} {q : Nat → Nat} {i : Nat → Int32} {a : Nat → Nat → Int32} {w : Int64} {x : Int32} : ∀ {j : Nat} (k : Nat), j < 8 → k < 6 → (hw t q i a w).set (6 + j) (q (6 + j), .inr (2, ([.int (a 2 j), .int (a 3 j), .int (a 4 j), .int (a 5 j), .int (a 6 j), .int (a 7 j)] : List Value).set k (.int x))) = hw t q i (au a (2 + k) (upd (a (2 + k)) j x)) w
  | 0, 0, _, _ => rfl
  | 0, 1, _, _ => rfl
  | 0, 2, _, _ => rfl
  | 0, 3, _, _ => rfl
  | 0, 4, _, _ => rfl
  | 0, 5, _, _ => rfl
  | 1, 0, _, _ => rfl
  | 1, 1, _, _ => rfl
  | 1, 2, _, _ => rfl
  | 1, 3, _, _ => rfl
  | 1, 4, _, _ => rfl
  | 1, 5, _, _ => rfl
  | 2, 0, _, _ => rfl
  | 2, 1, _, _ => rfl
  | 2, 2, _, _ => rfl
  | 2, 3, _, _ => rfl
  | 2, 4, _, _ => rfl
  | 2, 5, _, _ => rfl
  | 3, 0, _, _ => rfl
  | 3, 1, _, _ => rfl
  | 3, 2, _, _ => rfl
  | 3, 3, _, _ => rfl
  | 3, 4, _, _ => rfl
  | 3, 5, _, _ => rfl
  | 4, 0, _, _ => rfl
  | 4, 1, _, _ => rfl
  | 4, 2, _, _ => rfl
  | 4, 3, _, _ => rfl
  | 4, 4, _, _ => rfl
  | 4, 5, _, _ => rfl
  | 5, 0, _, _ => rfl
  | 5, 1, _, _ => rfl
  | 5, 2, _, _ => rfl
  | 5, 3, _, _ => rfl
  | 5, 4, _, _ => rfl
  | 5, 5, _, _ => rfl
  | 6, 0, _, _ => rfl
  | 6, 1, _, _ => rfl
  | 6, 2, _, _ => rfl
  | 6, 3, _, _ => rfl
  | 6, 4, _, _ => rfl
  | 6, 5, _, _ => rfl
  | 7, 0, _, _ => rfl
  | 7, 1, _, _ => rfl
  | 7, 2, _, _ => rfl
  | 7, 3, _, _ => rfl
  | 7, 4, _, _ => rfl
  | 7, 5, _, _ => rfl
  | _ + 8, _, h, _ => absurd h (by omega)
  | _, _ + 6, _, h => absurd h (by omega)
end
section
/-- a method that returns v, in the world h' -/
def rt (v : Option Value) (h : va_W) (mc ms : Nat) : mi_O → va_W → Nat → Nat → Prop := fun o h' mc' ms' => o = .inl v ∧ h' = h ∧ mc' = mc ∧ ms' = ms
/-- a method that throws the k-th exception, with nothing changed but the new cell -/
def xt (k : Nat) (h : va_W) (mc ms : Nat) : mi_O → va_W → Nat → Nat → Prop := fun o h' mc' ms' => o = .inr k ∧ h' = h ∧ mc' = mc + 1 ∧ ms' = ms + 6
theorem rt_r {v : Option Value} {h : va_W} {mc ms : Nat} : rt v h mc ms (.inl v) h mc ms := ⟨rfl, rfl, rfl, rfl⟩
theorem xt_r {k : Nat} {h : va_W} {mc ms : Nat} : xt k h mc ms (.inr k) h (mc + 1) (ms + 6) := ⟨rfl, rfl, rfl, rfl⟩
section Calls9
variable {E : mi_E} {M : mi_M} {d pc : Nat} {lv : List (Option Value)} {st : List Value} {h : va_W} {mc ms : Nat} {Q : mi_O → va_W → Nat → Nat → Prop}
theorem MW.heap {h' : va_W} (e : h = h') (k : MW E M d pc lv st h' mc ms Q) : MW E M d pc lv st h mc ms Q := e ▸ k
theorem MW.locs {lv' : List (Option Value)} (e : lv = lv') (k : MW E M d pc lv' st h mc ms Q) : MW E M d pc lv st h mc ms Q := e ▸ k
theorem MW.stk {st' : List Value} (e : st = st') (k : MW E M d pc lv st' h mc ms Q) : MW E M d pc lv st h mc ms Q := e ▸ k
theorem MW.top {v v' : Value} (e : v = v') (k : MW E M d pc lv (v' :: st) h mc ms Q) : MW E M d pc lv (v :: st) h mc ms Q := e ▸ k
theorem MW.callV {N : mi_M} {n ci b : Nat} {As rest : List Value} {v : Option Value} {h' : va_W} {mc' ms' : Nat} (hf : mi_Iv M N pc ci n) (q0 : Nat) {fs : List Value} (he0 : h[q0]? = some (b, .inr (ci, fs))) (hcall : MC E N d (.ref b :: As) h mc ms (rt v h' mc' ms')) (hn : As.length = n) (hst : st = As.reverse ++ .ref b :: rest) (hlen : Nat.ble (mi_args (.ref b :: As)).length N.2.2.1 = true) (hml : Nat.ble N.2.2.1 40 = true) (hrest : (rest.map fun v => v.category).sum ≤ 8)
    (k : MW E M (d + 1) (pc + 3) lv (v.toList ++ rest) h' mc' ms' Q) : MW E M (d + 1) pc lv st h mc ms Q :=
  MW.invV hf q0 he0 hcall hn hst hlen hml hrest (fun _ _ _ _ e => by obtain ⟨e1, e2, e3, e4⟩ := e; cases e1; subst e2; subst e3; subst e4; exact k) (fun _ _ _ _ e => by cases e.1)
theorem MW.callS {N : mi_M} {n : Nat} {As rest : List Value} {v : Option Value} {h' : va_W} {mc' ms' : Nat} (hf : mi_Is M N pc n) (hcall : MC E N d As h mc ms (rt v h' mc' ms')) (hn : As.length = n) (hst : st = As.reverse ++ rest) (hlen : Nat.ble (mi_args As).length N.2.2.1 = true) (hml : Nat.ble N.2.2.1 40 = true) (hrest : (rest.map fun v => v.category).sum ≤ 8)
    (k : MW E M (d + 1) (pc + 3) lv (v.toList ++ rest) h' mc' ms' Q) : MW E M (d + 1) pc lv st h mc ms Q :=
  MW.invS hf hcall hn hst hlen hml hrest (fun _ _ _ _ e => by obtain ⟨e1, e2, e3, e4⟩ := e; cases e1; subst e2; subst e3; subst e4; exact k) (fun _ _ _ _ e => by cases e.1)
theorem MW.callI {N : mi_M} {n b : Nat} {As rest : List Value} {v : Option Value} {h' : va_W} {mc' ms' : Nat} (hf : mi_Ii M N pc n) (hcall : MC E N d (.ref b :: As) h mc ms (rt v h' mc' ms')) (hn : As.length = n) (hst : st = As.reverse ++ .ref b :: rest) (hlen : Nat.ble (mi_args (.ref b :: As)).length N.2.2.1 = true) (hml : Nat.ble N.2.2.1 40 = true) (hrest : (rest.map fun v => v.category).sum ≤ 8)
    (k : MW E M (d + 1) (pc + 3) lv (v.toList ++ rest) h' mc' ms' Q) : MW E M (d + 1) pc lv st h mc ms Q :=
  MW.invI hf hcall hn hst hlen hml hrest (fun _ _ _ _ e => by obtain ⟨e1, e2, e3, e4⟩ := e; cases e1; subst e2; subst e3; subst e4; exact k) (fun _ _ _ _ e => by cases e.1)
theorem MW.thrV {N : mi_M} {n ci b x : Nat} {As rest : List Value} {h' : va_W} {mc' ms' : Nat} (hf : mi_Iv M N pc ci n) (q0 : Nat) {fs : List Value} (he0 : h[q0]? = some (b, .inr (ci, fs))) (hcall : MC E N d (.ref b :: As) h mc ms (xt x h' mc' ms')) (hn : As.length = n) (hst : st = As.reverse ++ .ref b :: rest) (hlen : Nat.ble (mi_args (.ref b :: As)).length N.2.2.1 = true) (hml : Nat.ble N.2.2.1 40 = true) (hrest : (rest.map fun v => v.category).sum ≤ 8) (h0 : M.2.2.2.2.1 = [])
    (hq : Q (.inr x) h' (mc' + 1) (ms' + 6)) : MW E M (d + 1) pc lv st h mc ms Q :=
  MW.invV hf q0 he0 hcall hn hst hlen hml hrest (fun _ _ _ _ e => by cases e.1) (fun _ _ _ _ e => by obtain ⟨e1, e2, e3, e4⟩ := e; cases e1; subst e2; subst e3; subst e4; exact ⟨h0, hq⟩)
theorem MW.thrS {N : mi_M} {n x : Nat} {As rest : List Value} {h' : va_W} {mc' ms' : Nat} (hf : mi_Is M N pc n) (hcall : MC E N d As h mc ms (xt x h' mc' ms')) (hn : As.length = n) (hst : st = As.reverse ++ rest) (hlen : Nat.ble (mi_args As).length N.2.2.1 = true) (hml : Nat.ble N.2.2.1 40 = true) (hrest : (rest.map fun v => v.category).sum ≤ 8) (h0 : M.2.2.2.2.1 = [])
    (hq : Q (.inr x) h' (mc' + 1) (ms' + 6)) : MW E M (d + 1) pc lv st h mc ms Q :=
  MW.invS hf hcall hn hst hlen hml hrest (fun _ _ _ _ e => by cases e.1) (fun _ _ _ _ e => by obtain ⟨e1, e2, e3, e4⟩ := e; cases e1; subst e2; subst e3; subst e4; exact ⟨h0, hq⟩)
/-- rows at a natural index -/
theorem MW.iaj {a n j : Nat} {cA : ClassId} {f : Nat → Int32} (hd : decode M.2.1 pc = .ok (Instr.iaload, 1)) (q0 t0 : Nat) (he : h[q0]? = some (a, .inl (cA, n, .inl f))) (ht : E.2.2.1[t0]? = some (cA, .int)) (hj : j < n) (hn : n < 2 ^ 31) (kk : MW E M d (pc + 1) lv (.int (f j) :: st) h mc ms Q) : MW E M d pc lv (.int (nI j) :: .ref a :: st) h mc ms Q :=
  MW.iald hd q0 t0 he ht (vp_in_nI hj hn) (by rw [nI_clamp (Nat.lt_trans hj hn)]; exact kk)
theorem MW.zaj {a n j : Nat} {cA : ClassId} {f : Nat → Int32} (hd : decode M.2.1 pc = .ok (Instr.baload, 1)) (q0 t0 : Nat) (he : h[q0]? = some (a, .inl (cA, n, .inl f))) (ht : E.2.2.1[t0]? = some (cA, .boolean)) (hj : j < n) (hn : n < 2 ^ 31) (kk : MW E M d (pc + 1) lv (.int (f j) :: st) h mc ms Q) : MW E M d pc lv (.int (nI j) :: .ref a :: st) h mc ms Q :=
  MW.zald hd q0 t0 he ht (vp_in_nI hj hn) (by rw [nI_clamp (Nat.lt_trans hj hn)]; exact kk)
theorem MW.isj {a n j : Nat} {cA : ClassId} {f : Nat → Int32} {x : Int32} (hd : decode M.2.1 pc = .ok (Instr.iastore, 1)) (q0 t0 : Nat) (he : h[q0]? = some (a, .inl (cA, n, .inl f))) (ht : E.2.2.1[t0]? = some (cA, .int)) (hj : j < n) (hn : n < 2 ^ 31) (kk : MW E M d (pc + 1) lv st (h.set q0 (a, .inl (cA, n, .inl (upd f j x)))) mc ms Q) : MW E M d pc lv (.int x :: .int (nI j) :: .ref a :: st) h mc ms Q :=
  MW.iast hd q0 t0 he ht (vp_in_nI hj hn) (by rw [nI_clamp (Nat.lt_trans hj hn)]; exact kk)
theorem MW.zsj {a n j : Nat} {cA : ClassId} {f : Nat → Int32} {x : Int32} (hd : decode M.2.1 pc = .ok (Instr.bastore, 1)) (q0 t0 : Nat) (he : h[q0]? = some (a, .inl (cA, n, .inl f))) (ht : E.2.2.1[t0]? = some (cA, .boolean)) (hj : j < n) (hn : n < 2 ^ 31) (hx : x = 0 ∨ x = 1) (kk : MW E M d (pc + 1) lv st (h.set q0 (a, .inl (cA, n, .inl (upd f j x)))) mc ms Q) : MW E M d pc lv (.int x :: .int (nI j) :: .ref a :: st) h mc ms Q :=
  MW.zast hd q0 t0 he ht (vp_in_nI hj hn) (by rw [nI_clamp (Nat.lt_trans hj hn), show vp_nar .boolean x = x by rcases hx with rfl | rfl <;> rfl]; exact kk)
theorem MW.callV0 {N : mi_M} {n ci b : Nat} {As rest : List Value} {h' : va_W} {mc' ms' : Nat} (hf : mi_Iv M N pc ci n) (q0 : Nat) {fs : List Value} (he0 : h[q0]? = some (b, .inr (ci, fs))) (hcall : MC E N d (.ref b :: As) h mc ms (rt none h' mc' ms')) (hn : As.length = n) (hst : st = As.reverse ++ .ref b :: rest) (hlen : Nat.ble (mi_args (.ref b :: As)).length N.2.2.1 = true) (hml : Nat.ble N.2.2.1 40 = true) (hrest : (rest.map fun v => v.category).sum ≤ 8) (k : MW E M (d + 1) (pc + 3) lv (rest) h' mc' ms' Q) : MW E M (d + 1) pc lv st h mc ms Q := MW.callV hf q0 he0 hcall hn hst hlen hml hrest k
theorem MW.callV1 {N : mi_M} {n ci b : Nat} {As rest : List Value} {v : Value} {h' : va_W} {mc' ms' : Nat} (hf : mi_Iv M N pc ci n) (q0 : Nat) {fs : List Value} (he0 : h[q0]? = some (b, .inr (ci, fs))) (hcall : MC E N d (.ref b :: As) h mc ms (rt (some v) h' mc' ms')) (hn : As.length = n) (hst : st = As.reverse ++ .ref b :: rest) (hlen : Nat.ble (mi_args (.ref b :: As)).length N.2.2.1 = true) (hml : Nat.ble N.2.2.1 40 = true) (hrest : (rest.map fun v => v.category).sum ≤ 8) (k : MW E M (d + 1) (pc + 3) lv (v :: rest) h' mc' ms' Q) : MW E M (d + 1) pc lv st h mc ms Q := MW.callV hf q0 he0 hcall hn hst hlen hml hrest k
theorem MW.callS0 {N : mi_M} {n : Nat} {As rest : List Value} {h' : va_W} {mc' ms' : Nat} (hf : mi_Is M N pc n) (hcall : MC E N d As h mc ms (rt none h' mc' ms')) (hn : As.length = n) (hst : st = As.reverse ++ rest) (hlen : Nat.ble (mi_args As).length N.2.2.1 = true) (hml : Nat.ble N.2.2.1 40 = true) (hrest : (rest.map fun v => v.category).sum ≤ 8) (k : MW E M (d + 1) (pc + 3) lv (rest) h' mc' ms' Q) : MW E M (d + 1) pc lv st h mc ms Q := MW.callS hf hcall hn hst hlen hml hrest k
theorem MW.callS1 {N : mi_M} {n : Nat} {As rest : List Value} {v : Value} {h' : va_W} {mc' ms' : Nat} (hf : mi_Is M N pc n) (hcall : MC E N d As h mc ms (rt (some v) h' mc' ms')) (hn : As.length = n) (hst : st = As.reverse ++ rest) (hlen : Nat.ble (mi_args As).length N.2.2.1 = true) (hml : Nat.ble N.2.2.1 40 = true) (hrest : (rest.map fun v => v.category).sum ≤ 8) (k : MW E M (d + 1) (pc + 3) lv (v :: rest) h' mc' ms' Q) : MW E M (d + 1) pc lv st h mc ms Q := MW.callS hf hcall hn hst hlen hml hrest k
theorem MW.callI0 {N : mi_M} {n b : Nat} {As rest : List Value} {h' : va_W} {mc' ms' : Nat} (hf : mi_Ii M N pc n) (hcall : MC E N d (.ref b :: As) h mc ms (rt none h' mc' ms')) (hn : As.length = n) (hst : st = As.reverse ++ .ref b :: rest) (hlen : Nat.ble (mi_args (.ref b :: As)).length N.2.2.1 = true) (hml : Nat.ble N.2.2.1 40 = true) (hrest : (rest.map fun v => v.category).sum ≤ 8) (k : MW E M (d + 1) (pc + 3) lv (rest) h' mc' ms' Q) : MW E M (d + 1) pc lv st h mc ms Q := MW.callI hf hcall hn hst hlen hml hrest k
theorem MW.callI1 {N : mi_M} {n b : Nat} {As rest : List Value} {v : Value} {h' : va_W} {mc' ms' : Nat} (hf : mi_Ii M N pc n) (hcall : MC E N d (.ref b :: As) h mc ms (rt (some v) h' mc' ms')) (hn : As.length = n) (hst : st = As.reverse ++ .ref b :: rest) (hlen : Nat.ble (mi_args (.ref b :: As)).length N.2.2.1 = true) (hml : Nat.ble N.2.2.1 40 = true) (hrest : (rest.map fun v => v.category).sum ≤ 8) (k : MW E M (d + 1) (pc + 3) lv (v :: rest) h' mc' ms' Q) : MW E M (d + 1) pc lv st h mc ms Q := MW.callI hf hcall hn hst hlen hml hrest k
theorem one32 : Int32.ofInt 1 = 1 := by decide
theorem MW.iinc1 {j : Nat} {x : Int32} (hd : decode M.2.1 pc = .ok (Instr.iinc j 1, 3)) (hl : lv[j]? = some (some (.int x))) (hn : Nat.ble (j + 1) M.2.2.1 = true) (hj : mi_nl lv j = true) (k : MW E M d (pc + 3) (lv.set j (some (.int (x + 1)))) st h mc ms Q) : MW E M d pc lv st h mc ms Q := MW.iinc hd hl (by rw [one32]) hn hj k
theorem MW.iincj {j m : Nat} (hd : decode M.2.1 pc = .ok (Instr.iinc j 1, 3)) (hl : lv[j]? = some (some (.int (nI m)))) (hn : Nat.ble (j + 1) M.2.2.1 = true) (hj : mi_nl lv j = true) (k : MW E M d (pc + 3) (lv.set j (some (.int (nI (m + 1))))) st h mc ms Q) : MW E M d pc lv st h mc ms Q := MW.iinc hd hl (by rw [one32]; exact nI_1 m) hn hj k
theorem mone32 : Int32.ofInt (-1) = -1 := by decide
theorem MW.iincd {j m : Nat} (hd : decode M.2.1 pc = .ok (Instr.iinc j (-1), 3)) (hl : lv[j]? = some (some (.int (nI (m + 1))))) (hn : Nat.ble (j + 1) M.2.2.1 = true) (hj : mi_nl lv j = true) (k : MW E M d (pc + 3) (lv.set j (some (.int (nI m)))) st h mc ms Q) : MW E M d pc lv st h mc ms Q := MW.iinc hd hl (by rw [mone32]; exact pk_m1 m) hn hj k
end Calls9
section World9
variable {l : Launch} {D : va_G} {t : ty4} {b L : Nat} {xs : Nat → Int32} {q : Nat → Nat} {i : Nat → Int32} {a : Nat → Nat → Int32} {w : Int64}
variable {M : mi_M} {d pc : Nat} {lv : List (Option Value)} {st : List Value} {mc ms : Nat} {Q : mi_O → va_W → Nat → Nat → Prop}
/-- row[j] -/
theorem MW.row {j : Nat} (hd : decode M.2.1 pc = .ok (Instr.aaload, 1)) (hj : j < 8) (kk : MW (En l D t b L xs) M d (pc + 1) lv (.ref (q (6 + j)) :: st) (hw t q i a w) mc ms Q) : MW (En l D t b L xs) M d pc lv (.int (nI j) :: .ref (q 4) :: st) (hw t q i a w) mc ms Q :=
  MW.aald hd 4 2 (C := "TruckLoads$Pallet") rfl rfl (vp_in_nI hj (by omega)) (v := q (6 + j)) (by rw [nI_clamp (by omega)]) kk
/-- a pallet's field -/
theorem MW.palg {k j : Nat} (hf : mi_Gf M pc 2 k) (hj : j < 8) (hk : k < 6) (kk : MW (En l D t b L xs) M d (pc + 3) lv (.int (a (2 + k) j) :: st) (hw t q i a w) mc ms Q) : MW (En l D t b L xs) M d pc lv (.ref (q (6 + j)) :: st) (hw t q i a w) mc ms Q :=
  MW.getf hf (6 + j) (hw_pal hj) (v := .int (a (2 + k) j)) (by match k, hk with
    | 0, _ => rfl
    | 1, _ => rfl
    | 2, _ => rfl
    | 3, _ => rfl
    | 4, _ => rfl
    | 5, _ => rfl
    | _ + 6, h => exact absurd h (by omega)) kk
theorem MW.palp {k j : Nat} {fty : FieldType} {x : Int32} (hf : mi_Pf M pc 2 k fty) (hj : j < 8) (hk : k < 6) (hn : narrow fty (.int x) = .int x) (hfit : fits fty (.int x) = true) (kk : MW (En l D t b L xs) M d (pc + 3) lv st (hw t q i (au a (2 + k) (upd (a (2 + k)) j x)) w) mc ms Q) : MW (En l D t b L xs) M d pc lv (.int x :: .ref (q (6 + j)) :: st) (hw t q i a w) mc ms Q :=
  MW.putf hf (6 + j) (hw_pal hj) hn hfit (Nat.ble_eq_true_of_le (by show k + 1 ≤ 6; omega)) (by rw [hw_palset k hj hk]; exact kk)
theorem MW.pg0 {j : Nat} (hf : mi_Gf M pc 2 0) (hj : j < 8) (kk : MW (En l D t b L xs) M d (pc + 3) lv (.int (a 2 j) :: st) (hw t q i a w) mc ms Q) : MW (En l D t b L xs) M d pc lv (.ref (q (6 + j)) :: st) (hw t q i a w) mc ms Q := MW.palg hf hj (by decide) kk
theorem MW.pp0 {j : Nat} {fty : FieldType} {x : Int32} (hf : mi_Pf M pc 2 0 fty) (hj : j < 8) (hn : narrow fty (.int x) = .int x) (hfit : fits fty (.int x) = true) (kk : MW (En l D t b L xs) M d (pc + 3) lv st (hw t q i (au a 2 (upd (a 2) j x)) w) mc ms Q) : MW (En l D t b L xs) M d pc lv (.int x :: .ref (q (6 + j)) :: st) (hw t q i a w) mc ms Q := MW.palp hf hj (by decide) hn hfit kk
theorem MW.pg1 {j : Nat} (hf : mi_Gf M pc 2 1) (hj : j < 8) (kk : MW (En l D t b L xs) M d (pc + 3) lv (.int (a 3 j) :: st) (hw t q i a w) mc ms Q) : MW (En l D t b L xs) M d pc lv (.ref (q (6 + j)) :: st) (hw t q i a w) mc ms Q := MW.palg hf hj (by decide) kk
theorem MW.pp1 {j : Nat} {fty : FieldType} {x : Int32} (hf : mi_Pf M pc 2 1 fty) (hj : j < 8) (hn : narrow fty (.int x) = .int x) (hfit : fits fty (.int x) = true) (kk : MW (En l D t b L xs) M d (pc + 3) lv st (hw t q i (au a 3 (upd (a 3) j x)) w) mc ms Q) : MW (En l D t b L xs) M d pc lv (.int x :: .ref (q (6 + j)) :: st) (hw t q i a w) mc ms Q := MW.palp hf hj (by decide) hn hfit kk
theorem MW.pg2 {j : Nat} (hf : mi_Gf M pc 2 2) (hj : j < 8) (kk : MW (En l D t b L xs) M d (pc + 3) lv (.int (a 4 j) :: st) (hw t q i a w) mc ms Q) : MW (En l D t b L xs) M d pc lv (.ref (q (6 + j)) :: st) (hw t q i a w) mc ms Q := MW.palg hf hj (by decide) kk
theorem MW.pp2 {j : Nat} {fty : FieldType} {x : Int32} (hf : mi_Pf M pc 2 2 fty) (hj : j < 8) (hn : narrow fty (.int x) = .int x) (hfit : fits fty (.int x) = true) (kk : MW (En l D t b L xs) M d (pc + 3) lv st (hw t q i (au a 4 (upd (a 4) j x)) w) mc ms Q) : MW (En l D t b L xs) M d pc lv (.int x :: .ref (q (6 + j)) :: st) (hw t q i a w) mc ms Q := MW.palp hf hj (by decide) hn hfit kk
theorem MW.pg3 {j : Nat} (hf : mi_Gf M pc 2 3) (hj : j < 8) (kk : MW (En l D t b L xs) M d (pc + 3) lv (.int (a 5 j) :: st) (hw t q i a w) mc ms Q) : MW (En l D t b L xs) M d pc lv (.ref (q (6 + j)) :: st) (hw t q i a w) mc ms Q := MW.palg hf hj (by decide) kk
theorem MW.pp3 {j : Nat} {fty : FieldType} {x : Int32} (hf : mi_Pf M pc 2 3 fty) (hj : j < 8) (hn : narrow fty (.int x) = .int x) (hfit : fits fty (.int x) = true) (kk : MW (En l D t b L xs) M d (pc + 3) lv st (hw t q i (au a 5 (upd (a 5) j x)) w) mc ms Q) : MW (En l D t b L xs) M d pc lv (.int x :: .ref (q (6 + j)) :: st) (hw t q i a w) mc ms Q := MW.palp hf hj (by decide) hn hfit kk
theorem MW.pg4 {j : Nat} (hf : mi_Gf M pc 2 4) (hj : j < 8) (kk : MW (En l D t b L xs) M d (pc + 3) lv (.int (a 6 j) :: st) (hw t q i a w) mc ms Q) : MW (En l D t b L xs) M d pc lv (.ref (q (6 + j)) :: st) (hw t q i a w) mc ms Q := MW.palg hf hj (by decide) kk
theorem MW.pp4 {j : Nat} {fty : FieldType} {x : Int32} (hf : mi_Pf M pc 2 4 fty) (hj : j < 8) (hn : narrow fty (.int x) = .int x) (hfit : fits fty (.int x) = true) (kk : MW (En l D t b L xs) M d (pc + 3) lv st (hw t q i (au a 6 (upd (a 6) j x)) w) mc ms Q) : MW (En l D t b L xs) M d pc lv (.int x :: .ref (q (6 + j)) :: st) (hw t q i a w) mc ms Q := MW.palp hf hj (by decide) hn hfit kk
theorem MW.pg5 {j : Nat} (hf : mi_Gf M pc 2 5) (hj : j < 8) (kk : MW (En l D t b L xs) M d (pc + 3) lv (.int (a 7 j) :: st) (hw t q i a w) mc ms Q) : MW (En l D t b L xs) M d pc lv (.ref (q (6 + j)) :: st) (hw t q i a w) mc ms Q := MW.palg hf hj (by decide) kk
theorem MW.pp5 {j : Nat} {fty : FieldType} {x : Int32} (hf : mi_Pf M pc 2 5 fty) (hj : j < 8) (hn : narrow fty (.int x) = .int x) (hfit : fits fty (.int x) = true) (kk : MW (En l D t b L xs) M d (pc + 3) lv st (hw t q i (au a 7 (upd (a 7) j x)) w) mc ms Q) : MW (En l D t b L xs) M d pc lv (.int x :: .ref (q (6 + j)) :: st) (hw t q i a w) mc ms Q := MW.palp hf hj (by decide) hn hfit kk
theorem hw_s0_0 {x : Int32} : (hw t q i a w).set 5 (q 5, .inr (0, [.int x, .int (i 5), .int (i 6), .int (i 7)])) = hw t q (upd i 4 x) a w := rfl
theorem hw_s0_1 {x : Int32} : (hw t q i a w).set 5 (q 5, .inr (0, [.int (i 4), .int x, .int (i 6), .int (i 7)])) = hw t q (upd i 5 x) a w := rfl
theorem hw_s0_2 {x : Int32} : (hw t q i a w).set 5 (q 5, .inr (0, [.int (i 4), .int (i 5), .int x, .int (i 7)])) = hw t q (upd i 6 x) a w := rfl
theorem hw_s0_3 {x : Int32} : (hw t q i a w).set 5 (q 5, .inr (0, [.int (i 4), .int (i 5), .int (i 6), .int x])) = hw t q (upd i 7 x) a w := rfl
theorem hw_s1_0 {x : Int32} : (hw t q i a w).set 1 (q 1, .inr (1, [.int x, .ref (q 2), .ref (q 3), .ref (q 4), .ref (q 5), .int (i 3)])) = hw t q (upd i 2 x) a w := rfl
theorem hw_s1_5 {x : Int32} : (hw t q i a w).set 1 (q 1, .inr (1, [.int (i 2), .ref (q 2), .ref (q 3), .ref (q 4), .ref (q 5), .int x])) = hw t q (upd i 3 x) a w := rfl
theorem hw_s3_1 {x : Int32} : (hw t q i a w).set 16 (q 16, .inr (3, [.ref (q 17), .int x, .int (i 11)])) = hw t q (upd i 10 x) a w := rfl
theorem hw_s3_2 {x : Int32} : (hw t q i a w).set 16 (q 16, .inr (3, [.ref (q 17), .int (i 10), .int x])) = hw t q (upd i 11 x) a w := rfl
theorem hw_s4_1 {x : Int32} : (hw t q i a w).set 14 (q 14, .inr (4, [.ref (q 15), .int x, .int (i 9)])) = hw t q (upd i 8 x) a w := rfl
theorem hw_s4_2 {x : Int32} : (hw t q i a w).set 14 (q 14, .inr (4, [.ref (q 15), .int (i 8), .int x])) = hw t q (upd i 9 x) a w := rfl
theorem hw_s5_3 {x : Int32} : (hw t q i a w).set 0 (q 0, .inr (5, [.ref (q 1), .ref (q 14), .ref (q 16), .int x, .int (i 1)])) = hw t q (upd i 0 x) a w := rfl
theorem hw_s5_4 {x : Int32} : (hw t q i a w).set 0 (q 0, .inr (5, [.ref (q 1), .ref (q 14), .ref (q 16), .int (i 0), .int x])) = hw t q (upd i 1 x) a w := rfl
theorem hw_s6_0 {x : Int32} : (hw t q i a w).set 18 (q 18, .inr (6, [.int x, .ref (q 19), .ref (q 20), .int (i 13), .int (i 14), .int (i 15), .int (i 16), .int (i 17), .int (i 18), .ref (q 21), .ref (q 22), .ref (q 23), .ref (q 24), .ref (q 25), .ref (q 26), .ref (q 27), .int (i 19), .int (i 20), .int (i 21), .int (i 22), .ref (q 28)])) = hw t q (upd i 12 x) a w := rfl
theorem hw_s6_3 {x : Int32} : (hw t q i a w).set 18 (q 18, .inr (6, [.int (i 12), .ref (q 19), .ref (q 20), .int x, .int (i 14), .int (i 15), .int (i 16), .int (i 17), .int (i 18), .ref (q 21), .ref (q 22), .ref (q 23), .ref (q 24), .ref (q 25), .ref (q 26), .ref (q 27), .int (i 19), .int (i 20), .int (i 21), .int (i 22), .ref (q 28)])) = hw t q (upd i 13 x) a w := rfl
theorem hw_s6_4 {x : Int32} : (hw t q i a w).set 18 (q 18, .inr (6, [.int (i 12), .ref (q 19), .ref (q 20), .int (i 13), .int x, .int (i 15), .int (i 16), .int (i 17), .int (i 18), .ref (q 21), .ref (q 22), .ref (q 23), .ref (q 24), .ref (q 25), .ref (q 26), .ref (q 27), .int (i 19), .int (i 20), .int (i 21), .int (i 22), .ref (q 28)])) = hw t q (upd i 14 x) a w := rfl
theorem hw_s6_5 {x : Int32} : (hw t q i a w).set 18 (q 18, .inr (6, [.int (i 12), .ref (q 19), .ref (q 20), .int (i 13), .int (i 14), .int x, .int (i 16), .int (i 17), .int (i 18), .ref (q 21), .ref (q 22), .ref (q 23), .ref (q 24), .ref (q 25), .ref (q 26), .ref (q 27), .int (i 19), .int (i 20), .int (i 21), .int (i 22), .ref (q 28)])) = hw t q (upd i 15 x) a w := rfl
theorem hw_s6_6 {x : Int32} : (hw t q i a w).set 18 (q 18, .inr (6, [.int (i 12), .ref (q 19), .ref (q 20), .int (i 13), .int (i 14), .int (i 15), .int x, .int (i 17), .int (i 18), .ref (q 21), .ref (q 22), .ref (q 23), .ref (q 24), .ref (q 25), .ref (q 26), .ref (q 27), .int (i 19), .int (i 20), .int (i 21), .int (i 22), .ref (q 28)])) = hw t q (upd i 16 x) a w := rfl
theorem hw_s6_7 {x : Int32} : (hw t q i a w).set 18 (q 18, .inr (6, [.int (i 12), .ref (q 19), .ref (q 20), .int (i 13), .int (i 14), .int (i 15), .int (i 16), .int x, .int (i 18), .ref (q 21), .ref (q 22), .ref (q 23), .ref (q 24), .ref (q 25), .ref (q 26), .ref (q 27), .int (i 19), .int (i 20), .int (i 21), .int (i 22), .ref (q 28)])) = hw t q (upd i 17 x) a w := rfl
theorem hw_s6_8 {x : Int32} : (hw t q i a w).set 18 (q 18, .inr (6, [.int (i 12), .ref (q 19), .ref (q 20), .int (i 13), .int (i 14), .int (i 15), .int (i 16), .int (i 17), .int x, .ref (q 21), .ref (q 22), .ref (q 23), .ref (q 24), .ref (q 25), .ref (q 26), .ref (q 27), .int (i 19), .int (i 20), .int (i 21), .int (i 22), .ref (q 28)])) = hw t q (upd i 18 x) a w := rfl
theorem hw_s6_16 {x : Int32} : (hw t q i a w).set 18 (q 18, .inr (6, [.int (i 12), .ref (q 19), .ref (q 20), .int (i 13), .int (i 14), .int (i 15), .int (i 16), .int (i 17), .int (i 18), .ref (q 21), .ref (q 22), .ref (q 23), .ref (q 24), .ref (q 25), .ref (q 26), .ref (q 27), .int x, .int (i 20), .int (i 21), .int (i 22), .ref (q 28)])) = hw t q (upd i 19 x) a w := rfl
theorem hw_s6_17 {x : Int32} : (hw t q i a w).set 18 (q 18, .inr (6, [.int (i 12), .ref (q 19), .ref (q 20), .int (i 13), .int (i 14), .int (i 15), .int (i 16), .int (i 17), .int (i 18), .ref (q 21), .ref (q 22), .ref (q 23), .ref (q 24), .ref (q 25), .ref (q 26), .ref (q 27), .int (i 19), .int x, .int (i 21), .int (i 22), .ref (q 28)])) = hw t q (upd i 20 x) a w := rfl
theorem hw_s6_18 {x : Int32} : (hw t q i a w).set 18 (q 18, .inr (6, [.int (i 12), .ref (q 19), .ref (q 20), .int (i 13), .int (i 14), .int (i 15), .int (i 16), .int (i 17), .int (i 18), .ref (q 21), .ref (q 22), .ref (q 23), .ref (q 24), .ref (q 25), .ref (q 26), .ref (q 27), .int (i 19), .int (i 20), .int x, .int (i 22), .ref (q 28)])) = hw t q (upd i 21 x) a w := rfl
theorem hw_s6_19 {x : Int32} : (hw t q i a w).set 18 (q 18, .inr (6, [.int (i 12), .ref (q 19), .ref (q 20), .int (i 13), .int (i 14), .int (i 15), .int (i 16), .int (i 17), .int (i 18), .ref (q 21), .ref (q 22), .ref (q 23), .ref (q 24), .ref (q 25), .ref (q 26), .ref (q 27), .int (i 19), .int (i 20), .int (i 21), .int x, .ref (q 28)])) = hw t q (upd i 22 x) a w := rfl
theorem hw_a2 {f : Nat → Int32} : (hw t q i a w).set 2 (q 2, .inl (t.1, 12, .inl f)) = hw t q i (au a 0 f) w := rfl
theorem hw_a3 {f : Nat → Int32} : (hw t q i a w).set 3 (q 3, .inl (t.2.1, 12, .inl f)) = hw t q i (au a 1 f) w := rfl
theorem hw_a15 {f : Nat → Int32} : (hw t q i a w).set 15 (q 15, .inl (t.1, 5, .inl f)) = hw t q i (au a 8 f) w := rfl
theorem hw_a17 {f : Nat → Int32} : (hw t q i a w).set 17 (q 17, .inl (t.1, 10, .inl f)) = hw t q i (au a 9 f) w := rfl
theorem hw_a19 {f : Nat → Int32} : (hw t q i a w).set 19 (q 19, .inl (t.1, 12, .inl f)) = hw t q i (au a 10 f) w := rfl
theorem hw_a20 {f : Nat → Int32} : (hw t q i a w).set 20 (q 20, .inl (t.2.1, 12, .inl f)) = hw t q i (au a 11 f) w := rfl
theorem hw_a21 {f : Nat → Int32} : (hw t q i a w).set 21 (q 21, .inl (t.1, 8, .inl f)) = hw t q i (au a 12 f) w := rfl
theorem hw_a22 {f : Nat → Int32} : (hw t q i a w).set 22 (q 22, .inl (t.2.1, 8, .inl f)) = hw t q i (au a 13 f) w := rfl
theorem hw_a23 {f : Nat → Int32} : (hw t q i a w).set 23 (q 23, .inl (t.2.1, 8, .inl f)) = hw t q i (au a 14 f) w := rfl
theorem hw_a24 {f : Nat → Int32} : (hw t q i a w).set 24 (q 24, .inl (t.1, 8, .inl f)) = hw t q i (au a 15 f) w := rfl
theorem hw_a25 {f : Nat → Int32} : (hw t q i a w).set 25 (q 25, .inl (t.1, 8, .inl f)) = hw t q i (au a 16 f) w := rfl
theorem hw_a26 {f : Nat → Int32} : (hw t q i a w).set 26 (q 26, .inl (t.1, 8, .inl f)) = hw t q i (au a 17 f) w := rfl
theorem hw_a27 {f : Nat → Int32} : (hw t q i a w).set 27 (q 27, .inl (t.1, 8, .inl f)) = hw t q i (au a 18 f) w := rfl
theorem hw_a28 {f : Nat → Int32} : (hw t q i a w).set 28 (q 28, .inl (t.1, 10, .inl f)) = hw t q i (au a 19 f) w := rfl
theorem hw_out {x : Int64} : (hw t q i a w).set 29 (q 29, .inl (t.2.2.2, 1, .inr (.inl (fun _ => x)))) = hw t q i a x := rfl
end World9
end
section
/-- a truth as an int -/
noncomputable def bI (p : Prop) : Int32 := @ite Int32 p (Classical.propDecidable p) 1 0
theorem bI_t {p : Prop} (h : p) : bI p = 1 := if_pos h
theorem bI_f {p : Prop} (h : ¬ p) : bI p = 0 := if_neg h
theorem bI_c {p r : Prop} (h : p ↔ r) : bI p = bI r := by rw [propext h]
theorem bI_01 (p : Prop) : bI p = 0 ∨ bI p = 1 := by
  by_cases h : p
  · exact Or.inr (bI_t h)
  · exact Or.inl (bI_f h)
theorem bI_0 {p : Prop} : bI p = 0 ↔ ¬ p := by
  by_cases h : p
  · rw [bI_t h]; exact ⟨fun z => absurd z (by decide), fun z => absurd h z⟩
  · rw [bI_f h]; exact ⟨fun _ => h, fun _ => rfl⟩
theorem rtb_t {p : Prop} {h : va_W} {mc ms : Nat} (hp : p) : rt (some (.int (bI p))) h mc ms (.inl (some (.int 1))) h mc ms := ⟨by rw [bI_t hp], rfl, rfl, rfl⟩
theorem rtb_f {p : Prop} {h : va_W} {mc ms : Nat} (hp : ¬ p) : rt (some (.int (bI p))) h mc ms (.inl (some (.int 0))) h mc ms := ⟨by rw [bI_f hp], rfl, rfl, rfl⟩
theorem rt_e {x y : Int32} {h : va_W} {mc ms : Nat} (e : x = y) : rt (some (.int x)) h mc ms (.inl (some (.int y))) h mc ms := by rw [e]; exact rt_r
/-- an axle's share of a weight, times the span -/
def shr (i : Nat → Int32) (ax wt c : Int32) : Int32 := if ax = 0 then wt * (i 5 - c) else wt * (c - i 4)
section Leaf
variable {l : Launch} {D : va_G} {t : ty4} {b L : Nat} {xs : Nat → Int32} {q : Nat → Nat} {i : Nat → Int32} {a : Nat → Nat → Int32} {w : Int64} {d mc ms : Nat}
set_option maxHeartbeats 1000000 in
theorem c_span : MC (En l D t b L xs) MX0_span d [.ref (q 5)] (hw t q i a w) mc ms (rt (some (.int (i 5 - i 4))) (hw t q i a w) mc ms) := by
  show MW _ _ _ 0 [some (.ref (q 5))] [] _ _ _ _
  refine MW.aload_n dX0_span_0 rfl ?_
  refine MW.getf fX0_span_1 5 rfl rfl ?_
  refine MW.aload_n dX0_span_4 rfl ?_
  refine MW.getf fX0_span_5 5 rfl rfl ?_
  refine MW.isub dX0_span_8 ?_
  exact MW.ireturn dX0_span_9 rfl (rfl) rt_r
set_option maxHeartbeats 1000000 in
theorem c_share {ax wt c : Int32} : MC (En l D t b L xs) MX0_share d [.ref (q 5), .int ax, .int wt, .int c] (hw t q i a w) mc ms (rt (some (.int (shr i ax wt c))) (hw t q i a w) mc ms) := by
  show MW _ _ _ 0 [some (.ref (q 5)), some (.int ax), some (.int wt), some (.int c)] [] _ _ _ _
  refine MW.iload_n dX0_share_0 rfl ?_
  refine MW.if_ne 15 dX0_share_1 (by decide) (fun hc1 => ?_) (fun hc1 => ?_)
  · skip
    refine MW.iload_n dX0_share_15 rfl ?_
    refine MW.iload_n dX0_share_16 rfl ?_
    refine MW.aload_n dX0_share_17 rfl ?_
    refine MW.getf fX0_share_18 5 rfl rfl ?_
    refine MW.isub dX0_share_21 ?_
    refine MW.imul dX0_share_22 ?_
    exact MW.ireturn dX0_share_23 rfl (rfl) (rt_e (by unfold shr; first | rw [if_pos (by assumption)] | rw [if_neg (by assumption)]))
  · skip
    refine MW.iload_n dX0_share_4 rfl ?_
    refine MW.aload_n dX0_share_5 rfl ?_
    refine MW.getf fX0_share_6 5 rfl rfl ?_
    refine MW.iload_n dX0_share_9 rfl ?_
    refine MW.isub dX0_share_10 ?_
    refine MW.imul dX0_share_11 ?_
    refine MW.goto 23 dX0_share_12 (by decide) ?_
    exact MW.ireturn dX0_share_23 rfl (rfl) (rt_e (by unfold shr; first | rw [if_pos (by assumption)] | rw [if_neg (by assumption)]))
set_option maxHeartbeats 1000000 in
theorem c_bear {x y : Int32} : MC (En l D t b L xs) MX0_bear (d + 1) [.ref (q 5), .int x, .int y] (hw t q i a w) mc ms (rt (some (.int (bI (x ≤ i 6 * (i 5 - i 4) ∧ y ≤ i 7 * (i 5 - i 4))))) (hw t q i a w) mc ms) := by
  show MW _ _ _ 0 [some (.ref (q 5)), some (.int x), some (.int y)] [] _ _ _ _
  refine MW.iload_n dX0_bear_0 rfl ?_
  refine MW.aload_n dX0_bear_1 rfl ?_
  refine MW.getf fX0_bear_2 5 rfl rfl ?_
  refine MW.aload_n dX0_bear_5 rfl ?_
  refine MW.callV1 fX0_bear_6 5 rfl (c_span) rfl rfl rfl rfl (Nat.le_of_ble_eq_true rfl) ?_
  refine MW.imul dX0_bear_9 ?_
  refine MW.icmp_gt 30 dX0_bear_10 (by decide) (fun hc10 => ?_) (fun hc10 => ?_)
  · skip
    refine MW.iconst (v := 0) dX0_bear_30 (by decide) ?_
    exact MW.ireturn dX0_bear_31 rfl (rfl) (by first | exact rtb_t ⟨Int32.not_lt.mp (by assumption), Int32.not_lt.mp (by assumption)⟩ | exact rtb_f (fun z => by first | exact absurd z.1 (Int32.not_le.mpr (by assumption)) | exact absurd z.2 (Int32.not_le.mpr (by assumption))))
  · skip
    refine MW.iload_n dX0_bear_13 rfl ?_
    refine MW.aload_n dX0_bear_14 rfl ?_
    refine MW.getf fX0_bear_15 5 rfl rfl ?_
    refine MW.aload_n dX0_bear_18 rfl ?_
    refine MW.callV1 fX0_bear_19 5 rfl (c_span) rfl rfl rfl rfl (Nat.le_of_ble_eq_true rfl) ?_
    refine MW.imul dX0_bear_22 ?_
    refine MW.icmp_gt 30 dX0_bear_23 (by decide) (fun hc23 => ?_) (fun hc23 => ?_)
    · skip
      refine MW.iconst (v := 0) dX0_bear_30 (by decide) ?_
      exact MW.ireturn dX0_bear_31 rfl (rfl) (by first | exact rtb_t ⟨Int32.not_lt.mp (by assumption), Int32.not_lt.mp (by assumption)⟩ | exact rtb_f (fun z => by first | exact absurd z.1 (Int32.not_le.mpr (by assumption)) | exact absurd z.2 (Int32.not_le.mpr (by assumption))))
    · skip
      refine MW.iconst (v := 1) dX0_bear_26 (by decide) ?_
      refine MW.goto 31 dX0_bear_27 (by decide) ?_
      exact MW.ireturn dX0_bear_31 rfl (rfl) (by first | exact rtb_t ⟨Int32.not_lt.mp (by assumption), Int32.not_lt.mp (by assumption)⟩ | exact rtb_f (fun z => by first | exact absurd z.1 (Int32.not_le.mpr (by assumption)) | exact absurd z.2 (Int32.not_le.mpr (by assumption))))
set_option maxHeartbeats 1000000 in
theorem c_stands {j : Nat} (hj : j < 8) : MC (En l D t b L xs) MX2_stands d [.ref (q (6 + j))] (hw t q i a w) mc ms (rt (some (.int (bI (¬ a 7 j = -1)))) (hw t q i a w) mc ms) := by
  show MW _ _ _ 0 [some (.ref (q (6 + j)))] [] _ _ _ _
  refine MW.aload_n dX2_stands_0 rfl ?_
  refine MW.pg5 fX2_stands_1 hj ?_
  refine MW.iconst (v := -1) dX2_stands_4 (by decide) ?_
  refine MW.icmp_eq 12 dX2_stands_5 (by decide) (fun hc5 => ?_) (fun hc5 => ?_)
  · skip
    refine MW.iconst (v := 0) dX2_stands_12 (by decide) ?_
    exact MW.ireturn dX2_stands_13 rfl (rfl) (by first | exact rtb_t (by assumption) | exact rtb_f (fun z => z (by assumption)))
  · skip
    refine MW.iconst (v := 1) dX2_stands_8 (by decide) ?_
    refine MW.goto 13 dX2_stands_9 (by decide) ?_
    exact MW.ireturn dX2_stands_13 rfl (rfl) (by first | exact rtb_t (by assumption) | exact rtb_f (fun z => z (by assumption)))
set_option maxHeartbeats 1000000 in
theorem c_hasCell {c : Int32} : MC (En l D t b L xs) MX1_hasCell d [.ref (q 1), .int c] (hw t q i a w) mc ms (rt (some (.int (bI (0 ≤ c ∧ c < i 2)))) (hw t q i a w) mc ms) := by
  show MW _ _ _ 0 [some (.ref (q 1)), some (.int c)] [] _ _ _ _
  refine MW.iload_n dX1_hasCell_0 rfl ?_
  refine MW.if_lt 16 dX1_hasCell_1 (by decide) (fun hc1 => ?_) (fun hc1 => ?_)
  · skip
    refine MW.iconst (v := 0) dX1_hasCell_16 (by decide) ?_
    exact MW.ireturn dX1_hasCell_17 rfl (rfl) (by first | exact rtb_t ⟨Int32.not_lt.mp (by assumption), Int32.not_le.mp (by assumption)⟩ | exact rtb_f (fun z => by first | exact absurd z.1 (Int32.not_le.mpr (by assumption)) | exact absurd z.2 (Int32.not_lt.mpr (by assumption))))
  · skip
    refine MW.iload_n dX1_hasCell_4 rfl ?_
    refine MW.aload_n dX1_hasCell_5 rfl ?_
    refine MW.getf fX1_hasCell_6 1 rfl rfl ?_
    refine MW.icmp_ge 16 dX1_hasCell_9 (by decide) (fun hc9 => ?_) (fun hc9 => ?_)
    · skip
      refine MW.iconst (v := 0) dX1_hasCell_16 (by decide) ?_
      exact MW.ireturn dX1_hasCell_17 rfl (rfl) (by first | exact rtb_t ⟨Int32.not_lt.mp (by assumption), Int32.not_le.mp (by assumption)⟩ | exact rtb_f (fun z => by first | exact absurd z.1 (Int32.not_le.mpr (by assumption)) | exact absurd z.2 (Int32.not_lt.mpr (by assumption))))
    · skip
      refine MW.iconst (v := 1) dX1_hasCell_12 (by decide) ?_
      refine MW.goto 17 dX1_hasCell_13 (by decide) ?_
      exact MW.ireturn dX1_hasCell_17 rfl (rfl) (by first | exact rtb_t ⟨Int32.not_lt.mp (by assumption), Int32.not_le.mp (by assumption)⟩ | exact rtb_f (fun z => by first | exact absurd z.1 (Int32.not_le.mpr (by assumption)) | exact absurd z.2 (Int32.not_lt.mpr (by assumption))))
end Leaf
end
section
/-- how many of the first n stand, in Java's ints -/
def stn (wh : Nat → Int32) : Nat → Int32
  | 0 => 0
  | n + 1 => if wh n = -1 then stn wh n else stn wh n + 1
/-- what they weigh -/
def wtn (wt wh : Nat → Int32) : Nat → Int32
  | 0 => 0
  | n + 1 => if wh n = -1 then wtn wt wh n else wtn wt wh n + wt n
/-- what they bring on an axle, g the axle's share of a weight in a cell -/
def axn (g : Int32 → Int32 → Int32) (wt wh : Nat → Int32) : Nat → Int32
  | 0 => 0
  | n + 1 => if wh n = -1 then axn g wt wh n else axn g wt wh n + g (wt n) (wh n)
/-- Math.abs -/
def ab (x : Int32) : Int32 := if 0 ≤ x then x else 0 - x
/-- a dangerous one beside the cell c for the pallet j -/
def dgP (dg wh : Nat → Int32) (k j : Nat) (c : Int32) : Prop := ∃ m, m < k ∧ m ≠ j ∧ ¬ wh m = -1 ∧ ¬ dg j = 0 ∧ ¬ dg m = 0 ∧ ab (wh m - c) = 1
/-- by stops the pallet j, for the stop s, could not stand in c -/
def spP (sp wh : Nat → Int32) (k j : Nat) (s c : Int32) : Prop := ∃ m, m < k ∧ m ≠ j ∧ ¬ wh m = -1 ∧ (sp m < s ∧ wh m < c ∨ s < sp m ∧ c < wh m)
section PalCmp
variable {E : mi_E} {M : mi_M} {d pc : Nat} {lv : List (Option Value)} {st : List Value} {h : va_W} {mc ms : Nat} {Q : mi_O → va_W → Nat → Nat → Prop}
/-- two cells of the world compared: by their places -/
theorem MW.acmpD {x y : Nat} {off : Int} {e0 e1 : va_E} (tgt : Nat) (hd : decode M.2.1 pc = .ok (Instr.if_acmp .eq off, 3)) (ht : (pc : Int) + off = (tgt : Int)) (p0 p1 : Nat) (h0 : h[p0]? = some (x, e0)) (h1 : h[p1]? = some (y, e1)) (kt : p0 = p1 → MW E M d tgt lv st h mc ms Q) (kf : ¬ p0 = p1 → MW E M d (pc + 3) lv st h mc ms Q) : MW E M d pc lv (.ref y :: .ref x :: st) h mc ms Q := by
  intro p e R s m args below meth c H locs ls A cb sb Z hp hz
  refine MW.acmp_eq tgt hd ht (fun hxy => ?_) (fun hxy => ?_) p e R s m args below meth c H locs ls A cb sb Z hp hz
  · exact kt (hp.2.2.2.1.2.1.1 p0 p1 _ _ h0 h1 hxy)
  · refine kf (fun z => hxy ?_)
    subst z
    rw [h0] at h1
    exact congrArg Prod.fst (Option.some.inj h1)
end PalCmp
section Load1
variable {l : Launch} {D : va_G} {t : ty4} {b L : Nat} {xs : Nat → Int32} {q : Nat → Nat} {i : Nat → Int32} {a : Nat → Nat → Int32} {w : Int64} {d mc ms : Nat}
set_option maxHeartbeats 2000000 in
theorem l_isTaken {k : Nat} (hk : i 3 = nI k) (hk8 : k ≤ 8) {c : Int32} : ∀ (r j : Nat), j + r = k → (∀ m, m < j → ¬ a 7 m = c) → MW (En l D t b L xs) MX1_isTaken d 2 [some (.ref (q 1)), some (.int c), some (.int (nI j))] [] (hw t q i a w) mc ms (rt (some (.int (bI (∃ m, m < k ∧ a 7 m = c)))) (hw t q i a w) mc ms) := by
  intro r
  induction r with
  | zero =>
    intro j  hj hI
    refine MW.iload_n dX1_isTaken_2 rfl ?_
    refine MW.aload_n dX1_isTaken_3 rfl ?_
    refine MW.getf fX1_isTaken_4 1 rfl rfl ?_
    refine MW.icmp_ge 31 dX1_isTaken_7 (by decide) (fun hc7 => ?_) (fun hc7 => absurd (show i 3 ≤ nI j by rw [hk]; exact nI_le (by omega) (by omega)) hc7)
    refine MW.iconst (v := 0) dX1_isTaken_31 (by decide) ?_
    exact MW.ireturn dX1_isTaken_32 rfl (rfl) (rtb_f (fun ⟨m, h1, h2⟩ => hI m (by omega) h2))
  | succ r ih =>
    intro j  hj hI
    have hjk : j < k := by omega
    refine MW.iload_n dX1_isTaken_2 rfl ?_
    refine MW.aload_n dX1_isTaken_3 rfl ?_
    refine MW.getf fX1_isTaken_4 1 rfl rfl ?_
    refine MW.icmp_ge 31 dX1_isTaken_7 (by decide) (fun hc7 => absurd hc7 (show ¬ i 3 ≤ nI j by rw [hk]; exact nI_ge (by omega) (by omega))) (fun hc7 => ?_)
    refine MW.aload_n dX1_isTaken_10 rfl ?_
    refine MW.getf fX1_isTaken_11 1 rfl rfl ?_
    refine MW.iload_n dX1_isTaken_14 rfl ?_
    refine MW.row dX1_isTaken_15 (show j < 8 by omega) ?_
    refine MW.pg5 fX1_isTaken_16 (show j < 8 by omega) ?_
    refine MW.iload_n dX1_isTaken_19 rfl ?_
    refine MW.icmp_ne 25 dX1_isTaken_20 (by decide) (fun hc20 => ?_) (fun hc20 => ?_)
    · skip
      refine MW.iincj dX1_isTaken_25 rfl rfl rfl ?_
      refine MW.goto 2 dX1_isTaken_28 (by decide) ?_
      exact ih (j + 1) (by omega) (lt_s hI (by assumption))
    · skip
      refine MW.iconst (v := 1) dX1_isTaken_23 (by decide) ?_
      exact MW.ireturn dX1_isTaken_24 rfl (rfl) (rtb_t ⟨j, by omega, by assumption⟩)
theorem c_isTaken {k : Nat} (hk : i 3 = nI k) (hk8 : k ≤ 8) {c : Int32} : MC (En l D t b L xs) MX1_isTaken d [.ref (q 1), .int c] (hw t q i a w) mc ms (rt (some (.int (bI (∃ m, m < k ∧ a 7 m = c)))) (hw t q i a w) mc ms) := by
  show MW _ _ _ 0 [some (.ref (q 1)), some (.int c), none] [] _ _ _ _
  refine MW.iconst (v := 0) dX1_isTaken_0 (by decide) ?_
  refine MW.istore_n dX1_isTaken_1 rfl rfl ?_
  exact l_isTaken hk hk8 k 0 (by omega) (fun m h => absurd h (by omega))
set_option maxHeartbeats 2000000 in
theorem l_standing {k : Nat} (hk : i 3 = nI k) (hk8 : k ≤ 8)  : ∀ (r j : Nat), j + r = k → MW (En l D t b L xs) MX1_standing (d + 1) 4 [some (.ref (q 1)), some (.int (stn (a 7) j)), some (.int (nI j))] [] (hw t q i a w) mc ms (rt (some (.int (stn (a 7) k))) (hw t q i a w) mc ms) := by
  intro r
  induction r with
  | zero =>
    intro j  hj 
    refine MW.iload_n dX1_standing_4 rfl ?_
    refine MW.aload_n dX1_standing_5 rfl ?_
    refine MW.getf fX1_standing_6 1 rfl rfl ?_
    refine MW.icmp_ge 33 dX1_standing_9 (by decide) (fun hc9 => ?_) (fun hc9 => absurd (show i 3 ≤ nI j by rw [hk]; exact nI_le (by omega) (by omega)) hc9)
    refine MW.iload_n dX1_standing_33 rfl ?_
    exact MW.ireturn dX1_standing_34 rfl (rfl) (rt_e (by rw [show k = j by omega]))
  | succ r ih =>
    intro j  hj 
    have hjk : j < k := by omega
    refine MW.iload_n dX1_standing_4 rfl ?_
    refine MW.aload_n dX1_standing_5 rfl ?_
    refine MW.getf fX1_standing_6 1 rfl rfl ?_
    refine MW.icmp_ge 33 dX1_standing_9 (by decide) (fun hc9 => absurd hc9 (show ¬ i 3 ≤ nI j by rw [hk]; exact nI_ge (by omega) (by omega))) (fun hc9 => ?_)
    refine MW.aload_n dX1_standing_12 rfl ?_
    refine MW.getf fX1_standing_13 1 rfl rfl ?_
    refine MW.iload_n dX1_standing_16 rfl ?_
    refine MW.row dX1_standing_17 (show j < 8 by omega) ?_
    refine MW.callV1 fX1_standing_18 (6 + _) (hw_pal (show j < 8 by omega)) (c_stands (show j < 8 by omega)) rfl rfl rfl rfl (Nat.le_of_ble_eq_true rfl) ?_
    refine MW.if_eq 27 dX1_standing_21 (by decide) (fun hc21 => ?_) (fun hc21 => ?_)
    · skip
      refine MW.iincj dX1_standing_27 rfl rfl rfl ?_
      refine MW.goto 4 dX1_standing_30 (by decide) ?_
      refine MW.locs (lv' := [some (.ref (q 1)), some (.int (stn (a 7) (j + 1))), some (.int (nI (j + 1)))]) ?_ (ih (j + 1) (by omega))
      first
        | rw [show stn (a 7) (j + 1) = stn (a 7) j from if_pos (Classical.byContradiction (bI_0.mp (by assumption)))]; rfl
        | rw [show stn (a 7) (j + 1) = _ from if_neg (fun z => (show ¬ bI (¬ a 7 j = -1) = 0 by assumption) (bI_0.mpr (fun y => y z)))]; rfl
    · skip
      refine MW.iinc1 dX1_standing_24 rfl rfl rfl ?_
      refine MW.iincj dX1_standing_27 rfl rfl rfl ?_
      refine MW.goto 4 dX1_standing_30 (by decide) ?_
      refine MW.locs (lv' := [some (.ref (q 1)), some (.int (stn (a 7) (j + 1))), some (.int (nI (j + 1)))]) ?_ (ih (j + 1) (by omega))
      first
        | rw [show stn (a 7) (j + 1) = stn (a 7) j from if_pos (Classical.byContradiction (bI_0.mp (by assumption)))]; rfl
        | rw [show stn (a 7) (j + 1) = _ from if_neg (fun z => (show ¬ bI (¬ a 7 j = -1) = 0 by assumption) (bI_0.mpr (fun y => y z)))]; rfl
theorem c_standing {k : Nat} (hk : i 3 = nI k) (hk8 : k ≤ 8)  : MC (En l D t b L xs) MX1_standing (d + 1) [.ref (q 1)] (hw t q i a w) mc ms (rt (some (.int (stn (a 7) k))) (hw t q i a w) mc ms) := by
  show MW _ _ _ 0 [some (.ref (q 1)), none, none] [] _ _ _ _
  refine MW.iconst (v := 0) dX1_standing_0 (by decide) ?_
  refine MW.istore_n dX1_standing_1 rfl rfl ?_
  refine MW.iconst (v := 0) dX1_standing_2 (by decide) ?_
  refine MW.istore_n dX1_standing_3 rfl rfl ?_
  exact l_standing hk hk8 k 0 (by omega)
set_option maxHeartbeats 2000000 in
theorem l_weight {k : Nat} (hk : i 3 = nI k) (hk8 : k ≤ 8)  : ∀ (r j : Nat), j + r = k → MW (En l D t b L xs) MX1_weight (d + 1) 4 [some (.ref (q 1)), some (.int (wtn (a 2) (a 7) j)), some (.int (nI j))] [] (hw t q i a w) mc ms (rt (some (.int (wtn (a 2) (a 7) k))) (hw t q i a w) mc ms) := by
  intro r
  induction r with
  | zero =>
    intro j  hj 
    refine MW.iload_n dX1_weight_4 rfl ?_
    refine MW.aload_n dX1_weight_5 rfl ?_
    refine MW.getf fX1_weight_6 1 rfl rfl ?_
    refine MW.icmp_ge 42 dX1_weight_9 (by decide) (fun hc9 => ?_) (fun hc9 => absurd (show i 3 ≤ nI j by rw [hk]; exact nI_le (by omega) (by omega)) hc9)
    refine MW.iload_n dX1_weight_42 rfl ?_
    exact MW.ireturn dX1_weight_43 rfl (rfl) (rt_e (by rw [show k = j by omega]))
  | succ r ih =>
    intro j  hj 
    have hjk : j < k := by omega
    refine MW.iload_n dX1_weight_4 rfl ?_
    refine MW.aload_n dX1_weight_5 rfl ?_
    refine MW.getf fX1_weight_6 1 rfl rfl ?_
    refine MW.icmp_ge 42 dX1_weight_9 (by decide) (fun hc9 => absurd hc9 (show ¬ i 3 ≤ nI j by rw [hk]; exact nI_ge (by omega) (by omega))) (fun hc9 => ?_)
    refine MW.aload_n dX1_weight_12 rfl ?_
    refine MW.getf fX1_weight_13 1 rfl rfl ?_
    refine MW.iload_n dX1_weight_16 rfl ?_
    refine MW.row dX1_weight_17 (show j < 8 by omega) ?_
    refine MW.callV1 fX1_weight_18 (6 + _) (hw_pal (show j < 8 by omega)) (c_stands (show j < 8 by omega)) rfl rfl rfl rfl (Nat.le_of_ble_eq_true rfl) ?_
    refine MW.if_eq 36 dX1_weight_21 (by decide) (fun hc21 => ?_) (fun hc21 => ?_)
    · skip
      refine MW.iincj dX1_weight_36 rfl rfl rfl ?_
      refine MW.goto 4 dX1_weight_39 (by decide) ?_
      refine MW.locs (lv' := [some (.ref (q 1)), some (.int (wtn (a 2) (a 7) (j + 1))), some (.int (nI (j + 1)))]) ?_ (ih (j + 1) (by omega))
      first
        | rw [show wtn (a 2) (a 7) (j + 1) = wtn (a 2) (a 7) j from if_pos (Classical.byContradiction (bI_0.mp (by assumption)))]; rfl
        | rw [show wtn (a 2) (a 7) (j + 1) = _ from if_neg (fun z => (show ¬ bI (¬ a 7 j = -1) = 0 by assumption) (bI_0.mpr (fun y => y z)))]; rfl
    · skip
      refine MW.iload_n dX1_weight_24 rfl ?_
      refine MW.aload_n dX1_weight_25 rfl ?_
      refine MW.getf fX1_weight_26 1 rfl rfl ?_
      refine MW.iload_n dX1_weight_29 rfl ?_
      refine MW.row dX1_weight_30 (show j < 8 by omega) ?_
      refine MW.pg0 fX1_weight_31 (show j < 8 by omega) ?_
      refine MW.iadd dX1_weight_34 ?_
      refine MW.istore_n dX1_weight_35 rfl rfl ?_
      refine MW.iincj dX1_weight_36 rfl rfl rfl ?_
      refine MW.goto 4 dX1_weight_39 (by decide) ?_
      refine MW.locs (lv' := [some (.ref (q 1)), some (.int (wtn (a 2) (a 7) (j + 1))), some (.int (nI (j + 1)))]) ?_ (ih (j + 1) (by omega))
      first
        | rw [show wtn (a 2) (a 7) (j + 1) = wtn (a 2) (a 7) j from if_pos (Classical.byContradiction (bI_0.mp (by assumption)))]; rfl
        | rw [show wtn (a 2) (a 7) (j + 1) = _ from if_neg (fun z => (show ¬ bI (¬ a 7 j = -1) = 0 by assumption) (bI_0.mpr (fun y => y z)))]; rfl
theorem c_weight {k : Nat} (hk : i 3 = nI k) (hk8 : k ≤ 8)  : MC (En l D t b L xs) MX1_weight (d + 1) [.ref (q 1)] (hw t q i a w) mc ms (rt (some (.int (wtn (a 2) (a 7) k))) (hw t q i a w) mc ms) := by
  show MW _ _ _ 0 [some (.ref (q 1)), none, none] [] _ _ _ _
  refine MW.iconst (v := 0) dX1_weight_0 (by decide) ?_
  refine MW.istore_n dX1_weight_1 rfl rfl ?_
  refine MW.iconst (v := 0) dX1_weight_2 (by decide) ?_
  refine MW.istore_n dX1_weight_3 rfl rfl ?_
  exact l_weight hk hk8 k 0 (by omega)
set_option maxHeartbeats 2000000 in
theorem l_onAxle {k : Nat} (hk : i 3 = nI k) (hk8 : k ≤ 8) {ax : Int32} : ∀ (r j : Nat), j + r = k → MW (En l D t b L xs) MX1_onAxle (d + 1) 4 [some (.ref (q 1)), some (.int ax), some (.int (axn (shr i ax) (a 2) (a 7) j)), some (.int (nI j))] [] (hw t q i a w) mc ms (rt (some (.int (axn (shr i ax) (a 2) (a 7) k))) (hw t q i a w) mc ms) := by
  intro r
  induction r with
  | zero =>
    intro j  hj 
    refine MW.iload_n dX1_onAxle_4 rfl ?_
    refine MW.aload_n dX1_onAxle_5 rfl ?_
    refine MW.getf fX1_onAxle_6 1 rfl rfl ?_
    refine MW.icmp_ge 59 dX1_onAxle_9 (by decide) (fun hc9 => ?_) (fun hc9 => absurd (show i 3 ≤ nI j by rw [hk]; exact nI_le (by omega) (by omega)) hc9)
    refine MW.iload_n dX1_onAxle_59 rfl ?_
    exact MW.ireturn dX1_onAxle_60 rfl (rfl) (rt_e (by rw [show k = j by omega]))
  | succ r ih =>
    intro j  hj 
    have hjk : j < k := by omega
    refine MW.iload_n dX1_onAxle_4 rfl ?_
    refine MW.aload_n dX1_onAxle_5 rfl ?_
    refine MW.getf fX1_onAxle_6 1 rfl rfl ?_
    refine MW.icmp_ge 59 dX1_onAxle_9 (by decide) (fun hc9 => absurd hc9 (show ¬ i 3 ≤ nI j by rw [hk]; exact nI_ge (by omega) (by omega))) (fun hc9 => ?_)
    refine MW.aload_n dX1_onAxle_12 rfl ?_
    refine MW.getf fX1_onAxle_13 1 rfl rfl ?_
    refine MW.iload_n dX1_onAxle_16 rfl ?_
    refine MW.row dX1_onAxle_17 (show j < 8 by omega) ?_
    refine MW.callV1 fX1_onAxle_18 (6 + _) (hw_pal (show j < 8 by omega)) (c_stands (show j < 8 by omega)) rfl rfl rfl rfl (Nat.le_of_ble_eq_true rfl) ?_
    refine MW.if_eq 53 dX1_onAxle_21 (by decide) (fun hc21 => ?_) (fun hc21 => ?_)
    · skip
      refine MW.iincj dX1_onAxle_53 rfl rfl rfl ?_
      refine MW.goto 4 dX1_onAxle_56 (by decide) ?_
      refine MW.locs (lv' := [some (.ref (q 1)), some (.int ax), some (.int (axn (shr i ax) (a 2) (a 7) (j + 1))), some (.int (nI (j + 1)))]) ?_ (ih (j + 1) (by omega))
      first
        | rw [show axn (shr i ax) (a 2) (a 7) (j + 1) = axn (shr i ax) (a 2) (a 7) j from if_pos (Classical.byContradiction (bI_0.mp (by assumption)))]; rfl
        | rw [show axn (shr i ax) (a 2) (a 7) (j + 1) = _ from if_neg (fun z => (show ¬ bI (¬ a 7 j = -1) = 0 by assumption) (bI_0.mpr (fun y => y z)))]; rfl
    · skip
      refine MW.iload_n dX1_onAxle_24 rfl ?_
      refine MW.aload_n dX1_onAxle_25 rfl ?_
      refine MW.getf fX1_onAxle_26 1 rfl rfl ?_
      refine MW.iload_n dX1_onAxle_29 rfl ?_
      refine MW.aload_n dX1_onAxle_30 rfl ?_
      refine MW.getf fX1_onAxle_31 1 rfl rfl ?_
      refine MW.iload_n dX1_onAxle_34 rfl ?_
      refine MW.row dX1_onAxle_35 (show j < 8 by omega) ?_
      refine MW.pg0 fX1_onAxle_36 (show j < 8 by omega) ?_
      refine MW.aload_n dX1_onAxle_39 rfl ?_
      refine MW.getf fX1_onAxle_40 1 rfl rfl ?_
      refine MW.iload_n dX1_onAxle_43 rfl ?_
      refine MW.row dX1_onAxle_44 (show j < 8 by omega) ?_
      refine MW.pg5 fX1_onAxle_45 (show j < 8 by omega) ?_
      refine MW.callV1 fX1_onAxle_48 5 rfl (c_share) rfl rfl rfl rfl (Nat.le_of_ble_eq_true rfl) ?_
      refine MW.iadd dX1_onAxle_51 ?_
      refine MW.istore_n dX1_onAxle_52 rfl rfl ?_
      refine MW.iincj dX1_onAxle_53 rfl rfl rfl ?_
      refine MW.goto 4 dX1_onAxle_56 (by decide) ?_
      refine MW.locs (lv' := [some (.ref (q 1)), some (.int ax), some (.int (axn (shr i ax) (a 2) (a 7) (j + 1))), some (.int (nI (j + 1)))]) ?_ (ih (j + 1) (by omega))
      first
        | rw [show axn (shr i ax) (a 2) (a 7) (j + 1) = axn (shr i ax) (a 2) (a 7) j from if_pos (Classical.byContradiction (bI_0.mp (by assumption)))]; rfl
        | rw [show axn (shr i ax) (a 2) (a 7) (j + 1) = _ from if_neg (fun z => (show ¬ bI (¬ a 7 j = -1) = 0 by assumption) (bI_0.mpr (fun y => y z)))]; rfl
theorem c_onAxle {k : Nat} (hk : i 3 = nI k) (hk8 : k ≤ 8) {ax : Int32} : MC (En l D t b L xs) MX1_onAxle (d + 1) [.ref (q 1), .int ax] (hw t q i a w) mc ms (rt (some (.int (axn (shr i ax) (a 2) (a 7) k))) (hw t q i a w) mc ms) := by
  show MW _ _ _ 0 [some (.ref (q 1)), some (.int ax), none, none] [] _ _ _ _
  refine MW.iconst (v := 0) dX1_onAxle_0 (by decide) ?_
  refine MW.istore_n dX1_onAxle_1 rfl rfl ?_
  refine MW.iconst (v := 0) dX1_onAxle_2 (by decide) ?_
  refine MW.istore_n dX1_onAxle_3 rfl rfl ?_
  exact l_onAxle hk hk8 k 0 (by omega)
end Load1
end
section
noncomputable def cI (p : Prop) (x y : Int32) : Int32 := @ite Int32 p (Classical.propDecidable p) x y
theorem cI_t {p : Prop} {x y : Int32} (h : p) : cI p x y = x := if_pos h
theorem cI_f {p : Prop} {x y : Int32} (h : ¬ p) : cI p x y = y := if_neg h
theorem nz {p : Prop} (h : ¬ bI p = 0) : p := Classical.byContradiction (fun z => h (bI_0.mpr z))
theorem zz {p : Prop} (h : bI p = 0) : ¬ p := bI_0.mp h
theorem au_au {a : Nat → Nat → Int32} {k : Nat} {f g : Nat → Int32} : au (au a k f) k g = au a k g := by
  funext m
  by_cases h : m = k <;> simp [au, h]
theorem au_self {a : Nat → Nat → Int32} {k : Nat} : au a k (a k) = a := by
  funext m
  by_cases h : m = k
  · subst h; simp [au]
  · simp [au, h]
theorem au_at {a : Nat → Nat → Int32} {k : Nat} {f : Nat → Int32} : au a k f k = f := by simp [au]
theorem upd_upd {f : Nat → Int32} {j : Nat} {x y : Int32} : upd (upd f j x) j y = upd f j y := by
  funext m
  by_cases h : m = j <;> simp [upd, h]
theorem upd_self {f : Nat → Int32} {j : Nat} : upd f j (f j) = f := by
  funext m
  by_cases h : m = j
  · subst h; simp [upd]
  · simp [upd, h]
/-- the first thing that bars the pallet j from the cell m, axles apart: 1 to 5, or 0 -/
noncomputable def fb (a : Nat → Nat → Int32) (k j m : Nat) : Int32 :=
  cI (¬ a 7 j = nI m ∧ ∃ m', m' < k ∧ a 7 m' = nI m) 1 (cI (a 0 m < a 6 j) 2 (cI (¬ a 3 j = 0 ∧ a 1 m = 0) 3 (cI (dgP (a 4) (a 7) k j (nI m)) 4 (cI (spP (a 5) (a 7) k j (a 5 j) (nI m)) 5 0))))
/-- the axles bear what stands, with wh for where -/
def brP (i : Nat → Int32) (wt wh : Nat → Int32) (k : Nat) : Prop := axn (shr i 0) wt wh k ≤ i 6 * (i 5 - i 4) ∧ axn (shr i 1) wt wh k ≤ i 7 * (i 5 - i 4)
/-- .. and with the axles -/
noncomputable def fbx (i : Nat → Int32) (a : Nat → Nat → Int32) (k j m : Nat) : Int32 := cI (fb a k j m = 0) (cI (brP i (a 2) (upd (a 7) j (nI m)) k) 0 6) (fb a k j m)
section Load2
variable {l : Launch} {D : va_G} {t : ty4} {b L : Nat} {xs : Nat → Int32} {q : Nat → Nat} {i : Nat → Int32} {a : Nat → Nat → Int32} {w : Int64} {d mc ms : Nat}
set_option maxHeartbeats 1000000 in
theorem c_heightBars {n : Nat} (hn : i 2 = nI n) (hn12 : n ≤ 12) {j : Nat} (hj : j < 8) {m : Nat} (hm : m < n) : MC (En l D t b L xs) MX1_heightBars (d + 1) [.ref (q 1), .ref (q (6 + j)), .int (nI m)] (hw t q i a w) mc ms (rt (some (.int (bI (a 0 m < a 6 j)))) (hw t q i a w) mc ms) := by
  show MW _ _ _ 0 [some (.ref (q 1)), some (.ref (q (6 + j))), some (.int (nI m))] [] _ _ _ _
  refine MW.aload_n dX1_heightBars_0 rfl ?_
  refine MW.iload_n dX1_heightBars_1 rfl ?_
  refine MW.callV1 fX1_heightBars_2 1 rfl (c_hasCell) rfl rfl rfl rfl (Nat.le_of_ble_eq_true rfl) ?_
  refine MW.if_eq 25 dX1_heightBars_5 (by decide) (fun hc5 => absurd hc5 (fun z => zz z ⟨nI_pos' (by omega), by rw [hn]; exact nI_lt hm (by omega)⟩)) (fun hc5 => ?_)
  refine MW.aload_n dX1_heightBars_8 rfl ?_
  refine MW.getf fX1_heightBars_9 1 rfl rfl ?_
  refine MW.iload_n dX1_heightBars_12 rfl ?_
  refine MW.iaj dX1_heightBars_13 2 0 rfl rfl (show m < 12 by omega) (by decide) ?_
  refine MW.aload_n dX1_heightBars_14 rfl ?_
  refine MW.pg4 fX1_heightBars_15 hj ?_
  refine MW.icmp_ge 25 dX1_heightBars_18 (by decide) (fun hc18 => ?_) (fun hc18 => ?_)
  · skip
    refine MW.iconst (v := 0) dX1_heightBars_25 (by decide) ?_
    exact MW.ireturn dX1_heightBars_26 rfl (rfl) (by first | exact rtb_t (Int32.not_le.mp (by assumption)) | exact rtb_f (Int32.not_lt.mpr (by assumption)))
  · skip
    refine MW.iconst (v := 1) dX1_heightBars_21 (by decide) ?_
    refine MW.goto 26 dX1_heightBars_22 (by decide) ?_
    exact MW.ireturn dX1_heightBars_26 rfl (rfl) (by first | exact rtb_t (Int32.not_le.mp (by assumption)) | exact rtb_f (Int32.not_lt.mpr (by assumption)))
set_option maxHeartbeats 1000000 in
theorem c_coldBars {n : Nat} (hn : i 2 = nI n) (hn12 : n ≤ 12) {j : Nat} (hj : j < 8) {m : Nat} (hm : m < n) : MC (En l D t b L xs) MX1_coldBars (d + 1) [.ref (q 1), .ref (q (6 + j)), .int (nI m)] (hw t q i a w) mc ms (rt (some (.int (bI (¬ a 3 j = 0 ∧ a 1 m = 0)))) (hw t q i a w) mc ms) := by
  show MW _ _ _ 0 [some (.ref (q 1)), some (.ref (q (6 + j))), some (.int (nI m))] [] _ _ _ _
  refine MW.aload_n dX1_coldBars_0 rfl ?_
  refine MW.iload_n dX1_coldBars_1 rfl ?_
  refine MW.callV1 fX1_coldBars_2 1 rfl (c_hasCell) rfl rfl rfl rfl (Nat.le_of_ble_eq_true rfl) ?_
  refine MW.if_eq 28 dX1_coldBars_5 (by decide) (fun hc5 => absurd hc5 (fun z => zz z ⟨nI_pos' (by omega), by rw [hn]; exact nI_lt hm (by omega)⟩)) (fun hc5 => ?_)
  refine MW.aload_n dX1_coldBars_8 rfl ?_
  refine MW.pg1 fX1_coldBars_9 hj ?_
  refine MW.if_eq 28 dX1_coldBars_12 (by decide) (fun hc12 => ?_) (fun hc12 => ?_)
  · skip
    refine MW.iconst (v := 0) dX1_coldBars_28 (by decide) ?_
    exact MW.ireturn dX1_coldBars_29 rfl (rfl) (by first | exact rtb_t ⟨by assumption, by assumption⟩ | exact rtb_f (fun z => z.1 (by assumption)) | exact rtb_f (fun z => absurd z.2 (by assumption)))
  · skip
    refine MW.aload_n dX1_coldBars_15 rfl ?_
    refine MW.getf fX1_coldBars_16 1 rfl rfl ?_
    refine MW.iload_n dX1_coldBars_19 rfl ?_
    refine MW.zaj dX1_coldBars_20 3 1 rfl rfl (show m < 12 by omega) (by decide) ?_
    refine MW.if_ne 28 dX1_coldBars_21 (by decide) (fun hc21 => ?_) (fun hc21 => ?_)
    · skip
      refine MW.iconst (v := 0) dX1_coldBars_28 (by decide) ?_
      exact MW.ireturn dX1_coldBars_29 rfl (rfl) (by first | exact rtb_t ⟨by assumption, by assumption⟩ | exact rtb_f (fun z => z.1 (by assumption)) | exact rtb_f (fun z => absurd z.2 (by assumption)))
    · skip
      refine MW.iconst (v := 1) dX1_coldBars_24 (by decide) ?_
      refine MW.goto 29 dX1_coldBars_25 (by decide) ?_
      exact MW.ireturn dX1_coldBars_29 rfl (rfl) (by first | exact rtb_t ⟨by assumption, by assumption⟩ | exact rtb_f (fun z => z.1 (by assumption)) | exact rtb_f (fun z => absurd z.2 (by assumption)))
set_option maxHeartbeats 1000000 in
theorem c_othersBar {k : Nat} (hk : i 3 = nI k) (hk8 : k ≤ 8) {j : Nat} (hj : j < 8) {c : Int32} : MC (En l D t b L xs) MX1_othersBar (d + 1) [.ref (q 1), .ref (q (6 + j)), .int c] (hw t q i a w) mc ms (rt (some (.int (bI (¬ a 7 j = c ∧ ∃ m', m' < k ∧ a 7 m' = c)))) (hw t q i a w) mc ms) := by
  show MW _ _ _ 0 [some (.ref (q 1)), some (.ref (q (6 + j))), some (.int c)] [] _ _ _ _
  refine MW.aload_n dX1_othersBar_0 rfl ?_
  refine MW.pg5 fX1_othersBar_1 hj ?_
  refine MW.iload_n dX1_othersBar_4 rfl ?_
  refine MW.icmp_eq 20 dX1_othersBar_5 (by decide) (fun hc5 => ?_) (fun hc5 => ?_)
  · skip
    refine MW.iconst (v := 0) dX1_othersBar_20 (by decide) ?_
    exact MW.ireturn dX1_othersBar_21 rfl (rfl) (by first | exact rtb_t ⟨by assumption, nz (by assumption)⟩ | exact rtb_f (fun z => z.1 (by assumption)) | exact rtb_f (fun z => zz (by assumption) z.2))
  · skip
    refine MW.aload_n dX1_othersBar_8 rfl ?_
    refine MW.iload_n dX1_othersBar_9 rfl ?_
    refine MW.callV1 fX1_othersBar_10 1 rfl (c_isTaken hk hk8) rfl rfl rfl rfl (Nat.le_of_ble_eq_true rfl) ?_
    refine MW.if_eq 20 dX1_othersBar_13 (by decide) (fun hc13 => ?_) (fun hc13 => ?_)
    · skip
      refine MW.iconst (v := 0) dX1_othersBar_20 (by decide) ?_
      exact MW.ireturn dX1_othersBar_21 rfl (rfl) (by first | exact rtb_t ⟨by assumption, nz (by assumption)⟩ | exact rtb_f (fun z => z.1 (by assumption)) | exact rtb_f (fun z => zz (by assumption) z.2))
    · skip
      refine MW.iconst (v := 1) dX1_othersBar_16 (by decide) ?_
      refine MW.goto 21 dX1_othersBar_17 (by decide) ?_
      exact MW.ireturn dX1_othersBar_21 rfl (rfl) (by first | exact rtb_t ⟨by assumption, nz (by assumption)⟩ | exact rtb_f (fun z => z.1 (by assumption)) | exact rtb_f (fun z => zz (by assumption) z.2))
set_option maxHeartbeats 2000000 in
theorem l_dangerBars {k : Nat} (hk : i 3 = nI k) (hk8 : k ≤ 8) {j : Nat} (hj : j < 8) {c : Int32} : ∀ (r p : Nat) (z : Option Value), p + r = k → (∀ m, m < p → ¬ (m ≠ j ∧ ¬ a 7 m = -1 ∧ ¬ a 4 j = 0 ∧ ¬ a 4 m = 0 ∧ ab (a 7 m - c) = 1)) → MW (En l D t b L xs) MX1_dangerBars (d + 1) 2 [some (.ref (q 1)), some (.ref (q (6 + j))), some (.int c), some (.int (nI p)), z] [] (hw t q i a w) mc ms (rt (some (.int (bI (dgP (a 4) (a 7) k j c)))) (hw t q i a w) mc ms) := by
  intro r
  induction r with
  | zero =>
    intro p z hp hI
    refine MW.iload_n dX1_dangerBars_2 rfl ?_
    refine MW.aload_n dX1_dangerBars_3 rfl ?_
    refine MW.getf fX1_dangerBars_4 1 rfl rfl ?_
    refine MW.icmp_ge 69 dX1_dangerBars_7 (by decide) (fun hc7 => ?_) (fun hc7 => absurd (show i 3 ≤ nI p by rw [hk]; exact nI_le (by omega) (by omega)) hc7)
    refine MW.iconst (v := 0) dX1_dangerBars_69 (by decide) ?_
    exact MW.ireturn dX1_dangerBars_70 rfl (rfl) (rtb_f (fun ⟨m, h1, h2⟩ => hI m (by omega) h2))
  | succ r ih =>
    intro p z hp hI
    have hp8 : p < 8 := by omega
    refine MW.iload_n dX1_dangerBars_2 rfl ?_
    refine MW.aload_n dX1_dangerBars_3 rfl ?_
    refine MW.getf fX1_dangerBars_4 1 rfl rfl ?_
    refine MW.icmp_ge 69 dX1_dangerBars_7 (by decide) (fun hc7 => absurd hc7 (show ¬ i 3 ≤ nI p by rw [hk]; exact nI_ge (by omega) (by omega))) (fun hc7 => ?_)
    refine MW.aload_n dX1_dangerBars_10 rfl ?_
    refine MW.getf fX1_dangerBars_11 1 rfl rfl ?_
    refine MW.iload_n dX1_dangerBars_14 rfl ?_
    refine MW.row dX1_dangerBars_15 hp8 ?_
    refine MW.astore dX1_dangerBars_16 rfl rfl ?_
    refine MW.aload dX1_dangerBars_18 rfl ?_
    refine MW.aload_n dX1_dangerBars_20 rfl ?_
    refine MW.acmpD 63 dX1_dangerBars_21 (by decide) (6 + p) (6 + j) (hw_pal hp8) (hw_pal hj) (fun hc21 => ?_) (fun hc21 => ?_)
    · skip
      have hcj : p = j := by omega
      refine MW.iincj dX1_dangerBars_63 rfl rfl rfl ?_
      refine MW.goto 2 dX1_dangerBars_66 (by decide) ?_
      exact ih (p + 1) _ (by omega) (lt_s hI (fun z => by obtain ⟨z1, z2, z3, z4, z5⟩ := z; first | exact z1 (by assumption) | exact zz (by assumption) z2 | exact z3 (by assumption) | exact z4 (by assumption) | exact absurd z5 (by assumption)))
    · skip
      have hcj : p ≠ j := by omega
      refine MW.aload dX1_dangerBars_24 rfl ?_
      refine MW.callV1 fX1_dangerBars_26 (6 + _) (hw_pal hp8) (c_stands hp8) rfl rfl rfl rfl (Nat.le_of_ble_eq_true rfl) ?_
      refine MW.if_eq 63 dX1_dangerBars_29 (by decide) (fun hc29 => ?_) (fun hc29 => ?_)
      · skip
        refine MW.iincj dX1_dangerBars_63 rfl rfl rfl ?_
        refine MW.goto 2 dX1_dangerBars_66 (by decide) ?_
        exact ih (p + 1) _ (by omega) (lt_s hI (fun z => by obtain ⟨z1, z2, z3, z4, z5⟩ := z; first | exact z1 (by assumption) | exact zz (by assumption) z2 | exact z3 (by assumption) | exact z4 (by assumption) | exact absurd z5 (by assumption)))
      · skip
        refine MW.aload_n dX1_dangerBars_32 rfl ?_
        refine MW.pg2 fX1_dangerBars_33 hj ?_
        refine MW.if_eq 63 dX1_dangerBars_36 (by decide) (fun hc36 => ?_) (fun hc36 => ?_)
        · skip
          refine MW.iincj dX1_dangerBars_63 rfl rfl rfl ?_
          refine MW.goto 2 dX1_dangerBars_66 (by decide) ?_
          exact ih (p + 1) _ (by omega) (lt_s hI (fun z => by obtain ⟨z1, z2, z3, z4, z5⟩ := z; first | exact z1 (by assumption) | exact zz (by assumption) z2 | exact z3 (by assumption) | exact z4 (by assumption) | exact absurd z5 (by assumption)))
        · skip
          refine MW.aload dX1_dangerBars_39 rfl ?_
          refine MW.pg2 fX1_dangerBars_41 hp8 ?_
          refine MW.if_eq 63 dX1_dangerBars_44 (by decide) (fun hc44 => ?_) (fun hc44 => ?_)
          · skip
            refine MW.iincj dX1_dangerBars_63 rfl rfl rfl ?_
            refine MW.goto 2 dX1_dangerBars_66 (by decide) ?_
            exact ih (p + 1) _ (by omega) (lt_s hI (fun z => by obtain ⟨z1, z2, z3, z4, z5⟩ := z; first | exact z1 (by assumption) | exact zz (by assumption) z2 | exact z3 (by assumption) | exact z4 (by assumption) | exact absurd z5 (by assumption)))
          · skip
            refine MW.aload dX1_dangerBars_47 rfl ?_
            refine MW.pg5 fX1_dangerBars_49 hp8 ?_
            refine MW.iload_n dX1_dangerBars_52 rfl ?_
            refine MW.isub dX1_dangerBars_53 ?_
            refine MW.mabs dX1_dangerBars_54 fX1_dangerBars_54 wm_abs1 wm_i wm_abs2 (Nat.le_of_ble_eq_true rfl) ?_
            refine MW.iconst (v := 1) dX1_dangerBars_57 (by decide) ?_
            refine MW.icmp_ne 63 dX1_dangerBars_58 (by decide) (fun hc58 => ?_) (fun hc58 => ?_)
            · skip
              refine MW.iincj dX1_dangerBars_63 rfl rfl rfl ?_
              refine MW.goto 2 dX1_dangerBars_66 (by decide) ?_
              exact ih (p + 1) _ (by omega) (lt_s hI (fun z => by obtain ⟨z1, z2, z3, z4, z5⟩ := z; first | exact z1 (by assumption) | exact zz (by assumption) z2 | exact z3 (by assumption) | exact z4 (by assumption) | exact absurd z5 (by assumption)))
            · skip
              refine MW.iconst (v := 1) dX1_dangerBars_61 (by decide) ?_
              exact MW.ireturn dX1_dangerBars_62 rfl (rfl) (rtb_t ⟨p, by omega, by assumption, nz (by assumption), by assumption, by assumption, by assumption⟩)
theorem c_dangerBars {k : Nat} (hk : i 3 = nI k) (hk8 : k ≤ 8) {j : Nat} (hj : j < 8) {c : Int32} : MC (En l D t b L xs) MX1_dangerBars (d + 1) [.ref (q 1), .ref (q (6 + j)), .int c] (hw t q i a w) mc ms (rt (some (.int (bI (dgP (a 4) (a 7) k j c)))) (hw t q i a w) mc ms) := by
  show MW _ _ _ 0 [some (.ref (q 1)), some (.ref (q (6 + j))), some (.int c), none, none] [] _ _ _ _
  refine MW.iconst (v := 0) dX1_dangerBars_0 (by decide) ?_
  refine MW.istore_n dX1_dangerBars_1 rfl rfl ?_
  exact l_dangerBars hk hk8 hj k 0 none (by omega) (fun m h => absurd h (by omega))
set_option maxHeartbeats 2000000 in
theorem l_stopsBar {k : Nat} (hk : i 3 = nI k) (hk8 : k ≤ 8) {j : Nat} (hj : j < 8) {s c : Int32} : ∀ (r p : Nat) (z : Option Value), p + r = k → (∀ m, m < p → ¬ (m ≠ j ∧ ¬ a 7 m = -1 ∧ (a 5 m < s ∧ a 7 m < c ∨ s < a 5 m ∧ c < a 7 m))) → MW (En l D t b L xs) MX1_stopsBar (d + 1) 3 [some (.ref (q 1)), some (.ref (q (6 + j))), some (.int s), some (.int c), some (.int (nI p)), z] [] (hw t q i a w) mc ms (rt (some (.int (bI (spP (a 5) (a 7) k j s c)))) (hw t q i a w) mc ms) := by
  intro r
  induction r with
  | zero =>
    intro p z hp hI
    refine MW.iload dX1_stopsBar_3 rfl ?_
    refine MW.aload_n dX1_stopsBar_5 rfl ?_
    refine MW.getf fX1_stopsBar_6 1 rfl rfl ?_
    refine MW.icmp_ge 79 dX1_stopsBar_9 (by decide) (fun hc9 => ?_) (fun hc9 => absurd (show i 3 ≤ nI p by rw [hk]; exact nI_le (by omega) (by omega)) hc9)
    refine MW.iconst (v := 0) dX1_stopsBar_79 (by decide) ?_
    exact MW.ireturn dX1_stopsBar_80 rfl (rfl) (rtb_f (fun ⟨m, h1, h2⟩ => hI m (by omega) h2))
  | succ r ih =>
    intro p z hp hI
    have hp8 : p < 8 := by omega
    refine MW.iload dX1_stopsBar_3 rfl ?_
    refine MW.aload_n dX1_stopsBar_5 rfl ?_
    refine MW.getf fX1_stopsBar_6 1 rfl rfl ?_
    refine MW.icmp_ge 79 dX1_stopsBar_9 (by decide) (fun hc9 => absurd hc9 (show ¬ i 3 ≤ nI p by rw [hk]; exact nI_ge (by omega) (by omega))) (fun hc9 => ?_)
    refine MW.aload_n dX1_stopsBar_12 rfl ?_
    refine MW.getf fX1_stopsBar_13 1 rfl rfl ?_
    refine MW.iload dX1_stopsBar_16 rfl ?_
    refine MW.row dX1_stopsBar_18 hp8 ?_
    refine MW.astore dX1_stopsBar_19 rfl rfl ?_
    refine MW.aload dX1_stopsBar_21 rfl ?_
    refine MW.aload_n dX1_stopsBar_23 rfl ?_
    refine MW.acmpD 73 dX1_stopsBar_24 (by decide) (6 + p) (6 + j) (hw_pal hp8) (hw_pal hj) (fun hc24 => ?_) (fun hc24 => ?_)
    · skip
      have hcj : p = j := by omega
      refine MW.iincj dX1_stopsBar_73 rfl rfl rfl ?_
      refine MW.goto 3 dX1_stopsBar_76 (by decide) ?_
      exact ih (p + 1) _ (by omega) (lt_s hI (fun z => by obtain ⟨z1, z2, z5⟩ := z; first | exact z1 (by assumption) | exact zz (by assumption) z2 | (rcases z5 with ⟨y1, y2⟩ | ⟨y1, y2⟩ <;> first | exact absurd y1 (Int32.not_lt.mpr (by assumption)) | exact absurd y2 (by assumption) | exact absurd y2 (Int32.not_lt.mpr (by assumption)))))
    · skip
      have hcj : p ≠ j := by omega
      refine MW.aload dX1_stopsBar_27 rfl ?_
      refine MW.callV1 fX1_stopsBar_29 (6 + _) (hw_pal hp8) (c_stands hp8) rfl rfl rfl rfl (Nat.le_of_ble_eq_true rfl) ?_
      refine MW.if_eq 73 dX1_stopsBar_32 (by decide) (fun hc32 => ?_) (fun hc32 => ?_)
      · skip
        refine MW.iincj dX1_stopsBar_73 rfl rfl rfl ?_
        refine MW.goto 3 dX1_stopsBar_76 (by decide) ?_
        exact ih (p + 1) _ (by omega) (lt_s hI (fun z => by obtain ⟨z1, z2, z5⟩ := z; first | exact z1 (by assumption) | exact zz (by assumption) z2 | (rcases z5 with ⟨y1, y2⟩ | ⟨y1, y2⟩ <;> first | exact absurd y1 (Int32.not_lt.mpr (by assumption)) | exact absurd y2 (by assumption) | exact absurd y2 (Int32.not_lt.mpr (by assumption)))))
      · skip
        refine MW.aload dX1_stopsBar_35 rfl ?_
        refine MW.pg3 fX1_stopsBar_37 hp8 ?_
        refine MW.iload_n dX1_stopsBar_40 rfl ?_
        refine MW.icmp_ge 53 dX1_stopsBar_41 (by decide) (fun hc41 => ?_) (fun hc41 => ?_)
        · skip
          refine MW.aload dX1_stopsBar_53 rfl ?_
          refine MW.pg3 fX1_stopsBar_55 hp8 ?_
          refine MW.iload_n dX1_stopsBar_58 rfl ?_
          refine MW.icmp_le 73 dX1_stopsBar_59 (by decide) (fun hc59 => ?_) (fun hc59 => ?_)
          · skip
            refine MW.iincj dX1_stopsBar_73 rfl rfl rfl ?_
            refine MW.goto 3 dX1_stopsBar_76 (by decide) ?_
            exact ih (p + 1) _ (by omega) (lt_s hI (fun z => by obtain ⟨z1, z2, z5⟩ := z; first | exact z1 (by assumption) | exact zz (by assumption) z2 | (rcases z5 with ⟨y1, y2⟩ | ⟨y1, y2⟩ <;> first | exact absurd y1 (Int32.not_lt.mpr (by assumption)) | exact absurd y2 (by assumption) | exact absurd y2 (Int32.not_lt.mpr (by assumption)))))
          · skip
            refine MW.aload dX1_stopsBar_62 rfl ?_
            refine MW.pg5 fX1_stopsBar_64 hp8 ?_
            refine MW.iload_n dX1_stopsBar_67 rfl ?_
            refine MW.icmp_le 73 dX1_stopsBar_68 (by decide) (fun hc68 => ?_) (fun hc68 => ?_)
            · skip
              refine MW.iincj dX1_stopsBar_73 rfl rfl rfl ?_
              refine MW.goto 3 dX1_stopsBar_76 (by decide) ?_
              exact ih (p + 1) _ (by omega) (lt_s hI (fun z => by obtain ⟨z1, z2, z5⟩ := z; first | exact z1 (by assumption) | exact zz (by assumption) z2 | (rcases z5 with ⟨y1, y2⟩ | ⟨y1, y2⟩ <;> first | exact absurd y1 (Int32.not_lt.mpr (by assumption)) | exact absurd y2 (by assumption) | exact absurd y2 (Int32.not_lt.mpr (by assumption)))))
            · skip
              refine MW.iconst (v := 1) dX1_stopsBar_71 (by decide) ?_
              exact MW.ireturn dX1_stopsBar_72 rfl (rfl) (rtb_t ⟨p, by omega, by assumption, nz (by assumption), by first | exact Or.inl ⟨Int32.not_le.mp (by assumption), by assumption⟩ | exact Or.inr ⟨Int32.not_le.mp (by assumption), Int32.not_le.mp (by assumption)⟩⟩)
        · skip
          refine MW.aload dX1_stopsBar_44 rfl ?_
          refine MW.pg5 fX1_stopsBar_46 hp8 ?_
          refine MW.iload_n dX1_stopsBar_49 rfl ?_
          refine MW.icmp_lt 71 dX1_stopsBar_50 (by decide) (fun hc50 => ?_) (fun hc50 => ?_)
          · skip
            refine MW.iconst (v := 1) dX1_stopsBar_71 (by decide) ?_
            exact MW.ireturn dX1_stopsBar_72 rfl (rfl) (rtb_t ⟨p, by omega, by assumption, nz (by assumption), by first | exact Or.inl ⟨Int32.not_le.mp (by assumption), by assumption⟩ | exact Or.inr ⟨Int32.not_le.mp (by assumption), Int32.not_le.mp (by assumption)⟩⟩)
          · skip
            refine MW.aload dX1_stopsBar_53 rfl ?_
            refine MW.pg3 fX1_stopsBar_55 hp8 ?_
            refine MW.iload_n dX1_stopsBar_58 rfl ?_
            refine MW.icmp_le 73 dX1_stopsBar_59 (by decide) (fun hc59 => ?_) (fun hc59 => ?_)
            · skip
              refine MW.iincj dX1_stopsBar_73 rfl rfl rfl ?_
              refine MW.goto 3 dX1_stopsBar_76 (by decide) ?_
              exact ih (p + 1) _ (by omega) (lt_s hI (fun z => by obtain ⟨z1, z2, z5⟩ := z; first | exact z1 (by assumption) | exact zz (by assumption) z2 | (rcases z5 with ⟨y1, y2⟩ | ⟨y1, y2⟩ <;> first | exact absurd y1 (Int32.not_lt.mpr (by assumption)) | exact absurd y2 (by assumption) | exact absurd y2 (Int32.not_lt.mpr (by assumption)))))
            · skip
              refine MW.aload dX1_stopsBar_62 rfl ?_
              refine MW.pg5 fX1_stopsBar_64 hp8 ?_
              refine MW.iload_n dX1_stopsBar_67 rfl ?_
              refine MW.icmp_le 73 dX1_stopsBar_68 (by decide) (fun hc68 => ?_) (fun hc68 => ?_)
              · skip
                refine MW.iincj dX1_stopsBar_73 rfl rfl rfl ?_
                refine MW.goto 3 dX1_stopsBar_76 (by decide) ?_
                exact ih (p + 1) _ (by omega) (lt_s hI (fun z => by obtain ⟨z1, z2, z5⟩ := z; first | exact z1 (by assumption) | exact zz (by assumption) z2 | (rcases z5 with ⟨y1, y2⟩ | ⟨y1, y2⟩ <;> first | exact absurd y1 (Int32.not_lt.mpr (by assumption)) | exact absurd y2 (by assumption) | exact absurd y2 (Int32.not_lt.mpr (by assumption)))))
              · skip
                refine MW.iconst (v := 1) dX1_stopsBar_71 (by decide) ?_
                exact MW.ireturn dX1_stopsBar_72 rfl (rfl) (rtb_t ⟨p, by omega, by assumption, nz (by assumption), by first | exact Or.inl ⟨Int32.not_le.mp (by assumption), by assumption⟩ | exact Or.inr ⟨Int32.not_le.mp (by assumption), Int32.not_le.mp (by assumption)⟩⟩)
theorem c_stopsBar {k : Nat} (hk : i 3 = nI k) (hk8 : k ≤ 8) {j : Nat} (hj : j < 8) {s c : Int32} : MC (En l D t b L xs) MX1_stopsBar (d + 1) [.ref (q 1), .ref (q (6 + j)), .int s, .int c] (hw t q i a w) mc ms (rt (some (.int (bI (spP (a 5) (a 7) k j s c)))) (hw t q i a w) mc ms) := by
  show MW _ _ _ 0 [some (.ref (q 1)), some (.ref (q (6 + j))), some (.int s), some (.int c), none, none] [] _ _ _ _
  refine MW.iconst (v := 0) dX1_stopsBar_0 (by decide) ?_
  refine MW.istore dX1_stopsBar_1 rfl rfl ?_
  exact l_stopsBar hk hk8 hj k 0 none (by omega) (fun m h => absurd h (by omega))
set_option maxHeartbeats 1000000 in
theorem c_firstBarButAxles {k : Nat} (hk : i 3 = nI k) (hk8 : k ≤ 8) {n : Nat} (hn : i 2 = nI n) (hn12 : n ≤ 12) {j : Nat} (hj : j < 8) {m : Nat} (hm : m < n) : MC (En l D t b L xs) MX1_firstBarButAxles (d + 2) [.ref (q 1), .ref (q (6 + j)), .int (nI m)] (hw t q i a w) mc ms (rt (some (.int (fb a k j m))) (hw t q i a w) mc ms) := by
  show MW _ _ _ 0 [some (.ref (q 1)), some (.ref (q (6 + j))), some (.int (nI m))] [] _ _ _ _
  refine MW.aload_n dX1_firstBarButAxles_0 rfl ?_
  refine MW.aload_n dX1_firstBarButAxles_1 rfl ?_
  refine MW.iload_n dX1_firstBarButAxles_2 rfl ?_
  refine MW.callV1 fX1_firstBarButAxles_3 1 rfl (c_othersBar hk hk8 hj) rfl rfl rfl rfl (Nat.le_of_ble_eq_true rfl) ?_
  refine MW.if_eq 11 dX1_firstBarButAxles_6 (by decide) (fun hc6 => ?_) (fun hc6 => ?_)
  · skip
    refine MW.aload_n dX1_firstBarButAxles_11 rfl ?_
    refine MW.aload_n dX1_firstBarButAxles_12 rfl ?_
    refine MW.iload_n dX1_firstBarButAxles_13 rfl ?_
    refine MW.callV1 fX1_firstBarButAxles_14 1 rfl (c_heightBars hn hn12 hj hm) rfl rfl rfl rfl (Nat.le_of_ble_eq_true rfl) ?_
    refine MW.if_eq 22 dX1_firstBarButAxles_17 (by decide) (fun hc17 => ?_) (fun hc17 => ?_)
    · skip
      refine MW.aload_n dX1_firstBarButAxles_22 rfl ?_
      refine MW.aload_n dX1_firstBarButAxles_23 rfl ?_
      refine MW.iload_n dX1_firstBarButAxles_24 rfl ?_
      refine MW.callV1 fX1_firstBarButAxles_25 1 rfl (c_coldBars hn hn12 hj hm) rfl rfl rfl rfl (Nat.le_of_ble_eq_true rfl) ?_
      refine MW.if_eq 33 dX1_firstBarButAxles_28 (by decide) (fun hc28 => ?_) (fun hc28 => ?_)
      · skip
        refine MW.aload_n dX1_firstBarButAxles_33 rfl ?_
        refine MW.aload_n dX1_firstBarButAxles_34 rfl ?_
        refine MW.iload_n dX1_firstBarButAxles_35 rfl ?_
        refine MW.callV1 fX1_firstBarButAxles_36 1 rfl (c_dangerBars hk hk8 hj) rfl rfl rfl rfl (Nat.le_of_ble_eq_true rfl) ?_
        refine MW.if_eq 44 dX1_firstBarButAxles_39 (by decide) (fun hc39 => ?_) (fun hc39 => ?_)
        · skip
          refine MW.aload_n dX1_firstBarButAxles_44 rfl ?_
          refine MW.aload_n dX1_firstBarButAxles_45 rfl ?_
          refine MW.aload_n dX1_firstBarButAxles_46 rfl ?_
          refine MW.pg3 fX1_firstBarButAxles_47 hj ?_
          refine MW.iload_n dX1_firstBarButAxles_50 rfl ?_
          refine MW.callV1 fX1_firstBarButAxles_51 1 rfl (c_stopsBar hk hk8 hj) rfl rfl rfl rfl (Nat.le_of_ble_eq_true rfl) ?_
          refine MW.if_eq 61 dX1_firstBarButAxles_54 (by decide) (fun hc54 => ?_) (fun hc54 => ?_)
          · skip
            refine MW.iconst (v := 0) dX1_firstBarButAxles_61 (by decide) ?_
            exact MW.ireturn dX1_firstBarButAxles_62 rfl (rfl) (rt_e (by unfold fb; first | rw [cI_f (zz hc6), cI_f (zz hc17), cI_f (zz hc28), cI_f (zz hc39), cI_t (nz hc54)] | rw [cI_f (zz hc6), cI_f (zz hc17), cI_f (zz hc28), cI_f (zz hc39), cI_f (zz hc54)]))
          · skip
            refine MW.iconst (v := 5) dX1_firstBarButAxles_57 (by decide) ?_
            refine MW.goto 62 dX1_firstBarButAxles_58 (by decide) ?_
            exact MW.ireturn dX1_firstBarButAxles_62 rfl (rfl) (rt_e (by unfold fb; first | rw [cI_f (zz hc6), cI_f (zz hc17), cI_f (zz hc28), cI_f (zz hc39), cI_t (nz hc54)] | rw [cI_f (zz hc6), cI_f (zz hc17), cI_f (zz hc28), cI_f (zz hc39), cI_f (zz hc54)]))
        · skip
          refine MW.iconst (v := 4) dX1_firstBarButAxles_42 (by decide) ?_
          exact MW.ireturn dX1_firstBarButAxles_43 rfl (rfl) (rt_e (by unfold fb; rw [cI_f (zz hc6), cI_f (zz hc17), cI_f (zz hc28), cI_t (nz hc39)]))
      · skip
        refine MW.iconst (v := 3) dX1_firstBarButAxles_31 (by decide) ?_
        exact MW.ireturn dX1_firstBarButAxles_32 rfl (rfl) (rt_e (by unfold fb; rw [cI_f (zz hc6), cI_f (zz hc17), cI_t (nz hc28)]))
    · skip
      refine MW.iconst (v := 2) dX1_firstBarButAxles_20 (by decide) ?_
      exact MW.ireturn dX1_firstBarButAxles_21 rfl (rfl) (rt_e (by unfold fb; rw [cI_f (zz hc6), cI_t (nz hc17)]))
  · skip
    refine MW.iconst (v := 1) dX1_firstBarButAxles_9 (by decide) ?_
    exact MW.ireturn dX1_firstBarButAxles_10 rfl (rfl) (rt_e (cI_t (nz hc6)))
set_option maxHeartbeats 1000000 in
theorem c_axlesBar {k : Nat} (hk : i 3 = nI k) (hk8 : k ≤ 8) {j : Nat} (hj : j < 8) {c : Int32} : MC (En l D t b L xs) MX1_axlesBar (d + 2) [.ref (q 1), .ref (q (6 + j)), .int c] (hw t q i a w) mc ms (rt (some (.int (bI (¬ brP i (a 2) (upd (a 7) j c) k)))) (hw t q i a w) mc ms) := by
  show MW _ _ _ 0 [some (.ref (q 1)), some (.ref (q (6 + j))), some (.int c), none, none] [] _ _ _ _
  refine MW.aload_n dX1_axlesBar_0 rfl ?_
  refine MW.pg5 fX1_axlesBar_1 hj ?_
  refine MW.istore_n dX1_axlesBar_4 rfl rfl ?_
  refine MW.aload_n dX1_axlesBar_5 rfl ?_
  refine MW.iload_n dX1_axlesBar_6 rfl ?_
  refine MW.pp5 fX1_axlesBar_7 hj (rfl) (rfl) ?_
  refine MW.aload_n dX1_axlesBar_10 rfl ?_
  refine MW.getf fX1_axlesBar_11 1 rfl rfl ?_
  refine MW.aload_n dX1_axlesBar_14 rfl ?_
  refine MW.iconst (v := 0) dX1_axlesBar_15 (by decide) ?_
  refine MW.callV1 fX1_axlesBar_16 1 rfl (c_onAxle (a := (au a 7 (upd (a 7) j c))) hk hk8) rfl rfl rfl rfl (Nat.le_of_ble_eq_true rfl) ?_
  refine MW.aload_n dX1_axlesBar_19 rfl ?_
  refine MW.iconst (v := 1) dX1_axlesBar_20 (by decide) ?_
  refine MW.callV1 fX1_axlesBar_21 1 rfl (c_onAxle (a := (au a 7 (upd (a 7) j c))) hk hk8) rfl rfl rfl rfl (Nat.le_of_ble_eq_true rfl) ?_
  refine MW.callV1 fX1_axlesBar_24 5 rfl (c_bear) rfl rfl rfl rfl (Nat.le_of_ble_eq_true rfl) ?_
  refine MW.top (v' := .int (bI (brP i (a 2) (upd (a 7) j c) k))) rfl ?_
  refine MW.istore dX1_axlesBar_27 rfl rfl ?_
  refine MW.aload_n dX1_axlesBar_29 rfl ?_
  refine MW.iload_n dX1_axlesBar_30 rfl ?_
  refine MW.pp5 fX1_axlesBar_31 hj (rfl) (rfl) ?_
  refine MW.heap (h' := hw t q i a w) (by rw [au_au, au_at, upd_upd, upd_self, au_self]) ?_
  refine MW.iload dX1_axlesBar_34 rfl ?_
  refine MW.if_ne 43 dX1_axlesBar_36 (by decide) (fun hc36 => ?_) (fun hc36 => ?_)
  · skip
    refine MW.iconst (v := 0) dX1_axlesBar_43 (by decide) ?_
    exact MW.ireturn dX1_axlesBar_44 rfl (rfl) (by first | exact rtb_t (zz (by assumption)) | exact rtb_f (fun z => z (nz (by assumption))))
  · skip
    refine MW.iconst (v := 1) dX1_axlesBar_39 (by decide) ?_
    refine MW.goto 44 dX1_axlesBar_40 (by decide) ?_
    exact MW.ireturn dX1_axlesBar_44 rfl (rfl) (by first | exact rtb_t (zz (by assumption)) | exact rtb_f (fun z => z (nz (by assumption))))
set_option maxHeartbeats 1000000 in
theorem c_firstBar {k : Nat} (hk : i 3 = nI k) (hk8 : k ≤ 8) {n : Nat} (hn : i 2 = nI n) (hn12 : n ≤ 12) {j : Nat} (hj : j < 8) {m : Nat} (hm : m < n) : MC (En l D t b L xs) MX1_firstBar (d + 3) [.ref (q 1), .ref (q (6 + j)), .int (nI m)] (hw t q i a w) mc ms (rt (some (.int (fbx i a k j m))) (hw t q i a w) mc ms) := by
  show MW _ _ _ 0 [some (.ref (q 1)), some (.ref (q (6 + j))), some (.int (nI m)), none] [] _ _ _ _
  refine MW.aload_n dX1_firstBar_0 rfl ?_
  refine MW.aload_n dX1_firstBar_1 rfl ?_
  refine MW.iload_n dX1_firstBar_2 rfl ?_
  refine MW.callV1 fX1_firstBar_3 1 rfl (c_firstBarButAxles hk hk8 hn hn12 hj hm) rfl rfl rfl rfl (Nat.le_of_ble_eq_true rfl) ?_
  refine MW.istore_n dX1_firstBar_6 rfl rfl ?_
  refine MW.iload_n dX1_firstBar_7 rfl ?_
  refine MW.if_eq 13 dX1_firstBar_8 (by decide) (fun hc8 => ?_) (fun hc8 => ?_)
  · skip
    refine MW.aload_n dX1_firstBar_13 rfl ?_
    refine MW.aload_n dX1_firstBar_14 rfl ?_
    refine MW.iload_n dX1_firstBar_15 rfl ?_
    refine MW.callV1 fX1_firstBar_16 1 rfl (c_axlesBar hk hk8 hj) rfl rfl rfl rfl (Nat.le_of_ble_eq_true rfl) ?_
    refine MW.if_eq 27 dX1_firstBar_19 (by decide) (fun hc19 => ?_) (fun hc19 => ?_)
    · skip
      refine MW.iconst (v := 0) dX1_firstBar_27 (by decide) ?_
      exact MW.ireturn dX1_firstBar_28 rfl (rfl) (rt_e (by unfold fbx; first | rw [cI_t hc8, cI_t (Classical.byContradiction (zz hc19))] | rw [cI_t hc8, cI_f (nz hc19)]))
    · skip
      refine MW.bipush (v := 6) dX1_firstBar_22 (by decide) ?_
      refine MW.goto 28 dX1_firstBar_24 (by decide) ?_
      exact MW.ireturn dX1_firstBar_28 rfl (rfl) (rt_e (by unfold fbx; first | rw [cI_t hc8, cI_t (Classical.byContradiction (zz hc19))] | rw [cI_t hc8, cI_f (nz hc19)]))
  · skip
    refine MW.iload_n dX1_firstBar_11 rfl ?_
    exact MW.ireturn dX1_firstBar_12 rfl (rfl) (rt_e (cI_f hc8))
end Load2
end
section
/-- the pallet j has a cell high and cold enough -/
def fsP (a : Nat → Nat → Int32) (n j : Nat) : Prop := ∃ m, m < n ∧ ¬ (a 0 m < a 6 j) ∧ ¬ (¬ a 3 j = 0 ∧ a 1 m = 0)
/-- how many of the first n are P -/
noncomputable def psn (p : Nat → Prop) : Nat → Int32
  | 0 => 0
  | n + 1 => cI (p n) (psn p n + 1) (psn p n)
/-- the farthest of what bars, from the cell c on -/
def bfa (f : Nat → Int32) : Nat → Nat → Int32 → Int32
  | 0, _, x => x
  | r + 1, c, x => if f c = 0 then 0 else bfa f r (c + 1) (if x < f c then f c else x)
/-- the first of r from j on that is P, else -1 -/
noncomputable def sfr (p : Nat → Prop) : Nat → Nat → Int32
  | 0, _ => -1
  | r + 1, j => cI (p j) (nI j) (sfr p r (j + 1))
/-- from the doors on: the x-th cell c with g c not below 0 -/
def fdr (g : Nat → Int32) (x : Int32) : Nat → Int32 → Int32
  | 0, _ => -1
  | c + 1, y => if g c < 0 then fdr g x c y else if y = x then g c else fdr g x c (y + 1)
def tko (wh : Nat → Int32) (j : Nat) : Nat → Int32 := fun m => if m < j then -1 else wh m
theorem tko_0 {wh : Nat → Int32} : tko wh 0 = wh := by funext m; simp [tko]
theorem tko_s {wh : Nat → Int32} {j : Nat} : upd (tko wh j) j (-1) = tko wh (j + 1) := by
  funext m
  by_cases h1 : m = j
  · subst h1; simp [upd, tko]
  · by_cases h2 : m < j
    · simp [upd, tko, h1, h2, show m < j + 1 by omega]
    · simp [upd, tko, h1, h2, show ¬ m < j + 1 by omega]
/-- the first of r cells from c on that is P -/
noncomputable def pfo (p : Nat → Prop) : Nat → Nat → Option Nat
  | 0, _ => none
  | r + 1, c => @ite (Option Nat) (p c) (Classical.propDecidable (p c)) (some c) (pfo p r (c + 1))
theorem pfo_t {p : Nat → Prop} {r c : Nat} (h : p c) : pfo p (r + 1) c = some c := if_pos h
theorem pfo_f {p : Nat → Prop} {r c : Nat} (h : ¬ p c) : pfo p (r + 1) c = pfo p r (c + 1) := if_neg h
theorem pfo_le {p : Nat → Prop} : ∀ {r c x : Nat}, pfo p r c = some x → c ≤ x ∧ x < c + r ∧ p x := by
  intro r
  induction r with
  | zero => intro c x h; cases h
  | succ r ih =>
    intro c x h
    by_cases hp : p c
    · rw [pfo_t hp] at h
      cases h
      exact ⟨Nat.le_refl _, by omega, hp⟩
    · rw [pfo_f hp] at h
      obtain ⟨h1, h2, h3⟩ := ih h
      exact ⟨by omega, by omega, h3⟩
/-- the cell behind it, or the same again -/
def pfv (o : Option Nat) (x : Nat) : Nat := match o with
  | some c => c + 1
  | none => x
/-- where the pallets are then -/
def pfw (o : Option Nat) (wh : Nat → Int32) (j : Nat) : Nat → Int32 := match o with
  | some c => upd wh j (nI c)
  | none => wh
section Load3
variable {l : Launch} {D : va_G} {t : ty4} {b L : Nat} {xs : Nat → Int32} {q : Nat → Nat} {i : Nat → Int32} {a : Nat → Nat → Int32} {w : Int64} {d mc ms : Nat}
set_option maxHeartbeats 2000000 in
theorem l_fits {n : Nat} (hn : i 2 = nI n) (hn12 : n ≤ 12) {j : Nat} (hj : j < 8) : ∀ (r m : Nat), m + r = n → (∀ x, x < m → ¬ (¬ (a 0 x < a 6 j) ∧ ¬ (¬ a 3 j = 0 ∧ a 1 x = 0))) → MW (En l D t b L xs) MX1_fitsSomeCell (d + 2) 2 [some (.ref (q 1)), some (.ref (q (6 + j))), some (.int (nI m))] [] (hw t q i a w) mc ms (rt (some (.int (bI (fsP a n j)))) (hw t q i a w) mc ms) := by
  intro r
  induction r with
  | zero =>
    intro m hr hI
    refine MW.iload_n dX1_fitsSomeCell_2 rfl ?_
    refine MW.aload_n dX1_fitsSomeCell_3 rfl ?_
    refine MW.getf fX1_fitsSomeCell_4 1 rfl rfl ?_
    refine MW.icmp_ge 36 dX1_fitsSomeCell_7 (by decide) (fun hc7 => ?_) (fun hc7 => absurd (show i 2 ≤ nI m by rw [hn]; exact nI_le (by omega) (by omega)) hc7)
    refine MW.iconst (v := 0) dX1_fitsSomeCell_36 (by decide) ?_
    exact MW.ireturn dX1_fitsSomeCell_37 rfl (rfl) (rtb_f (fun ⟨x, h1, h2⟩ => hI x (by omega) h2))
  | succ r ih =>
    intro m hr hI
    have hm : m < n := by omega
    refine MW.iload_n dX1_fitsSomeCell_2 rfl ?_
    refine MW.aload_n dX1_fitsSomeCell_3 rfl ?_
    refine MW.getf fX1_fitsSomeCell_4 1 rfl rfl ?_
    refine MW.icmp_ge 36 dX1_fitsSomeCell_7 (by decide) (fun hc7 => absurd hc7 (show ¬ i 2 ≤ nI m by rw [hn]; exact nI_ge (by omega) (by omega))) (fun hc7 => ?_)
    refine MW.aload_n dX1_fitsSomeCell_10 rfl ?_
    refine MW.aload_n dX1_fitsSomeCell_11 rfl ?_
    refine MW.iload_n dX1_fitsSomeCell_12 rfl ?_
    refine MW.callV1 fX1_fitsSomeCell_13 1 rfl (c_heightBars hn hn12 hj hm) rfl rfl rfl rfl (Nat.le_of_ble_eq_true rfl) ?_
    refine MW.if_ne 30 dX1_fitsSomeCell_16 (by decide) (fun hc16 => ?_) (fun hc16 => ?_)
    · skip
      refine MW.iincj dX1_fitsSomeCell_30 rfl rfl rfl ?_
      refine MW.goto 2 dX1_fitsSomeCell_33 (by decide) ?_
      exact ih (m + 1) (by omega) (lt_s hI (fun z => by first | exact z.2 (nz (by assumption)) | exact z.1 (nz (by assumption))))
    · skip
      refine MW.aload_n dX1_fitsSomeCell_19 rfl ?_
      refine MW.aload_n dX1_fitsSomeCell_20 rfl ?_
      refine MW.iload_n dX1_fitsSomeCell_21 rfl ?_
      refine MW.callV1 fX1_fitsSomeCell_22 1 rfl (c_coldBars hn hn12 hj hm) rfl rfl rfl rfl (Nat.le_of_ble_eq_true rfl) ?_
      refine MW.if_ne 30 dX1_fitsSomeCell_25 (by decide) (fun hc25 => ?_) (fun hc25 => ?_)
      · skip
        refine MW.iincj dX1_fitsSomeCell_30 rfl rfl rfl ?_
        refine MW.goto 2 dX1_fitsSomeCell_33 (by decide) ?_
        exact ih (m + 1) (by omega) (lt_s hI (fun z => by first | exact z.2 (nz (by assumption)) | exact z.1 (nz (by assumption))))
      · skip
        refine MW.iconst (v := 1) dX1_fitsSomeCell_28 (by decide) ?_
        exact MW.ireturn dX1_fitsSomeCell_29 rfl (rfl) (rtb_t ⟨m, hm, zz hc16, zz hc25⟩)
theorem c_fitsSomeCell {n : Nat} (hn : i 2 = nI n) (hn12 : n ≤ 12) {j : Nat} (hj : j < 8) : MC (En l D t b L xs) MX1_fitsSomeCell (d + 2) [.ref (q 1), .ref (q (6 + j))] (hw t q i a w) mc ms (rt (some (.int (bI (fsP a n j)))) (hw t q i a w) mc ms) := by
  show MW _ _ _ 0 [some (.ref (q 1)), some (.ref (q (6 + j))), none] [] _ _ _ _
  refine MW.iconst (v := 0) dX1_fitsSomeCell_0 (by decide) ?_
  refine MW.istore_n dX1_fitsSomeCell_1 rfl rfl ?_
  exact l_fits hn hn12 hj n 0 (by omega) (fun m h => absurd h (by omega))
set_option maxHeartbeats 2000000 in
theorem l_pws {k : Nat} (hk : i 3 = nI k) (hk8 : k ≤ 8) {n : Nat} (hn : i 2 = nI n) (hn12 : n ≤ 12) : ∀ (r j : Nat), j + r = k → MW (En l D t b L xs) MX1_palletsWithSomeCell (d + 3) 4 [some (.ref (q 1)), some (.int (psn (fsP a n) j)), some (.int (nI j))] [] (hw t q i a w) mc ms (rt (some (.int (psn (fsP a n) k))) (hw t q i a w) mc ms) := by
  intro r
  induction r with
  | zero =>
    intro j hr
    refine MW.iload_n dX1_palletsWithSomeCell_4 rfl ?_
    refine MW.aload_n dX1_palletsWithSomeCell_5 rfl ?_
    refine MW.getf fX1_palletsWithSomeCell_6 1 rfl rfl ?_
    refine MW.icmp_ge 34 dX1_palletsWithSomeCell_9 (by decide) (fun hc9 => ?_) (fun hc9 => absurd (show i 3 ≤ nI j by rw [hk]; exact nI_le (by omega) (by omega)) hc9)
    refine MW.iload_n dX1_palletsWithSomeCell_34 rfl ?_
    exact MW.ireturn dX1_palletsWithSomeCell_35 rfl (rfl) (rt_e (by rw [show k = j by omega]))
  | succ r ih =>
    intro j hr
    have hj : j < 8 := by omega
    refine MW.iload_n dX1_palletsWithSomeCell_4 rfl ?_
    refine MW.aload_n dX1_palletsWithSomeCell_5 rfl ?_
    refine MW.getf fX1_palletsWithSomeCell_6 1 rfl rfl ?_
    refine MW.icmp_ge 34 dX1_palletsWithSomeCell_9 (by decide) (fun hc9 => absurd hc9 (show ¬ i 3 ≤ nI j by rw [hk]; exact nI_ge (by omega) (by omega))) (fun hc9 => ?_)
    refine MW.aload_n dX1_palletsWithSomeCell_12 rfl ?_
    refine MW.aload_n dX1_palletsWithSomeCell_13 rfl ?_
    refine MW.getf fX1_palletsWithSomeCell_14 1 rfl rfl ?_
    refine MW.iload_n dX1_palletsWithSomeCell_17 rfl ?_
    refine MW.row dX1_palletsWithSomeCell_18 hj ?_
    refine MW.callV1 fX1_palletsWithSomeCell_19 1 rfl (c_fitsSomeCell hn hn12 hj) rfl rfl rfl rfl (Nat.le_of_ble_eq_true rfl) ?_
    refine MW.if_eq 28 dX1_palletsWithSomeCell_22 (by decide) (fun hc22 => ?_) (fun hc22 => ?_)
    · skip
      refine MW.iincj dX1_palletsWithSomeCell_28 rfl rfl rfl ?_
      refine MW.goto 4 dX1_palletsWithSomeCell_31 (by decide) ?_
      refine MW.locs (lv' := [some (.ref (q 1)), some (.int (psn (fsP a n) (j + 1))), some (.int (nI (j + 1)))]) ?_ (ih (j + 1) (by omega))
      first
        | rw [show psn (fsP a n) (j + 1) = psn (fsP a n) j from cI_f (zz hc22)]; rfl
        | rw [show psn (fsP a n) (j + 1) = psn (fsP a n) j + 1 from cI_t (nz hc22)]; rfl
    · skip
      refine MW.iinc1 dX1_palletsWithSomeCell_25 rfl rfl rfl ?_
      refine MW.iincj dX1_palletsWithSomeCell_28 rfl rfl rfl ?_
      refine MW.goto 4 dX1_palletsWithSomeCell_31 (by decide) ?_
      refine MW.locs (lv' := [some (.ref (q 1)), some (.int (psn (fsP a n) (j + 1))), some (.int (nI (j + 1)))]) ?_ (ih (j + 1) (by omega))
      first
        | rw [show psn (fsP a n) (j + 1) = psn (fsP a n) j from cI_f (zz hc22)]; rfl
        | rw [show psn (fsP a n) (j + 1) = psn (fsP a n) j + 1 from cI_t (nz hc22)]; rfl
theorem c_palletsWithSomeCell {k : Nat} (hk : i 3 = nI k) (hk8 : k ≤ 8) {n : Nat} (hn : i 2 = nI n) (hn12 : n ≤ 12) : MC (En l D t b L xs) MX1_palletsWithSomeCell (d + 3) [.ref (q 1)] (hw t q i a w) mc ms (rt (some (.int (psn (fsP a n) k))) (hw t q i a w) mc ms) := by
  show MW _ _ _ 0 [some (.ref (q 1)), none, none] [] _ _ _ _
  refine MW.iconst (v := 0) dX1_palletsWithSomeCell_0 (by decide) ?_
  refine MW.istore_n dX1_palletsWithSomeCell_1 rfl rfl ?_
  refine MW.iconst (v := 0) dX1_palletsWithSomeCell_2 (by decide) ?_
  refine MW.istore_n dX1_palletsWithSomeCell_3 rfl rfl ?_
  exact l_pws hk hk8 hn hn12 k 0 (by omega)
set_option maxHeartbeats 2000000 in
theorem l_bfa {k : Nat} (hk : i 3 = nI k) (hk8 : k ≤ 8) {n : Nat} (hn : i 2 = nI n) (hn12 : n ≤ 12) {j : Nat} (hj : j < 8) : ∀ (r m : Nat) (x : Int32) (z : Option Value), m + r = n → bfa (fbx i a k j) r m x = bfa (fbx i a k j) n 0 1 → mi_nl [some (.ref (q 1)), some (.ref (q (6 + j))), some (.int x), some (.int (nI m)), z] 4 = true → MW (En l D t b L xs) MX1_barFromAllCells (d + 4) 4 [some (.ref (q 1)), some (.ref (q (6 + j))), some (.int x), some (.int (nI m)), z] [] (hw t q i a w) mc ms (rt (some (.int (bfa (fbx i a k j) n 0 1))) (hw t q i a w) mc ms) := by
  intro r
  induction r with
  | zero =>
    intro m x z hr hI hz
    refine MW.iload_n dX1_barFromAllCells_4 rfl ?_
    refine MW.aload_n dX1_barFromAllCells_5 rfl ?_
    refine MW.getf fX1_barFromAllCells_6 1 rfl rfl ?_
    refine MW.icmp_ge 40 dX1_barFromAllCells_9 (by decide) (fun hc9 => ?_) (fun hc9 => absurd (show i 2 ≤ nI m by rw [hn]; exact nI_le (by omega) (by omega)) hc9)
    refine MW.iload_n dX1_barFromAllCells_40 rfl ?_
    exact MW.ireturn dX1_barFromAllCells_41 rfl (rfl) (rt_e hI.symm)
  | succ r ih =>
    intro m x z hr hI hz
    have hm : m < n := by omega
    refine MW.iload_n dX1_barFromAllCells_4 rfl ?_
    refine MW.aload_n dX1_barFromAllCells_5 rfl ?_
    refine MW.getf fX1_barFromAllCells_6 1 rfl rfl ?_
    refine MW.icmp_ge 40 dX1_barFromAllCells_9 (by decide) (fun hc9 => absurd hc9 (show ¬ i 2 ≤ nI m by rw [hn]; exact nI_ge (by omega) (by omega))) (fun hc9 => ?_)
    refine MW.aload_n dX1_barFromAllCells_12 rfl ?_
    refine MW.aload_n dX1_barFromAllCells_13 rfl ?_
    refine MW.iload_n dX1_barFromAllCells_14 rfl ?_
    refine MW.callV1 fX1_barFromAllCells_15 1 rfl (c_firstBar hk hk8 hn hn12 hj hm) rfl rfl rfl rfl (Nat.le_of_ble_eq_true rfl) ?_
    refine MW.istore dX1_barFromAllCells_18 rfl rfl ?_
    refine MW.iload dX1_barFromAllCells_20 rfl ?_
    refine MW.if_ne 27 dX1_barFromAllCells_22 (by decide) (fun hc22 => ?_) (fun hc22 => ?_)
    · skip
      refine MW.iload_n dX1_barFromAllCells_27 rfl ?_
      refine MW.iload dX1_barFromAllCells_28 rfl ?_
      refine MW.mmax dX1_barFromAllCells_30 fX1_barFromAllCells_30 wm_max1 wm_i wm_max2 (Nat.le_of_ble_eq_true rfl) ?_
      refine MW.istore_n dX1_barFromAllCells_33 rfl rfl ?_
      refine MW.iincj dX1_barFromAllCells_34 rfl rfl rfl ?_
      refine MW.goto 4 dX1_barFromAllCells_37 (by decide) ?_
      exact ih (m + 1) _ _ (by omega) (by rw [← hI]; exact (if_neg hc22).symm) rfl
    · skip
      refine MW.iconst (v := 0) dX1_barFromAllCells_25 (by decide) ?_
      exact MW.ireturn dX1_barFromAllCells_26 rfl (rfl) (rt_e (by rw [← hI]; exact if_pos hc22))
theorem c_barFromAllCells {k : Nat} (hk : i 3 = nI k) (hk8 : k ≤ 8) {n : Nat} (hn : i 2 = nI n) (hn12 : n ≤ 12) {j : Nat} (hj : j < 8) : MC (En l D t b L xs) MX1_barFromAllCells (d + 4) [.ref (q 1), .ref (q (6 + j))] (hw t q i a w) mc ms (rt (some (.int (bfa (fbx i a k j) n 0 1))) (hw t q i a w) mc ms) := by
  show MW _ _ _ 0 [some (.ref (q 1)), some (.ref (q (6 + j))), none, none, none] [] _ _ _ _
  refine MW.iconst (v := 1) dX1_barFromAllCells_0 (by decide) ?_
  refine MW.istore_n dX1_barFromAllCells_1 rfl rfl ?_
  refine MW.iconst (v := 0) dX1_barFromAllCells_2 (by decide) ?_
  refine MW.istore_n dX1_barFromAllCells_3 rfl rfl ?_
  exact l_bfa hk hk8 hn hn12 hj n 0 1 none (by omega) rfl rfl
set_option maxHeartbeats 2000000 in
theorem l_sfr {k : Nat} (hk : i 3 = nI k) (hk8 : k ≤ 8) {s c : Int32} : ∀ (r j : Nat), j + r = k → sfr (fun m => a 7 m = c ∧ a 5 m = s) r j = sfr (fun m => a 7 m = c ∧ a 5 m = s) k 0 → MW (En l D t b L xs) MX1_standingFor d 2 [some (.ref (q 1)), some (.int s), some (.int c), some (.int (nI j))] [] (hw t q i a w) mc ms (rt (some (.int (sfr (fun m => a 7 m = c ∧ a 5 m = s) k 0))) (hw t q i a w) mc ms) := by
  intro r
  induction r with
  | zero =>
    intro j hr hI
    refine MW.iload_n dX1_standingFor_2 rfl ?_
    refine MW.aload_n dX1_standingFor_3 rfl ?_
    refine MW.getf fX1_standingFor_4 1 rfl rfl ?_
    refine MW.icmp_ge 44 dX1_standingFor_7 (by decide) (fun hc7 => ?_) (fun hc7 => absurd (show i 3 ≤ nI j by rw [hk]; exact nI_le (by omega) (by omega)) hc7)
    refine MW.iconst (v := -1) dX1_standingFor_44 (by decide) ?_
    exact MW.ireturn dX1_standingFor_45 rfl (rfl) (rt_e hI.symm)
  | succ r ih =>
    intro j hr hI
    have hj : j < 8 := by omega
    refine MW.iload_n dX1_standingFor_2 rfl ?_
    refine MW.aload_n dX1_standingFor_3 rfl ?_
    refine MW.getf fX1_standingFor_4 1 rfl rfl ?_
    refine MW.icmp_ge 44 dX1_standingFor_7 (by decide) (fun hc7 => absurd hc7 (show ¬ i 3 ≤ nI j by rw [hk]; exact nI_ge (by omega) (by omega))) (fun hc7 => ?_)
    refine MW.aload_n dX1_standingFor_10 rfl ?_
    refine MW.getf fX1_standingFor_11 1 rfl rfl ?_
    refine MW.iload_n dX1_standingFor_14 rfl ?_
    refine MW.row dX1_standingFor_15 hj ?_
    refine MW.pg5 fX1_standingFor_16 hj ?_
    refine MW.iload_n dX1_standingFor_19 rfl ?_
    refine MW.icmp_ne 38 dX1_standingFor_20 (by decide) (fun hc20 => ?_) (fun hc20 => ?_)
    · skip
      refine MW.iincj dX1_standingFor_38 rfl rfl rfl ?_
      refine MW.goto 2 dX1_standingFor_41 (by decide) ?_
      exact ih (j + 1) (by omega) (by rw [← hI]; exact (cI_f (fun z => by first | exact absurd z.1 (by assumption) | exact absurd z.2 (by assumption))).symm)
    · skip
      refine MW.aload_n dX1_standingFor_23 rfl ?_
      refine MW.getf fX1_standingFor_24 1 rfl rfl ?_
      refine MW.iload_n dX1_standingFor_27 rfl ?_
      refine MW.row dX1_standingFor_28 hj ?_
      refine MW.pg3 fX1_standingFor_29 hj ?_
      refine MW.iload_n dX1_standingFor_32 rfl ?_
      refine MW.icmp_ne 38 dX1_standingFor_33 (by decide) (fun hc33 => ?_) (fun hc33 => ?_)
      · skip
        refine MW.iincj dX1_standingFor_38 rfl rfl rfl ?_
        refine MW.goto 2 dX1_standingFor_41 (by decide) ?_
        exact ih (j + 1) (by omega) (by rw [← hI]; exact (cI_f (fun z => by first | exact absurd z.1 (by assumption) | exact absurd z.2 (by assumption))).symm)
      · skip
        refine MW.iload_n dX1_standingFor_36 rfl ?_
        exact MW.ireturn dX1_standingFor_37 rfl (rfl) (rt_e (by rw [← hI]; exact cI_t ⟨by assumption, by assumption⟩))
theorem c_standingFor {k : Nat} (hk : i 3 = nI k) (hk8 : k ≤ 8) {s c : Int32} : MC (En l D t b L xs) MX1_standingFor d [.ref (q 1), .int s, .int c] (hw t q i a w) mc ms (rt (some (.int (sfr (fun m => a 7 m = c ∧ a 5 m = s) k 0))) (hw t q i a w) mc ms) := by
  show MW _ _ _ 0 [some (.ref (q 1)), some (.int s), some (.int c), none] [] _ _ _ _
  refine MW.iconst (v := 0) dX1_standingFor_0 (by decide) ?_
  refine MW.istore_n dX1_standingFor_1 rfl rfl ?_
  exact l_sfr hk hk8 k 0 (by omega) rfl
theorem m1_neg : (nI 0 - 1 : Int32) < 0 := by decide
theorem add_m1 {x : Int32} : x + (-1) = x - 1 := (Int32.sub_eq_add_neg ..).symm
theorem MW.iincs {E : mi_E} {M : mi_M} {d pc : Nat} {lv : List (Option Value)} {st : List Value} {h : va_W} {mc ms : Nat} {Q : mi_O → va_W → Nat → Nat → Prop} {j : Nat} {x : Int32} (hd : decode M.2.1 pc = .ok (Instr.iinc j (-1), 3)) (hl : lv[j]? = some (some (.int x))) (hn : Nat.ble (j + 1) M.2.2.1 = true) (hj : mi_nl lv j = true) (k : MW E M d (pc + 3) (lv.set j (some (.int (x - 1)))) st h mc ms Q) : MW E M d pc lv st h mc ms Q := MW.iinc hd hl (by rw [mone32]; exact add_m1) hn hj k
set_option maxHeartbeats 2000000 in
theorem l_fdr {k : Nat} (hk : i 3 = nI k) (hk8 : k ≤ 8) {n : Nat} (hn : i 2 = nI n) (hn12 : n ≤ 12) {s x : Int32} : ∀ (m : Nat) (y : Int32) (z : Option Value), m ≤ n → fdr (fun m => sfr (fun p => a 7 p = nI m ∧ a 5 p = s) k 0) x m y = fdr (fun m => sfr (fun p => a 7 p = nI m ∧ a 5 p = s) k 0) x n 0 → MW (En l D t b L xs) MX1_fromDoors (d + 1) 10 [some (.ref (q 1)), some (.int s), some (.int x), some (.int y), some (.int (nI m - 1)), z] [] (hw t q i a w) mc ms (rt (some (.int (fdr (fun m => sfr (fun p => a 7 p = nI m ∧ a 5 p = s) k 0) x n 0))) (hw t q i a w) mc ms) := by
  intro m
  induction m with
  | zero =>
    intro y z hr hI
    refine MW.iload dX1_fromDoors_10 rfl ?_
    refine MW.if_lt 46 dX1_fromDoors_12 (by decide) (fun hc12 => ?_) (fun hc12 => absurd m1_neg hc12)
    refine MW.iconst (v := -1) dX1_fromDoors_46 (by decide) ?_
    exact MW.ireturn dX1_fromDoors_47 rfl (rfl) (rt_e hI.symm)
  | succ m ih =>
    intro y z hr hI
    rw [nI_pred]
    refine MW.iload dX1_fromDoors_10 rfl ?_
    refine MW.if_lt 46 dX1_fromDoors_12 (by decide) (fun hc12 => absurd hc12 (nI_pos (by omega))) (fun hc12 => ?_)
    refine MW.aload_n dX1_fromDoors_15 rfl ?_
    refine MW.iload_n dX1_fromDoors_16 rfl ?_
    refine MW.iload dX1_fromDoors_17 rfl ?_
    refine MW.callV1 fX1_fromDoors_19 1 rfl (c_standingFor hk hk8) rfl rfl rfl rfl (Nat.le_of_ble_eq_true rfl) ?_
    refine MW.istore dX1_fromDoors_22 rfl rfl ?_
    refine MW.iload dX1_fromDoors_24 rfl ?_
    refine MW.if_lt 40 dX1_fromDoors_26 (by decide) (fun hc26 => ?_) (fun hc26 => ?_)
    · skip
      refine MW.iincs dX1_fromDoors_40 rfl rfl rfl ?_
      refine MW.goto 10 dX1_fromDoors_43 (by decide) ?_
      exact ih _ _ (by omega) (by rw [← hI]; first | exact (if_pos hc26).symm | exact ((if_neg hc26).trans (if_neg hc31)).symm)
    · skip
      refine MW.iload_n dX1_fromDoors_29 rfl ?_
      refine MW.iload_n dX1_fromDoors_30 rfl ?_
      refine MW.icmp_ne 37 dX1_fromDoors_31 (by decide) (fun hc31 => ?_) (fun hc31 => ?_)
      · skip
        refine MW.iinc1 dX1_fromDoors_37 rfl rfl rfl ?_
        refine MW.iincs dX1_fromDoors_40 rfl rfl rfl ?_
        refine MW.goto 10 dX1_fromDoors_43 (by decide) ?_
        exact ih _ _ (by omega) (by rw [← hI]; first | exact (if_pos hc26).symm | exact ((if_neg hc26).trans (if_neg hc31)).symm)
      · skip
        refine MW.iload dX1_fromDoors_34 rfl ?_
        exact MW.ireturn dX1_fromDoors_36 rfl (rfl) (rt_e (by rw [← hI]; exact (if_neg hc26).trans (if_pos hc31)))
theorem c_fromDoors {k : Nat} (hk : i 3 = nI k) (hk8 : k ≤ 8) {n : Nat} (hn : i 2 = nI n) (hn12 : n ≤ 12) {s x : Int32} : MC (En l D t b L xs) MX1_fromDoors (d + 1) [.ref (q 1), .int s, .int x] (hw t q i a w) mc ms (rt (some (.int (fdr (fun m => sfr (fun p => a 7 p = nI m ∧ a 5 p = s) k 0) x n 0))) (hw t q i a w) mc ms) := by
  show MW _ _ _ 0 [some (.ref (q 1)), some (.int s), some (.int x), none, none, none] [] _ _ _ _
  refine MW.iconst (v := 0) dX1_fromDoors_0 (by decide) ?_
  refine MW.istore_n dX1_fromDoors_1 rfl rfl ?_
  refine MW.aload_n dX1_fromDoors_2 rfl ?_
  refine MW.getf fX1_fromDoors_3 1 rfl rfl ?_
  refine MW.iconst (v := 1) dX1_fromDoors_6 (by decide) ?_
  refine MW.isub dX1_fromDoors_7 ?_
  refine MW.top (v' := .int (nI n - 1)) (by rw [hn]) ?_
  refine MW.istore dX1_fromDoors_8 rfl rfl ?_
  exact l_fdr hk hk8 hn hn12 n 0 none (Nat.le_refl _) rfl
set_option maxHeartbeats 2000000 in
theorem l_tko {k : Nat} (hk : i 3 = nI k) (hk8 : k ≤ 8) : ∀ (r j : Nat), j + r = k → MW (En l D t b L xs) MX1_takeAllOut d 2 [some (.ref (q 1)), some (.int (nI j))] [] (hw t q i (au a 7 (tko (a 7) j)) w) mc ms (rt none (hw t q i (au a 7 (tko (a 7) k)) w) mc ms) := by
  intro r
  induction r with
  | zero =>
    intro j hr
    obtain rfl : j = k := by omega
    refine MW.iload_n dX1_takeAllOut_2 rfl ?_
    refine MW.aload_n dX1_takeAllOut_3 rfl ?_
    refine MW.getf fX1_takeAllOut_4 1 rfl rfl ?_
    refine MW.icmp_ge 26 dX1_takeAllOut_7 (by decide) (fun hc7 => ?_) (fun hc7 => absurd (show i 3 ≤ nI j by rw [hk]; exact nI_le (by omega) (by omega)) hc7)
    exact MW.vreturn dX1_takeAllOut_26 rfl rt_r
  | succ r ih =>
    intro j hr
    have hj : j < 8 := by omega
    refine MW.iload_n dX1_takeAllOut_2 rfl ?_
    refine MW.aload_n dX1_takeAllOut_3 rfl ?_
    refine MW.getf fX1_takeAllOut_4 1 rfl rfl ?_
    refine MW.icmp_ge 26 dX1_takeAllOut_7 (by decide) (fun hc7 => absurd hc7 (show ¬ i 3 ≤ nI j by rw [hk]; exact nI_ge (by omega) (by omega))) (fun hc7 => ?_)
    refine MW.aload_n dX1_takeAllOut_10 rfl ?_
    refine MW.getf fX1_takeAllOut_11 1 rfl rfl ?_
    refine MW.iload_n dX1_takeAllOut_14 rfl ?_
    refine MW.row dX1_takeAllOut_15 hj ?_
    refine MW.iconst (v := -1) dX1_takeAllOut_16 (by decide) ?_
    refine MW.pp5 fX1_takeAllOut_17 hj (rfl) (rfl) ?_
    refine MW.heap (h' := hw t q i (au a 7 (tko (a 7) (j + 1))) w) (by rw [au_au, au_at, tko_s]) ?_
    refine MW.iincj dX1_takeAllOut_20 rfl rfl rfl ?_
    refine MW.goto 2 dX1_takeAllOut_23 (by decide) ?_
    exact ih (j + 1) (by omega)
theorem c_takeAllOut {k : Nat} (hk : i 3 = nI k) (hk8 : k ≤ 8) : MC (En l D t b L xs) MX1_takeAllOut d [.ref (q 1)] (hw t q i a w) mc ms (rt none (hw t q i (au a 7 (tko (a 7) k)) w) mc ms) := by
  show MW _ _ _ 0 [some (.ref (q 1)), none] [] _ _ _ _
  refine MW.iconst (v := 0) dX1_takeAllOut_0 (by decide) ?_
  refine MW.istore_n dX1_takeAllOut_1 rfl rfl ?_
  refine MW.heap (h' := hw t q i (au a 7 (tko (a 7) 0)) w) (by rw [tko_0, au_self]) ?_
  exact l_tko hk hk8 k 0 (by omega)
set_option maxHeartbeats 2000000 in
theorem l_pf {k : Nat} (hk : i 3 = nI k) (hk8 : k ≤ 8) {n : Nat} (hn : i 2 = nI n) (hn12 : n ≤ 12) {j : Nat} (hj : j < 8) {x : Nat} : ∀ (r c : Nat), c + r = n → pfo (fun c => fb a k j c = 0) r c = pfo (fun c => fb a k j c = 0) (n - x) x → MW (En l D t b L xs) MX1_placeFrom (d + 3) 2 [some (.ref (q 1)), some (.int (nI x)), some (.ref (q (6 + j))), some (.int (nI c))] [] (hw t q i a w) mc ms (rt (some (.int (nI (pfv (pfo (fun c => fb a k j c = 0) (n - x) x) x)))) (hw t q i (au a 7 (pfw (pfo (fun c => fb a k j c = 0) (n - x) x) (a 7) j)) w) mc ms) := by
  intro r
  induction r with
  | zero =>
    intro c hr hI
    rw [← hI]
    refine MW.iload_n dX1_placeFrom_2 rfl ?_
    refine MW.aload_n dX1_placeFrom_3 rfl ?_
    refine MW.getf fX1_placeFrom_4 1 rfl rfl ?_
    refine MW.icmp_ge 34 dX1_placeFrom_7 (by decide) (fun hc7 => ?_) (fun hc7 => absurd (show i 2 ≤ nI c by rw [hn]; exact nI_le (by omega) (by omega)) hc7)
    refine MW.iload_n dX1_placeFrom_34 rfl ?_
    exact MW.ireturn dX1_placeFrom_35 rfl (rfl) ⟨rfl, by show _ = hw t q i (au a 7 (a 7)) w; rw [au_self], rfl, rfl⟩
  | succ r ih =>
    intro c hr hI
    have hm : c < n := by omega
    refine MW.iload_n dX1_placeFrom_2 rfl ?_
    refine MW.aload_n dX1_placeFrom_3 rfl ?_
    refine MW.getf fX1_placeFrom_4 1 rfl rfl ?_
    refine MW.icmp_ge 34 dX1_placeFrom_7 (by decide) (fun hc7 => absurd hc7 (show ¬ i 2 ≤ nI c by rw [hn]; exact nI_ge (by omega) (by omega))) (fun hc7 => ?_)
    refine MW.aload_n dX1_placeFrom_10 rfl ?_
    refine MW.aload_n dX1_placeFrom_11 rfl ?_
    refine MW.iload_n dX1_placeFrom_12 rfl ?_
    refine MW.callV1 fX1_placeFrom_13 1 rfl (c_firstBarButAxles hk hk8 hn hn12 hj hm) rfl rfl rfl rfl (Nat.le_of_ble_eq_true rfl) ?_
    refine MW.if_ne 28 dX1_placeFrom_16 (by decide) (fun hc16 => ?_) (fun hc16 => ?_)
    · skip
      refine MW.iincj dX1_placeFrom_28 rfl rfl rfl ?_
      refine MW.goto 2 dX1_placeFrom_31 (by decide) ?_
      exact ih (c + 1) (by omega) (by rw [← hI]; exact (pfo_f hc16).symm)
    · skip
      refine MW.aload_n dX1_placeFrom_19 rfl ?_
      refine MW.iload_n dX1_placeFrom_20 rfl ?_
      refine MW.pp5 fX1_placeFrom_21 hj (rfl) (rfl) ?_
      refine MW.iload_n dX1_placeFrom_24 rfl ?_
      refine MW.iconst (v := 1) dX1_placeFrom_25 (by decide) ?_
      refine MW.iadd dX1_placeFrom_26 ?_
      refine MW.top (v' := .int (nI (c + 1))) (by rw [nI_1]) ?_
      exact MW.ireturn dX1_placeFrom_27 rfl (rfl) (by rw [← hI, pfo_t hc16]; exact ⟨rfl, rfl, rfl, rfl⟩)
theorem c_placeFrom {k : Nat} (hk : i 3 = nI k) (hk8 : k ≤ 8) {n : Nat} (hn : i 2 = nI n) (hn12 : n ≤ 12) {j : Nat} (hj : j < 8) {x : Nat} (hx : x ≤ n) : MC (En l D t b L xs) MX1_placeFrom (d + 3) [.ref (q 1), .int (nI x), .ref (q (6 + j))] (hw t q i a w) mc ms (rt (some (.int (nI (pfv (pfo (fun c => fb a k j c = 0) (n - x) x) x)))) (hw t q i (au a 7 (pfw (pfo (fun c => fb a k j c = 0) (n - x) x) (a 7) j)) w) mc ms) := by
  show MW _ _ _ 0 [some (.ref (q 1)), some (.int (nI x)), some (.ref (q (6 + j))), none] [] _ _ _ _
  refine MW.iload_n dX1_placeFrom_0 rfl ?_
  refine MW.istore_n dX1_placeFrom_1 rfl rfl ?_
  exact l_pf hk hk8 hn hn12 hj (n - x) x (by omega) rfl
end Load3
/-- one pallet by rule: st is the next cell and where all stand -/
noncomputable def pbs (a : Nat → Nat → Int32) (n k s j : Nat) (st : Nat × (Nat → Int32)) : Nat × (Nat → Int32) := if a 5 j = nI s then (pfv (pfo (fun c => fb (au a 7 st.2) k j c = 0) (n - st.1) st.1) st.1, pfw (pfo (fun c => fb (au a 7 st.2) k j c = 0) (n - st.1) st.1) st.2 j) else st
noncomputable def pbj (a : Nat → Nat → Int32) (n k s : Nat) : Nat → Nat → Nat × (Nat → Int32) → Nat × (Nat → Int32)
  | 0, _, st => st
  | r + 1, j, st => pbj a n k s r (j + 1) (pbs a n k s j st)
noncomputable def pbo (a : Nat → Nat → Int32) (n k : Nat) : Nat → Nat × (Nat → Int32) → Nat × (Nat → Int32)
  | 0, st => st
  | s + 1, st => pbo a n k s (pbj a n k (s + 1) k 0 st)
theorem pfv_le {p : Nat → Prop} {n x : Nat} (hx : x ≤ n) : pfv (pfo p (n - x) x) x ≤ n := by
  cases h : pfo p (n - x) x with
  | none => exact hx
  | some c => have := pfo_le h; show c + 1 ≤ n; omega
theorem pbs_le {a : Nat → Nat → Int32} {n k s j : Nat} {st : Nat × (Nat → Int32)} (h : st.1 ≤ n) : (pbs a n k s j st).1 ≤ n := by
  unfold pbs
  split
  · exact pfv_le h
  · exact h
section Rule
variable {l : Launch} {D : va_G} {t : ty4} {b L : Nat} {xs : Nat → Int32} {q : Nat → Nat} {i : Nat → Int32} {a : Nat → Nat → Int32} {w : Int64} {d mc ms : Nat}
set_option maxHeartbeats 2000000 in
theorem l_pbj {k : Nat} (hk : i 3 = nI k) (hk8 : k ≤ 8) {n : Nat} (hn : i 2 = nI n) (hn12 : n ≤ 12) {s : Nat} {Q : mi_O → va_W → Nat → Nat → Prop} : ∀ (r j x : Nat) (wh : Nat → Int32), j + r = k → x ≤ n → (∀ x1 wh1, x1 ≤ n → pbj a n k s r j (x, wh) = (x1, wh1) → MW (En l D t b L xs) MX1_placeByRule (d + 4) 55 [some (.ref (q 1)), some (.int (nI x1)), some (.int (nI s)), some (.int (nI k))] [] (hw t q i (au a 7 wh1) w) mc ms Q) → MW (En l D t b L xs) MX1_placeByRule (d + 4) 16 [some (.ref (q 1)), some (.int (nI x)), some (.int (nI s)), some (.int (nI j))] [] (hw t q i (au a 7 wh) w) mc ms Q := by
  intro r
  induction r with
  | zero =>
    intro j x wh hr hx hQ
    obtain rfl : j = k := by omega
    refine MW.iload_n dX1_placeByRule_16 rfl ?_
    refine MW.aload_n dX1_placeByRule_17 rfl ?_
    refine MW.getf fX1_placeByRule_18 1 rfl rfl ?_
    refine MW.icmp_ge 55 dX1_placeByRule_21 (by decide) (fun hc21 => ?_) (fun hc21 => absurd (show i 3 ≤ nI j by rw [hk]; exact nI_le (by omega) (by omega)) hc21)
    exact hQ x wh hx rfl
  | succ r ih =>
    intro j x wh hr hx hQ
    have hj : j < 8 := by omega
    refine MW.iload_n dX1_placeByRule_16 rfl ?_
    refine MW.aload_n dX1_placeByRule_17 rfl ?_
    refine MW.getf fX1_placeByRule_18 1 rfl rfl ?_
    refine MW.icmp_ge 55 dX1_placeByRule_21 (by decide) (fun hc21 => absurd hc21 (show ¬ i 3 ≤ nI j by rw [hk]; exact nI_ge (by omega) (by omega))) (fun hc21 => ?_)
    refine MW.aload_n dX1_placeByRule_24 rfl ?_
    refine MW.getf fX1_placeByRule_25 1 rfl rfl ?_
    refine MW.iload_n dX1_placeByRule_28 rfl ?_
    refine MW.row dX1_placeByRule_29 hj ?_
    refine MW.pg3 fX1_placeByRule_30 hj ?_
    refine MW.iload_n dX1_placeByRule_33 rfl ?_
    refine MW.icmp_ne 49 dX1_placeByRule_34 (by decide) (fun hc34 => ?_) (fun hc34 => ?_)
    · skip
      refine MW.iincj dX1_placeByRule_49 rfl rfl rfl ?_
      refine MW.goto 16 dX1_placeByRule_52 (by decide) ?_
      first
        | exact ih (j + 1) _ _ (by omega) (pfv_le hx) (fun x1 wh1 h1 h2 => hQ x1 wh1 h1 (by rw [← h2]; show pbj a n k s r (j + 1) (pbs a n k s j (x, wh)) = _; rw [show pbs a n k s j (x, wh) = _ from if_pos (show a 5 j = nI s from hc34)]))
        | exact ih (j + 1) x wh (by omega) hx (fun x1 wh1 h1 h2 => hQ x1 wh1 h1 (by rw [← h2]; show pbj a n k s r (j + 1) (pbs a n k s j (x, wh)) = _; rw [show pbs a n k s j (x, wh) = _ from if_neg (show ¬ a 5 j = nI s from hc34)]))
    · skip
      refine MW.aload_n dX1_placeByRule_37 rfl ?_
      refine MW.iload_n dX1_placeByRule_38 rfl ?_
      refine MW.aload_n dX1_placeByRule_39 rfl ?_
      refine MW.getf fX1_placeByRule_40 1 rfl rfl ?_
      refine MW.iload_n dX1_placeByRule_43 rfl ?_
      refine MW.row dX1_placeByRule_44 hj ?_
      refine MW.callV1 fX1_placeByRule_45 1 rfl (c_placeFrom (a := au a 7 wh) hk hk8 hn hn12 hj hx) rfl rfl rfl rfl (Nat.le_of_ble_eq_true rfl) ?_
      refine MW.heap (h' := hw t q i (au a 7 (pfw (pfo (fun c => fb (au a 7 wh) k j c = 0) (n - x) x) wh j)) w) (by rw [au_at, au_au]) ?_
      refine MW.istore_n dX1_placeByRule_48 rfl rfl ?_
      refine MW.iincj dX1_placeByRule_49 rfl rfl rfl ?_
      refine MW.goto 16 dX1_placeByRule_52 (by decide) ?_
      first
        | exact ih (j + 1) _ _ (by omega) (pfv_le hx) (fun x1 wh1 h1 h2 => hQ x1 wh1 h1 (by rw [← h2]; show pbj a n k s r (j + 1) (pbs a n k s j (x, wh)) = _; rw [show pbs a n k s j (x, wh) = _ from if_pos (show a 5 j = nI s from hc34)]))
        | exact ih (j + 1) x wh (by omega) hx (fun x1 wh1 h1 h2 => hQ x1 wh1 h1 (by rw [← h2]; show pbj a n k s r (j + 1) (pbs a n k s j (x, wh)) = _; rw [show pbs a n k s j (x, wh) = _ from if_neg (show ¬ a 5 j = nI s from hc34)]))
set_option maxHeartbeats 2000000 in
theorem l_pbo {k : Nat} (hk : i 3 = nI k) (hk8 : k ≤ 8) {n : Nat} (hn : i 2 = nI n) (hn12 : n ≤ 12) : ∀ (s x : Nat) (wh : Nat → Int32) (z : Option Value), s ≤ 9 → x ≤ n → pbo a n k s (x, wh) = pbo a n k 9 (0, tko (a 7) k) → MW (En l D t b L xs) MX1_placeByRule (d + 4) 9 [some (.ref (q 1)), some (.int (nI x)), some (.int (nI s)), z] [] (hw t q i (au a 7 wh) w) mc ms (rt none (hw t q i (au a 7 (pbo a n k 9 (0, tko (a 7) k)).2) w) mc ms) := by
  intro s
  induction s with
  | zero =>
    intro x wh z hs hx hI
    refine MW.iload_n dX1_placeByRule_9 rfl ?_
    refine MW.iconst (v := 1) dX1_placeByRule_10 (by decide) ?_
    refine MW.icmp_lt 61 dX1_placeByRule_11 (by decide) (fun hc11 => ?_) (fun hc11 => absurd (show (nI 0 : Int32) < 1 by decide) hc11)
    exact MW.vreturn dX1_placeByRule_61 rfl ⟨rfl, by rw [← hI]; rfl, rfl, rfl⟩
  | succ s ih =>
    intro x wh z hs hx hI
    refine MW.iload_n dX1_placeByRule_9 rfl ?_
    refine MW.iconst (v := 1) dX1_placeByRule_10 (by decide) ?_
    refine MW.icmp_lt 61 dX1_placeByRule_11 (by decide) (fun hc11 => absurd hc11 (show ¬ nI (s + 1) < 1 from nI_nlt (b := 1) (by omega) (by omega))) (fun hc11 => ?_)
    refine MW.iconst (v := 0) dX1_placeByRule_14 (by decide) ?_
    refine MW.istore_n dX1_placeByRule_15 rfl rfl ?_
    refine l_pbj hk hk8 hn hn12 k 0 x wh (by omega) hx (fun x1 wh1 h1 h2 => ?_)
    refine MW.iincd dX1_placeByRule_55 rfl rfl rfl ?_
    refine MW.goto 9 dX1_placeByRule_58 (by decide) ?_
    exact ih x1 wh1 _ (by omega) h1 (by rw [← hI, ← h2]; rfl)
theorem c_placeByRule {k : Nat} (hk : i 3 = nI k) (hk8 : k ≤ 8) {n : Nat} (hn : i 2 = nI n) (hn12 : n ≤ 12) : MC (En l D t b L xs) MX1_placeByRule (d + 4) [.ref (q 1)] (hw t q i a w) mc ms (rt none (hw t q i (au a 7 (pbo a n k 9 (0, tko (a 7) k)).2) w) mc ms) := by
  show MW _ _ _ 0 [some (.ref (q 1)), none, none, none] [] _ _ _ _
  refine MW.aload_n dX1_placeByRule_0 rfl ?_
  refine MW.callV0 fX1_placeByRule_1 1 rfl (c_takeAllOut hk hk8) rfl rfl rfl rfl (Nat.le_of_ble_eq_true rfl) ?_
  refine MW.iconst (v := 0) dX1_placeByRule_4 (by decide) ?_
  refine MW.istore_n dX1_placeByRule_5 rfl rfl ?_
  refine MW.bipush (v := 9) dX1_placeByRule_6 (by decide) ?_
  refine MW.istore_n dX1_placeByRule_8 rfl rfl ?_
  exact l_pbo hk hk8 hn hn12 9 0 _ none (by omega) (by omega) rfl
end Rule
end
section
theorem MW.up {E : mi_E} {M : mi_M} {d d' pc : Nat} {lv : List (Option Value)} {st : List Value} {h : va_W} {mc ms : Nat} {Q : mi_O → va_W → Nat → Nat → Prop} (hd : d ≤ d') (k : MW E M d pc lv st h mc ms Q) : MW E M d' pc lv st h mc ms Q := by
  intro p e R s m args below meth c H locs ls A cb sb Z hp hz
  refine k p e R s m args below meth c H locs ls A cb sb Z ⟨hp.1, hp.2.1, hp.2.2.1, hp.2.2.2.1, ⟨?_, ?_, hp.2.2.2.2.1.2.2⟩, hp.2.2.2.2.2⟩ hz
  · exact Nat.le_trans hd hp.2.2.2.2.1.1
  · have := hp.2.2.2.2.1.2.1
    omega
theorem MC.up {E : mi_E} {N : mi_M} {d d' : Nat} {As : List Value} {h : va_W} {mc ms : Nat} {Q : mi_O → va_W → Nat → Nat → Prop} (hd : d ≤ d') (k : MC E N d As h mc ms Q) : MC E N d' As h mc ms Q := MW.up hd k
/-- the weights of r pallets from j on, laid to x -/
def rst (wt : Nat → Int32) : Nat → Nat → Int32 → Int32
  | 0, _, x => x
  | r + 1, j, x => rst wt r (j + 1) (x + wt j)
def mn (x y : Int32) : Int32 := if y < x then y else x
/-- no placing from the pallet dd on is right and better than the best -/
def hpP (i wt wh : Nat → Int32) (k dd : Nat) (bS bW : Int32) : Prop :=
  (stn wh k + nI k - nI dd < bS ∨ stn wh k + nI k - nI dd = bS ∧ wtn wt wh k + rst wt (k - dd) dd 0 ≤ bW) ∨
  ¬ (axn (shr i 0) wt wh k + mn 0 (shr i 0 (rst wt (k - dd) dd 0) (i 2 - 1)) ≤ i 6 * (i 5 - i 4) ∧ axn (shr i 1) wt wh k + mn 0 (shr i 1 (rst wt (k - dd) dd 0) 0) ≤ i 7 * (i 5 - i 4))
/-- the first k of f, the others of g -/
def cpk (f g : Nat → Int32) (k : Nat) : Nat → Int32 := fun m => if m < k then f m else g m
theorem cpk_0 {f g : Nat → Int32} : cpk f g 0 = g := by funext m; simp [cpk]
theorem cpk_s {f g : Nat → Int32} {j : Nat} : upd (cpk f g j) j (f j) = cpk f g (j + 1) := by
  funext m
  by_cases h1 : m = j
  · subst h1; simp [upd, cpk]
  · by_cases h2 : m < j
    · simp [upd, cpk, h1, h2, show m < j + 1 by omega]
    · simp [upd, cpk, h1, h2, show ¬ m < j + 1 by omega]
section Search1
variable {l : Launch} {D : va_G} {t : ty4} {b L : Nat} {xs : Nat → Int32} {q : Nat → Nat} {i : Nat → Int32} {a : Nat → Nat → Int32} {w : Int64} {d mc ms : Nat}
set_option maxHeartbeats 2000000 in
theorem l_hope1 {k : Nat} (hk : i 3 = nI k) (hk8 : k ≤ 8) {dd : Nat} {Q : mi_O → va_W → Nat → Nat → Prop} : ∀ (r j : Nat) (x : Int32), j + r = k → MW (En l D t b L xs) MX4_isHopeless (d + 2) 33 [some (.ref (q 14)), some (.ref (q 1)), some (.int (nI dd)), some (.int (rst (a 2) r j x)), some (.int (nI k)), none, none] [] (hw t q i a w) mc ms Q → MW (En l D t b L xs) MX4_isHopeless (d + 2) 5 [some (.ref (q 14)), some (.ref (q 1)), some (.int (nI dd)), some (.int x), some (.int (nI j)), none, none] [] (hw t q i a w) mc ms Q := by
  intro r
  induction r with
  | zero =>
    intro j x hr hQ
    obtain rfl : j = k := by omega
    refine MW.iload dX4_isHopeless_5 rfl ?_
    refine MW.aload_n dX4_isHopeless_7 rfl ?_
    refine MW.getf fX4_isHopeless_8 1 rfl rfl ?_
    refine MW.icmp_ge 33 dX4_isHopeless_11 (by decide) (fun hc11 => ?_) (fun hc11 => absurd (show i 3 ≤ nI j by rw [hk]; exact nI_le (by omega) (by omega)) hc11)
    exact hQ
  | succ r ih =>
    intro j x hr hQ
    have hj : j < 8 := by omega
    refine MW.iload dX4_isHopeless_5 rfl ?_
    refine MW.aload_n dX4_isHopeless_7 rfl ?_
    refine MW.getf fX4_isHopeless_8 1 rfl rfl ?_
    refine MW.icmp_ge 33 dX4_isHopeless_11 (by decide) (fun hc11 => absurd hc11 (show ¬ i 3 ≤ nI j by rw [hk]; exact nI_ge (by omega) (by omega))) (fun hc11 => ?_)
    refine MW.iload_n dX4_isHopeless_14 rfl ?_
    refine MW.aload_n dX4_isHopeless_15 rfl ?_
    refine MW.getf fX4_isHopeless_16 1 rfl rfl ?_
    refine MW.iload dX4_isHopeless_19 rfl ?_
    refine MW.row dX4_isHopeless_21 hj ?_
    refine MW.pg0 fX4_isHopeless_22 hj ?_
    refine MW.iadd dX4_isHopeless_25 ?_
    refine MW.istore_n dX4_isHopeless_26 rfl rfl ?_
    refine MW.iincj dX4_isHopeless_27 rfl rfl rfl ?_
    refine MW.goto 5 dX4_isHopeless_30 (by decide) ?_
    exact ih (j + 1) _ (by omega) hQ
set_option maxHeartbeats 2000000 in
theorem c_isHopeless {k : Nat} (hk : i 3 = nI k) (hk8 : k ≤ 8) {dd : Nat} (hdd : dd ≤ k) : MC (En l D t b L xs) MX4_isHopeless (d + 2) [.ref (q 14), .ref (q 1), .int (nI dd)] (hw t q i a w) mc ms (rt (some (.int (bI (hpP i (a 2) (a 7) k dd (i 8) (i 9))))) (hw t q i a w) mc ms) := by
  show MW _ _ _ 0 [some (.ref (q 14)), some (.ref (q 1)), some (.int (nI dd)), none, none, none, none] [] _ _ _ _
  refine MW.iconst (v := 0) dX4_isHopeless_0 (by decide) ?_
  refine MW.istore_n dX4_isHopeless_1 rfl rfl ?_
  refine MW.iload_n dX4_isHopeless_2 rfl ?_
  refine MW.istore dX4_isHopeless_3 rfl rfl ?_
  refine l_hope1 hk hk8 (k - dd) dd 0 (by omega) ?_
  refine MW.aload_n dX4_isHopeless_33 rfl ?_
  refine MW.callV1 fX4_isHopeless_34 1 rfl (c_standing hk hk8) rfl rfl rfl rfl (Nat.le_of_ble_eq_true rfl) ?_
  refine MW.aload_n dX4_isHopeless_37 rfl ?_
  refine MW.getf fX4_isHopeless_38 1 rfl rfl ?_
  refine MW.top (v' := .int (nI k)) (by rw [hk]) ?_
  refine MW.iadd dX4_isHopeless_41 ?_
  refine MW.iload_n dX4_isHopeless_42 rfl ?_
  refine MW.isub dX4_isHopeless_43 ?_
  refine MW.istore dX4_isHopeless_44 rfl rfl ?_
  refine MW.iload dX4_isHopeless_46 rfl ?_
  refine MW.aload_n dX4_isHopeless_48 rfl ?_
  refine MW.getf fX4_isHopeless_49 14 rfl rfl ?_
  refine MW.icmp_lt 77 dX4_isHopeless_52 (by decide) (fun hc52 => ?_) (fun hc52 => ?_)
  · skip
    refine MW.iconst (v := 1) dX4_isHopeless_77 (by decide) ?_
    exact MW.ireturn dX4_isHopeless_78 rfl (rfl) (by first | exact rtb_t (Or.inl (Or.inl hc52)) | exact rtb_t (Or.inl (Or.inr ⟨hc61, Int32.not_lt.mp hc74⟩)))
  · skip
    refine MW.iload dX4_isHopeless_55 rfl ?_
    refine MW.aload_n dX4_isHopeless_57 rfl ?_
    refine MW.getf fX4_isHopeless_58 14 rfl rfl ?_
    refine MW.icmp_ne 79 dX4_isHopeless_61 (by decide) (fun hc61 => ?_) (fun hc61 => ?_)
    · skip
      refine MW.iconst (v := 0) dX4_isHopeless_79 (by decide) ?_
      refine MW.aload_n dX4_isHopeless_80 rfl ?_
      refine MW.getf fX4_isHopeless_81 1 rfl rfl ?_
      refine MW.iconst (v := 0) dX4_isHopeless_84 (by decide) ?_
      refine MW.iload_n dX4_isHopeless_85 rfl ?_
      refine MW.aload_n dX4_isHopeless_86 rfl ?_
      refine MW.getf fX4_isHopeless_87 1 rfl rfl ?_
      refine MW.iconst (v := 1) dX4_isHopeless_90 (by decide) ?_
      refine MW.isub dX4_isHopeless_91 ?_
      refine MW.callV1 fX4_isHopeless_92 5 rfl (c_share) rfl rfl rfl rfl (Nat.le_of_ble_eq_true rfl) ?_
      refine MW.mmin dX4_isHopeless_95 fX4_isHopeless_95 wm_min1 wm_i wm_min2 (Nat.le_of_ble_eq_true rfl) ?_
      refine MW.istore dX4_isHopeless_98 rfl rfl ?_
      refine MW.iconst (v := 0) dX4_isHopeless_100 (by decide) ?_
      refine MW.aload_n dX4_isHopeless_101 rfl ?_
      refine MW.getf fX4_isHopeless_102 1 rfl rfl ?_
      refine MW.iconst (v := 1) dX4_isHopeless_105 (by decide) ?_
      refine MW.iload_n dX4_isHopeless_106 rfl ?_
      refine MW.iconst (v := 0) dX4_isHopeless_107 (by decide) ?_
      refine MW.callV1 fX4_isHopeless_108 5 rfl (c_share) rfl rfl rfl rfl (Nat.le_of_ble_eq_true rfl) ?_
      refine MW.mmin dX4_isHopeless_111 fX4_isHopeless_111 wm_min1 wm_i wm_min2 (Nat.le_of_ble_eq_true rfl) ?_
      refine MW.istore dX4_isHopeless_114 rfl rfl ?_
      refine MW.aload_n dX4_isHopeless_116 rfl ?_
      refine MW.getf fX4_isHopeless_117 1 rfl rfl ?_
      refine MW.aload_n dX4_isHopeless_120 rfl ?_
      refine MW.iconst (v := 0) dX4_isHopeless_121 (by decide) ?_
      refine MW.callV1 fX4_isHopeless_122 1 rfl (c_onAxle hk hk8) rfl rfl rfl rfl (Nat.le_of_ble_eq_true rfl) ?_
      refine MW.iload dX4_isHopeless_125 rfl ?_
      refine MW.iadd dX4_isHopeless_127 ?_
      refine MW.aload_n dX4_isHopeless_128 rfl ?_
      refine MW.iconst (v := 1) dX4_isHopeless_129 (by decide) ?_
      refine MW.callV1 fX4_isHopeless_130 1 rfl (c_onAxle hk hk8) rfl rfl rfl rfl (Nat.le_of_ble_eq_true rfl) ?_
      refine MW.iload dX4_isHopeless_133 rfl ?_
      refine MW.iadd dX4_isHopeless_135 ?_
      refine MW.callV1 fX4_isHopeless_136 5 rfl (c_bear) rfl rfl rfl rfl (Nat.le_of_ble_eq_true rfl) ?_
      refine MW.if_ne 146 dX4_isHopeless_139 (by decide) (fun hc139 => ?_) (fun hc139 => ?_)
      · skip
        refine MW.iconst (v := 0) dX4_isHopeless_146 (by decide) ?_
        exact MW.ireturn dX4_isHopeless_147 rfl (rfl) (by first | exact rtb_t (Or.inr (zz hc139)) | exact rtb_f (fun z => z.elim (fun y => y.elim hc52 (fun y => by first | exact absurd y.1 hc61 | exact absurd y.2 (Int32.not_le.mpr hc74))) (fun y => y (nz hc139))))
      · skip
        refine MW.iconst (v := 1) dX4_isHopeless_142 (by decide) ?_
        refine MW.goto 147 dX4_isHopeless_143 (by decide) ?_
        exact MW.ireturn dX4_isHopeless_147 rfl (rfl) (by first | exact rtb_t (Or.inr (zz hc139)) | exact rtb_f (fun z => z.elim (fun y => y.elim hc52 (fun y => by first | exact absurd y.1 hc61 | exact absurd y.2 (Int32.not_le.mpr hc74))) (fun y => y (nz hc139))))
    · skip
      refine MW.aload_n dX4_isHopeless_64 rfl ?_
      refine MW.callV1 fX4_isHopeless_65 1 rfl (c_weight hk hk8) rfl rfl rfl rfl (Nat.le_of_ble_eq_true rfl) ?_
      refine MW.iload_n dX4_isHopeless_68 rfl ?_
      refine MW.iadd dX4_isHopeless_69 ?_
      refine MW.aload_n dX4_isHopeless_70 rfl ?_
      refine MW.getf fX4_isHopeless_71 14 rfl rfl ?_
      refine MW.icmp_gt 79 dX4_isHopeless_74 (by decide) (fun hc74 => ?_) (fun hc74 => ?_)
      · skip
        refine MW.iconst (v := 0) dX4_isHopeless_79 (by decide) ?_
        refine MW.aload_n dX4_isHopeless_80 rfl ?_
        refine MW.getf fX4_isHopeless_81 1 rfl rfl ?_
        refine MW.iconst (v := 0) dX4_isHopeless_84 (by decide) ?_
        refine MW.iload_n dX4_isHopeless_85 rfl ?_
        refine MW.aload_n dX4_isHopeless_86 rfl ?_
        refine MW.getf fX4_isHopeless_87 1 rfl rfl ?_
        refine MW.iconst (v := 1) dX4_isHopeless_90 (by decide) ?_
        refine MW.isub dX4_isHopeless_91 ?_
        refine MW.callV1 fX4_isHopeless_92 5 rfl (c_share) rfl rfl rfl rfl (Nat.le_of_ble_eq_true rfl) ?_
        refine MW.mmin dX4_isHopeless_95 fX4_isHopeless_95 wm_min1 wm_i wm_min2 (Nat.le_of_ble_eq_true rfl) ?_
        refine MW.istore dX4_isHopeless_98 rfl rfl ?_
        refine MW.iconst (v := 0) dX4_isHopeless_100 (by decide) ?_
        refine MW.aload_n dX4_isHopeless_101 rfl ?_
        refine MW.getf fX4_isHopeless_102 1 rfl rfl ?_
        refine MW.iconst (v := 1) dX4_isHopeless_105 (by decide) ?_
        refine MW.iload_n dX4_isHopeless_106 rfl ?_
        refine MW.iconst (v := 0) dX4_isHopeless_107 (by decide) ?_
        refine MW.callV1 fX4_isHopeless_108 5 rfl (c_share) rfl rfl rfl rfl (Nat.le_of_ble_eq_true rfl) ?_
        refine MW.mmin dX4_isHopeless_111 fX4_isHopeless_111 wm_min1 wm_i wm_min2 (Nat.le_of_ble_eq_true rfl) ?_
        refine MW.istore dX4_isHopeless_114 rfl rfl ?_
        refine MW.aload_n dX4_isHopeless_116 rfl ?_
        refine MW.getf fX4_isHopeless_117 1 rfl rfl ?_
        refine MW.aload_n dX4_isHopeless_120 rfl ?_
        refine MW.iconst (v := 0) dX4_isHopeless_121 (by decide) ?_
        refine MW.callV1 fX4_isHopeless_122 1 rfl (c_onAxle hk hk8) rfl rfl rfl rfl (Nat.le_of_ble_eq_true rfl) ?_
        refine MW.iload dX4_isHopeless_125 rfl ?_
        refine MW.iadd dX4_isHopeless_127 ?_
        refine MW.aload_n dX4_isHopeless_128 rfl ?_
        refine MW.iconst (v := 1) dX4_isHopeless_129 (by decide) ?_
        refine MW.callV1 fX4_isHopeless_130 1 rfl (c_onAxle hk hk8) rfl rfl rfl rfl (Nat.le_of_ble_eq_true rfl) ?_
        refine MW.iload dX4_isHopeless_133 rfl ?_
        refine MW.iadd dX4_isHopeless_135 ?_
        refine MW.callV1 fX4_isHopeless_136 5 rfl (c_bear) rfl rfl rfl rfl (Nat.le_of_ble_eq_true rfl) ?_
        refine MW.if_ne 146 dX4_isHopeless_139 (by decide) (fun hc139 => ?_) (fun hc139 => ?_)
        · skip
          refine MW.iconst (v := 0) dX4_isHopeless_146 (by decide) ?_
          exact MW.ireturn dX4_isHopeless_147 rfl (rfl) (by first | exact rtb_t (Or.inr (zz hc139)) | exact rtb_f (fun z => z.elim (fun y => y.elim hc52 (fun y => by first | exact absurd y.1 hc61 | exact absurd y.2 (Int32.not_le.mpr hc74))) (fun y => y (nz hc139))))
        · skip
          refine MW.iconst (v := 1) dX4_isHopeless_142 (by decide) ?_
          refine MW.goto 147 dX4_isHopeless_143 (by decide) ?_
          exact MW.ireturn dX4_isHopeless_147 rfl (rfl) (by first | exact rtb_t (Or.inr (zz hc139)) | exact rtb_f (fun z => z.elim (fun y => y.elim hc52 (fun y => by first | exact absurd y.1 hc61 | exact absurd y.2 (Int32.not_le.mpr hc74))) (fun y => y (nz hc139))))
      · skip
        refine MW.iconst (v := 1) dX4_isHopeless_77 (by decide) ?_
        exact MW.ireturn dX4_isHopeless_78 rfl (rfl) (by first | exact rtb_t (Or.inl (Or.inl hc52)) | exact rtb_t (Or.inl (Or.inr ⟨hc61, Int32.not_lt.mp hc74⟩)))
set_option maxHeartbeats 2000000 in
theorem l_keep {k : Nat} (hk : i 3 = nI k) (hk8 : k ≤ 8) (hk5 : k ≤ 5) : ∀ (r j : Nat), j + r = k → MW (En l D t b L xs) MX4_keep d 18 [some (.ref (q 14)), some (.ref (q 1)), some (.int (nI j))] [] (hw t q i (au a 8 (cpk (a 7) (a 8) j)) w) mc ms (rt none (hw t q i (au a 8 (cpk (a 7) (a 8) k)) w) mc ms) := by
  intro r
  induction r with
  | zero =>
    intro j hr
    obtain rfl : j = k := by omega
    refine MW.iload_n dX4_keep_18 rfl ?_
    refine MW.aload_n dX4_keep_19 rfl ?_
    refine MW.getf fX4_keep_20 1 rfl rfl ?_
    refine MW.icmp_ge 52 dX4_keep_23 (by decide) (fun hc23 => ?_) (fun hc23 => absurd (show i 3 ≤ nI j by rw [hk]; exact nI_le (by omega) (by omega)) hc23)
    exact MW.vreturn dX4_keep_52 rfl rt_r
  | succ r ih =>
    intro j hr
    have hj : j < 8 := by omega
    have hj5 : j < 5 := by omega
    refine MW.iload_n dX4_keep_18 rfl ?_
    refine MW.aload_n dX4_keep_19 rfl ?_
    refine MW.getf fX4_keep_20 1 rfl rfl ?_
    refine MW.icmp_ge 52 dX4_keep_23 (by decide) (fun hc23 => absurd hc23 (show ¬ i 3 ≤ nI j by rw [hk]; exact nI_ge (by omega) (by omega))) (fun hc23 => ?_)
    refine MW.iload_n dX4_keep_26 rfl ?_
    refine MW.iconst (v := 5) dX4_keep_27 (by decide) ?_
    refine MW.icmp_ge 52 dX4_keep_28 (by decide) (fun hc28 => absurd hc28 (show ¬ (5 : Int32) ≤ nI j from nI_ge (b := 5) hj5 (by omega))) (fun hc28 => ?_)
    refine MW.aload_n dX4_keep_31 rfl ?_
    refine MW.getf fX4_keep_32 14 rfl rfl ?_
    refine MW.iload_n dX4_keep_35 rfl ?_
    refine MW.aload_n dX4_keep_36 rfl ?_
    refine MW.getf fX4_keep_37 1 rfl rfl ?_
    refine MW.iload_n dX4_keep_40 rfl ?_
    refine MW.row dX4_keep_41 hj ?_
    refine MW.pg5 fX4_keep_42 hj ?_
    refine MW.isj dX4_keep_45 15 0 rfl rfl hj5 (by decide) ?_
    refine MW.heap hw_a15 ?_
    refine MW.heap (h' := hw t q i (au a 8 (cpk (a 7) (a 8) (j + 1))) w) (by rw [au_au, au_at]; show hw t q i (au a 8 (upd (cpk (a 7) (a 8) j) j (a 7 j))) w = _; rw [cpk_s]) ?_
    refine MW.iincj dX4_keep_46 rfl rfl rfl ?_
    refine MW.goto 18 dX4_keep_49 (by decide) ?_
    exact ih (j + 1) (by omega)
set_option maxHeartbeats 2000000 in
theorem c_keep {k : Nat} (hk : i 3 = nI k) (hk8 : k ≤ 8) (hk5 : k ≤ 5) : MC (En l D t b L xs) MX4_keep (d + 2) [.ref (q 14), .ref (q 1)] (hw t q i a w) mc ms (rt none (hw t q (upd (upd i 8 (stn (a 7) k)) 9 (wtn (a 2) (a 7) k)) (au a 8 (cpk (a 7) (a 8) k)) w) mc ms) := by
  show MW _ _ _ 0 [some (.ref (q 14)), some (.ref (q 1)), none] [] _ _ _ _
  refine MW.aload_n dX4_keep_0 rfl ?_
  refine MW.aload_n dX4_keep_1 rfl ?_
  refine MW.callV1 fX4_keep_2 1 rfl (c_standing hk hk8) rfl rfl rfl rfl (Nat.le_of_ble_eq_true rfl) ?_
  refine MW.putf fX4_keep_5 14 rfl (rfl) (rfl) rfl ?_
  refine MW.heap hw_s4_1 ?_
  refine MW.aload_n dX4_keep_8 rfl ?_
  refine MW.aload_n dX4_keep_9 rfl ?_
  refine MW.callV1 fX4_keep_10 1 rfl (c_weight hk hk8) rfl rfl rfl rfl (Nat.le_of_ble_eq_true rfl) ?_
  refine MW.putf fX4_keep_13 14 rfl (rfl) (rfl) rfl ?_
  refine MW.heap hw_s4_2 ?_
  refine MW.iconst (v := 0) dX4_keep_16 (by decide) ?_
  refine MW.istore_n dX4_keep_17 rfl rfl ?_
  refine MW.heap (h' := hw t q (upd (upd i 8 (stn (a 7) k)) 9 (wtn (a 2) (a 7) k)) (au a 8 (cpk (a 7) (a 8) 0)) w) (by rw [cpk_0, au_self]) ?_
  exact l_keep (i := (upd (upd i 8 (stn (a 7) k)) 9 (wtn (a 2) (a 7) k))) hk hk8 hk5 k 0 (by omega)
end Search1
end
section
/-- the best so far: how many stand, what they weigh, where -/
abbrev SB : Type := Int32 × Int32 × (Nat → Int32)
noncomputable def cS {α : Type} (p : Prop) (x y : α) : α := @ite α p (Classical.propDecidable p) x y
theorem cS_t {α : Type} {p : Prop} {x y : α} (h : p) : cS p x y = x := if_pos h
theorem cS_f {α : Type} {p : Prop} {x y : α} (h : ¬ p) : cS p x y = y := if_neg h
def lp (f : Nat → SB → SB) : Nat → Nat → SB → SB
  | 0, _, s => s
  | r + 1, c, s => lp f r (c + 1) (f c s)
/-- the class's search from the pallet k - r on -/
noncomputable def tfS (i : Nat → Int32) (a : Nat → Nat → Int32) (n k : Nat) : Nat → (Nat → Int32) → SB → SB
  | 0, wh, sb => cS (hpP i (a 2) wh k (k - 0) sb.1 sb.2.1) sb (stn wh k, wtn (a 2) wh k, cpk wh sb.2.2 k)
  | r + 1, wh, sb => cS (hpP i (a 2) wh k (k - (r + 1)) sb.1 sb.2.1) sb (tfS i a n k r wh (lp (fun c s => cS (fb (au a 7 wh) k (k - (r + 1)) c = 0) (tfS i a n k r (upd wh (k - (r + 1)) (nI c)) s) s) n 0 sb))
/-- the world in the midst of a search -/
abbrev hs (t : ty4) (q : Nat → Nat) (i : Nat → Int32) (a : Nat → Nat → Int32) (w : Int64) (wh : Nat → Int32) (sb : SB) : va_W := hw t q (upd (upd i 8 sb.1) 9 sb.2.1) (au (au a 7 wh) 8 sb.2.2) w
def dp : Nat → Nat → Nat
  | 0, d => d + 3
  | r + 1, d => dp r d + 2
theorem dp_3 {r d : Nat} : 3 ≤ dp r d := by
  induction r with
  | zero => show 3 ≤ d + 3; omega
  | succ r ih => show 3 ≤ dp r d + 2; omega
section Search2
variable {l : Launch} {D : va_G} {t : ty4} {b L : Nat} {xs : Nat → Int32} {q : Nat → Nat} {i : Nat → Int32} {a : Nat → Nat → Int32} {w : Int64} {d mc ms : Nat}
set_option maxHeartbeats 2000000 in
theorem c_tryIn {k : Nat} (hk : i 3 = nI k) (hk8 : k ≤ 8) (hk5 : k ≤ 5) {n : Nat} (hn : i 2 = nI n) (hn12 : n ≤ 12) {r : Nat} (hr : r + 1 ≤ k) (ih : ∀ (wh : Nat → Int32) (sb : SB), (∀ m, k - r ≤ m → m < k → wh m = -1) → MC (En l D t b L xs) MX4_tryFrom (dp r d) [.ref (q 14), .ref (q 1), .int (nI (k - r))] (hs t q i a w wh sb) mc ms (rt none (hs t q i a w wh (tfS i a n k r wh sb)) mc ms)) {wh : Nat → Int32} {sb : SB} (hinv : ∀ m, k - (r + 1) ≤ m → m < k → wh m = -1) {m : Nat} (hm : m < n) : MC (En l D t b L xs) MX4_tryIn (dp r d + 1) [.ref (q 14), .ref (q 1), .int (nI (k - (r + 1))), .int (nI m)] (hs t q i a w wh sb) mc ms (rt none (hs t q i a w wh (cS (fb (au a 7 wh) k (k - (r + 1)) m = 0) (tfS i a n k r (upd wh (k - (r + 1)) (nI m)) sb) sb)) mc ms) := by
  have hj : k - (r + 1) < 8 := by omega
  have hwj : wh (k - (r + 1)) = -1 := hinv _ (Nat.le_refl _) (by omega)
  show MW _ _ _ 0 [some (.ref (q 14)), some (.ref (q 1)), some (.int (nI (k - (r + 1)))), some (.int (nI m)), none] [] _ _ _ _
  refine MW.iload_n dX4_tryIn_0 rfl ?_
  refine MW.aload_n dX4_tryIn_1 rfl ?_
  refine MW.getf fX4_tryIn_2 1 rfl rfl ?_
  refine MW.icmp_lt 9 dX4_tryIn_5 (by decide) (fun hc5 => ?_) (fun hc5 => absurd (show nI (k - (r + 1)) < i 3 by rw [hk]; exact nI_lt (by omega) (by omega)) hc5)
  refine MW.aload_n dX4_tryIn_9 rfl ?_
  refine MW.getf fX4_tryIn_10 1 rfl rfl ?_
  refine MW.iload_n dX4_tryIn_13 rfl ?_
  refine MW.row dX4_tryIn_14 hj ?_
  refine MW.astore dX4_tryIn_15 rfl rfl ?_
  refine MW.aload_n dX4_tryIn_17 rfl ?_
  refine MW.aload dX4_tryIn_18 rfl ?_
  refine MW.iload_n dX4_tryIn_20 rfl ?_
  refine MW.callV1 fX4_tryIn_21 1 rfl (MC.up (show 2 ≤ dp r d from Nat.le_trans (by decide) dp_3) (c_firstBarButAxles (d := 0) (i := (upd (upd i 8 sb.1) 9 sb.2.1)) (a := (au (au a 7 wh) 8 sb.2.2)) hk hk8 hn hn12 hj hm)) rfl rfl rfl rfl (Nat.le_of_ble_eq_true rfl) ?_
  refine MW.top (v' := .int (fb (au a 7 wh) k (k - (r + 1)) m)) rfl ?_
  refine MW.if_ne 47 dX4_tryIn_24 (by decide) (fun hc24 => ?_) (fun hc24 => ?_)
  · skip
    exact MW.vreturn dX4_tryIn_47 rfl (by first | (rw [cS_t hc24]; exact rt_r) | (rw [cS_f hc24]; exact rt_r))
  · skip
    refine MW.aload dX4_tryIn_27 rfl ?_
    refine MW.iload_n dX4_tryIn_29 rfl ?_
    refine MW.pp5 fX4_tryIn_30 hj (rfl) (rfl) ?_
    refine MW.heap (h' := hs t q i a w (upd wh (k - (r + 1)) (nI m)) sb) rfl ?_
    refine MW.aload_n dX4_tryIn_33 rfl ?_
    refine MW.aload_n dX4_tryIn_34 rfl ?_
    refine MW.iload_n dX4_tryIn_35 rfl ?_
    refine MW.iconst (v := 1) dX4_tryIn_36 (by decide) ?_
    refine MW.iadd dX4_tryIn_37 ?_
    refine MW.top (v' := .int (nI (k - r))) (by rw [nI_1, show k - (r + 1) + 1 = k - r by omega]) ?_
    refine MW.callV0 fX4_tryIn_38 14 rfl (ih (upd wh (k - (r + 1)) (nI m)) sb (fun p h1 h2 => by rw [pk_un (by omega)]; exact hinv p (by omega) h2)) rfl rfl rfl rfl (Nat.le_of_ble_eq_true rfl) ?_
    refine MW.aload dX4_tryIn_41 rfl ?_
    refine MW.iconst (v := -1) dX4_tryIn_43 (by decide) ?_
    refine MW.pp5 fX4_tryIn_44 hj (rfl) (rfl) ?_
    refine MW.heap (h' := hs t q i a w wh (tfS i a n k r (upd wh (k - (r + 1)) (nI m)) sb)) (by show hs t q i a w (upd (upd wh (k - (r + 1)) (nI m)) (k - (r + 1)) (-1)) _ = _; rw [upd_upd, ← hwj, upd_self]) ?_
    exact MW.vreturn dX4_tryIn_47 rfl (by first | (rw [cS_t hc24]; exact rt_r) | (rw [cS_f hc24]; exact rt_r))
set_option maxHeartbeats 2000000 in
theorem l_try {k : Nat} (hk : i 3 = nI k) (hk8 : k ≤ 8) (hk5 : k ≤ 5) {n : Nat} (hn : i 2 = nI n) (hn12 : n ≤ 12) {r : Nat} (hr : r + 1 ≤ k) (ih : ∀ (wh : Nat → Int32) (sb : SB), (∀ m, k - r ≤ m → m < k → wh m = -1) → MC (En l D t b L xs) MX4_tryFrom (dp r d) [.ref (q 14), .ref (q 1), .int (nI (k - r))] (hs t q i a w wh sb) mc ms (rt none (hs t q i a w wh (tfS i a n k r wh sb)) mc ms)) {wh : Nat → Int32} (hinv : ∀ m, k - (r + 1) ≤ m → m < k → wh m = -1) {Q : mi_O → va_W → Nat → Nat → Prop} : ∀ (r2 c : Nat) (sb : SB), c + r2 = n → MW (En l D t b L xs) MX4_tryFrom (dp r d + 2) 52 [some (.ref (q 14)), some (.ref (q 1)), some (.int (nI (k - (r + 1)))), some (.int (nI n))] [] (hs t q i a w wh (lp (fun c s => cS (fb (au a 7 wh) k (k - (r + 1)) c = 0) (tfS i a n k r (upd wh (k - (r + 1)) (nI c)) s) s) r2 c sb)) mc ms Q → MW (En l D t b L xs) MX4_tryFrom (dp r d + 2) 31 [some (.ref (q 14)), some (.ref (q 1)), some (.int (nI (k - (r + 1)))), some (.int (nI c))] [] (hs t q i a w wh sb) mc ms Q := by
  intro r2
  induction r2 with
  | zero =>
    intro c sb hc hQ
    obtain rfl : c = n := by omega
    refine MW.iload_n dX4_tryFrom_31 rfl ?_
    refine MW.aload_n dX4_tryFrom_32 rfl ?_
    refine MW.getf fX4_tryFrom_33 1 rfl rfl ?_
    refine MW.icmp_ge 52 dX4_tryFrom_36 (by decide) (fun hc36 => ?_) (fun hc36 => absurd (show i 2 ≤ nI c by rw [hn]; exact nI_le (by omega) (by omega)) hc36)
    exact hQ
  | succ r2 ih2 =>
    intro c sb hc hQ
    have hm : c < n := by omega
    refine MW.iload_n dX4_tryFrom_31 rfl ?_
    refine MW.aload_n dX4_tryFrom_32 rfl ?_
    refine MW.getf fX4_tryFrom_33 1 rfl rfl ?_
    refine MW.icmp_ge 52 dX4_tryFrom_36 (by decide) (fun hc36 => absurd hc36 (show ¬ i 2 ≤ nI c by rw [hn]; exact nI_ge (by omega) (by omega))) (fun hc36 => ?_)
    refine MW.aload_n dX4_tryFrom_39 rfl ?_
    refine MW.aload_n dX4_tryFrom_40 rfl ?_
    refine MW.iload_n dX4_tryFrom_41 rfl ?_
    refine MW.iload_n dX4_tryFrom_42 rfl ?_
    refine MW.callV0 fX4_tryFrom_43 14 rfl (c_tryIn hk hk8 hk5 hn hn12 hr ih hinv hm) rfl rfl rfl rfl (Nat.le_of_ble_eq_true rfl) ?_
    refine MW.iincj dX4_tryFrom_46 rfl rfl rfl ?_
    refine MW.goto 31 dX4_tryFrom_49 (by decide) ?_
    exact ih2 (c + 1) _ (by omega) hQ
set_option maxHeartbeats 2000000 in
theorem c_tryFrom {k : Nat} (hk : i 3 = nI k) (hk8 : k ≤ 8) (hk5 : k ≤ 5) {n : Nat} (hn : i 2 = nI n) (hn12 : n ≤ 12) : ∀ (r : Nat), r ≤ k → ∀ (wh : Nat → Int32) (sb : SB), (∀ m, k - r ≤ m → m < k → wh m = -1) → MC (En l D t b L xs) MX4_tryFrom (dp r d) [.ref (q 14), .ref (q 1), .int (nI (k - r))] (hs t q i a w wh sb) mc ms (rt none (hs t q i a w wh (tfS i a n k r wh sb)) mc ms) := by
  intro r
  induction r with
  | zero =>
    intro hr wh sb hinv
    show MW _ _ (d + 2 + 1) 0 [some (.ref (q 14)), some (.ref (q 1)), some (.int (nI (k - 0))), none] [] _ _ _ _
    refine MW.iload_n dX4_tryFrom_0 rfl ?_
    refine MW.iconst (v := 5) dX4_tryFrom_1 (by decide) ?_
    refine MW.icmp_gt 14 dX4_tryFrom_2 (by decide) (fun hc2 => absurd hc2 (show ¬ (5 : Int32) < nI (k - 0) from nI_nlt (a := 5) (b := k - 0) (by omega) (by omega) |> fun z => z)) (fun hc2 => ?_)
    refine MW.aload_n dX4_tryFrom_5 rfl ?_
    refine MW.aload_n dX4_tryFrom_6 rfl ?_
    refine MW.iload_n dX4_tryFrom_7 rfl ?_
    refine MW.callV1 fX4_tryFrom_8 14 rfl (c_isHopeless (d := d) (i := (upd (upd i 8 sb.1) 9 sb.2.1)) (a := (au (au a 7 wh) 8 sb.2.2)) hk hk8 (dd := k - 0) (by omega)) rfl rfl rfl rfl (Nat.le_of_ble_eq_true rfl) ?_
    refine MW.top (v' := .int (bI (hpP i (a 2) wh k (k - 0) sb.1 sb.2.1))) rfl ?_
    refine MW.if_eq 15 dX4_tryFrom_11 (by decide) (fun hc11 => ?_) (fun hc11 => ?_)
    · skip
      refine MW.iload_n dX4_tryFrom_15 rfl ?_
      refine MW.aload_n dX4_tryFrom_16 rfl ?_
      refine MW.getf fX4_tryFrom_17 1 rfl rfl ?_
      refine MW.icmp_lt 29 dX4_tryFrom_20 (by decide) (fun hc20 => absurd hc20 (show ¬ nI (k - 0) < i 3 by rw [hk]; exact nI_nlt (by omega) (by omega))) (fun hc20 => ?_)
      refine MW.aload_n dX4_tryFrom_23 rfl ?_
      refine MW.aload_n dX4_tryFrom_24 rfl ?_
      refine MW.callV0 fX4_tryFrom_25 14 rfl (c_keep (d := d) (i := (upd (upd i 8 sb.1) 9 sb.2.1)) (a := (au (au a 7 wh) 8 sb.2.2)) hk hk8 hk5) rfl rfl rfl rfl (Nat.le_of_ble_eq_true rfl) ?_
      refine MW.heap (h' := hs t q i a w wh (stn wh k, wtn (a 2) wh k, cpk wh sb.2.2 k)) rfl ?_
      exact MW.vreturn dX4_tryFrom_28 rfl ⟨rfl, by rw [show tfS i a n k 0 wh sb = _ from cS_f (zz hc11)], rfl, rfl⟩
    · skip
      exact MW.vreturn dX4_tryFrom_14 rfl ⟨rfl, by rw [show tfS i a n k 0 wh sb = sb from cS_t (nz hc11)], rfl, rfl⟩
  | succ r ih =>
    intro hr wh sb hinv
    have ih2 := ih (by omega)
    show MW _ _ (dp r d + 1 + 1) 0 [some (.ref (q 14)), some (.ref (q 1)), some (.int (nI (k - (r + 1)))), none] [] _ _ _ _
    refine MW.iload_n dX4_tryFrom_0 rfl ?_
    refine MW.iconst (v := 5) dX4_tryFrom_1 (by decide) ?_
    refine MW.icmp_gt 14 dX4_tryFrom_2 (by decide) (fun hc2 => absurd hc2 (show ¬ (5 : Int32) < nI (k - (r + 1)) from nI_nlt (a := 5) (b := k - (r + 1)) (by omega) (by omega) |> fun z => z)) (fun hc2 => ?_)
    refine MW.aload_n dX4_tryFrom_5 rfl ?_
    refine MW.aload_n dX4_tryFrom_6 rfl ?_
    refine MW.iload_n dX4_tryFrom_7 rfl ?_
    refine MW.callV1 fX4_tryFrom_8 14 rfl (MC.up (show 2 ≤ dp r d + 1 from Nat.le_trans (by decide) (Nat.le_succ_of_le dp_3)) (c_isHopeless (d := 0) (i := (upd (upd i 8 sb.1) 9 sb.2.1)) (a := (au (au a 7 wh) 8 sb.2.2)) hk hk8 (dd := k - (r + 1)) (by omega))) rfl rfl rfl rfl (Nat.le_of_ble_eq_true rfl) ?_
    refine MW.top (v' := .int (bI (hpP i (a 2) wh k (k - (r + 1)) sb.1 sb.2.1))) rfl ?_
    refine MW.if_eq 15 dX4_tryFrom_11 (by decide) (fun hc11 => ?_) (fun hc11 => ?_)
    · skip
      refine MW.iload_n dX4_tryFrom_15 rfl ?_
      refine MW.aload_n dX4_tryFrom_16 rfl ?_
      refine MW.getf fX4_tryFrom_17 1 rfl rfl ?_
      refine MW.icmp_lt 29 dX4_tryFrom_20 (by decide) (fun hc20 => ?_) (fun hc20 => absurd (show nI (k - (r + 1)) < i 3 by rw [hk]; exact nI_lt (by omega) (by omega)) hc20)
      refine MW.iconst (v := 0) dX4_tryFrom_29 (by decide) ?_
      refine MW.istore_n dX4_tryFrom_30 rfl rfl ?_
      refine l_try hk hk8 hk5 hn hn12 hr ih2 hinv n 0 sb (by omega) ?_
      refine MW.aload_n dX4_tryFrom_52 rfl ?_
      refine MW.aload_n dX4_tryFrom_53 rfl ?_
      refine MW.iload_n dX4_tryFrom_54 rfl ?_
      refine MW.iconst (v := 1) dX4_tryFrom_55 (by decide) ?_
      refine MW.iadd dX4_tryFrom_56 ?_
      refine MW.top (v' := .int (nI (k - r))) (by rw [nI_1, show k - (r + 1) + 1 = k - r by omega]) ?_
      refine MW.callV0 fX4_tryFrom_57 14 rfl (MC.up (Nat.le_succ _) (ih2 wh _ (fun m h1 h2 => hinv m (by omega) h2))) rfl rfl rfl rfl (Nat.le_of_ble_eq_true rfl) ?_
      exact MW.vreturn dX4_tryFrom_60 rfl ⟨rfl, by rw [show tfS i a n k (r + 1) wh sb = _ from cS_f (zz hc11)], rfl, rfl⟩
    · skip
      exact MW.vreturn dX4_tryFrom_14 rfl ⟨rfl, by rw [show tfS i a n k (r + 1) wh sb = sb from cS_t (nz hc11)], rfl, rfl⟩
set_option maxHeartbeats 2000000 in
theorem l_run {k : Nat} (hk : i 3 = nI k) (hk8 : k ≤ 8) (hk5 : k ≤ 5) {n : Nat} (hn : i 2 = nI n) (hn12 : n ≤ 12) {wh : Nat → Int32} {sb : SB} : ∀ (r j : Nat), j + r = k → MW (En l D t b L xs) MX4_run d 22 [some (.ref (q 14)), some (.ref (q 1)), some (.int (nI j))] [] (hs t q i a w (cpk sb.2.2 wh j) sb) mc ms (rt none (hs t q i a w (cpk sb.2.2 wh k) sb) mc ms) := by
  intro r
  induction r with
  | zero =>
    intro j hr
    obtain rfl : j = k := by omega
    refine MW.iload_n dX4_run_22 rfl ?_
    refine MW.aload_n dX4_run_23 rfl ?_
    refine MW.getf fX4_run_24 1 rfl rfl ?_
    refine MW.icmp_ge 56 dX4_run_27 (by decide) (fun hc27 => ?_) (fun hc27 => absurd (show i 3 ≤ nI j by rw [hk]; exact nI_le (by omega) (by omega)) hc27)
    exact MW.vreturn dX4_run_56 rfl rt_r
  | succ r ih =>
    intro j hr
    have hj : j < 8 := by omega
    have hj5 : j < 5 := by omega
    refine MW.iload_n dX4_run_22 rfl ?_
    refine MW.aload_n dX4_run_23 rfl ?_
    refine MW.getf fX4_run_24 1 rfl rfl ?_
    refine MW.icmp_ge 56 dX4_run_27 (by decide) (fun hc27 => absurd hc27 (show ¬ i 3 ≤ nI j by rw [hk]; exact nI_ge (by omega) (by omega))) (fun hc27 => ?_)
    refine MW.iload_n dX4_run_30 rfl ?_
    refine MW.iconst (v := 5) dX4_run_31 (by decide) ?_
    refine MW.icmp_ge 56 dX4_run_32 (by decide) (fun hc32 => absurd hc32 (show ¬ (5 : Int32) ≤ nI j from nI_ge (b := 5) hj5 (by omega))) (fun hc32 => ?_)
    refine MW.aload_n dX4_run_35 rfl ?_
    refine MW.getf fX4_run_36 1 rfl rfl ?_
    refine MW.iload_n dX4_run_39 rfl ?_
    refine MW.row dX4_run_40 hj ?_
    refine MW.aload_n dX4_run_41 rfl ?_
    refine MW.getf fX4_run_42 14 rfl rfl ?_
    refine MW.iload_n dX4_run_45 rfl ?_
    refine MW.iaj dX4_run_46 15 0 rfl rfl hj5 (by decide) ?_
    refine MW.pp5 fX4_run_47 hj (rfl) (rfl) ?_
    refine MW.heap (h' := hs t q i a w (cpk sb.2.2 wh (j + 1)) sb) (by show hs t q i a w (upd (cpk sb.2.2 wh j) j (sb.2.2 j)) sb = _; rw [cpk_s]) ?_
    refine MW.iincj dX4_run_50 rfl rfl rfl ?_
    refine MW.goto 22 dX4_run_53 (by decide) ?_
    exact ih (j + 1) (by omega)
set_option maxHeartbeats 2000000 in
theorem c_run {k : Nat} (hk : i 3 = nI k) (hk8 : k ≤ 8) (hk5 : k ≤ 5) {n : Nat} (hn : i 2 = nI n) (hn12 : n ≤ 12) : MC (En l D t b L xs) MX4_run (dp k d + 1) [.ref (q 14), .ref (q 1)] (hw t q i a w) mc ms (rt none (hs t q i a w (cpk (tfS i a n k k (tko (a 7) k) (-1, -1, a 8)).2.2 (tko (a 7) k) k) (tfS i a n k k (tko (a 7) k) (-1, -1, a 8))) mc ms) := by
  show MW _ _ _ 0 [some (.ref (q 14)), some (.ref (q 1)), none] [] _ _ _ _
  refine MW.aload_n dX4_run_0 rfl ?_
  refine MW.callV0 fX4_run_1 1 rfl (c_takeAllOut hk hk8) rfl rfl rfl rfl (Nat.le_of_ble_eq_true rfl) ?_
  refine MW.aload_n dX4_run_4 rfl ?_
  refine MW.iconst (v := -1) dX4_run_5 (by decide) ?_
  refine MW.putf fX4_run_6 14 rfl (rfl) (rfl) rfl ?_
  refine MW.heap hw_s4_1 ?_
  refine MW.aload_n dX4_run_9 rfl ?_
  refine MW.iconst (v := -1) dX4_run_10 (by decide) ?_
  refine MW.putf fX4_run_11 14 rfl (rfl) (rfl) rfl ?_
  refine MW.heap hw_s4_2 ?_
  refine MW.heap (h' := hs t q i a w (tko (a 7) k) (-1, -1, a 8)) rfl ?_
  have c_tryFrom0 := c_tryFrom (l := l) (D := D) (t := t) (b := b) (L := L) (xs := xs) (q := q) (a := a) (w := w) (d := d) (mc := mc) (ms := ms) hk hk8 hk5 hn hn12 k (Nat.le_refl _) (tko (a 7) k) (-1, -1, a 8) (fun m _ h2 => if_pos h2)
  rw [Nat.sub_self] at c_tryFrom0
  refine MW.aload_n dX4_run_14 rfl ?_
  refine MW.aload_n dX4_run_15 rfl ?_
  refine MW.iconst (v := 0) dX4_run_16 (by decide) ?_
  refine MW.callV0 fX4_run_17 14 rfl (c_tryFrom0) rfl rfl rfl rfl (Nat.le_of_ble_eq_true rfl) ?_
  refine MW.iconst (v := 0) dX4_run_20 (by decide) ?_
  refine MW.istore_n dX4_run_21 rfl rfl ?_
  refine MW.heap (h' := hs t q i a w (cpk (tfS i a n k k (tko (a 7) k) (-1, -1, a 8)).2.2 (tko (a 7) k) 0) (tfS i a n k k (tko (a 7) k) (-1, -1, a 8))) (by rw [cpk_0]) ?_
  exact l_run hk hk8 hk5 hn hn12 k 0 (by omega)
end Search2
end
section
/-- 'throw new NoSuchElementException("no such pallet")' of knownPallet -/
theorem MW.throwN {E : mi_E} {d : Nat} {lv : List (Option Value)} {h : va_W} {mc ms : Nat} {Q : mi_O → va_W → Nat → Nat → Prop} (hc1 : mc + 1 ≤ mi_CC) (hc2 : ms + 6 ≤ mi_CS) (hq : Q (.inr 0) h (mc + 1) (ms + 6)) : MW E MX5_knownPallet (d + 8) 15 lv [] h mc ms Q := by
  sorry
end
section
/-- a call that throws what k says, or returns v in the world h' -/
def rx (k : Option Nat) (v : Option Value) (h' h : va_W) (mc ms : Nat) : mi_O → va_W → Nat → Nat → Prop := fun o h1 mc1 ms1 => match k with
  | none => rt v h' mc ms o h1 mc1 ms1
  | some x => xt x h mc ms o h1 mc1 ms1
theorem rx_t {k : Option Nat} {x : Nat} {v : Option Value} {h' h : va_W} {mc ms : Nat} (e : k = some x) : rx k v h' h mc ms (.inr x) h (mc + 1) (ms + 6) := by rw [e]; exact xt_r
theorem rx_r {k : Option Nat} {v v' : Option Value} {h' h h1 : va_W} {mc ms : Nat} (e : k = none) (ev : v' = v) (eh : h1 = h') : rx k v h' h mc ms (.inl v') h1 mc ms := by rw [e, ev, eh]; exact rt_r
theorem dp_eq {r d : Nat} : dp r d = d + 3 + 2 * r := by
  induction r with
  | zero => rfl
  | succ r ih => show dp r d + 2 = _; rw [ih]; omega
/-- a number below another is a natural -/
theorem in_n {c : Int32} {n : Nat} (hn : n < 2 ^ 31) (h : 0 ≤ c ∧ c < nI n) : ∃ m : Nat, m < n ∧ c = nI m := by
  rcases pk_ix c hn with z | z | z
  · exact absurd h.1 (Int32.not_le.mpr z)
  · exact absurd h.2 (Int32.not_lt.mpr z)
  · exact z
section Guards
variable {E : mi_E} {h : va_W} {d mc ms : Nat}
theorem c_rw_ok {x lo hi : Int32} (hx : lo ≤ x ∧ x ≤ hi)  : MC E MX5_requireWithin d [.int x, .int lo, .int hi] h mc ms (rt none h mc ms) := by
  show MW _ _ _ 0 [some (.int x), some (.int lo), some (.int hi)] [] _ _ _ _
  refine MW.iload_n dX5_requireWithin_0 rfl ?_
  refine MW.iload_n dX5_requireWithin_1 rfl ?_
  refine MW.icmp_lt 10 dX5_requireWithin_2 (by decide) (fun hc2 => absurd hc2 (Int32.not_lt.mpr hx.1)) (fun hc2 => ?_)
  refine MW.iload_n dX5_requireWithin_5 rfl ?_
  refine MW.iload_n dX5_requireWithin_6 rfl ?_
  refine MW.icmp_le 20 dX5_requireWithin_7 (by decide) (fun hc7 => ?_) (fun hc7 => absurd hx.2 hc7)
  exact MW.vreturn dX5_requireWithin_20 rfl (by first | exact rt_r | exact absurd ⟨Int32.not_lt.mp hc2, hc7⟩ hx)
theorem c_rw_no {x lo hi : Int32} (hx : ¬ (lo ≤ x ∧ x ≤ hi)) (hmc : mc + 1 ≤ mi_CC) (hms : ms + 6 ≤ mi_CS) : MC E MX5_requireWithin (d + 8) [.int x, .int lo, .int hi] h mc ms (xt 1 h mc ms) := by
  show MW _ _ _ 0 [some (.int x), some (.int lo), some (.int hi)] [] _ _ _ _
  refine MW.iload_n dX5_requireWithin_0 rfl ?_
  refine MW.iload_n dX5_requireWithin_1 rfl ?_
  refine MW.icmp_lt 10 dX5_requireWithin_2 (by decide) (fun hc2 => ?_) (fun hc2 => ?_)
  · skip
    exact MW.throwS fX5_requireWithin_10 (Nat.le_of_ble_eq_true rfl) hmc hms xt_r
  · skip
    refine MW.iload_n dX5_requireWithin_5 rfl ?_
    refine MW.iload_n dX5_requireWithin_6 rfl ?_
    refine MW.icmp_le 20 dX5_requireWithin_7 (by decide) (fun hc7 => ?_) (fun hc7 => ?_)
    · skip
      exact MW.vreturn dX5_requireWithin_20 rfl (by first | exact rt_r | exact absurd ⟨Int32.not_lt.mp hc2, hc7⟩ hx)
    · skip
      exact MW.throwS fX5_requireWithin_10 (Nat.le_of_ble_eq_true rfl) hmc hms xt_r
end Guards
section Face1
variable {l : Launch} {D : va_G} {t : ty4} {b L : Nat} {xs : Nat → Int32} {q : Nat → Nat} {i : Nat → Int32} {a : Nat → Nat → Int32} {w : Int64} {d mc ms : Nat}
set_option maxHeartbeats 1000000 in
theorem c_isOn : MC (En l D t b L xs) MX3_isOn d [.ref (q 16)] (hw t q i a w) mc ms (rt (some (.int (bI (¬ i 11 = 0)))) (hw t q i a w) mc ms) := by
  show MW _ _ _ 0 [some (.ref (q 16))] [] _ _ _ _
  refine MW.aload_n dX3_isOn_0 rfl ?_
  refine MW.getf fX3_isOn_1 16 rfl rfl ?_
  refine MW.if_eq 11 dX3_isOn_4 (by decide) (fun hc4 => ?_) (fun hc4 => ?_)
  · skip
    refine MW.iconst (v := 0) dX3_isOn_11 (by decide) ?_
    exact MW.ireturn dX3_isOn_12 rfl (rfl) (by first | exact rtb_t (by assumption) | exact rtb_f (fun z => z (by assumption)))
  · skip
    refine MW.iconst (v := 1) dX3_isOn_7 (by decide) ?_
    refine MW.goto 12 dX3_isOn_8 (by decide) ?_
    exact MW.ireturn dX3_isOn_12 rfl (rfl) (by first | exact rtb_t (by assumption) | exact rtb_f (fun z => z (by assumption)))
theorem c_rs_ok (hx : i 0 = 0)  : MC (En l D t b L xs) MX5_requireShut d [.ref (q 0)] (hw t q i a w) mc ms (rt none (hw t q i a w) mc ms) := by
  show MW _ _ _ 0 [some (.ref (q 0))] [] _ _ _ _
  refine MW.aload_n dX5_requireShut_0 rfl ?_
  refine MW.getf fX5_requireShut_1 0 rfl rfl ?_
  refine MW.if_eq 17 dX5_requireShut_4 (by decide) (fun hc4 => ?_) (fun hc4 => absurd hx hc4)
  exact MW.vreturn dX5_requireShut_17 rfl rt_r
theorem c_rs_no (hx : ¬ i 0 = 0) (hmc : mc + 1 ≤ mi_CC) (hms : ms + 6 ≤ mi_CS) : MC (En l D t b L xs) MX5_requireShut (d + 8) [.ref (q 0)] (hw t q i a w) mc ms (xt 2 (hw t q i a w) mc ms) := by
  show MW _ _ _ 0 [some (.ref (q 0))] [] _ _ _ _
  refine MW.aload_n dX5_requireShut_0 rfl ?_
  refine MW.getf fX5_requireShut_1 0 rfl rfl ?_
  refine MW.if_eq 17 dX5_requireShut_4 (by decide) (fun hc4 => absurd hc4 hx) (fun hc4 => ?_)
  exact MW.throwS fX5_requireShut_7 (Nat.le_of_ble_eq_true rfl) hmc hms xt_r
theorem c_rn_ok (hx : i 11 = 0)  : MC (En l D t b L xs) MX5_requireNoSeal (d + 1) [.ref (q 0)] (hw t q i a w) mc ms (rt none (hw t q i a w) mc ms) := by
  show MW _ _ _ 0 [some (.ref (q 0))] [] _ _ _ _
  refine MW.aload_n dX5_requireNoSeal_0 rfl ?_
  refine MW.getf fX5_requireNoSeal_1 0 rfl rfl ?_
  refine MW.callV1 fX5_requireNoSeal_4 16 rfl (c_isOn) rfl rfl rfl rfl (Nat.le_of_ble_eq_true rfl) ?_
  refine MW.if_eq 20 dX5_requireNoSeal_7 (by decide) (fun hc7 => ?_) (fun hc7 => absurd (bI_0.mpr (fun z => z hx)) hc7)
  exact MW.vreturn dX5_requireNoSeal_20 rfl rt_r
theorem c_rn_no (hx : ¬ i 11 = 0) (hmc : mc + 1 ≤ mi_CC) (hms : ms + 6 ≤ mi_CS) : MC (En l D t b L xs) MX5_requireNoSeal (d + 8) [.ref (q 0)] (hw t q i a w) mc ms (xt 2 (hw t q i a w) mc ms) := by
  show MW _ _ _ 0 [some (.ref (q 0))] [] _ _ _ _
  refine MW.aload_n dX5_requireNoSeal_0 rfl ?_
  refine MW.getf fX5_requireNoSeal_1 0 rfl rfl ?_
  refine MW.callV1 fX5_requireNoSeal_4 16 rfl (c_isOn) rfl rfl rfl rfl (Nat.le_of_ble_eq_true rfl) ?_
  refine MW.if_eq 20 dX5_requireNoSeal_7 (by decide) (fun hc7 => absurd hc7 (fun z => zz z hx)) (fun hc7 => ?_)
  exact MW.throwS fX5_requireNoSeal_10 (Nat.le_of_ble_eq_true rfl) hmc hms xt_r
theorem c_kp_ok {k : Nat} (hk : i 3 = nI k) (hk8 : k ≤ 8) {j : Nat} (hj : j < k) : MC (En l D t b L xs) MX5_knownPallet d [.ref (q 0), .int (nI j)] (hw t q i a w) mc ms (rt (some (.ref (q (6 + j)))) (hw t q i a w) mc ms) := by
  show MW _ _ _ 0 [some (.ref (q 0)), some (.int (nI j))] [] _ _ _ _
  refine MW.iload_n dX5_knownPallet_0 rfl ?_
  refine MW.if_lt 15 dX5_knownPallet_1 (by decide) (fun hc1 => absurd hc1 (nI_pos (by omega))) (fun hc1 => ?_)
  refine MW.iload_n dX5_knownPallet_4 rfl ?_
  refine MW.aload_n dX5_knownPallet_5 rfl ?_
  refine MW.getf fX5_knownPallet_6 0 rfl rfl ?_
  refine MW.getf fX5_knownPallet_9 1 rfl rfl ?_
  refine MW.icmp_lt 25 dX5_knownPallet_12 (by decide) (fun hc12 => ?_) (fun hc12 => absurd (show nI j < i 3 by rw [hk]; exact nI_lt hj (by omega)) hc12)
  refine MW.aload_n dX5_knownPallet_25 rfl ?_
  refine MW.getf fX5_knownPallet_26 0 rfl rfl ?_
  refine MW.getf fX5_knownPallet_29 1 rfl rfl ?_
  refine MW.iload_n dX5_knownPallet_32 rfl ?_
  refine MW.row dX5_knownPallet_33 (show j < 8 by omega) ?_
  exact MW.areturn dX5_knownPallet_34 rfl (Or.inl ⟨_, rfl⟩) rt_r
theorem c_kp_no {k : Nat} (hk : i 3 = nI k) (hk8 : k ≤ 8) {x : Int32} (hx : ¬ (0 ≤ x ∧ x < nI k)) (hmc : mc + 1 ≤ mi_CC) (hms : ms + 6 ≤ mi_CS) : MC (En l D t b L xs) MX5_knownPallet (d + 8) [.ref (q 0), .int x] (hw t q i a w) mc ms (xt 0 (hw t q i a w) mc ms) := by
  show MW _ _ _ 0 [some (.ref (q 0)), some (.int x)] [] _ _ _ _
  refine MW.iload_n dX5_knownPallet_0 rfl ?_
  refine MW.if_lt 15 dX5_knownPallet_1 (by decide) (fun hc1 => ?_) (fun hc1 => ?_)
  · skip
    exact MW.throwN hmc hms xt_r
  · skip
    refine MW.iload_n dX5_knownPallet_4 rfl ?_
    refine MW.aload_n dX5_knownPallet_5 rfl ?_
    refine MW.getf fX5_knownPallet_6 0 rfl rfl ?_
    refine MW.getf fX5_knownPallet_9 1 rfl rfl ?_
    refine MW.icmp_lt 25 dX5_knownPallet_12 (by decide) (fun hc12 => ?_) (fun hc12 => ?_)
    · skip
      exact absurd ⟨Int32.not_lt.mp hc1, by rw [← hk]; exact hc12⟩ hx
    · skip
      exact MW.throwN hmc hms xt_r
set_option maxHeartbeats 2000000 in
theorem l_wasOn {g : Nat} (hg : i 10 = nI g) (hg10 : g ≤ 10) {x : Int32} : ∀ (r j : Nat), j + r = g → (∀ m, m < j → ¬ a 9 m = x) → MW (En l D t b L xs) MX3_wasOn d 2 [some (.ref (q 16)), some (.int x), some (.int (nI j))] [] (hw t q i a w) mc ms (rt (some (.int (bI (∃ m, m < g ∧ a 9 m = x)))) (hw t q i a w) mc ms) := by
  intro r
  induction r with
  | zero =>
    intro j hr hI
    refine MW.iload_n dX3_wasOn_2 rfl ?_
    refine MW.aload_n dX3_wasOn_3 rfl ?_
    refine MW.getf fX3_wasOn_4 16 rfl rfl ?_
    refine MW.icmp_ge 28 dX3_wasOn_7 (by decide) (fun hc7 => ?_) (fun hc7 => absurd (show i 10 ≤ nI j by rw [hg]; exact nI_le (by omega) (by omega)) hc7)
    refine MW.iconst (v := 0) dX3_wasOn_28 (by decide) ?_
    exact MW.ireturn dX3_wasOn_29 rfl (rfl) (rtb_f (fun ⟨m, h1, h2⟩ => hI m (by omega) h2))
  | succ r ih =>
    intro j hr hI
    have hj : j < 10 := by omega
    refine MW.iload_n dX3_wasOn_2 rfl ?_
    refine MW.aload_n dX3_wasOn_3 rfl ?_
    refine MW.getf fX3_wasOn_4 16 rfl rfl ?_
    refine MW.icmp_ge 28 dX3_wasOn_7 (by decide) (fun hc7 => absurd hc7 (show ¬ i 10 ≤ nI j by rw [hg]; exact nI_ge (by omega) (by omega))) (fun hc7 => ?_)
    refine MW.aload_n dX3_wasOn_10 rfl ?_
    refine MW.getf fX3_wasOn_11 16 rfl rfl ?_
    refine MW.iload_n dX3_wasOn_14 rfl ?_
    refine MW.iaj dX3_wasOn_15 17 0 rfl rfl hj (by decide) ?_
    refine MW.iload_n dX3_wasOn_16 rfl ?_
    refine MW.icmp_ne 22 dX3_wasOn_17 (by decide) (fun hc17 => ?_) (fun hc17 => ?_)
    · skip
      refine MW.iincj dX3_wasOn_22 rfl rfl rfl ?_
      refine MW.goto 2 dX3_wasOn_25 (by decide) ?_
      exact ih (j + 1) (by omega) (lt_s hI (by assumption))
    · skip
      refine MW.iconst (v := 1) dX3_wasOn_20 (by decide) ?_
      exact MW.ireturn dX3_wasOn_21 rfl (rfl) (rtb_t ⟨j, by omega, by assumption⟩)
theorem c_wasOn {g : Nat} (hg : i 10 = nI g) (hg10 : g ≤ 10) {x : Int32} : MC (En l D t b L xs) MX3_wasOn d [.ref (q 16), .int x] (hw t q i a w) mc ms (rt (some (.int (bI (∃ m, m < g ∧ a 9 m = x)))) (hw t q i a w) mc ms) := by
  show MW _ _ _ 0 [some (.ref (q 16)), some (.int x), none] [] _ _ _ _
  refine MW.iconst (v := 0) dX3_wasOn_0 (by decide) ?_
  refine MW.istore_n dX3_wasOn_1 rfl rfl ?_
  exact l_wasOn hg hg10 g 0 (by omega) (fun m h => absurd h (by omega))
set_option maxHeartbeats 1000000 in
theorem c_putOn {g : Nat} (hg : i 10 = nI g) (hg10 : g ≤ 10) (hg9 : g < 10) {x : Int32} : MC (En l D t b L xs) MX3_putOn d [.ref (q 16), .int x] (hw t q i a w) mc ms (rt none (hw t q (upd (upd i 10 (nI (g + 1))) 11 x) (au a 9 (upd (a 9) g x)) w) mc ms) := by
  show MW _ _ _ 0 [some (.ref (q 16)), some (.int x)] [] _ _ _ _
  refine MW.aload_n dX3_putOn_0 rfl ?_
  refine MW.getf fX3_putOn_1 16 rfl rfl ?_
  refine MW.bipush (v := 10) dX3_putOn_4 (by decide) ?_
  refine MW.icmp_ge 34 dX3_putOn_6 (by decide) (fun hc6 => absurd hc6 (show ¬ (10 : Int32) ≤ i 10 by rw [hg]; exact nI_ge (b := 10) hg9 (by omega))) (fun hc6 => ?_)
  refine MW.aload_n dX3_putOn_9 rfl ?_
  refine MW.getf fX3_putOn_10 16 rfl rfl ?_
  refine MW.aload_n dX3_putOn_13 rfl ?_
  refine MW.getf fX3_putOn_14 16 rfl rfl ?_
  refine MW.top (v' := .int (nI g)) (by rw [hg]) ?_
  refine MW.iload_n dX3_putOn_17 rfl ?_
  refine MW.isj dX3_putOn_18 17 0 rfl rfl hg9 (by decide) ?_
  refine MW.heap hw_a17 ?_
  refine MW.aload_n dX3_putOn_19 rfl ?_
  refine MW.dup dX3_putOn_20 rfl ?_
  refine MW.getf fX3_putOn_21 16 rfl rfl ?_
  refine MW.iconst (v := 1) dX3_putOn_24 (by decide) ?_
  refine MW.iadd dX3_putOn_25 ?_
  refine MW.top (v' := .int (nI (g + 1))) (by show Value.int (i 10 + 1) = _; rw [hg, nI_1]) ?_
  refine MW.putf fX3_putOn_26 16 rfl (rfl) (rfl) rfl ?_
  refine MW.heap hw_s3_1 ?_
  refine MW.aload_n dX3_putOn_29 rfl ?_
  refine MW.iload_n dX3_putOn_30 rfl ?_
  refine MW.putf fX3_putOn_31 16 rfl (rfl) (rfl) rfl ?_
  refine MW.heap hw_s3_2 ?_
  exact MW.vreturn dX3_putOn_34 rfl rt_r
theorem c_takeOff : MC (En l D t b L xs) MX3_takeOff d [.ref (q 16)] (hw t q i a w) mc ms (rt (some (.int (i 11))) (hw t q (upd i 11 0) a w) mc ms) := by
  show MW _ _ _ 0 [some (.ref (q 16)), none] [] _ _ _ _
  refine MW.aload_n dX3_takeOff_0 rfl ?_
  refine MW.getf fX3_takeOff_1 16 rfl rfl ?_
  refine MW.istore_n dX3_takeOff_4 rfl rfl ?_
  refine MW.aload_n dX3_takeOff_5 rfl ?_
  refine MW.iconst (v := 0) dX3_takeOff_6 (by decide) ?_
  refine MW.putf fX3_takeOff_7 16 rfl (rfl) (rfl) rfl ?_
  refine MW.heap hw_s3_2 ?_
  refine MW.iload_n dX3_takeOff_10 rfl ?_
  exact MW.ireturn dX3_takeOff_11 rfl (rfl) rt_r
theorem c_axset {x y z v : Int32} : MC (En l D t b L xs) MX0_set d [.ref (q 5), .int x, .int y, .int z, .int v] (hw t q i a w) mc ms (rt none (hw t q (upd (upd (upd (upd i 4 x) 5 y) 6 z) 7 v) a w) mc ms) := by
  show MW _ _ _ 0 [some (.ref (q 5)), some (.int x), some (.int y), some (.int z), some (.int v)] [] _ _ _ _
  refine MW.aload_n dX0_set_0 rfl ?_
  refine MW.iload_n dX0_set_1 rfl ?_
  refine MW.putf fX0_set_2 5 rfl (rfl) (rfl) rfl ?_
  refine MW.heap hw_s0_0 ?_
  refine MW.aload_n dX0_set_5 rfl ?_
  refine MW.iload_n dX0_set_6 rfl ?_
  refine MW.putf fX0_set_7 5 rfl (rfl) (rfl) rfl ?_
  refine MW.heap hw_s0_1 ?_
  refine MW.aload_n dX0_set_10 rfl ?_
  refine MW.iload_n dX0_set_11 rfl ?_
  refine MW.putf fX0_set_12 5 rfl (rfl) (rfl) rfl ?_
  refine MW.heap hw_s0_2 ?_
  refine MW.aload_n dX0_set_15 rfl ?_
  refine MW.iload dX0_set_16 rfl ?_
  refine MW.putf fX0_set_18 5 rfl (rfl) (rfl) rfl ?_
  refine MW.heap hw_s0_3 ?_
  exact MW.vreturn dX0_set_21 rfl rt_r
theorem nar_b {x : Int32} (h : x = 0 ∨ x = 1) : narrow .boolean (.int x) = .int x := by rcases h with rfl | rfl <;> rfl
theorem fit_b {x : Int32} (h : x = 0 ∨ x = 1) : fits .boolean (.int x) = true := by rcases h with rfl | rfl <;> rfl
set_option maxHeartbeats 1000000 in
theorem c_palset {j : Nat} (hj : j < 8) {x y z s v : Int32} (hy : y = 0 ∨ y = 1) (hz : z = 0 ∨ z = 1) : MC (En l D t b L xs) MX2_set d [.ref (q (6 + j)), .int x, .int y, .int z, .int s, .int v] (hw t q i a w) mc ms (rt none (hw t q i (au (au (au (au (au a 2 (upd (a 2) j x)) 3 (upd (a 3) j y)) 4 (upd (a 4) j z)) 5 (upd (a 5) j s)) 6 (upd (a 6) j v)) w) mc ms) := by
  show MW _ _ _ 0 [some (.ref (q (6 + j))), some (.int x), some (.int y), some (.int z), some (.int s), some (.int v)] [] _ _ _ _
  refine MW.aload_n dX2_set_0 rfl ?_
  refine MW.iload_n dX2_set_1 rfl ?_
  refine MW.pp0 fX2_set_2 hj (rfl) (rfl) ?_
  refine MW.aload_n dX2_set_5 rfl ?_
  refine MW.iload_n dX2_set_6 rfl ?_
  refine MW.pp1 fX2_set_7 hj (nar_b hy) (fit_b hy) ?_
  refine MW.aload_n dX2_set_10 rfl ?_
  refine MW.iload_n dX2_set_11 rfl ?_
  refine MW.pp2 fX2_set_12 hj (nar_b hz) (fit_b hz) ?_
  refine MW.aload_n dX2_set_15 rfl ?_
  refine MW.iload dX2_set_16 rfl ?_
  refine MW.pp3 fX2_set_18 hj (rfl) (rfl) ?_
  refine MW.aload_n dX2_set_21 rfl ?_
  refine MW.iload dX2_set_22 rfl ?_
  refine MW.pp4 fX2_set_24 hj (rfl) (rfl) ?_
  exact MW.vreturn dX2_set_27 rfl rt_r
end Face1
end
section
section Face2
variable {l : Launch} {D : va_G} {t : ty4} {b L : Nat} {xs : Nat → Int32} {q : Nat → Nat} {i : Nat → Int32} {a : Nat → Nat → Int32} {w : Int64} {d mc ms : Nat}
set_option maxHeartbeats 2000000 in
theorem c_cell_x5 {c ht cd : Int32} (h1 : ¬ (0 ≤ c ∧ c < i 2)) (hmc : mc + 1 ≤ mi_CC) (hms : ms + 6 ≤ mi_CS) : MC (En l D t b L xs) MX5_cell 20 [.ref (q 0), .int c, .int ht, .int cd] (hw t q i a w) mc ms (xt 5 (hw t q i a w) mc ms) := by
  show MW _ _ _ 0 [some (.ref (q 0)), some (.int c), some (.int ht), some (.int cd)] [] _ _ _ _
  refine MW.aload_n dX5_cell_0 rfl ?_
  refine MW.getf fX5_cell_1 0 rfl rfl ?_
  refine MW.iload_n dX5_cell_4 rfl ?_
  refine MW.callV1 fX5_cell_5 1 rfl (c_hasCell) rfl rfl rfl rfl (Nat.le_of_ble_eq_true rfl) ?_
  refine MW.if_ne 21 dX5_cell_8 (by decide) (fun hc8 => absurd (bI_0.mpr h1) hc8) (fun hc8 => ?_)
  exact MW.throwS fX5_cell_11 (Nat.le_of_ble_eq_true rfl) hmc hms xt_r
set_option maxHeartbeats 2000000 in
theorem c_cell_x1 {c ht cd : Int32} (h1 : 0 ≤ c ∧ c < i 2) (h2 : ¬ (1 ≤ ht ∧ ht ≤ 10)) (hmc : mc + 1 ≤ mi_CC) (hms : ms + 6 ≤ mi_CS) : MC (En l D t b L xs) MX5_cell 20 [.ref (q 0), .int c, .int ht, .int cd] (hw t q i a w) mc ms (xt 1 (hw t q i a w) mc ms) := by
  show MW _ _ _ 0 [some (.ref (q 0)), some (.int c), some (.int ht), some (.int cd)] [] _ _ _ _
  refine MW.aload_n dX5_cell_0 rfl ?_
  refine MW.getf fX5_cell_1 0 rfl rfl ?_
  refine MW.iload_n dX5_cell_4 rfl ?_
  refine MW.callV1 fX5_cell_5 1 rfl (c_hasCell) rfl rfl rfl rfl (Nat.le_of_ble_eq_true rfl) ?_
  refine MW.if_ne 21 dX5_cell_8 (by decide) (fun hc8 => ?_) (fun hc8 => absurd hc8 (fun z => zz z h1))
  refine MW.iload_n dX5_cell_21 rfl ?_
  refine MW.iconst (v := 1) dX5_cell_22 (by decide) ?_
  refine MW.bipush (v := 10) dX5_cell_23 (by decide) ?_
  exact MW.thrS fX5_cell_25 (c_rw_no h2 hmc hms) rfl rfl rfl rfl (Nat.le_of_ble_eq_true rfl) rfl xt_r
set_option maxHeartbeats 2000000 in
theorem c_cell_x2 {k : Nat} (hk : i 3 = nI k) (hk8 : k ≤ 8) {c ht cd : Int32} (h1 : 0 ≤ c ∧ c < i 2) (h2 : 1 ≤ ht ∧ ht ≤ 10) (h3 : ∃ m, m < k ∧ a 7 m = c) (hmc : mc + 1 ≤ mi_CC) (hms : ms + 6 ≤ mi_CS) : MC (En l D t b L xs) MX5_cell 20 [.ref (q 0), .int c, .int ht, .int cd] (hw t q i a w) mc ms (xt 2 (hw t q i a w) mc ms) := by
  show MW _ _ _ 0 [some (.ref (q 0)), some (.int c), some (.int ht), some (.int cd)] [] _ _ _ _
  refine MW.aload_n dX5_cell_0 rfl ?_
  refine MW.getf fX5_cell_1 0 rfl rfl ?_
  refine MW.iload_n dX5_cell_4 rfl ?_
  refine MW.callV1 fX5_cell_5 1 rfl (c_hasCell) rfl rfl rfl rfl (Nat.le_of_ble_eq_true rfl) ?_
  refine MW.if_ne 21 dX5_cell_8 (by decide) (fun hc8 => ?_) (fun hc8 => absurd hc8 (fun z => zz z h1))
  refine MW.iload_n dX5_cell_21 rfl ?_
  refine MW.iconst (v := 1) dX5_cell_22 (by decide) ?_
  refine MW.bipush (v := 10) dX5_cell_23 (by decide) ?_
  refine MW.callS0 fX5_cell_25 (c_rw_ok h2) rfl rfl rfl rfl (Nat.le_of_ble_eq_true rfl) ?_
  refine MW.aload_n dX5_cell_28 rfl ?_
  refine MW.getf fX5_cell_29 0 rfl rfl ?_
  refine MW.iload_n dX5_cell_32 rfl ?_
  refine MW.callV1 fX5_cell_33 1 rfl (c_isTaken hk hk8) rfl rfl rfl rfl (Nat.le_of_ble_eq_true rfl) ?_
  refine MW.if_eq 49 dX5_cell_36 (by decide) (fun hc36 => absurd hc36 (fun z => zz z h3)) (fun hc36 => ?_)
  exact MW.throwS fX5_cell_39 (Nat.le_of_ble_eq_true rfl) hmc hms xt_r
set_option maxHeartbeats 2000000 in
theorem c_cell_ok {k : Nat} (hk : i 3 = nI k) (hk8 : k ≤ 8) {n : Nat} (hn : i 2 = nI n) (hn12 : n ≤ 12) {m : Nat} {ht cd : Int32} (hm : m < n) (h2 : 1 ≤ ht ∧ ht ≤ 10) (h3 : ¬ ∃ p, p < k ∧ a 7 p = nI m) (hcd : cd = 0 ∨ cd = 1) : MC (En l D t b L xs) MX5_cell 20 [.ref (q 0), .int (nI m), .int ht, .int cd] (hw t q i a w) mc ms (rt none (hw t q i (au (au a 0 (upd (a 0) m ht)) 1 (upd (a 1) m cd)) w) mc ms) := by
  show MW _ _ _ 0 [some (.ref (q 0)), some (.int (nI m)), some (.int ht), some (.int cd)] [] _ _ _ _
  refine MW.aload_n dX5_cell_0 rfl ?_
  refine MW.getf fX5_cell_1 0 rfl rfl ?_
  refine MW.iload_n dX5_cell_4 rfl ?_
  refine MW.callV1 fX5_cell_5 1 rfl (c_hasCell) rfl rfl rfl rfl (Nat.le_of_ble_eq_true rfl) ?_
  refine MW.if_ne 21 dX5_cell_8 (by decide) (fun hc8 => ?_) (fun hc8 => absurd hc8 (fun z => zz z ⟨nI_pos' (by omega), by rw [hn]; exact nI_lt hm (by omega)⟩))
  refine MW.iload_n dX5_cell_21 rfl ?_
  refine MW.iconst (v := 1) dX5_cell_22 (by decide) ?_
  refine MW.bipush (v := 10) dX5_cell_23 (by decide) ?_
  refine MW.callS0 fX5_cell_25 (c_rw_ok h2) rfl rfl rfl rfl (Nat.le_of_ble_eq_true rfl) ?_
  refine MW.aload_n dX5_cell_28 rfl ?_
  refine MW.getf fX5_cell_29 0 rfl rfl ?_
  refine MW.iload_n dX5_cell_32 rfl ?_
  refine MW.callV1 fX5_cell_33 1 rfl (c_isTaken hk hk8) rfl rfl rfl rfl (Nat.le_of_ble_eq_true rfl) ?_
  refine MW.if_eq 49 dX5_cell_36 (by decide) (fun hc36 => ?_) (fun hc36 => absurd (bI_0.mpr h3) hc36)
  refine MW.aload_n dX5_cell_49 rfl ?_
  refine MW.getf fX5_cell_50 0 rfl rfl ?_
  refine MW.getf fX5_cell_53 1 rfl rfl ?_
  refine MW.iload_n dX5_cell_56 rfl ?_
  refine MW.iload_n dX5_cell_57 rfl ?_
  refine MW.isj dX5_cell_58 2 0 rfl rfl (show m < 12 by omega) (by decide) ?_
  refine MW.heap hw_a2 ?_
  refine MW.aload_n dX5_cell_59 rfl ?_
  refine MW.getf fX5_cell_60 0 rfl rfl ?_
  refine MW.getf fX5_cell_63 1 rfl rfl ?_
  refine MW.iload_n dX5_cell_66 rfl ?_
  refine MW.iload_n dX5_cell_67 rfl ?_
  refine MW.zsj dX5_cell_68 3 1 rfl rfl (show m < 12 by omega) (by decide) (hcd) ?_
  refine MW.heap hw_a3 ?_
  exact MW.vreturn dX5_cell_69 rfl rt_r
set_option maxHeartbeats 2000000 in
theorem c_axles_x1 {x y z v : Int32} (h1 : ¬ ((0 ≤ x ∧ x ≤ 100) ∧ (0 ≤ y ∧ y ≤ 100) ∧ (0 ≤ z ∧ z ≤ 10000) ∧ (0 ≤ v ∧ v ≤ 10000) ∧ x < y)) (hmc : mc + 1 ≤ mi_CC) (hms : ms + 6 ≤ mi_CS) : MC (En l D t b L xs) MX5_axles 20 [.ref (q 0), .int x, .int y, .int z, .int v] (hw t q i a w) mc ms (xt 1 (hw t q i a w) mc ms) := by
  show MW _ _ _ 0 [some (.ref (q 0)), some (.int x), some (.int y), some (.int z), some (.int v)] [] _ _ _ _
  refine MW.iload_n dX5_axles_0 rfl ?_
  refine MW.iconst (v := 0) dX5_axles_1 (by decide) ?_
  refine MW.bipush (v := 100) dX5_axles_2 (by decide) ?_
  by_cases hq4 : 0 ≤ x ∧ x ≤ 100
  · skip
    refine MW.callS0 fX5_axles_4 (c_rw_ok hq4) rfl rfl rfl rfl (Nat.le_of_ble_eq_true rfl) ?_
    refine MW.iload_n dX5_axles_7 rfl ?_
    refine MW.iconst (v := 0) dX5_axles_8 (by decide) ?_
    refine MW.bipush (v := 100) dX5_axles_9 (by decide) ?_
    by_cases hq11 : 0 ≤ y ∧ y ≤ 100
    · skip
      refine MW.callS0 fX5_axles_11 (c_rw_ok hq11) rfl rfl rfl rfl (Nat.le_of_ble_eq_true rfl) ?_
      refine MW.iload_n dX5_axles_14 rfl ?_
      refine MW.iconst (v := 0) dX5_axles_15 (by decide) ?_
      refine MW.sipush (v := 10000) dX5_axles_16 (by decide) ?_
      by_cases hq19 : 0 ≤ z ∧ z ≤ 10000
      · skip
        refine MW.callS0 fX5_axles_19 (c_rw_ok hq19) rfl rfl rfl rfl (Nat.le_of_ble_eq_true rfl) ?_
        refine MW.iload dX5_axles_22 rfl ?_
        refine MW.iconst (v := 0) dX5_axles_24 (by decide) ?_
        refine MW.sipush (v := 10000) dX5_axles_25 (by decide) ?_
        by_cases hq28 : 0 ≤ v ∧ v ≤ 10000
        · skip
          refine MW.callS0 fX5_axles_28 (c_rw_ok hq28) rfl rfl rfl rfl (Nat.le_of_ble_eq_true rfl) ?_
          refine MW.iload_n dX5_axles_31 rfl ?_
          refine MW.iload_n dX5_axles_32 rfl ?_
          refine MW.icmp_gt 46 dX5_axles_33 (by decide) (fun hc33 => absurd hc33 (fun z9 => h1 ⟨hq4, hq11, hq19, hq28, z9⟩)) (fun hc33 => ?_)
          exact MW.throwS fX5_axles_36 (Nat.le_of_ble_eq_true rfl) hmc hms xt_r
        · skip
          exact MW.thrS fX5_axles_28 (c_rw_no hq28 hmc hms) rfl rfl rfl rfl (Nat.le_of_ble_eq_true rfl) rfl xt_r
      · skip
        exact MW.thrS fX5_axles_19 (c_rw_no hq19 hmc hms) rfl rfl rfl rfl (Nat.le_of_ble_eq_true rfl) rfl xt_r
    · skip
      exact MW.thrS fX5_axles_11 (c_rw_no hq11 hmc hms) rfl rfl rfl rfl (Nat.le_of_ble_eq_true rfl) rfl xt_r
  · skip
    exact MW.thrS fX5_axles_4 (c_rw_no hq4 hmc hms) rfl rfl rfl rfl (Nat.le_of_ble_eq_true rfl) rfl xt_r
set_option maxHeartbeats 2000000 in
theorem c_axles_ok {x y z v : Int32} (h1 : (0 ≤ x ∧ x ≤ 100) ∧ (0 ≤ y ∧ y ≤ 100) ∧ (0 ≤ z ∧ z ≤ 10000) ∧ (0 ≤ v ∧ v ≤ 10000) ∧ x < y) : MC (En l D t b L xs) MX5_axles 20 [.ref (q 0), .int x, .int y, .int z, .int v] (hw t q i a w) mc ms (rt none (hw t q (upd (upd (upd (upd i 4 x) 5 y) 6 z) 7 v) a w) mc ms) := by
  show MW _ _ _ 0 [some (.ref (q 0)), some (.int x), some (.int y), some (.int z), some (.int v)] [] _ _ _ _
  refine MW.iload_n dX5_axles_0 rfl ?_
  refine MW.iconst (v := 0) dX5_axles_1 (by decide) ?_
  refine MW.bipush (v := 100) dX5_axles_2 (by decide) ?_
  refine MW.callS0 fX5_axles_4 (c_rw_ok h1.1) rfl rfl rfl rfl (Nat.le_of_ble_eq_true rfl) ?_
  refine MW.iload_n dX5_axles_7 rfl ?_
  refine MW.iconst (v := 0) dX5_axles_8 (by decide) ?_
  refine MW.bipush (v := 100) dX5_axles_9 (by decide) ?_
  refine MW.callS0 fX5_axles_11 (c_rw_ok h1.2.1) rfl rfl rfl rfl (Nat.le_of_ble_eq_true rfl) ?_
  refine MW.iload_n dX5_axles_14 rfl ?_
  refine MW.iconst (v := 0) dX5_axles_15 (by decide) ?_
  refine MW.sipush (v := 10000) dX5_axles_16 (by decide) ?_
  refine MW.callS0 fX5_axles_19 (c_rw_ok h1.2.2.1) rfl rfl rfl rfl (Nat.le_of_ble_eq_true rfl) ?_
  refine MW.iload dX5_axles_22 rfl ?_
  refine MW.iconst (v := 0) dX5_axles_24 (by decide) ?_
  refine MW.sipush (v := 10000) dX5_axles_25 (by decide) ?_
  refine MW.callS0 fX5_axles_28 (c_rw_ok h1.2.2.2.1) rfl rfl rfl rfl (Nat.le_of_ble_eq_true rfl) ?_
  refine MW.iload_n dX5_axles_31 rfl ?_
  refine MW.iload_n dX5_axles_32 rfl ?_
  refine MW.icmp_gt 46 dX5_axles_33 (by decide) (fun hc33 => ?_) (fun hc33 => absurd h1.2.2.2.2 hc33)
  refine MW.aload_n dX5_axles_46 rfl ?_
  refine MW.getf fX5_axles_47 0 rfl rfl ?_
  refine MW.getf fX5_axles_50 1 rfl rfl ?_
  refine MW.iload_n dX5_axles_53 rfl ?_
  refine MW.iload_n dX5_axles_54 rfl ?_
  refine MW.iload_n dX5_axles_55 rfl ?_
  refine MW.iload dX5_axles_56 rfl ?_
  refine MW.callV0 fX5_axles_58 5 rfl (c_axset) rfl rfl rfl rfl (Nat.le_of_ble_eq_true rfl) ?_
  exact MW.vreturn dX5_axles_61 rfl rt_r
set_option maxHeartbeats 2000000 in
theorem c_pallet_x1 {x y z s v : Int32} (h1 : ¬ ((1 ≤ x ∧ x ≤ 1000) ∧ (1 ≤ s ∧ s ≤ 9) ∧ (1 ≤ v ∧ v ≤ 10))) (hmc : mc + 1 ≤ mi_CC) (hms : ms + 6 ≤ mi_CS) : MC (En l D t b L xs) MX5_pallet 20 [.ref (q 0), .int x, .int y, .int z, .int s, .int v] (hw t q i a w) mc ms (xt 1 (hw t q i a w) mc ms) := by
  show MW _ _ _ 0 [some (.ref (q 0)), some (.int x), some (.int y), some (.int z), some (.int s), some (.int v), none] [] _ _ _ _
  refine MW.iload_n dX5_pallet_0 rfl ?_
  refine MW.iconst (v := 1) dX5_pallet_1 (by decide) ?_
  refine MW.sipush (v := 1000) dX5_pallet_2 (by decide) ?_
  by_cases hq5 : 1 ≤ x ∧ x ≤ 1000
  · skip
    refine MW.callS0 fX5_pallet_5 (c_rw_ok hq5) rfl rfl rfl rfl (Nat.le_of_ble_eq_true rfl) ?_
    refine MW.iload dX5_pallet_8 rfl ?_
    refine MW.iconst (v := 1) dX5_pallet_10 (by decide) ?_
    refine MW.bipush (v := 9) dX5_pallet_11 (by decide) ?_
    by_cases hq13 : 1 ≤ s ∧ s ≤ 9
    · skip
      refine MW.callS0 fX5_pallet_13 (c_rw_ok hq13) rfl rfl rfl rfl (Nat.le_of_ble_eq_true rfl) ?_
      refine MW.iload dX5_pallet_16 rfl ?_
      refine MW.iconst (v := 1) dX5_pallet_18 (by decide) ?_
      refine MW.bipush (v := 10) dX5_pallet_19 (by decide) ?_
      by_cases hq21 : 1 ≤ v ∧ v ≤ 10
      · skip
        refine MW.callS0 fX5_pallet_21 (c_rw_ok hq21) rfl rfl rfl rfl (Nat.le_of_ble_eq_true rfl) ?_
        exact absurd ⟨hq5, hq13, hq21⟩ h1
      · skip
        exact MW.thrS fX5_pallet_21 (c_rw_no hq21 hmc hms) rfl rfl rfl rfl (Nat.le_of_ble_eq_true rfl) rfl xt_r
    · skip
      exact MW.thrS fX5_pallet_13 (c_rw_no hq13 hmc hms) rfl rfl rfl rfl (Nat.le_of_ble_eq_true rfl) rfl xt_r
  · skip
    exact MW.thrS fX5_pallet_5 (c_rw_no hq5 hmc hms) rfl rfl rfl rfl (Nat.le_of_ble_eq_true rfl) rfl xt_r
set_option maxHeartbeats 2000000 in
theorem c_pallet_x2 {x y z s v : Int32} (h1 : (1 ≤ x ∧ x ≤ 1000) ∧ (1 ≤ s ∧ s ≤ 9) ∧ (1 ≤ v ∧ v ≤ 10)) (h2 : ¬ i 0 = 0) (hmc : mc + 1 ≤ mi_CC) (hms : ms + 6 ≤ mi_CS) : MC (En l D t b L xs) MX5_pallet 20 [.ref (q 0), .int x, .int y, .int z, .int s, .int v] (hw t q i a w) mc ms (xt 2 (hw t q i a w) mc ms) := by
  show MW _ _ _ 0 [some (.ref (q 0)), some (.int x), some (.int y), some (.int z), some (.int s), some (.int v), none] [] _ _ _ _
  refine MW.iload_n dX5_pallet_0 rfl ?_
  refine MW.iconst (v := 1) dX5_pallet_1 (by decide) ?_
  refine MW.sipush (v := 1000) dX5_pallet_2 (by decide) ?_
  refine MW.callS0 fX5_pallet_5 (c_rw_ok h1.1) rfl rfl rfl rfl (Nat.le_of_ble_eq_true rfl) ?_
  refine MW.iload dX5_pallet_8 rfl ?_
  refine MW.iconst (v := 1) dX5_pallet_10 (by decide) ?_
  refine MW.bipush (v := 9) dX5_pallet_11 (by decide) ?_
  refine MW.callS0 fX5_pallet_13 (c_rw_ok h1.2.1) rfl rfl rfl rfl (Nat.le_of_ble_eq_true rfl) ?_
  refine MW.iload dX5_pallet_16 rfl ?_
  refine MW.iconst (v := 1) dX5_pallet_18 (by decide) ?_
  refine MW.bipush (v := 10) dX5_pallet_19 (by decide) ?_
  refine MW.callS0 fX5_pallet_21 (c_rw_ok h1.2.2) rfl rfl rfl rfl (Nat.le_of_ble_eq_true rfl) ?_
  refine MW.aload_n dX5_pallet_24 rfl ?_
  exact MW.thrV fX5_pallet_25 0 rfl (c_rs_no h2 hmc hms) rfl rfl rfl rfl (Nat.le_of_ble_eq_true rfl) rfl xt_r
set_option maxHeartbeats 2000000 in
theorem c_pallet_x3 {x y z s v : Int32} (h1 : (1 ≤ x ∧ x ≤ 1000) ∧ (1 ≤ s ∧ s ≤ 9) ∧ (1 ≤ v ∧ v ≤ 10)) (h2 : i 0 = 0) (h3 : i 3 = 8) (hmc : mc + 1 ≤ mi_CC) (hms : ms + 6 ≤ mi_CS) : MC (En l D t b L xs) MX5_pallet 20 [.ref (q 0), .int x, .int y, .int z, .int s, .int v] (hw t q i a w) mc ms (xt 3 (hw t q i a w) mc ms) := by
  show MW _ _ _ 0 [some (.ref (q 0)), some (.int x), some (.int y), some (.int z), some (.int s), some (.int v), none] [] _ _ _ _
  refine MW.iload_n dX5_pallet_0 rfl ?_
  refine MW.iconst (v := 1) dX5_pallet_1 (by decide) ?_
  refine MW.sipush (v := 1000) dX5_pallet_2 (by decide) ?_
  refine MW.callS0 fX5_pallet_5 (c_rw_ok h1.1) rfl rfl rfl rfl (Nat.le_of_ble_eq_true rfl) ?_
  refine MW.iload dX5_pallet_8 rfl ?_
  refine MW.iconst (v := 1) dX5_pallet_10 (by decide) ?_
  refine MW.bipush (v := 9) dX5_pallet_11 (by decide) ?_
  refine MW.callS0 fX5_pallet_13 (c_rw_ok h1.2.1) rfl rfl rfl rfl (Nat.le_of_ble_eq_true rfl) ?_
  refine MW.iload dX5_pallet_16 rfl ?_
  refine MW.iconst (v := 1) dX5_pallet_18 (by decide) ?_
  refine MW.bipush (v := 10) dX5_pallet_19 (by decide) ?_
  refine MW.callS0 fX5_pallet_21 (c_rw_ok h1.2.2) rfl rfl rfl rfl (Nat.le_of_ble_eq_true rfl) ?_
  refine MW.aload_n dX5_pallet_24 rfl ?_
  refine MW.callV0 fX5_pallet_25 0 rfl (c_rs_ok h2) rfl rfl rfl rfl (Nat.le_of_ble_eq_true rfl) ?_
  refine MW.aload_n dX5_pallet_28 rfl ?_
  refine MW.getf fX5_pallet_29 0 rfl rfl ?_
  refine MW.getf fX5_pallet_32 1 rfl rfl ?_
  refine MW.bipush (v := 8) dX5_pallet_35 (by decide) ?_
  refine MW.icmp_lt 50 dX5_pallet_37 (by decide) (fun hc37 => absurd hc37 (show ¬ i 3 < 8 by rw [h3]; decide)) (fun hc37 => ?_)
  exact MW.throwS fX5_pallet_40 (Nat.le_of_ble_eq_true rfl) hmc hms xt_r
set_option maxHeartbeats 2000000 in
theorem c_pallet_ok {k : Nat} (hk : i 3 = nI k) (hk8 : k ≤ 8) (hk7 : k < 8) {x y z s v : Int32} (hy : y = 0 ∨ y = 1) (hz : z = 0 ∨ z = 1) (h1 : (1 ≤ x ∧ x ≤ 1000) ∧ (1 ≤ s ∧ s ≤ 9) ∧ (1 ≤ v ∧ v ≤ 10)) (h2 : i 0 = 0) : MC (En l D t b L xs) MX5_pallet 20 [.ref (q 0), .int x, .int y, .int z, .int s, .int v] (hw t q i a w) mc ms (rt (some (.int (nI k))) (hw t q (upd i 3 (nI (k + 1))) (au (au (au (au (au a 2 (upd (a 2) k x)) 3 (upd (a 3) k y)) 4 (upd (a 4) k z)) 5 (upd (a 5) k s)) 6 (upd (a 6) k v)) w) mc ms) := by
  show MW _ _ _ 0 [some (.ref (q 0)), some (.int x), some (.int y), some (.int z), some (.int s), some (.int v), none] [] _ _ _ _
  refine MW.iload_n dX5_pallet_0 rfl ?_
  refine MW.iconst (v := 1) dX5_pallet_1 (by decide) ?_
  refine MW.sipush (v := 1000) dX5_pallet_2 (by decide) ?_
  refine MW.callS0 fX5_pallet_5 (c_rw_ok h1.1) rfl rfl rfl rfl (Nat.le_of_ble_eq_true rfl) ?_
  refine MW.iload dX5_pallet_8 rfl ?_
  refine MW.iconst (v := 1) dX5_pallet_10 (by decide) ?_
  refine MW.bipush (v := 9) dX5_pallet_11 (by decide) ?_
  refine MW.callS0 fX5_pallet_13 (c_rw_ok h1.2.1) rfl rfl rfl rfl (Nat.le_of_ble_eq_true rfl) ?_
  refine MW.iload dX5_pallet_16 rfl ?_
  refine MW.iconst (v := 1) dX5_pallet_18 (by decide) ?_
  refine MW.bipush (v := 10) dX5_pallet_19 (by decide) ?_
  refine MW.callS0 fX5_pallet_21 (c_rw_ok h1.2.2) rfl rfl rfl rfl (Nat.le_of_ble_eq_true rfl) ?_
  refine MW.aload_n dX5_pallet_24 rfl ?_
  refine MW.callV0 fX5_pallet_25 0 rfl (c_rs_ok h2) rfl rfl rfl rfl (Nat.le_of_ble_eq_true rfl) ?_
  refine MW.aload_n dX5_pallet_28 rfl ?_
  refine MW.getf fX5_pallet_29 0 rfl rfl ?_
  refine MW.getf fX5_pallet_32 1 rfl rfl ?_
  refine MW.bipush (v := 8) dX5_pallet_35 (by decide) ?_
  refine MW.icmp_lt 50 dX5_pallet_37 (by decide) (fun hc37 => ?_) (fun hc37 => absurd (show i 3 < 8 by rw [hk]; exact nI_lt (b := 8) hk7 (by omega)) hc37)
  refine MW.aload_n dX5_pallet_50 rfl ?_
  refine MW.getf fX5_pallet_51 0 rfl rfl ?_
  refine MW.getf fX5_pallet_54 1 rfl rfl ?_
  refine MW.top (v' := .int (nI k)) (by rw [hk]) ?_
  refine MW.istore dX5_pallet_57 rfl rfl ?_
  refine MW.aload_n dX5_pallet_59 rfl ?_
  refine MW.getf fX5_pallet_60 0 rfl rfl ?_
  refine MW.getf fX5_pallet_63 1 rfl rfl ?_
  refine MW.iload dX5_pallet_66 rfl ?_
  refine MW.row dX5_pallet_68 hk7 ?_
  refine MW.iload_n dX5_pallet_69 rfl ?_
  refine MW.iload_n dX5_pallet_70 rfl ?_
  refine MW.iload_n dX5_pallet_71 rfl ?_
  refine MW.iload dX5_pallet_72 rfl ?_
  refine MW.iload dX5_pallet_74 rfl ?_
  refine MW.callV0 fX5_pallet_76 (6 + _) (hw_pal hk7) (c_palset hk7 hy hz) rfl rfl rfl rfl (Nat.le_of_ble_eq_true rfl) ?_
  refine MW.aload_n dX5_pallet_79 rfl ?_
  refine MW.getf fX5_pallet_80 0 rfl rfl ?_
  refine MW.iload dX5_pallet_83 rfl ?_
  refine MW.iconst (v := 1) dX5_pallet_85 (by decide) ?_
  refine MW.iadd dX5_pallet_86 ?_
  refine MW.top (v' := .int (nI (k + 1))) (by rw [nI_1]) ?_
  refine MW.putf fX5_pallet_87 1 rfl (rfl) (rfl) rfl ?_
  refine MW.heap hw_s1_5 ?_
  refine MW.iload dX5_pallet_90 rfl ?_
  exact MW.ireturn dX5_pallet_92 rfl (rfl) rt_r
set_option maxHeartbeats 2000000 in
theorem c_solve_x1 {x : Int32} (h1 : ¬ (0 ≤ x ∧ x ≤ 5)) (hmc : mc + 1 ≤ mi_CC) (hms : ms + 6 ≤ mi_CS) : MC (En l D t b L xs) MX5_solve 20 [.ref (q 0), .int x] (hw t q i a w) mc ms (xt 1 (hw t q i a w) mc ms) := by
  show MW _ _ _ 0 [some (.ref (q 0)), some (.int x)] [] _ _ _ _
  refine MW.iload_n dX5_solve_0 rfl ?_
  refine MW.iconst (v := 0) dX5_solve_1 (by decide) ?_
  refine MW.iconst (v := 5) dX5_solve_2 (by decide) ?_
  exact MW.thrS fX5_solve_3 (c_rw_no h1 hmc hms) rfl rfl rfl rfl (Nat.le_of_ble_eq_true rfl) rfl xt_r
set_option maxHeartbeats 2000000 in
theorem c_solve_x2 {x : Int32} (h1 : 0 ≤ x ∧ x ≤ 5) (h2 : ¬ i 0 = 0 ∨ ¬ i 11 = 0) (hmc : mc + 1 ≤ mi_CC) (hms : ms + 6 ≤ mi_CS) : MC (En l D t b L xs) MX5_solve 20 [.ref (q 0), .int x] (hw t q i a w) mc ms (xt 2 (hw t q i a w) mc ms) := by
  show MW _ _ _ 0 [some (.ref (q 0)), some (.int x)] [] _ _ _ _
  refine MW.iload_n dX5_solve_0 rfl ?_
  refine MW.iconst (v := 0) dX5_solve_1 (by decide) ?_
  refine MW.iconst (v := 5) dX5_solve_2 (by decide) ?_
  refine MW.callS0 fX5_solve_3 (c_rw_ok h1) rfl rfl rfl rfl (Nat.le_of_ble_eq_true rfl) ?_
  refine MW.aload_n dX5_solve_6 rfl ?_
  by_cases hq7 : i 0 = 0
  · skip
    refine MW.callV0 fX5_solve_7 0 rfl (c_rs_ok hq7) rfl rfl rfl rfl (Nat.le_of_ble_eq_true rfl) ?_
    refine MW.aload_n dX5_solve_10 rfl ?_
    by_cases hq11 : i 11 = 0
    · skip
      refine MW.callV0 fX5_solve_11 0 rfl (c_rn_ok hq11) rfl rfl rfl rfl (Nat.le_of_ble_eq_true rfl) ?_
      exact absurd hq11 (h2.elim (fun z => absurd hq7 z) id)
    · skip
      exact MW.thrV fX5_solve_11 0 rfl (c_rn_no hq11 hmc hms) rfl rfl rfl rfl (Nat.le_of_ble_eq_true rfl) rfl xt_r
  · skip
    exact MW.thrV fX5_solve_7 0 rfl (c_rs_no hq7 hmc hms) rfl rfl rfl rfl (Nat.le_of_ble_eq_true rfl) rfl xt_r
set_option maxHeartbeats 2000000 in
theorem c_solve_e {k : Nat} (hk : i 3 = nI k) (hk8 : k ≤ 8) {n : Nat} (hn : i 2 = nI n) (hn12 : n ≤ 12) {x : Int32} (h1 : 0 ≤ x ∧ x ≤ 5) (h2 : i 0 = 0) (h3 : i 11 = 0) (h4 : nI k ≤ x) (hk5 : k ≤ 5) : MC (En l D t b L xs) MX5_solve 20 [.ref (q 0), .int x] (hw t q i a w) mc ms (rt (some (.int (stn (cpk (tfS (upd i 1 1) a n k k (tko (a 7) k) (-1, -1, a 8)).2.2 (tko (a 7) k) k) k))) (hs t q (upd i 1 1) a w (cpk (tfS (upd i 1 1) a n k k (tko (a 7) k) (-1, -1, a 8)).2.2 (tko (a 7) k) k) (tfS (upd i 1 1) a n k k (tko (a 7) k) (-1, -1, a 8))) mc ms) := by
  show MW _ _ _ 0 [some (.ref (q 0)), some (.int x)] [] _ _ _ _
  refine MW.iload_n dX5_solve_0 rfl ?_
  refine MW.iconst (v := 0) dX5_solve_1 (by decide) ?_
  refine MW.iconst (v := 5) dX5_solve_2 (by decide) ?_
  refine MW.callS0 fX5_solve_3 (c_rw_ok h1) rfl rfl rfl rfl (Nat.le_of_ble_eq_true rfl) ?_
  refine MW.aload_n dX5_solve_6 rfl ?_
  refine MW.callV0 fX5_solve_7 0 rfl (c_rs_ok h2) rfl rfl rfl rfl (Nat.le_of_ble_eq_true rfl) ?_
  refine MW.aload_n dX5_solve_10 rfl ?_
  refine MW.callV0 fX5_solve_11 0 rfl (c_rn_ok h3) rfl rfl rfl rfl (Nat.le_of_ble_eq_true rfl) ?_
  refine MW.aload_n dX5_solve_14 rfl ?_
  refine MW.aload_n dX5_solve_15 rfl ?_
  refine MW.getf fX5_solve_16 0 rfl rfl ?_
  refine MW.getf fX5_solve_19 1 rfl rfl ?_
  refine MW.iload_n dX5_solve_22 rfl ?_
  refine MW.icmp_gt 30 dX5_solve_23 (by decide) (fun hc23 => absurd hc23 (show ¬ x < i 3 by rw [hk]; exact Int32.not_lt.mpr h4)) (fun hc23 => ?_)
  refine MW.iconst (v := 1) dX5_solve_26 (by decide) ?_
  refine MW.goto 31 dX5_solve_27 (by decide) ?_
  refine MW.putf fX5_solve_31 0 rfl (rfl) (rfl) rfl ?_
  refine MW.heap hw_s5_4 ?_
  refine MW.aload_n dX5_solve_34 rfl ?_
  refine MW.getf fX5_solve_35 0 rfl rfl ?_
  refine MW.top (v' := .int 1) rfl ?_
  refine MW.if_eq 55 dX5_solve_38 (by decide) (fun hc38 => absurd hc38 (show ¬ (1 : Int32) = 0 by decide)) (fun hc38 => ?_)
  refine MW.aload_n dX5_solve_41 rfl ?_
  refine MW.getf fX5_solve_42 0 rfl rfl ?_
  refine MW.aload_n dX5_solve_45 rfl ?_
  refine MW.getf fX5_solve_46 0 rfl rfl ?_
  refine MW.callV0 fX5_solve_49 14 rfl (MC.up (show dp k 0 + 1 ≤ 19 by rw [dp_eq]; omega) (c_run (d := 0) (i := (upd i 1 1)) hk hk8 hk5 hn hn12)) rfl rfl rfl rfl (Nat.le_of_ble_eq_true rfl) ?_
  refine MW.goto 62 dX5_solve_52 (by decide) ?_
  refine MW.aload_n dX5_solve_62 rfl ?_
  refine MW.getf fX5_solve_63 0 rfl rfl ?_
  refine MW.callV1 fX5_solve_66 1 rfl (c_standing (i := upd (upd (upd i 1 1) 8 (tfS (upd i 1 1) a n k k (tko (a 7) k) (-1, -1, a 8)).1) 9 (tfS (upd i 1 1) a n k k (tko (a 7) k) (-1, -1, a 8)).2.1) (a := au (au a 7 (cpk (tfS (upd i 1 1) a n k k (tko (a 7) k) (-1, -1, a 8)).2.2 (tko (a 7) k) k)) 8 (tfS (upd i 1 1) a n k k (tko (a 7) k) (-1, -1, a 8)).2.2) hk hk8) rfl rfl rfl rfl (Nat.le_of_ble_eq_true rfl) ?_
  exact MW.ireturn dX5_solve_69 rfl (rfl) ⟨rfl, rfl, rfl, rfl⟩
set_option maxHeartbeats 2000000 in
theorem c_solve_r {k : Nat} (hk : i 3 = nI k) (hk8 : k ≤ 8) {n : Nat} (hn : i 2 = nI n) (hn12 : n ≤ 12) {x : Int32} (h1 : 0 ≤ x ∧ x ≤ 5) (h2 : i 0 = 0) (h3 : i 11 = 0) (h4 : ¬ nI k ≤ x) : MC (En l D t b L xs) MX5_solve 20 [.ref (q 0), .int x] (hw t q i a w) mc ms (rt (some (.int (stn (pbo a n k 9 (0, tko (a 7) k)).2 k))) (hw t q (upd i 1 0) (au a 7 (pbo a n k 9 (0, tko (a 7) k)).2) w) mc ms) := by
  show MW _ _ _ 0 [some (.ref (q 0)), some (.int x)] [] _ _ _ _
  refine MW.iload_n dX5_solve_0 rfl ?_
  refine MW.iconst (v := 0) dX5_solve_1 (by decide) ?_
  refine MW.iconst (v := 5) dX5_solve_2 (by decide) ?_
  refine MW.callS0 fX5_solve_3 (c_rw_ok h1) rfl rfl rfl rfl (Nat.le_of_ble_eq_true rfl) ?_
  refine MW.aload_n dX5_solve_6 rfl ?_
  refine MW.callV0 fX5_solve_7 0 rfl (c_rs_ok h2) rfl rfl rfl rfl (Nat.le_of_ble_eq_true rfl) ?_
  refine MW.aload_n dX5_solve_10 rfl ?_
  refine MW.callV0 fX5_solve_11 0 rfl (c_rn_ok h3) rfl rfl rfl rfl (Nat.le_of_ble_eq_true rfl) ?_
  refine MW.aload_n dX5_solve_14 rfl ?_
  refine MW.aload_n dX5_solve_15 rfl ?_
  refine MW.getf fX5_solve_16 0 rfl rfl ?_
  refine MW.getf fX5_solve_19 1 rfl rfl ?_
  refine MW.iload_n dX5_solve_22 rfl ?_
  refine MW.icmp_gt 30 dX5_solve_23 (by decide) (fun hc23 => ?_) (fun hc23 => absurd (show x < i 3 by rw [hk]; exact Int32.not_le.mp h4) hc23)
  refine MW.iconst (v := 0) dX5_solve_30 (by decide) ?_
  refine MW.putf fX5_solve_31 0 rfl (rfl) (rfl) rfl ?_
  refine MW.heap hw_s5_4 ?_
  refine MW.aload_n dX5_solve_34 rfl ?_
  refine MW.getf fX5_solve_35 0 rfl rfl ?_
  refine MW.top (v' := .int 0) rfl ?_
  refine MW.if_eq 55 dX5_solve_38 (by decide) (fun hc38 => ?_) (fun hc38 => absurd (show (0 : Int32) = 0 from rfl) hc38)
  refine MW.aload_n dX5_solve_55 rfl ?_
  refine MW.getf fX5_solve_56 0 rfl rfl ?_
  refine MW.callV0 fX5_solve_59 1 rfl (c_placeByRule (i := (upd i 1 0)) hk hk8 hn hn12) rfl rfl rfl rfl (Nat.le_of_ble_eq_true rfl) ?_
  refine MW.aload_n dX5_solve_62 rfl ?_
  refine MW.getf fX5_solve_63 0 rfl rfl ?_
  refine MW.callV1 fX5_solve_66 1 rfl (c_standing (i := (upd i 1 0)) (a := au a 7 (pbo a n k 9 (0, tko (a 7) k)).2) hk hk8) rfl rfl rfl rfl (Nat.le_of_ble_eq_true rfl) ?_
  exact MW.ireturn dX5_solve_69 rfl (rfl) ⟨rfl, rfl, rfl, rfl⟩
set_option maxHeartbeats 2000000 in
theorem c_exact (hb : i 1 = 0 ∨ i 1 = 1) : MC (En l D t b L xs) MX5_exact 20 [.ref (q 0)] (hw t q i a w) mc ms (rt (some (.int (i 1))) (hw t q i a w) mc ms) := by
  show MW _ _ _ 0 [some (.ref (q 0))] [] _ _ _ _
  refine MW.aload_n dX5_exact_0 rfl ?_
  refine MW.getf fX5_exact_1 0 rfl rfl ?_
  exact MW.ireturn dX5_exact_4 rfl (nar_b hb) rt_r
set_option maxHeartbeats 2000000 in
theorem c_bound {k : Nat} (hk : i 3 = nI k) (hk8 : k ≤ 8) {n : Nat} (hn : i 2 = nI n) (hn12 : n ≤ 12) : MC (En l D t b L xs) MX5_bound 20 [.ref (q 0)] (hw t q i a w) mc ms (rt (some (.int (mn (psn (fsP a n) k) (i 2)))) (hw t q i a w) mc ms) := by
  show MW _ _ _ 0 [some (.ref (q 0))] [] _ _ _ _
  refine MW.aload_n dX5_bound_0 rfl ?_
  refine MW.getf fX5_bound_1 0 rfl rfl ?_
  refine MW.callV1 fX5_bound_4 1 rfl (c_palletsWithSomeCell hk hk8 hn hn12) rfl rfl rfl rfl (Nat.le_of_ble_eq_true rfl) ?_
  refine MW.aload_n dX5_bound_7 rfl ?_
  refine MW.getf fX5_bound_8 0 rfl rfl ?_
  refine MW.getf fX5_bound_11 1 rfl rfl ?_
  refine MW.mmin dX5_bound_14 fX5_bound_14 wm_min1 wm_i wm_min2 (Nat.le_of_ble_eq_true rfl) ?_
  exact MW.ireturn dX5_bound_17 rfl (rfl) rt_r
set_option maxHeartbeats 2000000 in
theorem c_place_x0 {k : Nat} (hk : i 3 = nI k) (hk8 : k ≤ 8) {p c : Int32} (h1 : ¬ (0 ≤ p ∧ p < nI k)) (hmc : mc + 1 ≤ mi_CC) (hms : ms + 6 ≤ mi_CS) : MC (En l D t b L xs) MX5_place 20 [.ref (q 0), .int p, .int c] (hw t q i a w) mc ms (xt 0 (hw t q i a w) mc ms) := by
  show MW _ _ _ 0 [some (.ref (q 0)), some (.int p), some (.int c), none, none] [] _ _ _ _
  refine MW.aload_n dX5_place_0 rfl ?_
  refine MW.iload_n dX5_place_1 rfl ?_
  exact MW.thrV fX5_place_2 0 rfl (c_kp_no hk hk8 h1 hmc hms) rfl rfl rfl rfl (Nat.le_of_ble_eq_true rfl) rfl xt_r
set_option maxHeartbeats 2000000 in
theorem c_place_x1 {k : Nat} (hk : i 3 = nI k) (hk8 : k ≤ 8) {j : Nat} (hj : j < k) {c : Int32} (h2 : ¬ c = -1 ∧ ¬ (0 ≤ c ∧ c < i 2)) (hmc : mc + 1 ≤ mi_CC) (hms : ms + 6 ≤ mi_CS) : MC (En l D t b L xs) MX5_place 20 [.ref (q 0), .int (nI j), .int c] (hw t q i a w) mc ms (xt 1 (hw t q i a w) mc ms) := by
  show MW _ _ _ 0 [some (.ref (q 0)), some (.int (nI j)), some (.int c), none, none] [] _ _ _ _
  refine MW.aload_n dX5_place_0 rfl ?_
  refine MW.iload_n dX5_place_1 rfl ?_
  refine MW.callV1 fX5_place_2 0 rfl (c_kp_ok hk hk8 hj) rfl rfl rfl rfl (Nat.le_of_ble_eq_true rfl) ?_
  refine MW.astore_n dX5_place_5 rfl rfl ?_
  refine MW.iload_n dX5_place_6 rfl ?_
  refine MW.iconst (v := -1) dX5_place_7 (by decide) ?_
  refine MW.icmp_eq 32 dX5_place_8 (by decide) (fun hc8 => absurd hc8 h2.1) (fun hc8 => ?_)
  refine MW.aload_n dX5_place_11 rfl ?_
  refine MW.getf fX5_place_12 0 rfl rfl ?_
  refine MW.iload_n dX5_place_15 rfl ?_
  refine MW.callV1 fX5_place_16 1 rfl (c_hasCell) rfl rfl rfl rfl (Nat.le_of_ble_eq_true rfl) ?_
  refine MW.if_ne 32 dX5_place_19 (by decide) (fun hc19 => absurd (bI_0.mpr h2.2) hc19) (fun hc19 => ?_)
  exact MW.throwS fX5_place_22 (Nat.le_of_ble_eq_true rfl) hmc hms xt_r
set_option maxHeartbeats 2000000 in
theorem c_place_x2 {k : Nat} (hk : i 3 = nI k) (hk8 : k ≤ 8) {j : Nat} (hj : j < k) {c : Int32} (h2 : c = -1 ∨ (0 ≤ c ∧ c < i 2)) (h3 : i 0 = 0 ∨ ¬ i 11 = 0) (hmc : mc + 1 ≤ mi_CC) (hms : ms + 6 ≤ mi_CS) : MC (En l D t b L xs) MX5_place 20 [.ref (q 0), .int (nI j), .int c] (hw t q i a w) mc ms (xt 2 (hw t q i a w) mc ms) := by
  show MW _ _ _ 0 [some (.ref (q 0)), some (.int (nI j)), some (.int c), none, none] [] _ _ _ _
  refine MW.aload_n dX5_place_0 rfl ?_
  refine MW.iload_n dX5_place_1 rfl ?_
  refine MW.callV1 fX5_place_2 0 rfl (c_kp_ok hk hk8 hj) rfl rfl rfl rfl (Nat.le_of_ble_eq_true rfl) ?_
  refine MW.astore_n dX5_place_5 rfl rfl ?_
  refine MW.iload_n dX5_place_6 rfl ?_
  refine MW.iconst (v := -1) dX5_place_7 (by decide) ?_
  refine MW.icmp_eq 32 dX5_place_8 (by decide) (fun hc8 => ?_) (fun hc8 => ?_)
  · skip
    refine MW.aload_n dX5_place_32 rfl ?_
    refine MW.getf fX5_place_33 0 rfl rfl ?_
    refine MW.if_ne 49 dX5_place_36 (by decide) (fun hc36 => ?_) (fun hc36 => ?_)
    · skip
      refine MW.aload_n dX5_place_49 rfl ?_
      by_cases hq50 : i 11 = 0
      · skip
        refine MW.callV0 fX5_place_50 0 rfl (c_rn_ok hq50) rfl rfl rfl rfl (Nat.le_of_ble_eq_true rfl) ?_
        exact absurd hq50 (h3.resolve_left hc36)
      · skip
        exact MW.thrV fX5_place_50 0 rfl (c_rn_no hq50 hmc hms) rfl rfl rfl rfl (Nat.le_of_ble_eq_true rfl) rfl (by first | exact xt_r | exact absurd (bI_0.mp hc19) (fun z => z h2))
    · skip
      exact MW.throwS fX5_place_39 (Nat.le_of_ble_eq_true rfl) hmc hms (by first | exact xt_r | exact absurd (bI_0.mp hc19) (fun z => z h2))
  · skip
    have h2 := h2.resolve_left hc8
    refine MW.aload_n dX5_place_11 rfl ?_
    refine MW.getf fX5_place_12 0 rfl rfl ?_
    refine MW.iload_n dX5_place_15 rfl ?_
    refine MW.callV1 fX5_place_16 1 rfl (c_hasCell) rfl rfl rfl rfl (Nat.le_of_ble_eq_true rfl) ?_
    refine MW.if_ne 32 dX5_place_19 (by decide) (fun hc19 => ?_) (fun hc19 => ?_)
    · skip
      refine MW.aload_n dX5_place_32 rfl ?_
      refine MW.getf fX5_place_33 0 rfl rfl ?_
      refine MW.if_ne 49 dX5_place_36 (by decide) (fun hc36 => ?_) (fun hc36 => ?_)
      · skip
        refine MW.aload_n dX5_place_49 rfl ?_
        by_cases hq50 : i 11 = 0
        · skip
          refine MW.callV0 fX5_place_50 0 rfl (c_rn_ok hq50) rfl rfl rfl rfl (Nat.le_of_ble_eq_true rfl) ?_
          exact absurd hq50 (h3.resolve_left hc36)
        · skip
          exact MW.thrV fX5_place_50 0 rfl (c_rn_no hq50 hmc hms) rfl rfl rfl rfl (Nat.le_of_ble_eq_true rfl) rfl (by first | exact xt_r | exact absurd (bI_0.mp hc19) (fun z => z h2))
      · skip
        exact MW.throwS fX5_place_39 (Nat.le_of_ble_eq_true rfl) hmc hms (by first | exact xt_r | exact absurd (bI_0.mp hc19) (fun z => z h2))
    · skip
      exact MW.throwS fX5_place_22 (Nat.le_of_ble_eq_true rfl) hmc hms (by first | exact xt_r | exact absurd (bI_0.mp hc19) (fun z => z h2))
set_option maxHeartbeats 2000000 in
theorem c_place_out {k : Nat} (hk : i 3 = nI k) (hk8 : k ≤ 8) {j : Nat} (hj : j < k) (h3 : ¬ i 0 = 0) (h4 : i 11 = 0) : MC (En l D t b L xs) MX5_place 20 [.ref (q 0), .int (nI j), .int (-1)] (hw t q i a w) mc ms (rt (some (.int 0)) (hw t q i (au a 7 (upd (a 7) j (-1))) w) mc ms) := by
  show MW _ _ _ 0 [some (.ref (q 0)), some (.int (nI j)), some (.int (-1)), none, none] [] _ _ _ _
  refine MW.aload_n dX5_place_0 rfl ?_
  refine MW.iload_n dX5_place_1 rfl ?_
  refine MW.callV1 fX5_place_2 0 rfl (c_kp_ok hk hk8 hj) rfl rfl rfl rfl (Nat.le_of_ble_eq_true rfl) ?_
  refine MW.astore_n dX5_place_5 rfl rfl ?_
  refine MW.iload_n dX5_place_6 rfl ?_
  refine MW.iconst (v := -1) dX5_place_7 (by decide) ?_
  refine MW.icmp_eq 32 dX5_place_8 (by decide) (fun hc8 => ?_) (fun hc8 => absurd rfl hc8)
  refine MW.aload_n dX5_place_32 rfl ?_
  refine MW.getf fX5_place_33 0 rfl rfl ?_
  refine MW.if_ne 49 dX5_place_36 (by decide) (fun hc36 => ?_) (fun hc36 => absurd hc36 h3)
  refine MW.aload_n dX5_place_49 rfl ?_
  refine MW.callV0 fX5_place_50 0 rfl (c_rn_ok h4) rfl rfl rfl rfl (Nat.le_of_ble_eq_true rfl) ?_
  refine MW.iload_n dX5_place_53 rfl ?_
  refine MW.iconst (v := -1) dX5_place_54 (by decide) ?_
  refine MW.icmp_ne 62 dX5_place_55 (by decide) (fun hc55 => absurd rfl hc55) (fun hc55 => ?_)
  refine MW.iconst (v := 0) dX5_place_58 (by decide) ?_
  refine MW.goto 71 dX5_place_59 (by decide) ?_
  refine MW.istore dX5_place_71 rfl rfl ?_
  refine MW.iload dX5_place_73 rfl ?_
  refine MW.if_ne 83 dX5_place_75 (by decide) (fun hc75 => absurd rfl hc75) (fun hc75 => ?_)
  refine MW.aload_n dX5_place_78 rfl ?_
  refine MW.iload_n dX5_place_79 rfl ?_
  refine MW.pp5 fX5_place_80 (show j < 8 by omega) (rfl) (rfl) ?_
  refine MW.iload dX5_place_83 rfl ?_
  exact MW.ireturn dX5_place_85 rfl (rfl) rt_r
set_option maxHeartbeats 2000000 in
theorem c_place_in {k : Nat} (hk : i 3 = nI k) (hk8 : k ≤ 8) {n : Nat} (hn : i 2 = nI n) (hn12 : n ≤ 12) {j : Nat} (hj : j < k) {m : Nat} (hm : m < n) (h3 : ¬ i 0 = 0) (h4 : i 11 = 0) : MC (En l D t b L xs) MX5_place 20 [.ref (q 0), .int (nI j), .int (nI m)] (hw t q i a w) mc ms (rt (some (.int (fbx i a k j m))) (hw t q i (au a 7 (@ite (Nat → Int32) (fbx i a k j m = 0) inferInstance (upd (a 7) j (nI m)) (a 7))) w) mc ms) := by
  have hne : ¬ nI m = -1 := fun z => by have h9 := nI_pos (n := m) (by omega); rw [z] at h9; exact h9 (by decide)
  show MW _ _ _ 0 [some (.ref (q 0)), some (.int (nI j)), some (.int (nI m)), none, none] [] _ _ _ _
  refine MW.aload_n dX5_place_0 rfl ?_
  refine MW.iload_n dX5_place_1 rfl ?_
  refine MW.callV1 fX5_place_2 0 rfl (c_kp_ok hk hk8 hj) rfl rfl rfl rfl (Nat.le_of_ble_eq_true rfl) ?_
  refine MW.astore_n dX5_place_5 rfl rfl ?_
  refine MW.iload_n dX5_place_6 rfl ?_
  refine MW.iconst (v := -1) dX5_place_7 (by decide) ?_
  refine MW.icmp_eq 32 dX5_place_8 (by decide) (fun hc8 => absurd hc8 hne) (fun hc8 => ?_)
  refine MW.aload_n dX5_place_11 rfl ?_
  refine MW.getf fX5_place_12 0 rfl rfl ?_
  refine MW.iload_n dX5_place_15 rfl ?_
  refine MW.callV1 fX5_place_16 1 rfl (c_hasCell) rfl rfl rfl rfl (Nat.le_of_ble_eq_true rfl) ?_
  refine MW.if_ne 32 dX5_place_19 (by decide) (fun hc19 => ?_) (fun hc19 => absurd hc19 (fun z => zz z ⟨nI_pos' (by omega), by rw [hn]; exact nI_lt hm (by omega)⟩))
  refine MW.aload_n dX5_place_32 rfl ?_
  refine MW.getf fX5_place_33 0 rfl rfl ?_
  refine MW.if_ne 49 dX5_place_36 (by decide) (fun hc36 => ?_) (fun hc36 => absurd hc36 h3)
  refine MW.aload_n dX5_place_49 rfl ?_
  refine MW.callV0 fX5_place_50 0 rfl (c_rn_ok h4) rfl rfl rfl rfl (Nat.le_of_ble_eq_true rfl) ?_
  refine MW.iload_n dX5_place_53 rfl ?_
  refine MW.iconst (v := -1) dX5_place_54 (by decide) ?_
  refine MW.icmp_ne 62 dX5_place_55 (by decide) (fun hc55 => ?_) (fun hc55 => absurd hc55 hne)
  refine MW.aload_n dX5_place_62 rfl ?_
  refine MW.getf fX5_place_63 0 rfl rfl ?_
  refine MW.aload_n dX5_place_66 rfl ?_
  refine MW.iload_n dX5_place_67 rfl ?_
  refine MW.callV1 fX5_place_68 1 rfl (c_firstBar hk hk8 hn hn12 (show j < 8 by omega) hm) rfl rfl rfl rfl (Nat.le_of_ble_eq_true rfl) ?_
  refine MW.istore dX5_place_71 rfl rfl ?_
  refine MW.iload dX5_place_73 rfl ?_
  refine MW.if_ne 83 dX5_place_75 (by decide) (fun hc75 => ?_) (fun hc75 => ?_)
  · skip
    refine MW.iload dX5_place_83 rfl ?_
    exact MW.ireturn dX5_place_85 rfl (rfl) (by first | (rw [if_pos hc75]; exact ⟨rfl, rfl, rfl, rfl⟩) | (rw [if_neg hc75, au_self]; exact ⟨rfl, rfl, rfl, rfl⟩))
  · skip
    refine MW.aload_n dX5_place_78 rfl ?_
    refine MW.iload_n dX5_place_79 rfl ?_
    refine MW.pp5 fX5_place_80 (show j < 8 by omega) (rfl) (rfl) ?_
    refine MW.iload dX5_place_83 rfl ?_
    exact MW.ireturn dX5_place_85 rfl (rfl) (by first | (rw [if_pos hc75]; exact ⟨rfl, rfl, rfl, rfl⟩) | (rw [if_neg hc75, au_self]; exact ⟨rfl, rfl, rfl, rfl⟩))
set_option maxHeartbeats 2000000 in
theorem c_at_x0 {k : Nat} (hk : i 3 = nI k) (hk8 : k ≤ 8) {p : Int32} (h1 : ¬ (0 ≤ p ∧ p < nI k)) (hmc : mc + 1 ≤ mi_CC) (hms : ms + 6 ≤ mi_CS) : MC (En l D t b L xs) MX5_at 20 [.ref (q 0), .int p] (hw t q i a w) mc ms (xt 0 (hw t q i a w) mc ms) := by
  show MW _ _ _ 0 [some (.ref (q 0)), some (.int p)] [] _ _ _ _
  refine MW.aload_n dX5_at_0 rfl ?_
  refine MW.iload_n dX5_at_1 rfl ?_
  exact MW.thrV fX5_at_2 0 rfl (c_kp_no hk hk8 h1 hmc hms) rfl rfl rfl rfl (Nat.le_of_ble_eq_true rfl) rfl xt_r
set_option maxHeartbeats 2000000 in
theorem c_at_ok {k : Nat} (hk : i 3 = nI k) (hk8 : k ≤ 8) {j : Nat} (hj : j < k) : MC (En l D t b L xs) MX5_at 20 [.ref (q 0), .int (nI j)] (hw t q i a w) mc ms (rt (some (.int (a 7 j))) (hw t q i a w) mc ms) := by
  show MW _ _ _ 0 [some (.ref (q 0)), some (.int (nI j))] [] _ _ _ _
  refine MW.aload_n dX5_at_0 rfl ?_
  refine MW.iload_n dX5_at_1 rfl ?_
  refine MW.callV1 fX5_at_2 0 rfl (c_kp_ok hk hk8 hj) rfl rfl rfl rfl (Nat.le_of_ble_eq_true rfl) ?_
  refine MW.pg5 fX5_at_5 (show j < 8 by omega) ?_
  exact MW.ireturn dX5_at_8 rfl (rfl) rt_r
set_option maxHeartbeats 2000000 in
theorem c_bar_x0 {k : Nat} (hk : i 3 = nI k) (hk8 : k ≤ 8) {p : Int32} (h1 : ¬ (0 ≤ p ∧ p < nI k)) (hmc : mc + 1 ≤ mi_CC) (hms : ms + 6 ≤ mi_CS) : MC (En l D t b L xs) MX5_bar 20 [.ref (q 0), .int p] (hw t q i a w) mc ms (xt 0 (hw t q i a w) mc ms) := by
  show MW _ _ _ 0 [some (.ref (q 0)), some (.int p), none] [] _ _ _ _
  refine MW.aload_n dX5_bar_0 rfl ?_
  refine MW.iload_n dX5_bar_1 rfl ?_
  exact MW.thrV fX5_bar_2 0 rfl (c_kp_no hk hk8 h1 hmc hms) rfl rfl rfl rfl (Nat.le_of_ble_eq_true rfl) rfl xt_r
set_option maxHeartbeats 2000000 in
theorem c_bar_x2 {k : Nat} (hk : i 3 = nI k) (hk8 : k ≤ 8) {j : Nat} (hj : j < k) (h2 : ¬ a 7 j = -1) (hmc : mc + 1 ≤ mi_CC) (hms : ms + 6 ≤ mi_CS) : MC (En l D t b L xs) MX5_bar 20 [.ref (q 0), .int (nI j)] (hw t q i a w) mc ms (xt 2 (hw t q i a w) mc ms) := by
  show MW _ _ _ 0 [some (.ref (q 0)), some (.int (nI j)), none] [] _ _ _ _
  refine MW.aload_n dX5_bar_0 rfl ?_
  refine MW.iload_n dX5_bar_1 rfl ?_
  refine MW.callV1 fX5_bar_2 0 rfl (c_kp_ok hk hk8 hj) rfl rfl rfl rfl (Nat.le_of_ble_eq_true rfl) ?_
  refine MW.astore_n dX5_bar_5 rfl rfl ?_
  refine MW.aload_n dX5_bar_6 rfl ?_
  refine MW.callV1 fX5_bar_7 (6 + _) (hw_pal (show j < 8 by omega)) (c_stands (show j < 8 by omega)) rfl rfl rfl rfl (Nat.le_of_ble_eq_true rfl) ?_
  refine MW.if_eq 23 dX5_bar_10 (by decide) (fun hc10 => absurd hc10 (fun z => zz z h2)) (fun hc10 => ?_)
  exact MW.throwS fX5_bar_13 (Nat.le_of_ble_eq_true rfl) hmc hms xt_r
set_option maxHeartbeats 2000000 in
theorem c_bar_ok {k : Nat} (hk : i 3 = nI k) (hk8 : k ≤ 8) {n : Nat} (hn : i 2 = nI n) (hn12 : n ≤ 12) {j : Nat} (hj : j < k) (h2 : a 7 j = -1) : MC (En l D t b L xs) MX5_bar 20 [.ref (q 0), .int (nI j)] (hw t q i a w) mc ms (rt (some (.int (bfa (fbx i a k j) n 0 1))) (hw t q i a w) mc ms) := by
  show MW _ _ _ 0 [some (.ref (q 0)), some (.int (nI j)), none] [] _ _ _ _
  refine MW.aload_n dX5_bar_0 rfl ?_
  refine MW.iload_n dX5_bar_1 rfl ?_
  refine MW.callV1 fX5_bar_2 0 rfl (c_kp_ok hk hk8 hj) rfl rfl rfl rfl (Nat.le_of_ble_eq_true rfl) ?_
  refine MW.astore_n dX5_bar_5 rfl rfl ?_
  refine MW.aload_n dX5_bar_6 rfl ?_
  refine MW.callV1 fX5_bar_7 (6 + _) (hw_pal (show j < 8 by omega)) (c_stands (show j < 8 by omega)) rfl rfl rfl rfl (Nat.le_of_ble_eq_true rfl) ?_
  refine MW.if_eq 23 dX5_bar_10 (by decide) (fun hc10 => ?_) (fun hc10 => absurd (bI_0.mpr (fun z => z h2)) hc10)
  refine MW.aload_n dX5_bar_23 rfl ?_
  refine MW.getf fX5_bar_24 0 rfl rfl ?_
  refine MW.aload_n dX5_bar_27 rfl ?_
  refine MW.callV1 fX5_bar_28 1 rfl (c_barFromAllCells hk hk8 hn hn12 (show j < 8 by omega)) rfl rfl rfl rfl (Nat.le_of_ble_eq_true rfl) ?_
  exact MW.ireturn dX5_bar_31 rfl (rfl) rt_r
set_option maxHeartbeats 2000000 in
theorem c_change_x0 {k : Nat} (hk : i 3 = nI k) (hk8 : k ≤ 8) {p s : Int32} (h1 : ¬ (0 ≤ p ∧ p < nI k)) (hmc : mc + 1 ≤ mi_CC) (hms : ms + 6 ≤ mi_CS) : MC (En l D t b L xs) MX5_change 20 [.ref (q 0), .int p, .int s] (hw t q i a w) mc ms (xt 0 (hw t q i a w) mc ms) := by
  show MW _ _ _ 0 [some (.ref (q 0)), some (.int p), some (.int s), none] [] _ _ _ _
  refine MW.aload_n dX5_change_0 rfl ?_
  refine MW.iload_n dX5_change_1 rfl ?_
  exact MW.thrV fX5_change_2 0 rfl (c_kp_no hk hk8 h1 hmc hms) rfl rfl rfl rfl (Nat.le_of_ble_eq_true rfl) rfl xt_r
set_option maxHeartbeats 2000000 in
theorem c_change_x1 {k : Nat} (hk : i 3 = nI k) (hk8 : k ≤ 8) {j : Nat} (hj : j < k) {s : Int32} (h2 : ¬ (1 ≤ s ∧ s ≤ 9)) (hmc : mc + 1 ≤ mi_CC) (hms : ms + 6 ≤ mi_CS) : MC (En l D t b L xs) MX5_change 20 [.ref (q 0), .int (nI j), .int s] (hw t q i a w) mc ms (xt 1 (hw t q i a w) mc ms) := by
  show MW _ _ _ 0 [some (.ref (q 0)), some (.int (nI j)), some (.int s), none] [] _ _ _ _
  refine MW.aload_n dX5_change_0 rfl ?_
  refine MW.iload_n dX5_change_1 rfl ?_
  refine MW.callV1 fX5_change_2 0 rfl (c_kp_ok hk hk8 hj) rfl rfl rfl rfl (Nat.le_of_ble_eq_true rfl) ?_
  refine MW.astore_n dX5_change_5 rfl rfl ?_
  refine MW.iload_n dX5_change_6 rfl ?_
  refine MW.iconst (v := 1) dX5_change_7 (by decide) ?_
  refine MW.bipush (v := 9) dX5_change_8 (by decide) ?_
  exact MW.thrS fX5_change_10 (c_rw_no h2 hmc hms) rfl rfl rfl rfl (Nat.le_of_ble_eq_true rfl) rfl xt_r
set_option maxHeartbeats 2000000 in
theorem c_change_x2 {k : Nat} (hk : i 3 = nI k) (hk8 : k ≤ 8) {j : Nat} (hj : j < k) {s : Int32} (h2 : 1 ≤ s ∧ s ≤ 9) (h3 : ¬ i 0 = 0) (hmc : mc + 1 ≤ mi_CC) (hms : ms + 6 ≤ mi_CS) : MC (En l D t b L xs) MX5_change 20 [.ref (q 0), .int (nI j), .int s] (hw t q i a w) mc ms (xt 2 (hw t q i a w) mc ms) := by
  show MW _ _ _ 0 [some (.ref (q 0)), some (.int (nI j)), some (.int s), none] [] _ _ _ _
  refine MW.aload_n dX5_change_0 rfl ?_
  refine MW.iload_n dX5_change_1 rfl ?_
  refine MW.callV1 fX5_change_2 0 rfl (c_kp_ok hk hk8 hj) rfl rfl rfl rfl (Nat.le_of_ble_eq_true rfl) ?_
  refine MW.astore_n dX5_change_5 rfl rfl ?_
  refine MW.iload_n dX5_change_6 rfl ?_
  refine MW.iconst (v := 1) dX5_change_7 (by decide) ?_
  refine MW.bipush (v := 9) dX5_change_8 (by decide) ?_
  refine MW.callS0 fX5_change_10 (c_rw_ok h2) rfl rfl rfl rfl (Nat.le_of_ble_eq_true rfl) ?_
  refine MW.aload_n dX5_change_13 rfl ?_
  exact MW.thrV fX5_change_14 0 rfl (c_rs_no h3 hmc hms) rfl rfl rfl rfl (Nat.le_of_ble_eq_true rfl) rfl xt_r
set_option maxHeartbeats 2000000 in
theorem c_change_ok {k : Nat} (hk : i 3 = nI k) (hk8 : k ≤ 8) {j : Nat} (hj : j < k) {s : Int32} (h2 : 1 ≤ s ∧ s ≤ 9) (h3 : i 0 = 0) : MC (En l D t b L xs) MX5_change 20 [.ref (q 0), .int (nI j), .int s] (hw t q i a w) mc ms (rt (some (.int (bI (¬ (¬ a 7 j = -1 ∧ spP (a 5) (a 7) k j s (a 7 j)))))) (hw t q i (au a 5 (cS (¬ a 7 j = -1 ∧ spP (a 5) (a 7) k j s (a 7 j)) (a 5) (upd (a 5) j s))) w) mc ms) := by
  show MW _ _ _ 0 [some (.ref (q 0)), some (.int (nI j)), some (.int s), none] [] _ _ _ _
  refine MW.aload_n dX5_change_0 rfl ?_
  refine MW.iload_n dX5_change_1 rfl ?_
  refine MW.callV1 fX5_change_2 0 rfl (c_kp_ok hk hk8 hj) rfl rfl rfl rfl (Nat.le_of_ble_eq_true rfl) ?_
  refine MW.astore_n dX5_change_5 rfl rfl ?_
  refine MW.iload_n dX5_change_6 rfl ?_
  refine MW.iconst (v := 1) dX5_change_7 (by decide) ?_
  refine MW.bipush (v := 9) dX5_change_8 (by decide) ?_
  refine MW.callS0 fX5_change_10 (c_rw_ok h2) rfl rfl rfl rfl (Nat.le_of_ble_eq_true rfl) ?_
  refine MW.aload_n dX5_change_13 rfl ?_
  refine MW.callV0 fX5_change_14 0 rfl (c_rs_ok h3) rfl rfl rfl rfl (Nat.le_of_ble_eq_true rfl) ?_
  refine MW.aload_n dX5_change_17 rfl ?_
  refine MW.callV1 fX5_change_18 (6 + _) (hw_pal (show j < 8 by omega)) (c_stands (show j < 8 by omega)) rfl rfl rfl rfl (Nat.le_of_ble_eq_true rfl) ?_
  refine MW.if_eq 42 dX5_change_21 (by decide) (fun hc21 => ?_) (fun hc21 => ?_)
  · skip
    refine MW.aload_n dX5_change_42 rfl ?_
    refine MW.iload_n dX5_change_43 rfl ?_
    refine MW.pp3 fX5_change_44 (show j < 8 by omega) (rfl) (rfl) ?_
    refine MW.iconst (v := 1) dX5_change_47 (by decide) ?_
    exact MW.ireturn dX5_change_48 rfl (rfl) (by first | (rw [cS_f (fun z : (¬ a 7 j = -1 ∧ spP (a 5) (a 7) k j s (a 7 j)) => zz hc21 z.1)]; exact rtb_t (fun z => zz hc21 z.1)) | (rw [cS_f (fun z : (¬ a 7 j = -1 ∧ spP (a 5) (a 7) k j s (a 7 j)) => zz hc37 z.2)]; exact rtb_t (fun z => zz hc37 z.2)))
  · skip
    refine MW.aload_n dX5_change_24 rfl ?_
    refine MW.getf fX5_change_25 0 rfl rfl ?_
    refine MW.aload_n dX5_change_28 rfl ?_
    refine MW.iload_n dX5_change_29 rfl ?_
    refine MW.aload_n dX5_change_30 rfl ?_
    refine MW.pg5 fX5_change_31 (show j < 8 by omega) ?_
    refine MW.callV1 fX5_change_34 1 rfl (c_stopsBar hk hk8 (show j < 8 by omega)) rfl rfl rfl rfl (Nat.le_of_ble_eq_true rfl) ?_
    refine MW.if_eq 42 dX5_change_37 (by decide) (fun hc37 => ?_) (fun hc37 => ?_)
    · skip
      refine MW.aload_n dX5_change_42 rfl ?_
      refine MW.iload_n dX5_change_43 rfl ?_
      refine MW.pp3 fX5_change_44 (show j < 8 by omega) (rfl) (rfl) ?_
      refine MW.iconst (v := 1) dX5_change_47 (by decide) ?_
      exact MW.ireturn dX5_change_48 rfl (rfl) (by first | (rw [cS_f (fun z : (¬ a 7 j = -1 ∧ spP (a 5) (a 7) k j s (a 7 j)) => zz hc21 z.1)]; exact rtb_t (fun z => zz hc21 z.1)) | (rw [cS_f (fun z : (¬ a 7 j = -1 ∧ spP (a 5) (a 7) k j s (a 7 j)) => zz hc37 z.2)]; exact rtb_t (fun z => zz hc37 z.2)))
    · skip
      refine MW.iconst (v := 0) dX5_change_40 (by decide) ?_
      exact MW.ireturn dX5_change_41 rfl (rfl) (by rw [cS_t ⟨nz hc21, nz hc37⟩, au_self]; exact rtb_f (fun z => z ⟨nz hc21, nz hc37⟩))
set_option maxHeartbeats 2000000 in
theorem c_doors_x2 {o : Int32} (h1 : ¬ o = 0) (h2 : ¬ i 11 = 0) (hmc : mc + 1 ≤ mi_CC) (hms : ms + 6 ≤ mi_CS) : MC (En l D t b L xs) MX5_doors 20 [.ref (q 0), .int o] (hw t q i a w) mc ms (xt 2 (hw t q i a w) mc ms) := by
  show MW _ _ _ 0 [some (.ref (q 0)), some (.int o), none] [] _ _ _ _
  refine MW.iload_n dX5_doors_0 rfl ?_
  refine MW.if_eq 8 dX5_doors_1 (by decide) (fun hc1 => absurd hc1 h1) (fun hc1 => ?_)
  refine MW.aload_n dX5_doors_4 rfl ?_
  exact MW.thrV fX5_doors_5 0 rfl (c_rn_no h2 hmc hms) rfl rfl rfl rfl (Nat.le_of_ble_eq_true rfl) rfl xt_r
set_option maxHeartbeats 2000000 in
theorem c_doors_ok {o : Int32} (ho : o = 0 ∨ o = 1) (hb : i 0 = 0 ∨ i 0 = 1) (h1 : o = 0 ∨ i 11 = 0) : MC (En l D t b L xs) MX5_doors 20 [.ref (q 0), .int o] (hw t q i a w) mc ms (rt (some (.int (i 0))) (hw t q (upd i 0 o) a w) mc ms) := by
  show MW _ _ _ 0 [some (.ref (q 0)), some (.int o), none] [] _ _ _ _
  refine MW.iload_n dX5_doors_0 rfl ?_
  refine MW.if_eq 8 dX5_doors_1 (by decide) (fun hc1 => ?_) (fun hc1 => ?_)
  · skip
    refine MW.aload_n dX5_doors_8 rfl ?_
    refine MW.getf fX5_doors_9 0 rfl rfl ?_
    refine MW.istore_n dX5_doors_12 rfl rfl ?_
    refine MW.aload_n dX5_doors_13 rfl ?_
    refine MW.iload_n dX5_doors_14 rfl ?_
    refine MW.putf fX5_doors_15 0 rfl (nar_b ho) (fit_b ho) rfl ?_
    refine MW.heap hw_s5_3 ?_
    refine MW.iload_n dX5_doors_18 rfl ?_
    exact MW.ireturn dX5_doors_19 rfl (nar_b hb) rt_r
  · skip
    refine MW.aload_n dX5_doors_4 rfl ?_
    refine MW.callV0 fX5_doors_5 0 rfl (c_rn_ok (h1.resolve_left hc1)) rfl rfl rfl rfl (Nat.le_of_ble_eq_true rfl) ?_
    refine MW.aload_n dX5_doors_8 rfl ?_
    refine MW.getf fX5_doors_9 0 rfl rfl ?_
    refine MW.istore_n dX5_doors_12 rfl rfl ?_
    refine MW.aload_n dX5_doors_13 rfl ?_
    refine MW.iload_n dX5_doors_14 rfl ?_
    refine MW.putf fX5_doors_15 0 rfl (nar_b ho) (fit_b ho) rfl ?_
    refine MW.heap hw_s5_3 ?_
    refine MW.iload_n dX5_doors_18 rfl ?_
    exact MW.ireturn dX5_doors_19 rfl (nar_b hb) rt_r
set_option maxHeartbeats 2000000 in
theorem c_seal_x1 {x : Int32} (h1 : ¬ (1 ≤ x ∧ x ≤ 1000000)) (hmc : mc + 1 ≤ mi_CC) (hms : ms + 6 ≤ mi_CS) : MC (En l D t b L xs) MX5_seal 20 [.ref (q 0), .int x] (hw t q i a w) mc ms (xt 1 (hw t q i a w) mc ms) := by
  show MW _ _ _ 0 [some (.ref (q 0)), some (.int x)] [] _ _ _ _
  refine MW.iload_n dX5_seal_0 rfl ?_
  refine MW.iconst (v := 1) dX5_seal_1 (by decide) ?_
  refine MW.ldc dX5_seal_2 fX5_seal_2 ?_
  exact MW.thrS fX5_seal_4 (c_rw_no h1 hmc hms) rfl rfl rfl rfl (Nat.le_of_ble_eq_true rfl) rfl xt_r
set_option maxHeartbeats 2000000 in
theorem c_seal_x2 {x : Int32} (h1 : 1 ≤ x ∧ x ≤ 1000000) (h2 : ¬ i 0 = 0 ∨ ¬ i 11 = 0) (hmc : mc + 1 ≤ mi_CC) (hms : ms + 6 ≤ mi_CS) : MC (En l D t b L xs) MX5_seal 20 [.ref (q 0), .int x] (hw t q i a w) mc ms (xt 2 (hw t q i a w) mc ms) := by
  show MW _ _ _ 0 [some (.ref (q 0)), some (.int x)] [] _ _ _ _
  refine MW.iload_n dX5_seal_0 rfl ?_
  refine MW.iconst (v := 1) dX5_seal_1 (by decide) ?_
  refine MW.ldc dX5_seal_2 fX5_seal_2 ?_
  refine MW.callS0 fX5_seal_4 (c_rw_ok h1) rfl rfl rfl rfl (Nat.le_of_ble_eq_true rfl) ?_
  refine MW.aload_n dX5_seal_7 rfl ?_
  by_cases hq8 : i 0 = 0
  · skip
    refine MW.callV0 fX5_seal_8 0 rfl (c_rs_ok hq8) rfl rfl rfl rfl (Nat.le_of_ble_eq_true rfl) ?_
    refine MW.aload_n dX5_seal_11 rfl ?_
    by_cases hq12 : i 11 = 0
    · skip
      refine MW.callV0 fX5_seal_12 0 rfl (c_rn_ok hq12) rfl rfl rfl rfl (Nat.le_of_ble_eq_true rfl) ?_
      exact absurd hq12 (h2.elim (fun z => absurd hq8 z) id)
    · skip
      exact MW.thrV fX5_seal_12 0 rfl (c_rn_no hq12 hmc hms) rfl rfl rfl rfl (Nat.le_of_ble_eq_true rfl) rfl xt_r
  · skip
    exact MW.thrV fX5_seal_8 0 rfl (c_rs_no hq8 hmc hms) rfl rfl rfl rfl (Nat.le_of_ble_eq_true rfl) rfl xt_r
set_option maxHeartbeats 2000000 in
theorem c_seal_x3 {x : Int32} (h1 : 1 ≤ x ∧ x ≤ 1000000) (h2 : i 0 = 0) (h3 : i 11 = 0) (h4 : i 10 = 10) (hmc : mc + 1 ≤ mi_CC) (hms : ms + 6 ≤ mi_CS) : MC (En l D t b L xs) MX5_seal 20 [.ref (q 0), .int x] (hw t q i a w) mc ms (xt 3 (hw t q i a w) mc ms) := by
  show MW _ _ _ 0 [some (.ref (q 0)), some (.int x)] [] _ _ _ _
  refine MW.iload_n dX5_seal_0 rfl ?_
  refine MW.iconst (v := 1) dX5_seal_1 (by decide) ?_
  refine MW.ldc dX5_seal_2 fX5_seal_2 ?_
  refine MW.callS0 fX5_seal_4 (c_rw_ok h1) rfl rfl rfl rfl (Nat.le_of_ble_eq_true rfl) ?_
  refine MW.aload_n dX5_seal_7 rfl ?_
  refine MW.callV0 fX5_seal_8 0 rfl (c_rs_ok h2) rfl rfl rfl rfl (Nat.le_of_ble_eq_true rfl) ?_
  refine MW.aload_n dX5_seal_11 rfl ?_
  refine MW.callV0 fX5_seal_12 0 rfl (c_rn_ok h3) rfl rfl rfl rfl (Nat.le_of_ble_eq_true rfl) ?_
  refine MW.aload_n dX5_seal_15 rfl ?_
  refine MW.getf fX5_seal_16 0 rfl rfl ?_
  refine MW.getf fX5_seal_19 16 rfl rfl ?_
  refine MW.bipush (v := 10) dX5_seal_22 (by decide) ?_
  refine MW.icmp_lt 37 dX5_seal_24 (by decide) (fun hc24 => absurd hc24 (show ¬ i 10 < 10 by rw [h4]; decide)) (fun hc24 => ?_)
  exact MW.throwS fX5_seal_27 (Nat.le_of_ble_eq_true rfl) hmc hms xt_r
set_option maxHeartbeats 2000000 in
theorem c_seal_no {g : Nat} (hg : i 10 = nI g) (hg10 : g ≤ 10) (hg9 : g < 10) {x : Int32} (h1 : 1 ≤ x ∧ x ≤ 1000000) (h2 : i 0 = 0) (h3 : i 11 = 0) (h4 : ∃ m, m < g ∧ a 9 m = x) : MC (En l D t b L xs) MX5_seal 20 [.ref (q 0), .int x] (hw t q i a w) mc ms (rt (some (.int 0)) (hw t q i a w) mc ms) := by
  show MW _ _ _ 0 [some (.ref (q 0)), some (.int x)] [] _ _ _ _
  refine MW.iload_n dX5_seal_0 rfl ?_
  refine MW.iconst (v := 1) dX5_seal_1 (by decide) ?_
  refine MW.ldc dX5_seal_2 fX5_seal_2 ?_
  refine MW.callS0 fX5_seal_4 (c_rw_ok h1) rfl rfl rfl rfl (Nat.le_of_ble_eq_true rfl) ?_
  refine MW.aload_n dX5_seal_7 rfl ?_
  refine MW.callV0 fX5_seal_8 0 rfl (c_rs_ok h2) rfl rfl rfl rfl (Nat.le_of_ble_eq_true rfl) ?_
  refine MW.aload_n dX5_seal_11 rfl ?_
  refine MW.callV0 fX5_seal_12 0 rfl (c_rn_ok h3) rfl rfl rfl rfl (Nat.le_of_ble_eq_true rfl) ?_
  refine MW.aload_n dX5_seal_15 rfl ?_
  refine MW.getf fX5_seal_16 0 rfl rfl ?_
  refine MW.getf fX5_seal_19 16 rfl rfl ?_
  refine MW.bipush (v := 10) dX5_seal_22 (by decide) ?_
  refine MW.icmp_lt 37 dX5_seal_24 (by decide) (fun hc24 => ?_) (fun hc24 => absurd (show i 10 < 10 by rw [hg]; exact nI_lt (b := 10) hg9 (by omega)) hc24)
  refine MW.aload_n dX5_seal_37 rfl ?_
  refine MW.getf fX5_seal_38 0 rfl rfl ?_
  refine MW.iload_n dX5_seal_41 rfl ?_
  refine MW.callV1 fX5_seal_42 16 rfl (c_wasOn hg hg10) rfl rfl rfl rfl (Nat.le_of_ble_eq_true rfl) ?_
  refine MW.if_eq 50 dX5_seal_45 (by decide) (fun hc45 => absurd hc45 (fun z => zz z h4)) (fun hc45 => ?_)
  refine MW.iconst (v := 0) dX5_seal_48 (by decide) ?_
  exact MW.ireturn dX5_seal_49 rfl (rfl) rt_r
set_option maxHeartbeats 2000000 in
theorem c_seal_ok {g : Nat} (hg : i 10 = nI g) (hg10 : g ≤ 10) (hg9 : g < 10) {x : Int32} (h1 : 1 ≤ x ∧ x ≤ 1000000) (h2 : i 0 = 0) (h3 : i 11 = 0) (h4 : ¬ ∃ m, m < g ∧ a 9 m = x) : MC (En l D t b L xs) MX5_seal 20 [.ref (q 0), .int x] (hw t q i a w) mc ms (rt (some (.int 1)) (hw t q (upd (upd i 10 (nI (g + 1))) 11 x) (au a 9 (upd (a 9) g x)) w) mc ms) := by
  show MW _ _ _ 0 [some (.ref (q 0)), some (.int x)] [] _ _ _ _
  refine MW.iload_n dX5_seal_0 rfl ?_
  refine MW.iconst (v := 1) dX5_seal_1 (by decide) ?_
  refine MW.ldc dX5_seal_2 fX5_seal_2 ?_
  refine MW.callS0 fX5_seal_4 (c_rw_ok h1) rfl rfl rfl rfl (Nat.le_of_ble_eq_true rfl) ?_
  refine MW.aload_n dX5_seal_7 rfl ?_
  refine MW.callV0 fX5_seal_8 0 rfl (c_rs_ok h2) rfl rfl rfl rfl (Nat.le_of_ble_eq_true rfl) ?_
  refine MW.aload_n dX5_seal_11 rfl ?_
  refine MW.callV0 fX5_seal_12 0 rfl (c_rn_ok h3) rfl rfl rfl rfl (Nat.le_of_ble_eq_true rfl) ?_
  refine MW.aload_n dX5_seal_15 rfl ?_
  refine MW.getf fX5_seal_16 0 rfl rfl ?_
  refine MW.getf fX5_seal_19 16 rfl rfl ?_
  refine MW.bipush (v := 10) dX5_seal_22 (by decide) ?_
  refine MW.icmp_lt 37 dX5_seal_24 (by decide) (fun hc24 => ?_) (fun hc24 => absurd (show i 10 < 10 by rw [hg]; exact nI_lt (b := 10) hg9 (by omega)) hc24)
  refine MW.aload_n dX5_seal_37 rfl ?_
  refine MW.getf fX5_seal_38 0 rfl rfl ?_
  refine MW.iload_n dX5_seal_41 rfl ?_
  refine MW.callV1 fX5_seal_42 16 rfl (c_wasOn hg hg10) rfl rfl rfl rfl (Nat.le_of_ble_eq_true rfl) ?_
  refine MW.if_eq 50 dX5_seal_45 (by decide) (fun hc45 => ?_) (fun hc45 => absurd (bI_0.mpr h4) hc45)
  refine MW.aload_n dX5_seal_50 rfl ?_
  refine MW.getf fX5_seal_51 0 rfl rfl ?_
  refine MW.iload_n dX5_seal_54 rfl ?_
  refine MW.callV0 fX5_seal_55 16 rfl (c_putOn hg hg10 hg9) rfl rfl rfl rfl (Nat.le_of_ble_eq_true rfl) ?_
  refine MW.iconst (v := 1) dX5_seal_58 (by decide) ?_
  exact MW.ireturn dX5_seal_59 rfl (rfl) rt_r
set_option maxHeartbeats 2000000 in
theorem c_broken_x2 (h1 : i 11 = 0) (hmc : mc + 1 ≤ mi_CC) (hms : ms + 6 ≤ mi_CS) : MC (En l D t b L xs) MX5_broken 20 [.ref (q 0)] (hw t q i a w) mc ms (xt 2 (hw t q i a w) mc ms) := by
  show MW _ _ _ 0 [some (.ref (q 0))] [] _ _ _ _
  refine MW.aload_n dX5_broken_0 rfl ?_
  refine MW.getf fX5_broken_1 0 rfl rfl ?_
  refine MW.callV1 fX5_broken_4 16 rfl (c_isOn) rfl rfl rfl rfl (Nat.le_of_ble_eq_true rfl) ?_
  refine MW.if_ne 20 dX5_broken_7 (by decide) (fun hc7 => absurd (bI_0.mpr (fun z => z h1)) hc7) (fun hc7 => ?_)
  exact MW.throwS fX5_broken_10 (Nat.le_of_ble_eq_true rfl) hmc hms xt_r
set_option maxHeartbeats 2000000 in
theorem c_broken_ok (h1 : ¬ i 11 = 0) : MC (En l D t b L xs) MX5_broken 20 [.ref (q 0)] (hw t q i a w) mc ms (rt (some (.int (i 11))) (hw t q (upd i 11 0) a w) mc ms) := by
  show MW _ _ _ 0 [some (.ref (q 0))] [] _ _ _ _
  refine MW.aload_n dX5_broken_0 rfl ?_
  refine MW.getf fX5_broken_1 0 rfl rfl ?_
  refine MW.callV1 fX5_broken_4 16 rfl (c_isOn) rfl rfl rfl rfl (Nat.le_of_ble_eq_true rfl) ?_
  refine MW.if_ne 20 dX5_broken_7 (by decide) (fun hc7 => ?_) (fun hc7 => absurd hc7 (fun z => zz z h1))
  refine MW.aload_n dX5_broken_20 rfl ?_
  refine MW.getf fX5_broken_21 0 rfl rfl ?_
  refine MW.callV1 fX5_broken_24 16 rfl (c_takeOff) rfl rfl rfl rfl (Nat.le_of_ble_eq_true rfl) ?_
  exact MW.ireturn dX5_broken_27 rfl (rfl) rt_r
set_option maxHeartbeats 2000000 in
theorem c_order_x1 {s x : Int32} (h1 : ¬ ((1 ≤ s ∧ s ≤ 9) ∧ 0 ≤ x)) (hmc : mc + 1 ≤ mi_CC) (hms : ms + 6 ≤ mi_CS) : MC (En l D t b L xs) MX5_order 20 [.ref (q 0), .int s, .int x] (hw t q i a w) mc ms (xt 1 (hw t q i a w) mc ms) := by
  show MW _ _ _ 0 [some (.ref (q 0)), some (.int s), some (.int x)] [] _ _ _ _
  refine MW.iload_n dX5_order_0 rfl ?_
  refine MW.iconst (v := 1) dX5_order_1 (by decide) ?_
  refine MW.bipush (v := 9) dX5_order_2 (by decide) ?_
  by_cases hq4 : 1 ≤ s ∧ s ≤ 9
  · skip
    refine MW.callS0 fX5_order_4 (c_rw_ok hq4) rfl rfl rfl rfl (Nat.le_of_ble_eq_true rfl) ?_
    refine MW.iload_n dX5_order_7 rfl ?_
    refine MW.if_ge 21 dX5_order_8 (by decide) (fun hc8 => absurd hc8 (fun z => h1 ⟨hq4, z⟩)) (fun hc8 => ?_)
    exact MW.throwS fX5_order_11 (Nat.le_of_ble_eq_true rfl) hmc hms xt_r
  · skip
    exact MW.thrS fX5_order_4 (c_rw_no hq4 hmc hms) rfl rfl rfl rfl (Nat.le_of_ble_eq_true rfl) rfl xt_r
set_option maxHeartbeats 2000000 in
theorem c_order_ok {k : Nat} (hk : i 3 = nI k) (hk8 : k ≤ 8) {n : Nat} (hn : i 2 = nI n) (hn12 : n ≤ 12) {s x : Int32} (h1 : (1 ≤ s ∧ s ≤ 9) ∧ 0 ≤ x) : MC (En l D t b L xs) MX5_order 20 [.ref (q 0), .int s, .int x] (hw t q i a w) mc ms (rt (some (.int (fdr (fun m => sfr (fun p => a 7 p = nI m ∧ a 5 p = s) k 0) x n 0))) (hw t q i a w) mc ms) := by
  show MW _ _ _ 0 [some (.ref (q 0)), some (.int s), some (.int x)] [] _ _ _ _
  refine MW.iload_n dX5_order_0 rfl ?_
  refine MW.iconst (v := 1) dX5_order_1 (by decide) ?_
  refine MW.bipush (v := 9) dX5_order_2 (by decide) ?_
  refine MW.callS0 fX5_order_4 (c_rw_ok h1.1) rfl rfl rfl rfl (Nat.le_of_ble_eq_true rfl) ?_
  refine MW.iload_n dX5_order_7 rfl ?_
  refine MW.if_ge 21 dX5_order_8 (by decide) (fun hc8 => ?_) (fun hc8 => absurd h1.2 hc8)
  refine MW.aload_n dX5_order_21 rfl ?_
  refine MW.getf fX5_order_22 0 rfl rfl ?_
  refine MW.iload_n dX5_order_25 rfl ?_
  refine MW.iload_n dX5_order_26 rfl ?_
  refine MW.callV1 fX5_order_27 1 rfl (c_fromDoors hk hk8 hn hn12) rfl rfl rfl rfl (Nat.le_of_ble_eq_true rfl) ?_
  exact MW.ireturn dX5_order_30 rfl (rfl) rt_r
set_option maxHeartbeats 2000000 in
theorem c_manifest_x1 {x : Int32} (h1 : ¬ (0 ≤ x ∧ x ≤ 10000)) (hmc : mc + 1 ≤ mi_CC) (hms : ms + 6 ≤ mi_CS) : MC (En l D t b L xs) MX5_manifest 20 [.ref (q 0), .int x] (hw t q i a w) mc ms (xt 1 (hw t q i a w) mc ms) := by
  show MW _ _ _ 0 [some (.ref (q 0)), some (.int x)] [] _ _ _ _
  refine MW.iload_n dX5_manifest_0 rfl ?_
  refine MW.iconst (v := 0) dX5_manifest_1 (by decide) ?_
  refine MW.sipush (v := 10000) dX5_manifest_2 (by decide) ?_
  exact MW.thrS fX5_manifest_5 (c_rw_no h1 hmc hms) rfl rfl rfl rfl (Nat.le_of_ble_eq_true rfl) rfl xt_r
set_option maxHeartbeats 2000000 in
theorem c_manifest_ok {k : Nat} (hk : i 3 = nI k) (hk8 : k ≤ 8) {x : Int32} (h1 : 0 ≤ x ∧ x ≤ 10000) : MC (En l D t b L xs) MX5_manifest 20 [.ref (q 0), .int x] (hw t q i a w) mc ms (rt (some (.int (x - wtn (a 2) (a 7) k))) (hw t q i a w) mc ms) := by
  show MW _ _ _ 0 [some (.ref (q 0)), some (.int x)] [] _ _ _ _
  refine MW.iload_n dX5_manifest_0 rfl ?_
  refine MW.iconst (v := 0) dX5_manifest_1 (by decide) ?_
  refine MW.sipush (v := 10000) dX5_manifest_2 (by decide) ?_
  refine MW.callS0 fX5_manifest_5 (c_rw_ok h1) rfl rfl rfl rfl (Nat.le_of_ble_eq_true rfl) ?_
  refine MW.iload_n dX5_manifest_8 rfl ?_
  refine MW.aload_n dX5_manifest_9 rfl ?_
  refine MW.getf fX5_manifest_10 0 rfl rfl ?_
  refine MW.callV1 fX5_manifest_13 1 rfl (c_weight hk hk8) rfl rfl rfl rfl (Nat.le_of_ble_eq_true rfl) ?_
  refine MW.isub dX5_manifest_16 ?_
  exact MW.ireturn dX5_manifest_17 rfl (rfl) rt_r
end Face2
end
section
section Switch
variable {E : mi_E} {M : mi_M} {d pc : Nat} {lv : List (Option Value)} {st : List Value} {h : va_W} {mc ms : Nat} {Q : mi_O → va_W → Nat → Nat → Prop}
theorem MW.tableIn {dflt lo hi : Int} {offs : Array Int} {len : Nat} {x : Int32} {off : Int} (tgt : Nat) (hd : decode M.2.1 pc = .ok (Instr.tableswitch dflt lo hi offs, len)) (h1 : ¬ x.toInt < lo) (h2 : ¬ hi < x.toInt) (ho : offs[(x.toInt - lo).toNat]? = some off) (ht : (pc : Int) + off = (tgt : Int)) (k : MW E M d tgt lv st h mc ms Q) : MW E M d pc lv (.int x :: st) h mc ms Q := by
  intro p e R s m args below meth c H locs ls A cb sb Z hp hz
  exact lv_tableIn hp.1.1 hp.1.2.1 hd h1 h2 ho ht (k p e R s m args below meth c H locs ls A cb sb Z hp hz)
theorem MW.tableOut {dflt lo hi : Int} {offs : Array Int} {len : Nat} {x : Int32} (tgt : Nat) (hd : decode M.2.1 pc = .ok (Instr.tableswitch dflt lo hi offs, len)) (h1 : x.toInt < lo ∨ hi < x.toInt) (ht : (pc : Int) + dflt = (tgt : Int)) (k : MW E M d tgt lv st h mc ms Q) : MW E M d pc lv (.int x :: st) h mc ms Q := by
  intro p e R s m args below meth c H locs ls A cb sb Z hp hz
  exact lv_tableOut hp.1.1 hp.1.2.1 hd h1 ht (k p e R s m args below meth c H locs ls A cb sb Z hp hz)
end Switch
/-- Java's % -/
def rmd (x y : Int32) : Int32 := x - x / y * y
/-- the first divisor of both from m down -/
def slr (up lo told : Int32) : Nat → Int32
  | 0 => told
  | m + 1 => if 1 < nI (m + 1) ∧ rmd up (nI (m + 1)) = 0 ∧ rmd lo (nI (m + 1)) = 0 then told / nI (m + 1) else slr up lo told m
theorem nI_ne {m : Nat} (h : m + 1 < 2 ^ 31) : ¬ nI (m + 1) = 0 := nI_ne0 (by omega) h
section Side
variable {E : mi_E} {h : va_W} {d mc ms : Nat}
set_option maxHeartbeats 2000000 in
theorem l_side {up lo side told : Int32} : ∀ (m : Nat), m ≤ 100 → MW E MX5_sideInLowestTerms d 13 [some (.int up), some (.int lo), some (.int side), some (.int told), some (.int (nI m))] [] h mc ms (rt (some (.int (slr up lo told m))) h mc ms) := by
  intro m
  induction m with
  | zero =>
    intro hm
    refine MW.iload dX5_sideInLowestTerms_13 rfl ?_
    refine MW.iconst (v := 1) dX5_sideInLowestTerms_15 (by decide) ?_
    refine MW.icmp_le 44 dX5_sideInLowestTerms_16 (by decide) (fun hc16 => ?_) (fun hc16 => absurd (show (nI 0 : Int32) ≤ 1 by decide) hc16)
    refine MW.iload_n dX5_sideInLowestTerms_44 rfl ?_
    exact MW.ireturn dX5_sideInLowestTerms_45 rfl (rfl) rt_r
  | succ m ih =>
    intro hm
    have hne : ¬ nI (m + 1) = 0 := nI_ne (by omega)
    refine MW.iload dX5_sideInLowestTerms_13 rfl ?_
    refine MW.iconst (v := 1) dX5_sideInLowestTerms_15 (by decide) ?_
    refine MW.icmp_le 44 dX5_sideInLowestTerms_16 (by decide) (fun hc16 => ?_) (fun hc16 => ?_)
    · skip
      refine MW.iload_n dX5_sideInLowestTerms_44 rfl ?_
      exact MW.ireturn dX5_sideInLowestTerms_45 rfl (rfl) (rt_e (by
  have hm0 : m = 0 := by
    rcases Nat.eq_zero_or_pos m with z | z
    · exact z
    · exact absurd hc16 (nI_ge (a := 1) (by omega) (by omega))
  subst hm0
  exact (if_neg (fun z => absurd z.1 (Int32.not_lt.mpr hc16)))))
    · skip
      refine MW.iload_n dX5_sideInLowestTerms_19 rfl ?_
      refine MW.iload dX5_sideInLowestTerms_20 rfl ?_
      refine MW.irem dX5_sideInLowestTerms_22 (hne) ?_
      refine MW.if_ne 38 dX5_sideInLowestTerms_23 (by decide) (fun hc23 => ?_) (fun hc23 => ?_)
      · skip
        refine MW.iincd dX5_sideInLowestTerms_38 rfl rfl rfl ?_
        refine MW.goto 13 dX5_sideInLowestTerms_41 (by decide) ?_
        refine MW.mono (ih (by omega)) (fun o h1 mc1 ms1 z => ?_)
        rw [show slr up lo told (m + 1) = slr up lo told m from if_neg (fun y => by first | exact absurd y.2.1 (by assumption) | exact absurd y.2.2 (by assumption))]
        exact z
      · skip
        refine MW.iload_n dX5_sideInLowestTerms_26 rfl ?_
        refine MW.iload dX5_sideInLowestTerms_27 rfl ?_
        refine MW.irem dX5_sideInLowestTerms_29 (hne) ?_
        refine MW.if_ne 38 dX5_sideInLowestTerms_30 (by decide) (fun hc30 => ?_) (fun hc30 => ?_)
        · skip
          refine MW.iincd dX5_sideInLowestTerms_38 rfl rfl rfl ?_
          refine MW.goto 13 dX5_sideInLowestTerms_41 (by decide) ?_
          refine MW.mono (ih (by omega)) (fun o h1 mc1 ms1 z => ?_)
          rw [show slr up lo told (m + 1) = slr up lo told m from if_neg (fun y => by first | exact absurd y.2.1 (by assumption) | exact absurd y.2.2 (by assumption))]
          exact z
        · skip
          refine MW.iload_n dX5_sideInLowestTerms_33 rfl ?_
          refine MW.iload dX5_sideInLowestTerms_34 rfl ?_
          refine MW.idiv dX5_sideInLowestTerms_36 (hne) ?_
          exact MW.ireturn dX5_sideInLowestTerms_37 rfl (rfl) (rt_e (if_pos ⟨Int32.not_le.mp hc16, hc23, hc30⟩))
theorem c_side {up side : Int32} {m : Nat} (hm : m ≤ 100) : MC E MX5_sideInLowestTerms d [.int up, .int (nI m), .int side] h mc ms (rt (some (.int (slr up (nI m) (if side = 0 then up else nI m) m))) h mc ms) := by
  show MW _ _ _ 0 [some (.int up), some (.int (nI m)), some (.int side), none, none] [] _ _ _ _
  refine MW.iload_n dX5_sideInLowestTerms_0 rfl ?_
  refine MW.if_ne 8 dX5_sideInLowestTerms_1 (by decide) (fun hc1 => ?_) (fun hc1 => ?_)
  · skip
    refine MW.iload_n dX5_sideInLowestTerms_8 rfl ?_
    refine MW.istore_n dX5_sideInLowestTerms_9 rfl rfl ?_
    refine MW.iload_n dX5_sideInLowestTerms_10 rfl ?_
    refine MW.istore dX5_sideInLowestTerms_11 rfl rfl ?_
    first
      | (rw [if_pos hc1]; exact l_side m hm)
      | (rw [if_neg hc1]; exact l_side m hm)
  · skip
    refine MW.iload_n dX5_sideInLowestTerms_4 rfl ?_
    refine MW.goto 9 dX5_sideInLowestTerms_5 (by decide) ?_
    refine MW.istore_n dX5_sideInLowestTerms_9 rfl rfl ?_
    refine MW.iload_n dX5_sideInLowestTerms_10 rfl ?_
    refine MW.istore dX5_sideInLowestTerms_11 rfl rfl ?_
    first
      | (rw [if_pos hc1]; exact l_side m hm)
      | (rw [if_neg hc1]; exact l_side m hm)
end Side
section Face3
variable {l : Launch} {D : va_G} {t : ty4} {b L : Nat} {xs : Nat → Int32} {q : Nat → Nat} {i : Nat → Int32} {a : Nat → Nat → Int32} {w : Int64} {d mc ms : Nat}
set_option maxHeartbeats 2000000 in
theorem c_axle_x1 {x s : Int32} (h1 : ¬ ((0 ≤ x ∧ x ≤ 1) ∧ (0 ≤ s ∧ s ≤ 1))) (hmc : mc + 1 ≤ mi_CC) (hms : ms + 6 ≤ mi_CS) : MC (En l D t b L xs) MX5_axle 20 [.ref (q 0), .int x, .int s] (hw t q i a w) mc ms (xt 1 (hw t q i a w) mc ms) := by
  show MW _ _ _ 0 [some (.ref (q 0)), some (.int x), some (.int s)] [] _ _ _ _
  refine MW.iload_n dX5_axle_0 rfl ?_
  refine MW.iconst (v := 0) dX5_axle_1 (by decide) ?_
  refine MW.iconst (v := 1) dX5_axle_2 (by decide) ?_
  by_cases hq3 : 0 ≤ x ∧ x ≤ 1
  · skip
    refine MW.callS0 fX5_axle_3 (c_rw_ok hq3) rfl rfl rfl rfl (Nat.le_of_ble_eq_true rfl) ?_
    refine MW.iload_n dX5_axle_6 rfl ?_
    refine MW.iconst (v := 0) dX5_axle_7 (by decide) ?_
    refine MW.iconst (v := 1) dX5_axle_8 (by decide) ?_
    by_cases hq9 : 0 ≤ s ∧ s ≤ 1
    · skip
      refine MW.callS0 fX5_axle_9 (c_rw_ok hq9) rfl rfl rfl rfl (Nat.le_of_ble_eq_true rfl) ?_
      exact absurd ⟨hq3, hq9⟩ h1
    · skip
      exact MW.thrS fX5_axle_9 (c_rw_no hq9 hmc hms) rfl rfl rfl rfl (Nat.le_of_ble_eq_true rfl) rfl xt_r
  · skip
    exact MW.thrS fX5_axle_3 (c_rw_no hq3 hmc hms) rfl rfl rfl rfl (Nat.le_of_ble_eq_true rfl) rfl xt_r
set_option maxHeartbeats 2000000 in
theorem c_axle_x4 {k : Nat} (hk : i 3 = nI k) (hk8 : k ≤ 8) {x s : Int32} (h1 : (0 ≤ x ∧ x ≤ 1) ∧ (0 ≤ s ∧ s ≤ 1)) (h2 : stn (a 7) k = 0) (hmc : mc + 1 ≤ mi_CC) (hms : ms + 6 ≤ mi_CS) : MC (En l D t b L xs) MX5_axle 20 [.ref (q 0), .int x, .int s] (hw t q i a w) mc ms (xt 4 (hw t q i a w) mc ms) := by
  show MW _ _ _ 0 [some (.ref (q 0)), some (.int x), some (.int s)] [] _ _ _ _
  refine MW.iload_n dX5_axle_0 rfl ?_
  refine MW.iconst (v := 0) dX5_axle_1 (by decide) ?_
  refine MW.iconst (v := 1) dX5_axle_2 (by decide) ?_
  refine MW.callS0 fX5_axle_3 (c_rw_ok h1.1) rfl rfl rfl rfl (Nat.le_of_ble_eq_true rfl) ?_
  refine MW.iload_n dX5_axle_6 rfl ?_
  refine MW.iconst (v := 0) dX5_axle_7 (by decide) ?_
  refine MW.iconst (v := 1) dX5_axle_8 (by decide) ?_
  refine MW.callS0 fX5_axle_9 (c_rw_ok h1.2) rfl rfl rfl rfl (Nat.le_of_ble_eq_true rfl) ?_
  refine MW.aload_n dX5_axle_12 rfl ?_
  refine MW.getf fX5_axle_13 0 rfl rfl ?_
  refine MW.callV1 fX5_axle_16 1 rfl (c_standing hk hk8) rfl rfl rfl rfl (Nat.le_of_ble_eq_true rfl) ?_
  refine MW.if_ne 32 dX5_axle_19 (by decide) (fun hc19 => absurd h2 hc19) (fun hc19 => ?_)
  exact MW.throwS fX5_axle_22 (Nat.le_of_ble_eq_true rfl) hmc hms xt_r
set_option maxHeartbeats 2000000 in
theorem c_axle_ok {k : Nat} (hk : i 3 = nI k) (hk8 : k ≤ 8) {x s : Int32} (h1 : (0 ≤ x ∧ x ≤ 1) ∧ (0 ≤ s ∧ s ≤ 1)) (h2 : ¬ stn (a 7) k = 0) {sp : Nat} (hsp : i 5 - i 4 = nI sp) (hsp1 : sp ≤ 100) : MC (En l D t b L xs) MX5_axle 20 [.ref (q 0), .int x, .int s] (hw t q i a w) mc ms (rt (some (.int (slr (axn (shr i x) (a 2) (a 7) k) (nI sp) (if s = 0 then axn (shr i x) (a 2) (a 7) k else nI sp) sp))) (hw t q i a w) mc ms) := by
  show MW _ _ _ 0 [some (.ref (q 0)), some (.int x), some (.int s)] [] _ _ _ _
  refine MW.iload_n dX5_axle_0 rfl ?_
  refine MW.iconst (v := 0) dX5_axle_1 (by decide) ?_
  refine MW.iconst (v := 1) dX5_axle_2 (by decide) ?_
  refine MW.callS0 fX5_axle_3 (c_rw_ok h1.1) rfl rfl rfl rfl (Nat.le_of_ble_eq_true rfl) ?_
  refine MW.iload_n dX5_axle_6 rfl ?_
  refine MW.iconst (v := 0) dX5_axle_7 (by decide) ?_
  refine MW.iconst (v := 1) dX5_axle_8 (by decide) ?_
  refine MW.callS0 fX5_axle_9 (c_rw_ok h1.2) rfl rfl rfl rfl (Nat.le_of_ble_eq_true rfl) ?_
  refine MW.aload_n dX5_axle_12 rfl ?_
  refine MW.getf fX5_axle_13 0 rfl rfl ?_
  refine MW.callV1 fX5_axle_16 1 rfl (c_standing hk hk8) rfl rfl rfl rfl (Nat.le_of_ble_eq_true rfl) ?_
  refine MW.if_ne 32 dX5_axle_19 (by decide) (fun hc19 => ?_) (fun hc19 => absurd hc19 h2)
  refine MW.aload_n dX5_axle_32 rfl ?_
  refine MW.getf fX5_axle_33 0 rfl rfl ?_
  refine MW.iload_n dX5_axle_36 rfl ?_
  refine MW.callV1 fX5_axle_37 1 rfl (c_onAxle hk hk8) rfl rfl rfl rfl (Nat.le_of_ble_eq_true rfl) ?_
  refine MW.aload_n dX5_axle_40 rfl ?_
  refine MW.getf fX5_axle_41 0 rfl rfl ?_
  refine MW.getf fX5_axle_44 1 rfl rfl ?_
  refine MW.callV1 fX5_axle_47 5 rfl (c_span) rfl rfl rfl rfl (Nat.le_of_ble_eq_true rfl) ?_
  refine MW.top (v' := .int (nI sp)) (by rw [hsp]) ?_
  refine MW.iload_n dX5_axle_50 rfl ?_
  refine MW.callS1 fX5_axle_51 (c_side hsp1) rfl rfl rfl rfl (Nat.le_of_ble_eq_true rfl) ?_
  exact MW.ireturn dX5_axle_54 rfl (rfl) rt_r
set_option maxHeartbeats 2000000 in
theorem c_count_0 {k : Nat} (hk : i 3 = nI k) (hk8 : k ≤ 8) : MC (En l D t b L xs) MX5_count 20 [.ref (q 0), .int 0] (hw t q i a w) mc ms (rt (some (.int (i 2))) (hw t q i a w) mc ms) := by
  show MW _ _ _ 0 [some (.ref (q 0)), some (.int 0)] [] _ _ _ _
  refine MW.iload_n dX5_count_0 rfl ?_
  refine MW.tableIn 40 dX5_count_1 (by decide) (by decide) rfl (by decide) ?_
  refine MW.aload_n dX5_count_40 rfl ?_
  refine MW.getf fX5_count_41 0 rfl rfl ?_
  refine MW.getf fX5_count_44 1 rfl rfl ?_
  exact MW.ireturn dX5_count_47 rfl (rfl) (by first | exact rt_r | exact rtb_t (by assumption) | exact rtb_f (fun z => z (by assumption)))
set_option maxHeartbeats 2000000 in
theorem c_count_1 {k : Nat} (hk : i 3 = nI k) (hk8 : k ≤ 8) : MC (En l D t b L xs) MX5_count 20 [.ref (q 0), .int 1] (hw t q i a w) mc ms (rt (some (.int (i 3))) (hw t q i a w) mc ms) := by
  show MW _ _ _ 0 [some (.ref (q 0)), some (.int 1)] [] _ _ _ _
  refine MW.iload_n dX5_count_0 rfl ?_
  refine MW.tableIn 48 dX5_count_1 (by decide) (by decide) rfl (by decide) ?_
  refine MW.aload_n dX5_count_48 rfl ?_
  refine MW.getf fX5_count_49 0 rfl rfl ?_
  refine MW.getf fX5_count_52 1 rfl rfl ?_
  exact MW.ireturn dX5_count_55 rfl (rfl) (by first | exact rt_r | exact rtb_t (by assumption) | exact rtb_f (fun z => z (by assumption)))
set_option maxHeartbeats 2000000 in
theorem c_count_2 {k : Nat} (hk : i 3 = nI k) (hk8 : k ≤ 8) : MC (En l D t b L xs) MX5_count 20 [.ref (q 0), .int 2] (hw t q i a w) mc ms (rt (some (.int (stn (a 7) k))) (hw t q i a w) mc ms) := by
  show MW _ _ _ 0 [some (.ref (q 0)), some (.int 2)] [] _ _ _ _
  refine MW.iload_n dX5_count_0 rfl ?_
  refine MW.tableIn 56 dX5_count_1 (by decide) (by decide) rfl (by decide) ?_
  refine MW.aload_n dX5_count_56 rfl ?_
  refine MW.getf fX5_count_57 0 rfl rfl ?_
  refine MW.callV1 fX5_count_60 1 rfl (c_standing hk hk8) rfl rfl rfl rfl (Nat.le_of_ble_eq_true rfl) ?_
  exact MW.ireturn dX5_count_63 rfl (rfl) (by first | exact rt_r | exact rtb_t (by assumption) | exact rtb_f (fun z => z (by assumption)))
set_option maxHeartbeats 2000000 in
theorem c_count_3 {k : Nat} (hk : i 3 = nI k) (hk8 : k ≤ 8) : MC (En l D t b L xs) MX5_count 20 [.ref (q 0), .int 3] (hw t q i a w) mc ms (rt (some (.int (bI (¬ i 0 = 0)))) (hw t q i a w) mc ms) := by
  show MW _ _ _ 0 [some (.ref (q 0)), some (.int 3)] [] _ _ _ _
  refine MW.iload_n dX5_count_0 rfl ?_
  refine MW.tableIn 64 dX5_count_1 (by decide) (by decide) rfl (by decide) ?_
  refine MW.aload_n dX5_count_64 rfl ?_
  refine MW.getf fX5_count_65 0 rfl rfl ?_
  refine MW.if_eq 75 dX5_count_68 (by decide) (fun hc68 => ?_) (fun hc68 => ?_)
  · skip
    refine MW.iconst (v := 0) dX5_count_75 (by decide) ?_
    exact MW.ireturn dX5_count_76 rfl (rfl) (by first | exact rt_r | exact rtb_t (by assumption) | exact rtb_f (fun z => z (by assumption)))
  · skip
    refine MW.iconst (v := 1) dX5_count_71 (by decide) ?_
    refine MW.goto 76 dX5_count_72 (by decide) ?_
    exact MW.ireturn dX5_count_76 rfl (rfl) (by first | exact rt_r | exact rtb_t (by assumption) | exact rtb_f (fun z => z (by assumption)))
set_option maxHeartbeats 2000000 in
theorem c_count_4 {k : Nat} (hk : i 3 = nI k) (hk8 : k ≤ 8) : MC (En l D t b L xs) MX5_count 20 [.ref (q 0), .int 4] (hw t q i a w) mc ms (rt (some (.int (i 11))) (hw t q i a w) mc ms) := by
  show MW _ _ _ 0 [some (.ref (q 0)), some (.int 4)] [] _ _ _ _
  refine MW.iload_n dX5_count_0 rfl ?_
  refine MW.tableIn 77 dX5_count_1 (by decide) (by decide) rfl (by decide) ?_
  refine MW.aload_n dX5_count_77 rfl ?_
  refine MW.getf fX5_count_78 0 rfl rfl ?_
  refine MW.getf fX5_count_81 16 rfl rfl ?_
  exact MW.ireturn dX5_count_84 rfl (rfl) (by first | exact rt_r | exact rtb_t (by assumption) | exact rtb_f (fun z => z (by assumption)))
set_option maxHeartbeats 2000000 in
theorem c_count_5 {k : Nat} (hk : i 3 = nI k) (hk8 : k ≤ 8) : MC (En l D t b L xs) MX5_count 20 [.ref (q 0), .int 5] (hw t q i a w) mc ms (rt (some (.int (i 10))) (hw t q i a w) mc ms) := by
  show MW _ _ _ 0 [some (.ref (q 0)), some (.int 5)] [] _ _ _ _
  refine MW.iload_n dX5_count_0 rfl ?_
  refine MW.tableIn 85 dX5_count_1 (by decide) (by decide) rfl (by decide) ?_
  refine MW.aload_n dX5_count_85 rfl ?_
  refine MW.getf fX5_count_86 0 rfl rfl ?_
  refine MW.getf fX5_count_89 16 rfl rfl ?_
  exact MW.ireturn dX5_count_92 rfl (rfl) (by first | exact rt_r | exact rtb_t (by assumption) | exact rtb_f (fun z => z (by assumption)))
set_option maxHeartbeats 2000000 in
theorem c_count_x {x : Int32} (h1 : x.toInt < 0 ∨ 5 < x.toInt) : MC (En l D t b L xs) MX5_count 20 [.ref (q 0), .int x] (hw t q i a w) mc ms (rt (some (.int (-1))) (hw t q i a w) mc ms) := by
  show MW _ _ _ 0 [some (.ref (q 0)), some (.int x)] [] _ _ _ _
  refine MW.iload_n dX5_count_0 rfl ?_
  refine MW.tableOut 93 dX5_count_1 h1 (by decide) ?_
  refine MW.iconst (v := -1) dX5_count_93 (by decide) ?_
  exact MW.ireturn dX5_count_94 rfl (rfl) rt_r
end Face3
end
section
/-- the reference's share of a weight, times the span -/
def shm (i : Nat → Int32) (ax wt c : Int32) : Int32 := if ax = 1 then wt * (c - i 13) else wt * (i 14 - c)
/-- the reference's axles bear what stands -/
def brM (i : Nat → Int32) (wt wh : Nat → Int32) (k : Nat) : Prop := axn (shm i 0) wt wh k ≤ i 15 * (i 14 - i 13) ∧ axn (shm i 1) wt wh k ≤ i 16 * (i 14 - i 13)
/-- what the reference's keepsOff asks, thing by thing -/
def ko (a : Nat → Nat → Int32) (k j : Nat) (c : Int32) : Nat → Prop
  | 1 => ∃ m, m < k ∧ m ≠ j ∧ ¬ a 17 m = -1 ∧ a 17 m = c
  | 2 => a 10 c.toNatClampNeg < a 16 j
  | 3 => ¬ a 13 j = 0 ∧ a 11 c.toNatClampNeg = 0
  | 4 => ∃ m, m < k ∧ m ≠ j ∧ ¬ a 17 m = -1 ∧ ¬ a 14 j = 0 ∧ ¬ a 14 m = 0 ∧ (a 17 m = c + 1 ∨ a 17 m = c - 1)
  | 5 => ∃ m, m < k ∧ m ≠ j ∧ ¬ a 17 m = -1 ∧ (a 15 j < a 15 m ∧ c < a 17 m ∨ a 15 m < a 15 j ∧ a 17 m < c)
  | _ => False
/-- the first of r from j on that is P, else y -/
noncomputable def sfd (p : Nat → Prop) (y : Int32) : Nat → Nat → Int32
  | 0, _ => y
  | r + 1, j => cI (p j) (nI j) (sfd p y r (j + 1))
section Within
variable {E : mi_E} {h : va_W} {d mc ms : Nat}
theorem c_within {x lo hi : Int32} : MC E MX6_within d [.int x, .int lo, .int hi] h mc ms (rt (some (.int (bI (lo ≤ x ∧ x ≤ hi)))) h mc ms) := by
  show MW _ _ _ 0 [some (.int x), some (.int lo), some (.int hi)] [] _ _ _ _
  refine MW.iload_n dX6_within_0 rfl ?_
  refine MW.iload_n dX6_within_1 rfl ?_
  refine MW.icmp_lt 14 dX6_within_2 (by decide) (fun hc2 => ?_) (fun hc2 => ?_)
  · skip
    refine MW.iconst (v := 0) dX6_within_14 (by decide) ?_
    exact MW.ireturn dX6_within_15 rfl (rfl) (by first | exact rtb_t ⟨Int32.not_lt.mp hc2, Int32.not_lt.mp hc7⟩ | exact rtb_f (fun z => absurd z.1 (Int32.not_le.mpr hc2)) | exact rtb_f (fun z => absurd z.2 (Int32.not_le.mpr hc7)))
  · skip
    refine MW.iload_n dX6_within_5 rfl ?_
    refine MW.iload_n dX6_within_6 rfl ?_
    refine MW.icmp_gt 14 dX6_within_7 (by decide) (fun hc7 => ?_) (fun hc7 => ?_)
    · skip
      refine MW.iconst (v := 0) dX6_within_14 (by decide) ?_
      exact MW.ireturn dX6_within_15 rfl (rfl) (by first | exact rtb_t ⟨Int32.not_lt.mp hc2, Int32.not_lt.mp hc7⟩ | exact rtb_f (fun z => absurd z.1 (Int32.not_le.mpr hc2)) | exact rtb_f (fun z => absurd z.2 (Int32.not_le.mpr hc7)))
    · skip
      refine MW.iconst (v := 1) dX6_within_10 (by decide) ?_
      refine MW.goto 15 dX6_within_11 (by decide) ?_
      exact MW.ireturn dX6_within_15 rfl (rfl) (by first | exact rtb_t ⟨Int32.not_lt.mp hc2, Int32.not_lt.mp hc7⟩ | exact rtb_f (fun z => absurd z.1 (Int32.not_le.mpr hc2)) | exact rtb_f (fun z => absurd z.2 (Int32.not_le.mpr hc7)))
end Within
section Model1
variable {l : Launch} {D : va_G} {t : ty4} {b L : Nat} {xs : Nat → Int32} {q : Nat → Nat} {i : Nat → Int32} {a : Nat → Nat → Int32} {w : Int64} {d mc ms : Nat}
set_option maxHeartbeats 1000000 in
theorem m_thrown : MC (En l D t b L xs) MX6_thrown d [.ref (q 18)] (hw t q i a w) mc ms (rt (some (.int (i 18))) (hw t q i a w) mc ms) := by
  show MW _ _ _ 0 [some (.ref (q 18))] [] _ _ _ _
  refine MW.aload_n dX6_thrown_0 rfl ?_
  refine MW.getf fX6_thrown_1 18 rfl rfl ?_
  exact MW.ireturn dX6_thrown_4 rfl (rfl) rt_r
set_option maxHeartbeats 1000000 in
theorem m_isPallet {x : Int32} : MC (En l D t b L xs) MX6_isPallet d [.ref (q 18), .int x] (hw t q i a w) mc ms (rt (some (.int (bI (0 ≤ x ∧ x < i 17)))) (hw t q i a w) mc ms) := by
  show MW _ _ _ 0 [some (.ref (q 18)), some (.int x)] [] _ _ _ _
  refine MW.iload_n dX6_isPallet_0 rfl ?_
  refine MW.if_lt 16 dX6_isPallet_1 (by decide) (fun hc1 => ?_) (fun hc1 => ?_)
  · skip
    refine MW.iconst (v := 0) dX6_isPallet_16 (by decide) ?_
    exact MW.ireturn dX6_isPallet_17 rfl (rfl) (by first | exact rtb_t ⟨Int32.not_lt.mp hc1, Int32.not_le.mp hc9⟩ | exact rtb_f (fun z => absurd z.1 (Int32.not_le.mpr hc1)) | exact rtb_f (fun z => absurd z.2 (Int32.not_lt.mpr hc9)))
  · skip
    refine MW.iload_n dX6_isPallet_4 rfl ?_
    refine MW.aload_n dX6_isPallet_5 rfl ?_
    refine MW.getf fX6_isPallet_6 18 rfl rfl ?_
    refine MW.icmp_ge 16 dX6_isPallet_9 (by decide) (fun hc9 => ?_) (fun hc9 => ?_)
    · skip
      refine MW.iconst (v := 0) dX6_isPallet_16 (by decide) ?_
      exact MW.ireturn dX6_isPallet_17 rfl (rfl) (by first | exact rtb_t ⟨Int32.not_lt.mp hc1, Int32.not_le.mp hc9⟩ | exact rtb_f (fun z => absurd z.1 (Int32.not_le.mpr hc1)) | exact rtb_f (fun z => absurd z.2 (Int32.not_lt.mpr hc9)))
    · skip
      refine MW.iconst (v := 1) dX6_isPallet_12 (by decide) ?_
      refine MW.goto 17 dX6_isPallet_13 (by decide) ?_
      exact MW.ireturn dX6_isPallet_17 rfl (rfl) (by first | exact rtb_t ⟨Int32.not_lt.mp hc1, Int32.not_le.mp hc9⟩ | exact rtb_f (fun z => absurd z.1 (Int32.not_le.mpr hc1)) | exact rtb_f (fun z => absurd z.2 (Int32.not_lt.mpr hc9)))
set_option maxHeartbeats 2000000 in
theorem lm_standsAt {k : Nat} (hk : i 17 = nI k) (hk8 : k ≤ 8) {c : Int32} : ∀ (r j : Nat), j + r = k → sfr (fun m => a 17 m = c) r j = sfr (fun m => a 17 m = c) k 0 → MW (En l D t b L xs) MX6_standsAt d 2 [some (.ref (q 18)), some (.int c), some (.int (nI j))] [] (hw t q i a w) mc ms (rt (some (.int (sfr (fun m => a 17 m = c) k 0))) (hw t q i a w) mc ms) := by
  intro r
  induction r with
  | zero =>
    intro j hr hI
    refine MW.iload_n dX6_standsAt_2 rfl ?_
    refine MW.aload_n dX6_standsAt_3 rfl ?_
    refine MW.getf fX6_standsAt_4 18 rfl rfl ?_
    refine MW.icmp_ge 28 dX6_standsAt_7 (by decide) (fun hc7 => ?_) (fun hc7 => absurd (show i 17 ≤ nI j by rw [hk]; exact nI_le (by omega) (by omega)) hc7)
    refine MW.iconst (v := -1) dX6_standsAt_28 (by decide) ?_
    exact MW.ireturn dX6_standsAt_29 rfl (rfl) (rt_e hI.symm)
  | succ r ih =>
    intro j hr hI
    have hj : j < 8 := by omega
    refine MW.iload_n dX6_standsAt_2 rfl ?_
    refine MW.aload_n dX6_standsAt_3 rfl ?_
    refine MW.getf fX6_standsAt_4 18 rfl rfl ?_
    refine MW.icmp_ge 28 dX6_standsAt_7 (by decide) (fun hc7 => absurd hc7 (show ¬ i 17 ≤ nI j by rw [hk]; exact nI_ge (by omega) (by omega))) (fun hc7 => ?_)
    refine MW.aload_n dX6_standsAt_10 rfl ?_
    refine MW.getf fX6_standsAt_11 18 rfl rfl ?_
    refine MW.iload_n dX6_standsAt_14 rfl ?_
    refine MW.iaj dX6_standsAt_15 26 0 rfl rfl hj (by decide) ?_
    refine MW.iload_n dX6_standsAt_16 rfl ?_
    refine MW.icmp_ne 22 dX6_standsAt_17 (by decide) (fun hc17 => ?_) (fun hc17 => ?_)
    · skip
      refine MW.iincj dX6_standsAt_22 rfl rfl rfl ?_
      refine MW.goto 2 dX6_standsAt_25 (by decide) ?_
      exact ih (j + 1) (by omega) (by rw [← hI]; exact (cI_f hc17).symm)
    · skip
      refine MW.iload_n dX6_standsAt_20 rfl ?_
      exact MW.ireturn dX6_standsAt_21 rfl (rfl) (rt_e (by rw [← hI]; exact cI_t hc17))
theorem m_standsAt {k : Nat} (hk : i 17 = nI k) (hk8 : k ≤ 8) {c : Int32} : MC (En l D t b L xs) MX6_standsAt d [.ref (q 18), .int c] (hw t q i a w) mc ms (rt (some (.int (sfr (fun m => a 17 m = c) k 0))) (hw t q i a w) mc ms) := by
  show MW _ _ _ 0 [some (.ref (q 18)), some (.int c), none] [] _ _ _ _
  refine MW.iconst (v := 0) dX6_standsAt_0 (by decide) ?_
  refine MW.istore_n dX6_standsAt_1 rfl rfl ?_
  exact lm_standsAt hk hk8 k 0 (by omega) rfl
set_option maxHeartbeats 2000000 in
theorem lm_standing {k : Nat} (hk : i 17 = nI k) (hk8 : k ≤ 8)  : ∀ (r j : Nat), j + r = k → MW (En l D t b L xs) MX6_standing d 4 [some (.ref (q 18)), some (.int (stn (a 17) j)), some (.int (nI j))] [] (hw t q i a w) mc ms (rt (some (.int (stn (a 17) k))) (hw t q i a w) mc ms) := by
  intro r
  induction r with
  | zero =>
    intro j hr
    refine MW.iload_n dX6_standing_4 rfl ?_
    refine MW.aload_n dX6_standing_5 rfl ?_
    refine MW.getf fX6_standing_6 18 rfl rfl ?_
    refine MW.icmp_ge 31 dX6_standing_9 (by decide) (fun hc9 => ?_) (fun hc9 => absurd (show i 17 ≤ nI j by rw [hk]; exact nI_le (by omega) (by omega)) hc9)
    refine MW.iload_n dX6_standing_31 rfl ?_
    exact MW.ireturn dX6_standing_32 rfl (rfl) (rt_e (by rw [show k = j by omega]))
  | succ r ih =>
    intro j hr
    have hj : j < 8 := by omega
    refine MW.iload_n dX6_standing_4 rfl ?_
    refine MW.aload_n dX6_standing_5 rfl ?_
    refine MW.getf fX6_standing_6 18 rfl rfl ?_
    refine MW.icmp_ge 31 dX6_standing_9 (by decide) (fun hc9 => absurd hc9 (show ¬ i 17 ≤ nI j by rw [hk]; exact nI_ge (by omega) (by omega))) (fun hc9 => ?_)
    refine MW.aload_n dX6_standing_12 rfl ?_
    refine MW.getf fX6_standing_13 18 rfl rfl ?_
    refine MW.iload_n dX6_standing_16 rfl ?_
    refine MW.iaj dX6_standing_17 26 0 rfl rfl hj (by decide) ?_
    refine MW.iconst (v := -1) dX6_standing_18 (by decide) ?_
    refine MW.icmp_eq 25 dX6_standing_19 (by decide) (fun hc19 => ?_) (fun hc19 => ?_)
    · skip
      refine MW.iincj dX6_standing_25 rfl rfl rfl ?_
      refine MW.goto 4 dX6_standing_28 (by decide) ?_
      refine MW.locs (lv' := [some (.ref (q 18)), some (.int (stn (a 17) (j + 1))), some (.int (nI (j + 1)))]) ?_ (ih (j + 1) (by omega))
      first
        | rw [show stn (a 17) (j + 1) = stn (a 17) j from if_pos hc19]; rfl
        | rw [show stn (a 17) (j + 1) = _ from if_neg hc19]; rfl
    · skip
      refine MW.iinc1 dX6_standing_22 rfl rfl rfl ?_
      refine MW.iincj dX6_standing_25 rfl rfl rfl ?_
      refine MW.goto 4 dX6_standing_28 (by decide) ?_
      refine MW.locs (lv' := [some (.ref (q 18)), some (.int (stn (a 17) (j + 1))), some (.int (nI (j + 1)))]) ?_ (ih (j + 1) (by omega))
      first
        | rw [show stn (a 17) (j + 1) = stn (a 17) j from if_pos hc19]; rfl
        | rw [show stn (a 17) (j + 1) = _ from if_neg hc19]; rfl
theorem m_standing {k : Nat} (hk : i 17 = nI k) (hk8 : k ≤ 8)  : MC (En l D t b L xs) MX6_standing d [.ref (q 18)] (hw t q i a w) mc ms (rt (some (.int (stn (a 17) k))) (hw t q i a w) mc ms) := by
  show MW _ _ _ 0 [some (.ref (q 18)), none, none] [] _ _ _ _
  refine MW.iconst (v := 0) dX6_standing_0 (by decide) ?_
  refine MW.istore_n dX6_standing_1 rfl rfl ?_
  refine MW.iconst (v := 0) dX6_standing_2 (by decide) ?_
  refine MW.istore_n dX6_standing_3 rfl rfl ?_
  exact lm_standing hk hk8 k 0 (by omega)
set_option maxHeartbeats 2000000 in
theorem lm_standingWeight {k : Nat} (hk : i 17 = nI k) (hk8 : k ≤ 8)  : ∀ (r j : Nat), j + r = k → MW (En l D t b L xs) MX6_standingWeight d 4 [some (.ref (q 18)), some (.int (wtn (a 12) (a 17) j)), some (.int (nI j))] [] (hw t q i a w) mc ms (rt (some (.int (wtn (a 12) (a 17) k))) (hw t q i a w) mc ms) := by
  intro r
  induction r with
  | zero =>
    intro j hr
    refine MW.iload_n dX6_standingWeight_4 rfl ?_
    refine MW.aload_n dX6_standingWeight_5 rfl ?_
    refine MW.getf fX6_standingWeight_6 18 rfl rfl ?_
    refine MW.icmp_ge 37 dX6_standingWeight_9 (by decide) (fun hc9 => ?_) (fun hc9 => absurd (show i 17 ≤ nI j by rw [hk]; exact nI_le (by omega) (by omega)) hc9)
    refine MW.iload_n dX6_standingWeight_37 rfl ?_
    exact MW.ireturn dX6_standingWeight_38 rfl (rfl) (rt_e (by rw [show k = j by omega]))
  | succ r ih =>
    intro j hr
    have hj : j < 8 := by omega
    refine MW.iload_n dX6_standingWeight_4 rfl ?_
    refine MW.aload_n dX6_standingWeight_5 rfl ?_
    refine MW.getf fX6_standingWeight_6 18 rfl rfl ?_
    refine MW.icmp_ge 37 dX6_standingWeight_9 (by decide) (fun hc9 => absurd hc9 (show ¬ i 17 ≤ nI j by rw [hk]; exact nI_ge (by omega) (by omega))) (fun hc9 => ?_)
    refine MW.aload_n dX6_standingWeight_12 rfl ?_
    refine MW.getf fX6_standingWeight_13 18 rfl rfl ?_
    refine MW.iload_n dX6_standingWeight_16 rfl ?_
    refine MW.iaj dX6_standingWeight_17 26 0 rfl rfl hj (by decide) ?_
    refine MW.iconst (v := -1) dX6_standingWeight_18 (by decide) ?_
    refine MW.icmp_eq 31 dX6_standingWeight_19 (by decide) (fun hc19 => ?_) (fun hc19 => ?_)
    · skip
      refine MW.iincj dX6_standingWeight_31 rfl rfl rfl ?_
      refine MW.goto 4 dX6_standingWeight_34 (by decide) ?_
      refine MW.locs (lv' := [some (.ref (q 18)), some (.int (wtn (a 12) (a 17) (j + 1))), some (.int (nI (j + 1)))]) ?_ (ih (j + 1) (by omega))
      first
        | rw [show wtn (a 12) (a 17) (j + 1) = wtn (a 12) (a 17) j from if_pos hc19]; rfl
        | rw [show wtn (a 12) (a 17) (j + 1) = _ from if_neg hc19]; rfl
    · skip
      refine MW.iload_n dX6_standingWeight_22 rfl ?_
      refine MW.aload_n dX6_standingWeight_23 rfl ?_
      refine MW.getf fX6_standingWeight_24 18 rfl rfl ?_
      refine MW.iload_n dX6_standingWeight_27 rfl ?_
      refine MW.iaj dX6_standingWeight_28 21 0 rfl rfl hj (by decide) ?_
      refine MW.iadd dX6_standingWeight_29 ?_
      refine MW.istore_n dX6_standingWeight_30 rfl rfl ?_
      refine MW.iincj dX6_standingWeight_31 rfl rfl rfl ?_
      refine MW.goto 4 dX6_standingWeight_34 (by decide) ?_
      refine MW.locs (lv' := [some (.ref (q 18)), some (.int (wtn (a 12) (a 17) (j + 1))), some (.int (nI (j + 1)))]) ?_ (ih (j + 1) (by omega))
      first
        | rw [show wtn (a 12) (a 17) (j + 1) = wtn (a 12) (a 17) j from if_pos hc19]; rfl
        | rw [show wtn (a 12) (a 17) (j + 1) = _ from if_neg hc19]; rfl
theorem m_standingWeight {k : Nat} (hk : i 17 = nI k) (hk8 : k ≤ 8)  : MC (En l D t b L xs) MX6_standingWeight d [.ref (q 18)] (hw t q i a w) mc ms (rt (some (.int (wtn (a 12) (a 17) k))) (hw t q i a w) mc ms) := by
  show MW _ _ _ 0 [some (.ref (q 18)), none, none] [] _ _ _ _
  refine MW.iconst (v := 0) dX6_standingWeight_0 (by decide) ?_
  refine MW.istore_n dX6_standingWeight_1 rfl rfl ?_
  refine MW.iconst (v := 0) dX6_standingWeight_2 (by decide) ?_
  refine MW.istore_n dX6_standingWeight_3 rfl rfl ?_
  exact lm_standingWeight hk hk8 k 0 (by omega)
set_option maxHeartbeats 2000000 in
theorem lm_load {k : Nat} (hk : i 17 = nI k) (hk8 : k ≤ 8) {ax : Int32} : ∀ (r j : Nat), j + r = k → MW (En l D t b L xs) MX6_load d 4 [some (.ref (q 18)), some (.int ax), some (.int (axn (shm i ax) (a 12) (a 17) j)), some (.int (nI j))] [] (hw t q i a w) mc ms (rt (some (.int (axn (shm i ax) (a 12) (a 17) k))) (hw t q i a w) mc ms) := by
  intro r
  induction r with
  | zero =>
    intro j hr
    refine MW.iload_n dX6_load_4 rfl ?_
    refine MW.aload_n dX6_load_5 rfl ?_
    refine MW.getf fX6_load_6 18 rfl rfl ?_
    refine MW.icmp_ge 68 dX6_load_9 (by decide) (fun hc9 => ?_) (fun hc9 => absurd (show i 17 ≤ nI j by rw [hk]; exact nI_le (by omega) (by omega)) hc9)
    refine MW.iload_n dX6_load_68 rfl ?_
    exact MW.ireturn dX6_load_69 rfl (rfl) (rt_e (by rw [show k = j by omega]))
  | succ r ih =>
    intro j hr
    have hj : j < 8 := by omega
    refine MW.iload_n dX6_load_4 rfl ?_
    refine MW.aload_n dX6_load_5 rfl ?_
    refine MW.getf fX6_load_6 18 rfl rfl ?_
    refine MW.icmp_ge 68 dX6_load_9 (by decide) (fun hc9 => absurd hc9 (show ¬ i 17 ≤ nI j by rw [hk]; exact nI_ge (by omega) (by omega))) (fun hc9 => ?_)
    refine MW.aload_n dX6_load_12 rfl ?_
    refine MW.getf fX6_load_13 18 rfl rfl ?_
    refine MW.iload_n dX6_load_16 rfl ?_
    refine MW.iaj dX6_load_17 26 0 rfl rfl hj (by decide) ?_
    refine MW.iconst (v := -1) dX6_load_18 (by decide) ?_
    refine MW.icmp_eq 62 dX6_load_19 (by decide) (fun hc19 => ?_) (fun hc19 => ?_)
    · skip
      refine MW.iincj dX6_load_62 rfl rfl rfl ?_
      refine MW.goto 4 dX6_load_65 (by decide) ?_
      refine MW.locs (lv' := [some (.ref (q 18)), some (.int ax), some (.int (axn (shm i ax) (a 12) (a 17) (j + 1))), some (.int (nI (j + 1)))]) ?_ (ih (j + 1) (by omega))
      first
        | rw [show axn (shm i ax) (a 12) (a 17) (j + 1) = axn (shm i ax) (a 12) (a 17) j from if_pos hc19]; rfl
        | rw [show axn (shm i ax) (a 12) (a 17) (j + 1) = _ from if_neg hc19, show shm i ax (a 12 j) (a 17 j) = _ from if_neg hc31]; rfl
        | rw [show axn (shm i ax) (a 12) (a 17) (j + 1) = _ from if_neg hc19, show shm i ax (a 12 j) (a 17 j) = _ from if_pos hc31]; rfl
    · skip
      refine MW.iload_n dX6_load_22 rfl ?_
      refine MW.aload_n dX6_load_23 rfl ?_
      refine MW.getf fX6_load_24 18 rfl rfl ?_
      refine MW.iload_n dX6_load_27 rfl ?_
      refine MW.iaj dX6_load_28 21 0 rfl rfl hj (by decide) ?_
      refine MW.iload_n dX6_load_29 rfl ?_
      refine MW.iconst (v := 1) dX6_load_30 (by decide) ?_
      refine MW.icmp_ne 48 dX6_load_31 (by decide) (fun hc31 => ?_) (fun hc31 => ?_)
      · skip
        refine MW.aload_n dX6_load_48 rfl ?_
        refine MW.getf fX6_load_49 18 rfl rfl ?_
        refine MW.aload_n dX6_load_52 rfl ?_
        refine MW.getf fX6_load_53 18 rfl rfl ?_
        refine MW.iload_n dX6_load_56 rfl ?_
        refine MW.iaj dX6_load_57 26 0 rfl rfl hj (by decide) ?_
        refine MW.isub dX6_load_58 ?_
        refine MW.imul dX6_load_59 ?_
        refine MW.iadd dX6_load_60 ?_
        refine MW.istore_n dX6_load_61 rfl rfl ?_
        refine MW.iincj dX6_load_62 rfl rfl rfl ?_
        refine MW.goto 4 dX6_load_65 (by decide) ?_
        refine MW.locs (lv' := [some (.ref (q 18)), some (.int ax), some (.int (axn (shm i ax) (a 12) (a 17) (j + 1))), some (.int (nI (j + 1)))]) ?_ (ih (j + 1) (by omega))
        first
          | rw [show axn (shm i ax) (a 12) (a 17) (j + 1) = axn (shm i ax) (a 12) (a 17) j from if_pos hc19]; rfl
          | rw [show axn (shm i ax) (a 12) (a 17) (j + 1) = _ from if_neg hc19, show shm i ax (a 12 j) (a 17 j) = _ from if_neg hc31]; rfl
          | rw [show axn (shm i ax) (a 12) (a 17) (j + 1) = _ from if_neg hc19, show shm i ax (a 12 j) (a 17 j) = _ from if_pos hc31]; rfl
      · skip
        refine MW.aload_n dX6_load_34 rfl ?_
        refine MW.getf fX6_load_35 18 rfl rfl ?_
        refine MW.iload_n dX6_load_38 rfl ?_
        refine MW.iaj dX6_load_39 26 0 rfl rfl hj (by decide) ?_
        refine MW.aload_n dX6_load_40 rfl ?_
        refine MW.getf fX6_load_41 18 rfl rfl ?_
        refine MW.isub dX6_load_44 ?_
        refine MW.goto 59 dX6_load_45 (by decide) ?_
        refine MW.imul dX6_load_59 ?_
        refine MW.iadd dX6_load_60 ?_
        refine MW.istore_n dX6_load_61 rfl rfl ?_
        refine MW.iincj dX6_load_62 rfl rfl rfl ?_
        refine MW.goto 4 dX6_load_65 (by decide) ?_
        refine MW.locs (lv' := [some (.ref (q 18)), some (.int ax), some (.int (axn (shm i ax) (a 12) (a 17) (j + 1))), some (.int (nI (j + 1)))]) ?_ (ih (j + 1) (by omega))
        first
          | rw [show axn (shm i ax) (a 12) (a 17) (j + 1) = axn (shm i ax) (a 12) (a 17) j from if_pos hc19]; rfl
          | rw [show axn (shm i ax) (a 12) (a 17) (j + 1) = _ from if_neg hc19, show shm i ax (a 12 j) (a 17 j) = _ from if_neg hc31]; rfl
          | rw [show axn (shm i ax) (a 12) (a 17) (j + 1) = _ from if_neg hc19, show shm i ax (a 12 j) (a 17 j) = _ from if_pos hc31]; rfl
theorem m_load {k : Nat} (hk : i 17 = nI k) (hk8 : k ≤ 8) {ax : Int32} : MC (En l D t b L xs) MX6_load d [.ref (q 18), .int ax] (hw t q i a w) mc ms (rt (some (.int (axn (shm i ax) (a 12) (a 17) k))) (hw t q i a w) mc ms) := by
  show MW _ _ _ 0 [some (.ref (q 18)), some (.int ax), none, none] [] _ _ _ _
  refine MW.iconst (v := 0) dX6_load_0 (by decide) ?_
  refine MW.istore_n dX6_load_1 rfl rfl ?_
  refine MW.iconst (v := 0) dX6_load_2 (by decide) ?_
  refine MW.istore_n dX6_load_3 rfl rfl ?_
  exact lm_load hk hk8 k 0 (by omega)
set_option maxHeartbeats 1000000 in
theorem m_axlesBear {k : Nat} (hk : i 17 = nI k) (hk8 : k ≤ 8) : MC (En l D t b L xs) MX6_axlesBear (d + 1) [.ref (q 18)] (hw t q i a w) mc ms (rt (some (.int (bI (brM i (a 12) (a 17) k)))) (hw t q i a w) mc ms) := by
  show MW _ _ _ 0 [some (.ref (q 18))] [] _ _ _ _
  refine MW.aload_n dX6_axlesBear_0 rfl ?_
  refine MW.iconst (v := 0) dX6_axlesBear_1 (by decide) ?_
  refine MW.callV1 fX6_axlesBear_2 18 rfl (m_load hk hk8) rfl rfl rfl rfl (Nat.le_of_ble_eq_true rfl) ?_
  refine MW.aload_n dX6_axlesBear_5 rfl ?_
  refine MW.getf fX6_axlesBear_6 18 rfl rfl ?_
  refine MW.aload_n dX6_axlesBear_9 rfl ?_
  refine MW.getf fX6_axlesBear_10 18 rfl rfl ?_
  refine MW.aload_n dX6_axlesBear_13 rfl ?_
  refine MW.getf fX6_axlesBear_14 18 rfl rfl ?_
  refine MW.isub dX6_axlesBear_17 ?_
  refine MW.imul dX6_axlesBear_18 ?_
  refine MW.icmp_gt 48 dX6_axlesBear_19 (by decide) (fun hc19 => ?_) (fun hc19 => ?_)
  · skip
    refine MW.iconst (v := 0) dX6_axlesBear_48 (by decide) ?_
    exact MW.ireturn dX6_axlesBear_49 rfl (rfl) (by first | exact rtb_t ⟨Int32.not_lt.mp hc19, Int32.not_lt.mp hc41⟩ | exact rtb_f (fun z => absurd z.1 (Int32.not_le.mpr hc19)) | exact rtb_f (fun z => absurd z.2 (Int32.not_le.mpr hc41)))
  · skip
    refine MW.aload_n dX6_axlesBear_22 rfl ?_
    refine MW.iconst (v := 1) dX6_axlesBear_23 (by decide) ?_
    refine MW.callV1 fX6_axlesBear_24 18 rfl (m_load hk hk8) rfl rfl rfl rfl (Nat.le_of_ble_eq_true rfl) ?_
    refine MW.aload_n dX6_axlesBear_27 rfl ?_
    refine MW.getf fX6_axlesBear_28 18 rfl rfl ?_
    refine MW.aload_n dX6_axlesBear_31 rfl ?_
    refine MW.getf fX6_axlesBear_32 18 rfl rfl ?_
    refine MW.aload_n dX6_axlesBear_35 rfl ?_
    refine MW.getf fX6_axlesBear_36 18 rfl rfl ?_
    refine MW.isub dX6_axlesBear_39 ?_
    refine MW.imul dX6_axlesBear_40 ?_
    refine MW.icmp_gt 48 dX6_axlesBear_41 (by decide) (fun hc41 => ?_) (fun hc41 => ?_)
    · skip
      refine MW.iconst (v := 0) dX6_axlesBear_48 (by decide) ?_
      exact MW.ireturn dX6_axlesBear_49 rfl (rfl) (by first | exact rtb_t ⟨Int32.not_lt.mp hc19, Int32.not_lt.mp hc41⟩ | exact rtb_f (fun z => absurd z.1 (Int32.not_le.mpr hc19)) | exact rtb_f (fun z => absurd z.2 (Int32.not_le.mpr hc41)))
    · skip
      refine MW.iconst (v := 1) dX6_axlesBear_44 (by decide) ?_
      refine MW.goto 49 dX6_axlesBear_45 (by decide) ?_
      exact MW.ireturn dX6_axlesBear_49 rfl (rfl) (by first | exact rtb_t ⟨Int32.not_lt.mp hc19, Int32.not_lt.mp hc41⟩ | exact rtb_f (fun z => absurd z.1 (Int32.not_le.mpr hc19)) | exact rtb_f (fun z => absurd z.2 (Int32.not_le.mpr hc41)))
theorem m_ko2 {k j : Nat} (hj : j < 8) {m : Nat} (hm : m < 12) : MC (En l D t b L xs) MX6_keepsOff d [.ref (q 18), .int 2, .int (nI j), .int (nI m)] (hw t q i a w) mc ms (rt (some (.int (bI (ko a k j (nI m) 2)))) (hw t q i a w) mc ms) := by
  show MW _ _ _ 0 [some (.ref (q 18)), some (.int 2), some (.int (nI j)), some (.int (nI m)), none, none] [] _ _ _ _
  refine MW.iload_n dX6_keepsOff_0 rfl ?_
  refine MW.iconst (v := 2) dX6_keepsOff_1 (by decide) ?_
  refine MW.icmp_ne 26 dX6_keepsOff_2 (by decide) (fun hc2 => absurd rfl hc2) (fun hc2 => ?_)
  refine MW.aload_n dX6_keepsOff_5 rfl ?_
  refine MW.getf fX6_keepsOff_6 18 rfl rfl ?_
  refine MW.iload_n dX6_keepsOff_9 rfl ?_
  refine MW.iaj dX6_keepsOff_10 19 0 rfl rfl hm (by decide) ?_
  refine MW.aload_n dX6_keepsOff_11 rfl ?_
  refine MW.getf fX6_keepsOff_12 18 rfl rfl ?_
  refine MW.iload_n dX6_keepsOff_15 rfl ?_
  refine MW.iaj dX6_keepsOff_16 25 0 rfl rfl hj (by decide) ?_
  refine MW.icmp_ge 24 dX6_keepsOff_17 (by decide) (fun hc17 => ?_) (fun hc17 => ?_)
  · skip
    refine MW.iconst (v := 0) dX6_keepsOff_24 (by decide) ?_
    exact MW.ireturn dX6_keepsOff_25 rfl (rfl) (by unfold ko; rw [(show (nI m).toNatClampNeg = m from nI_clamp (by omega))]; first | exact rtb_t (Int32.not_le.mp hc17) | exact rtb_f (Int32.not_lt.mpr hc17))
  · skip
    refine MW.iconst (v := 1) dX6_keepsOff_20 (by decide) ?_
    refine MW.goto 25 dX6_keepsOff_21 (by decide) ?_
    exact MW.ireturn dX6_keepsOff_25 rfl (rfl) (by unfold ko; rw [(show (nI m).toNatClampNeg = m from nI_clamp (by omega))]; first | exact rtb_t (Int32.not_le.mp hc17) | exact rtb_f (Int32.not_lt.mpr hc17))
theorem m_ko3 {k j : Nat} (hj : j < 8) {m : Nat} (hm : m < 12) : MC (En l D t b L xs) MX6_keepsOff d [.ref (q 18), .int 3, .int (nI j), .int (nI m)] (hw t q i a w) mc ms (rt (some (.int (bI (ko a k j (nI m) 3)))) (hw t q i a w) mc ms) := by
  show MW _ _ _ 0 [some (.ref (q 18)), some (.int 3), some (.int (nI j)), some (.int (nI m)), none, none] [] _ _ _ _
  refine MW.iload_n dX6_keepsOff_0 rfl ?_
  refine MW.iconst (v := 2) dX6_keepsOff_1 (by decide) ?_
  refine MW.icmp_ne 26 dX6_keepsOff_2 (by decide) (fun hc2 => ?_) (fun hc2 => absurd hc2 (by decide))
  refine MW.iload_n dX6_keepsOff_26 rfl ?_
  refine MW.iconst (v := 3) dX6_keepsOff_27 (by decide) ?_
  refine MW.icmp_ne 55 dX6_keepsOff_28 (by decide) (fun hc28 => absurd rfl hc28) (fun hc28 => ?_)
  refine MW.aload_n dX6_keepsOff_31 rfl ?_
  refine MW.getf fX6_keepsOff_32 18 rfl rfl ?_
  refine MW.iload_n dX6_keepsOff_35 rfl ?_
  refine MW.zaj dX6_keepsOff_36 22 1 rfl rfl hj (by decide) ?_
  refine MW.if_eq 53 dX6_keepsOff_37 (by decide) (fun hc37 => ?_) (fun hc37 => ?_)
  · skip
    refine MW.iconst (v := 0) dX6_keepsOff_53 (by decide) ?_
    exact MW.ireturn dX6_keepsOff_54 rfl (rfl) (by unfold ko; rw [(show (nI m).toNatClampNeg = m from nI_clamp (by omega))]; first | exact rtb_t ⟨hc37, hc46⟩ | exact rtb_f (fun z => z.1 hc37) | exact rtb_f (fun z => hc46 z.2))
  · skip
    refine MW.aload_n dX6_keepsOff_40 rfl ?_
    refine MW.getf fX6_keepsOff_41 18 rfl rfl ?_
    refine MW.iload_n dX6_keepsOff_44 rfl ?_
    refine MW.zaj dX6_keepsOff_45 20 1 rfl rfl hm (by decide) ?_
    refine MW.if_ne 53 dX6_keepsOff_46 (by decide) (fun hc46 => ?_) (fun hc46 => ?_)
    · skip
      refine MW.iconst (v := 0) dX6_keepsOff_53 (by decide) ?_
      exact MW.ireturn dX6_keepsOff_54 rfl (rfl) (by unfold ko; rw [(show (nI m).toNatClampNeg = m from nI_clamp (by omega))]; first | exact rtb_t ⟨hc37, hc46⟩ | exact rtb_f (fun z => z.1 hc37) | exact rtb_f (fun z => hc46 z.2))
    · skip
      refine MW.iconst (v := 1) dX6_keepsOff_49 (by decide) ?_
      refine MW.goto 54 dX6_keepsOff_50 (by decide) ?_
      exact MW.ireturn dX6_keepsOff_54 rfl (rfl) (by unfold ko; rw [(show (nI m).toNatClampNeg = m from nI_clamp (by omega))]; first | exact rtb_t ⟨hc37, hc46⟩ | exact rtb_f (fun z => z.1 hc37) | exact rtb_f (fun z => hc46 z.2))
set_option maxHeartbeats 2000000 in
theorem lm_ko1 {k : Nat} (hk : i 17 = nI k) (hk8 : k ≤ 8) {j : Nat} (hj : j < 8) {c : Int32} : ∀ (r p : Nat) (z : Option Value), p + r = k → (∀ m, m < p → ¬ (m ≠ j ∧ ¬ a 17 m = -1 ∧ a 17 m = c)) → MW (En l D t b L xs) MX6_keepsOff d 58 [some (.ref (q 18)), some (.int 1), some (.int (nI j)), some (.int c), some (.int (nI p)), z] [] (hw t q i a w) mc ms (rt (some (.int (bI (ko a k j c 1)))) (hw t q i a w) mc ms) := by
  intro r
  induction r with
  | zero =>
    intro p z hr hI
    refine MW.iload dX6_keepsOff_58 rfl ?_
    refine MW.aload_n dX6_keepsOff_60 rfl ?_
    refine MW.getf fX6_keepsOff_61 18 rfl rfl ?_
    refine MW.icmp_ge 204 dX6_keepsOff_64 (by decide) (fun hc64 => ?_) (fun hc64 => absurd (show i 17 ≤ nI p by rw [hk]; exact nI_le (by omega) (by omega)) hc64)
    refine MW.iconst (v := 0) dX6_keepsOff_204 (by decide) ?_
    exact MW.ireturn dX6_keepsOff_205 rfl (rfl) (rtb_f (fun ⟨m, h1, h2⟩ => hI m (by omega) h2))
  | succ r ih =>
    intro p z hr hI
    have hp : p < 8 := by omega
    refine MW.iload dX6_keepsOff_58 rfl ?_
    refine MW.aload_n dX6_keepsOff_60 rfl ?_
    refine MW.getf fX6_keepsOff_61 18 rfl rfl ?_
    refine MW.icmp_ge 204 dX6_keepsOff_64 (by decide) (fun hc64 => absurd hc64 (show ¬ i 17 ≤ nI p by rw [hk]; exact nI_ge (by omega) (by omega))) (fun hc64 => ?_)
    refine MW.iload dX6_keepsOff_67 rfl ?_
    refine MW.iload_n dX6_keepsOff_69 rfl ?_
    refine MW.icmp_ne 77 dX6_keepsOff_70 (by decide) (fun hc70 => ?_) (fun hc70 => ?_)
    · skip
      refine MW.aload_n dX6_keepsOff_77 rfl ?_
      refine MW.getf fX6_keepsOff_78 18 rfl rfl ?_
      refine MW.iload dX6_keepsOff_81 rfl ?_
      refine MW.iaj dX6_keepsOff_83 26 0 rfl rfl hp (by decide) ?_
      refine MW.istore dX6_keepsOff_84 rfl rfl ?_
      refine MW.iload dX6_keepsOff_86 rfl ?_
      refine MW.iconst (v := -1) dX6_keepsOff_88 (by decide) ?_
      refine MW.icmp_eq 198 dX6_keepsOff_89 (by decide) (fun hc89 => ?_) (fun hc89 => ?_)
      · skip
        refine MW.iincj dX6_keepsOff_198 rfl rfl rfl ?_
        refine MW.goto 58 dX6_keepsOff_201 (by decide) ?_
        first
          | exact absurd rfl hc89
          | exact ih (p + 1) _ (by omega) (lt_s hI (fun ⟨y1, y2, y3⟩ => by first | exact y1 ((nI_eq (by omega) (by omega)).mp hc70) | exact y2 hc89 | exact hc100 y3))
      · skip
        refine MW.iload_n dX6_keepsOff_92 rfl ?_
        refine MW.iconst (v := 1) dX6_keepsOff_93 (by decide) ?_
        refine MW.icmp_ne 105 dX6_keepsOff_94 (by decide) (fun hc94 => absurd rfl hc94) (fun hc94 => ?_)
        refine MW.iload dX6_keepsOff_97 rfl ?_
        refine MW.iload_n dX6_keepsOff_99 rfl ?_
        refine MW.icmp_ne 105 dX6_keepsOff_100 (by decide) (fun hc100 => ?_) (fun hc100 => ?_)
        · skip
          refine MW.iload_n dX6_keepsOff_105 rfl ?_
          refine MW.iconst (v := 4) dX6_keepsOff_106 (by decide) ?_
          refine MW.icmp_ne 147 dX6_keepsOff_107 (by decide) (fun hc107 => ?_) (fun hc107 => absurd hc107 (by decide))
          refine MW.iload_n dX6_keepsOff_147 rfl ?_
          refine MW.iconst (v := 5) dX6_keepsOff_148 (by decide) ?_
          refine MW.icmp_ne 198 dX6_keepsOff_149 (by decide) (fun hc149 => ?_) (fun hc149 => absurd hc149 (by decide))
          refine MW.iincj dX6_keepsOff_198 rfl rfl rfl ?_
          refine MW.goto 58 dX6_keepsOff_201 (by decide) ?_
          first
            | exact absurd rfl hc89
            | exact ih (p + 1) _ (by omega) (lt_s hI (fun ⟨y1, y2, y3⟩ => by first | exact y1 ((nI_eq (by omega) (by omega)).mp hc70) | exact y2 hc89 | exact hc100 y3))
        · skip
          refine MW.iconst (v := 1) dX6_keepsOff_103 (by decide) ?_
          exact MW.ireturn dX6_keepsOff_104 rfl (rfl) (by first | exact absurd rfl hc89 | exact (rtb_t ⟨p, by omega, (fun z9 => hc70 (by rw [z9])), hc89, hc100⟩))
    · skip
      have hc89 : (-1 : Int32) = -1 := rfl
      skip
      refine MW.iconst (v := -1) dX6_keepsOff_73 (by decide) ?_
      refine MW.goto 84 dX6_keepsOff_74 (by decide) ?_
      refine MW.istore dX6_keepsOff_84 rfl rfl ?_
      refine MW.iload dX6_keepsOff_86 rfl ?_
      refine MW.iconst (v := -1) dX6_keepsOff_88 (by decide) ?_
      refine MW.icmp_eq 198 dX6_keepsOff_89 (by decide) (fun hc89 => ?_) (fun hc89 => ?_)
      · skip
        refine MW.iincj dX6_keepsOff_198 rfl rfl rfl ?_
        refine MW.goto 58 dX6_keepsOff_201 (by decide) ?_
        first
          | exact absurd rfl hc89
          | exact ih (p + 1) _ (by omega) (lt_s hI (fun ⟨y1, y2, y3⟩ => by first | exact y1 ((nI_eq (by omega) (by omega)).mp hc70) | exact y2 hc89 | exact hc100 y3))
      · skip
        refine MW.iload_n dX6_keepsOff_92 rfl ?_
        refine MW.iconst (v := 1) dX6_keepsOff_93 (by decide) ?_
        refine MW.icmp_ne 105 dX6_keepsOff_94 (by decide) (fun hc94 => absurd rfl hc94) (fun hc94 => ?_)
        refine MW.iload dX6_keepsOff_97 rfl ?_
        refine MW.iload_n dX6_keepsOff_99 rfl ?_
        refine MW.icmp_ne 105 dX6_keepsOff_100 (by decide) (fun hc100 => ?_) (fun hc100 => ?_)
        · skip
          refine MW.iload_n dX6_keepsOff_105 rfl ?_
          refine MW.iconst (v := 4) dX6_keepsOff_106 (by decide) ?_
          refine MW.icmp_ne 147 dX6_keepsOff_107 (by decide) (fun hc107 => ?_) (fun hc107 => absurd hc107 (by decide))
          refine MW.iload_n dX6_keepsOff_147 rfl ?_
          refine MW.iconst (v := 5) dX6_keepsOff_148 (by decide) ?_
          refine MW.icmp_ne 198 dX6_keepsOff_149 (by decide) (fun hc149 => ?_) (fun hc149 => absurd hc149 (by decide))
          refine MW.iincj dX6_keepsOff_198 rfl rfl rfl ?_
          refine MW.goto 58 dX6_keepsOff_201 (by decide) ?_
          first
            | exact absurd rfl hc89
            | exact ih (p + 1) _ (by omega) (lt_s hI (fun ⟨y1, y2, y3⟩ => by first | exact y1 ((nI_eq (by omega) (by omega)).mp hc70) | exact y2 hc89 | exact hc100 y3))
        · skip
          refine MW.iconst (v := 1) dX6_keepsOff_103 (by decide) ?_
          exact MW.ireturn dX6_keepsOff_104 rfl (rfl) (by first | exact absurd rfl hc89 | exact (rtb_t ⟨p, by omega, (fun z9 => hc70 (by rw [z9])), hc89, hc100⟩))
theorem m_ko1 {k : Nat} (hk : i 17 = nI k) (hk8 : k ≤ 8) {j : Nat} (hj : j < 8) {c : Int32} : MC (En l D t b L xs) MX6_keepsOff d [.ref (q 18), .int 1, .int (nI j), .int c] (hw t q i a w) mc ms (rt (some (.int (bI (ko a k j c 1)))) (hw t q i a w) mc ms) := by
  show MW _ _ _ 0 [some (.ref (q 18)), some (.int 1), some (.int (nI j)), some (.int c), none, none] [] _ _ _ _
  refine MW.iload_n dX6_keepsOff_0 rfl ?_
  refine MW.iconst (v := 2) dX6_keepsOff_1 (by decide) ?_
  refine MW.icmp_ne 26 dX6_keepsOff_2 (by decide) (fun hc2 => ?_) (fun hc2 => absurd hc2 (by decide))
  refine MW.iload_n dX6_keepsOff_26 rfl ?_
  refine MW.iconst (v := 3) dX6_keepsOff_27 (by decide) ?_
  refine MW.icmp_ne 55 dX6_keepsOff_28 (by decide) (fun hc28 => ?_) (fun hc28 => absurd hc28 (by decide))
  refine MW.iconst (v := 0) dX6_keepsOff_55 (by decide) ?_
  refine MW.istore dX6_keepsOff_56 rfl rfl ?_
  exact lm_ko1 hk hk8 hj k 0 none (by omega) (fun m h => absurd h (by omega))
set_option maxHeartbeats 2000000 in
theorem lm_ko4 {k : Nat} (hk : i 17 = nI k) (hk8 : k ≤ 8) {j : Nat} (hj : j < 8) {c : Int32} : ∀ (r p : Nat) (z : Option Value), p + r = k → (∀ m, m < p → ¬ (m ≠ j ∧ ¬ a 17 m = -1 ∧ ¬ a 14 j = 0 ∧ ¬ a 14 m = 0 ∧ (a 17 m = c + 1 ∨ a 17 m = c - 1))) → MW (En l D t b L xs) MX6_keepsOff d 58 [some (.ref (q 18)), some (.int 4), some (.int (nI j)), some (.int c), some (.int (nI p)), z] [] (hw t q i a w) mc ms (rt (some (.int (bI (ko a k j c 4)))) (hw t q i a w) mc ms) := by
  intro r
  induction r with
  | zero =>
    intro p z hr hI
    refine MW.iload dX6_keepsOff_58 rfl ?_
    refine MW.aload_n dX6_keepsOff_60 rfl ?_
    refine MW.getf fX6_keepsOff_61 18 rfl rfl ?_
    refine MW.icmp_ge 204 dX6_keepsOff_64 (by decide) (fun hc64 => ?_) (fun hc64 => absurd (show i 17 ≤ nI p by rw [hk]; exact nI_le (by omega) (by omega)) hc64)
    refine MW.iconst (v := 0) dX6_keepsOff_204 (by decide) ?_
    exact MW.ireturn dX6_keepsOff_205 rfl (rfl) (rtb_f (fun ⟨m, h1, h2⟩ => hI m (by omega) h2))
  | succ r ih =>
    intro p z hr hI
    have hp : p < 8 := by omega
    refine MW.iload dX6_keepsOff_58 rfl ?_
    refine MW.aload_n dX6_keepsOff_60 rfl ?_
    refine MW.getf fX6_keepsOff_61 18 rfl rfl ?_
    refine MW.icmp_ge 204 dX6_keepsOff_64 (by decide) (fun hc64 => absurd hc64 (show ¬ i 17 ≤ nI p by rw [hk]; exact nI_ge (by omega) (by omega))) (fun hc64 => ?_)
    refine MW.iload dX6_keepsOff_67 rfl ?_
    refine MW.iload_n dX6_keepsOff_69 rfl ?_
    refine MW.icmp_ne 77 dX6_keepsOff_70 (by decide) (fun hc70 => ?_) (fun hc70 => ?_)
    · skip
      refine MW.aload_n dX6_keepsOff_77 rfl ?_
      refine MW.getf fX6_keepsOff_78 18 rfl rfl ?_
      refine MW.iload dX6_keepsOff_81 rfl ?_
      refine MW.iaj dX6_keepsOff_83 26 0 rfl rfl hp (by decide) ?_
      refine MW.istore dX6_keepsOff_84 rfl rfl ?_
      refine MW.iload dX6_keepsOff_86 rfl ?_
      refine MW.iconst (v := -1) dX6_keepsOff_88 (by decide) ?_
      refine MW.icmp_eq 198 dX6_keepsOff_89 (by decide) (fun hc89 => ?_) (fun hc89 => ?_)
      · skip
        refine MW.iincj dX6_keepsOff_198 rfl rfl rfl ?_
        refine MW.goto 58 dX6_keepsOff_201 (by decide) ?_
        first
          | exact absurd rfl hc89
          | exact ih (p + 1) _ (by omega) (lt_s hI (fun ⟨y1, y2, y3, y4, y5⟩ => by first | exact y1 ((nI_eq (by omega) (by omega)).mp hc70) | exact y2 hc89 | exact y3 hc116 | exact y4 hc126 | exact y5.elim hc134 hc142))
      · skip
        refine MW.iload_n dX6_keepsOff_92 rfl ?_
        refine MW.iconst (v := 1) dX6_keepsOff_93 (by decide) ?_
        refine MW.icmp_ne 105 dX6_keepsOff_94 (by decide) (fun hc94 => ?_) (fun hc94 => absurd hc94 (by decide))
        refine MW.iload_n dX6_keepsOff_105 rfl ?_
        refine MW.iconst (v := 4) dX6_keepsOff_106 (by decide) ?_
        refine MW.icmp_ne 147 dX6_keepsOff_107 (by decide) (fun hc107 => absurd rfl hc107) (fun hc107 => ?_)
        refine MW.aload_n dX6_keepsOff_110 rfl ?_
        refine MW.getf fX6_keepsOff_111 18 rfl rfl ?_
        refine MW.iload_n dX6_keepsOff_114 rfl ?_
        refine MW.zaj dX6_keepsOff_115 23 1 rfl rfl hj (by decide) ?_
        refine MW.if_eq 147 dX6_keepsOff_116 (by decide) (fun hc116 => ?_) (fun hc116 => ?_)
        · skip
          refine MW.iload_n dX6_keepsOff_147 rfl ?_
          refine MW.iconst (v := 5) dX6_keepsOff_148 (by decide) ?_
          refine MW.icmp_ne 198 dX6_keepsOff_149 (by decide) (fun hc149 => ?_) (fun hc149 => absurd hc149 (by decide))
          refine MW.iincj dX6_keepsOff_198 rfl rfl rfl ?_
          refine MW.goto 58 dX6_keepsOff_201 (by decide) ?_
          first
            | exact absurd rfl hc89
            | exact ih (p + 1) _ (by omega) (lt_s hI (fun ⟨y1, y2, y3, y4, y5⟩ => by first | exact y1 ((nI_eq (by omega) (by omega)).mp hc70) | exact y2 hc89 | exact y3 hc116 | exact y4 hc126 | exact y5.elim hc134 hc142))
        · skip
          refine MW.aload_n dX6_keepsOff_119 rfl ?_
          refine MW.getf fX6_keepsOff_120 18 rfl rfl ?_
          refine MW.iload dX6_keepsOff_123 rfl ?_
          refine MW.zaj dX6_keepsOff_125 23 1 rfl rfl hp (by decide) ?_
          refine MW.if_eq 147 dX6_keepsOff_126 (by decide) (fun hc126 => ?_) (fun hc126 => ?_)
          · skip
            refine MW.iload_n dX6_keepsOff_147 rfl ?_
            refine MW.iconst (v := 5) dX6_keepsOff_148 (by decide) ?_
            refine MW.icmp_ne 198 dX6_keepsOff_149 (by decide) (fun hc149 => ?_) (fun hc149 => absurd hc149 (by decide))
            refine MW.iincj dX6_keepsOff_198 rfl rfl rfl ?_
            refine MW.goto 58 dX6_keepsOff_201 (by decide) ?_
            first
              | exact absurd rfl hc89
              | exact ih (p + 1) _ (by omega) (lt_s hI (fun ⟨y1, y2, y3, y4, y5⟩ => by first | exact y1 ((nI_eq (by omega) (by omega)).mp hc70) | exact y2 hc89 | exact y3 hc116 | exact y4 hc126 | exact y5.elim hc134 hc142))
          · skip
            refine MW.iload dX6_keepsOff_129 rfl ?_
            refine MW.iload_n dX6_keepsOff_131 rfl ?_
            refine MW.iconst (v := 1) dX6_keepsOff_132 (by decide) ?_
            refine MW.iadd dX6_keepsOff_133 ?_
            refine MW.icmp_eq 145 dX6_keepsOff_134 (by decide) (fun hc134 => ?_) (fun hc134 => ?_)
            · skip
              refine MW.iconst (v := 1) dX6_keepsOff_145 (by decide) ?_
              exact MW.ireturn dX6_keepsOff_146 rfl (rfl) (by first | exact absurd rfl hc89 | exact (rtb_t ⟨p, by omega, (fun z9 => hc70 (by rw [z9])), hc89, hc116, hc126, by first | exact Or.inl hc134 | exact Or.inr hc142⟩))
            · skip
              refine MW.iload dX6_keepsOff_137 rfl ?_
              refine MW.iload_n dX6_keepsOff_139 rfl ?_
              refine MW.iconst (v := 1) dX6_keepsOff_140 (by decide) ?_
              refine MW.isub dX6_keepsOff_141 ?_
              refine MW.icmp_ne 147 dX6_keepsOff_142 (by decide) (fun hc142 => ?_) (fun hc142 => ?_)
              · skip
                refine MW.iload_n dX6_keepsOff_147 rfl ?_
                refine MW.iconst (v := 5) dX6_keepsOff_148 (by decide) ?_
                refine MW.icmp_ne 198 dX6_keepsOff_149 (by decide) (fun hc149 => ?_) (fun hc149 => absurd hc149 (by decide))
                refine MW.iincj dX6_keepsOff_198 rfl rfl rfl ?_
                refine MW.goto 58 dX6_keepsOff_201 (by decide) ?_
                first
                  | exact absurd rfl hc89
                  | exact ih (p + 1) _ (by omega) (lt_s hI (fun ⟨y1, y2, y3, y4, y5⟩ => by first | exact y1 ((nI_eq (by omega) (by omega)).mp hc70) | exact y2 hc89 | exact y3 hc116 | exact y4 hc126 | exact y5.elim hc134 hc142))
              · skip
                refine MW.iconst (v := 1) dX6_keepsOff_145 (by decide) ?_
                exact MW.ireturn dX6_keepsOff_146 rfl (rfl) (by first | exact absurd rfl hc89 | exact (rtb_t ⟨p, by omega, (fun z9 => hc70 (by rw [z9])), hc89, hc116, hc126, by first | exact Or.inl hc134 | exact Or.inr hc142⟩))
    · skip
      have hc89 : (-1 : Int32) = -1 := rfl
      skip
      refine MW.iconst (v := -1) dX6_keepsOff_73 (by decide) ?_
      refine MW.goto 84 dX6_keepsOff_74 (by decide) ?_
      refine MW.istore dX6_keepsOff_84 rfl rfl ?_
      refine MW.iload dX6_keepsOff_86 rfl ?_
      refine MW.iconst (v := -1) dX6_keepsOff_88 (by decide) ?_
      refine MW.icmp_eq 198 dX6_keepsOff_89 (by decide) (fun hc89 => ?_) (fun hc89 => ?_)
      · skip
        refine MW.iincj dX6_keepsOff_198 rfl rfl rfl ?_
        refine MW.goto 58 dX6_keepsOff_201 (by decide) ?_
        first
          | exact absurd rfl hc89
          | exact ih (p + 1) _ (by omega) (lt_s hI (fun ⟨y1, y2, y3, y4, y5⟩ => by first | exact y1 ((nI_eq (by omega) (by omega)).mp hc70) | exact y2 hc89 | exact y3 hc116 | exact y4 hc126 | exact y5.elim hc134 hc142))
      · skip
        refine MW.iload_n dX6_keepsOff_92 rfl ?_
        refine MW.iconst (v := 1) dX6_keepsOff_93 (by decide) ?_
        refine MW.icmp_ne 105 dX6_keepsOff_94 (by decide) (fun hc94 => ?_) (fun hc94 => absurd hc94 (by decide))
        refine MW.iload_n dX6_keepsOff_105 rfl ?_
        refine MW.iconst (v := 4) dX6_keepsOff_106 (by decide) ?_
        refine MW.icmp_ne 147 dX6_keepsOff_107 (by decide) (fun hc107 => absurd rfl hc107) (fun hc107 => ?_)
        refine MW.aload_n dX6_keepsOff_110 rfl ?_
        refine MW.getf fX6_keepsOff_111 18 rfl rfl ?_
        refine MW.iload_n dX6_keepsOff_114 rfl ?_
        refine MW.zaj dX6_keepsOff_115 23 1 rfl rfl hj (by decide) ?_
        refine MW.if_eq 147 dX6_keepsOff_116 (by decide) (fun hc116 => ?_) (fun hc116 => ?_)
        · skip
          refine MW.iload_n dX6_keepsOff_147 rfl ?_
          refine MW.iconst (v := 5) dX6_keepsOff_148 (by decide) ?_
          refine MW.icmp_ne 198 dX6_keepsOff_149 (by decide) (fun hc149 => ?_) (fun hc149 => absurd hc149 (by decide))
          refine MW.iincj dX6_keepsOff_198 rfl rfl rfl ?_
          refine MW.goto 58 dX6_keepsOff_201 (by decide) ?_
          first
            | exact absurd rfl hc89
            | exact ih (p + 1) _ (by omega) (lt_s hI (fun ⟨y1, y2, y3, y4, y5⟩ => by first | exact y1 ((nI_eq (by omega) (by omega)).mp hc70) | exact y2 hc89 | exact y3 hc116 | exact y4 hc126 | exact y5.elim hc134 hc142))
        · skip
          refine MW.aload_n dX6_keepsOff_119 rfl ?_
          refine MW.getf fX6_keepsOff_120 18 rfl rfl ?_
          refine MW.iload dX6_keepsOff_123 rfl ?_
          refine MW.zaj dX6_keepsOff_125 23 1 rfl rfl hp (by decide) ?_
          refine MW.if_eq 147 dX6_keepsOff_126 (by decide) (fun hc126 => ?_) (fun hc126 => ?_)
          · skip
            refine MW.iload_n dX6_keepsOff_147 rfl ?_
            refine MW.iconst (v := 5) dX6_keepsOff_148 (by decide) ?_
            refine MW.icmp_ne 198 dX6_keepsOff_149 (by decide) (fun hc149 => ?_) (fun hc149 => absurd hc149 (by decide))
            refine MW.iincj dX6_keepsOff_198 rfl rfl rfl ?_
            refine MW.goto 58 dX6_keepsOff_201 (by decide) ?_
            first
              | exact absurd rfl hc89
              | exact ih (p + 1) _ (by omega) (lt_s hI (fun ⟨y1, y2, y3, y4, y5⟩ => by first | exact y1 ((nI_eq (by omega) (by omega)).mp hc70) | exact y2 hc89 | exact y3 hc116 | exact y4 hc126 | exact y5.elim hc134 hc142))
          · skip
            refine MW.iload dX6_keepsOff_129 rfl ?_
            refine MW.iload_n dX6_keepsOff_131 rfl ?_
            refine MW.iconst (v := 1) dX6_keepsOff_132 (by decide) ?_
            refine MW.iadd dX6_keepsOff_133 ?_
            refine MW.icmp_eq 145 dX6_keepsOff_134 (by decide) (fun hc134 => ?_) (fun hc134 => ?_)
            · skip
              refine MW.iconst (v := 1) dX6_keepsOff_145 (by decide) ?_
              exact MW.ireturn dX6_keepsOff_146 rfl (rfl) (by first | exact absurd rfl hc89 | exact (rtb_t ⟨p, by omega, (fun z9 => hc70 (by rw [z9])), hc89, hc116, hc126, by first | exact Or.inl hc134 | exact Or.inr hc142⟩))
            · skip
              refine MW.iload dX6_keepsOff_137 rfl ?_
              refine MW.iload_n dX6_keepsOff_139 rfl ?_
              refine MW.iconst (v := 1) dX6_keepsOff_140 (by decide) ?_
              refine MW.isub dX6_keepsOff_141 ?_
              refine MW.icmp_ne 147 dX6_keepsOff_142 (by decide) (fun hc142 => ?_) (fun hc142 => ?_)
              · skip
                refine MW.iload_n dX6_keepsOff_147 rfl ?_
                refine MW.iconst (v := 5) dX6_keepsOff_148 (by decide) ?_
                refine MW.icmp_ne 198 dX6_keepsOff_149 (by decide) (fun hc149 => ?_) (fun hc149 => absurd hc149 (by decide))
                refine MW.iincj dX6_keepsOff_198 rfl rfl rfl ?_
                refine MW.goto 58 dX6_keepsOff_201 (by decide) ?_
                first
                  | exact absurd rfl hc89
                  | exact ih (p + 1) _ (by omega) (lt_s hI (fun ⟨y1, y2, y3, y4, y5⟩ => by first | exact y1 ((nI_eq (by omega) (by omega)).mp hc70) | exact y2 hc89 | exact y3 hc116 | exact y4 hc126 | exact y5.elim hc134 hc142))
              · skip
                refine MW.iconst (v := 1) dX6_keepsOff_145 (by decide) ?_
                exact MW.ireturn dX6_keepsOff_146 rfl (rfl) (by first | exact absurd rfl hc89 | exact (rtb_t ⟨p, by omega, (fun z9 => hc70 (by rw [z9])), hc89, hc116, hc126, by first | exact Or.inl hc134 | exact Or.inr hc142⟩))
theorem m_ko4 {k : Nat} (hk : i 17 = nI k) (hk8 : k ≤ 8) {j : Nat} (hj : j < 8) {c : Int32} : MC (En l D t b L xs) MX6_keepsOff d [.ref (q 18), .int 4, .int (nI j), .int c] (hw t q i a w) mc ms (rt (some (.int (bI (ko a k j c 4)))) (hw t q i a w) mc ms) := by
  show MW _ _ _ 0 [some (.ref (q 18)), some (.int 4), some (.int (nI j)), some (.int c), none, none] [] _ _ _ _
  refine MW.iload_n dX6_keepsOff_0 rfl ?_
  refine MW.iconst (v := 2) dX6_keepsOff_1 (by decide) ?_
  refine MW.icmp_ne 26 dX6_keepsOff_2 (by decide) (fun hc2 => ?_) (fun hc2 => absurd hc2 (by decide))
  refine MW.iload_n dX6_keepsOff_26 rfl ?_
  refine MW.iconst (v := 3) dX6_keepsOff_27 (by decide) ?_
  refine MW.icmp_ne 55 dX6_keepsOff_28 (by decide) (fun hc28 => ?_) (fun hc28 => absurd hc28 (by decide))
  refine MW.iconst (v := 0) dX6_keepsOff_55 (by decide) ?_
  refine MW.istore dX6_keepsOff_56 rfl rfl ?_
  exact lm_ko4 hk hk8 hj k 0 none (by omega) (fun m h => absurd h (by omega))
set_option maxHeartbeats 2000000 in
theorem lm_ko5 {k : Nat} (hk : i 17 = nI k) (hk8 : k ≤ 8) {j : Nat} (hj : j < 8) {c : Int32} : ∀ (r p : Nat) (z : Option Value), p + r = k → (∀ m, m < p → ¬ (m ≠ j ∧ ¬ a 17 m = -1 ∧ (a 15 j < a 15 m ∧ c < a 17 m ∨ a 15 m < a 15 j ∧ a 17 m < c))) → MW (En l D t b L xs) MX6_keepsOff d 58 [some (.ref (q 18)), some (.int 5), some (.int (nI j)), some (.int c), some (.int (nI p)), z] [] (hw t q i a w) mc ms (rt (some (.int (bI (ko a k j c 5)))) (hw t q i a w) mc ms) := by
  intro r
  induction r with
  | zero =>
    intro p z hr hI
    refine MW.iload dX6_keepsOff_58 rfl ?_
    refine MW.aload_n dX6_keepsOff_60 rfl ?_
    refine MW.getf fX6_keepsOff_61 18 rfl rfl ?_
    refine MW.icmp_ge 204 dX6_keepsOff_64 (by decide) (fun hc64 => ?_) (fun hc64 => absurd (show i 17 ≤ nI p by rw [hk]; exact nI_le (by omega) (by omega)) hc64)
    refine MW.iconst (v := 0) dX6_keepsOff_204 (by decide) ?_
    exact MW.ireturn dX6_keepsOff_205 rfl (rfl) (rtb_f (fun ⟨m, h1, h2⟩ => hI m (by omega) h2))
  | succ r ih =>
    intro p z hr hI
    have hp : p < 8 := by omega
    refine MW.iload dX6_keepsOff_58 rfl ?_
    refine MW.aload_n dX6_keepsOff_60 rfl ?_
    refine MW.getf fX6_keepsOff_61 18 rfl rfl ?_
    refine MW.icmp_ge 204 dX6_keepsOff_64 (by decide) (fun hc64 => absurd hc64 (show ¬ i 17 ≤ nI p by rw [hk]; exact nI_ge (by omega) (by omega))) (fun hc64 => ?_)
    refine MW.iload dX6_keepsOff_67 rfl ?_
    refine MW.iload_n dX6_keepsOff_69 rfl ?_
    refine MW.icmp_ne 77 dX6_keepsOff_70 (by decide) (fun hc70 => ?_) (fun hc70 => ?_)
    · skip
      refine MW.aload_n dX6_keepsOff_77 rfl ?_
      refine MW.getf fX6_keepsOff_78 18 rfl rfl ?_
      refine MW.iload dX6_keepsOff_81 rfl ?_
      refine MW.iaj dX6_keepsOff_83 26 0 rfl rfl hp (by decide) ?_
      refine MW.istore dX6_keepsOff_84 rfl rfl ?_
      refine MW.iload dX6_keepsOff_86 rfl ?_
      refine MW.iconst (v := -1) dX6_keepsOff_88 (by decide) ?_
      refine MW.icmp_eq 198 dX6_keepsOff_89 (by decide) (fun hc89 => ?_) (fun hc89 => ?_)
      · skip
        refine MW.iincj dX6_keepsOff_198 rfl rfl rfl ?_
        refine MW.goto 58 dX6_keepsOff_201 (by decide) ?_
        first
          | exact absurd rfl hc89
          | exact ih (p + 1) _ (by omega) (lt_s hI (fun ⟨y1, y2, y3⟩ => by first | exact y1 ((nI_eq (by omega) (by omega)).mp hc70) | exact y2 hc89 | (rcases y3 with ⟨v1, v2⟩ | ⟨v1, v2⟩ <;> first | exact absurd v1 (Int32.not_lt.mpr hc165) | exact absurd v2 hc171 | exact absurd v1 (Int32.not_lt.mpr hc187) | exact absurd v2 (Int32.not_lt.mpr hc193))))
      · skip
        refine MW.iload_n dX6_keepsOff_92 rfl ?_
        refine MW.iconst (v := 1) dX6_keepsOff_93 (by decide) ?_
        refine MW.icmp_ne 105 dX6_keepsOff_94 (by decide) (fun hc94 => ?_) (fun hc94 => absurd hc94 (by decide))
        refine MW.iload_n dX6_keepsOff_105 rfl ?_
        refine MW.iconst (v := 4) dX6_keepsOff_106 (by decide) ?_
        refine MW.icmp_ne 147 dX6_keepsOff_107 (by decide) (fun hc107 => ?_) (fun hc107 => absurd hc107 (by decide))
        refine MW.iload_n dX6_keepsOff_147 rfl ?_
        refine MW.iconst (v := 5) dX6_keepsOff_148 (by decide) ?_
        refine MW.icmp_ne 198 dX6_keepsOff_149 (by decide) (fun hc149 => absurd rfl hc149) (fun hc149 => ?_)
        refine MW.aload_n dX6_keepsOff_152 rfl ?_
        refine MW.getf fX6_keepsOff_153 18 rfl rfl ?_
        refine MW.iload_n dX6_keepsOff_156 rfl ?_
        refine MW.iaj dX6_keepsOff_157 24 0 rfl rfl hj (by decide) ?_
        refine MW.aload_n dX6_keepsOff_158 rfl ?_
        refine MW.getf fX6_keepsOff_159 18 rfl rfl ?_
        refine MW.iload dX6_keepsOff_162 rfl ?_
        refine MW.iaj dX6_keepsOff_164 24 0 rfl rfl hp (by decide) ?_
        refine MW.icmp_ge 174 dX6_keepsOff_165 (by decide) (fun hc165 => ?_) (fun hc165 => ?_)
        · skip
          refine MW.aload_n dX6_keepsOff_174 rfl ?_
          refine MW.getf fX6_keepsOff_175 18 rfl rfl ?_
          refine MW.iload_n dX6_keepsOff_178 rfl ?_
          refine MW.iaj dX6_keepsOff_179 24 0 rfl rfl hj (by decide) ?_
          refine MW.aload_n dX6_keepsOff_180 rfl ?_
          refine MW.getf fX6_keepsOff_181 18 rfl rfl ?_
          refine MW.iload dX6_keepsOff_184 rfl ?_
          refine MW.iaj dX6_keepsOff_186 24 0 rfl rfl hp (by decide) ?_
          refine MW.icmp_le 198 dX6_keepsOff_187 (by decide) (fun hc187 => ?_) (fun hc187 => ?_)
          · skip
            refine MW.iincj dX6_keepsOff_198 rfl rfl rfl ?_
            refine MW.goto 58 dX6_keepsOff_201 (by decide) ?_
            first
              | exact absurd rfl hc89
              | exact ih (p + 1) _ (by omega) (lt_s hI (fun ⟨y1, y2, y3⟩ => by first | exact y1 ((nI_eq (by omega) (by omega)).mp hc70) | exact y2 hc89 | (rcases y3 with ⟨v1, v2⟩ | ⟨v1, v2⟩ <;> first | exact absurd v1 (Int32.not_lt.mpr hc165) | exact absurd v2 hc171 | exact absurd v1 (Int32.not_lt.mpr hc187) | exact absurd v2 (Int32.not_lt.mpr hc193))))
          · skip
            refine MW.iload_n dX6_keepsOff_190 rfl ?_
            refine MW.iload dX6_keepsOff_191 rfl ?_
            refine MW.icmp_le 198 dX6_keepsOff_193 (by decide) (fun hc193 => ?_) (fun hc193 => ?_)
            · skip
              refine MW.iincj dX6_keepsOff_198 rfl rfl rfl ?_
              refine MW.goto 58 dX6_keepsOff_201 (by decide) ?_
              first
                | exact absurd rfl hc89
                | exact ih (p + 1) _ (by omega) (lt_s hI (fun ⟨y1, y2, y3⟩ => by first | exact y1 ((nI_eq (by omega) (by omega)).mp hc70) | exact y2 hc89 | (rcases y3 with ⟨v1, v2⟩ | ⟨v1, v2⟩ <;> first | exact absurd v1 (Int32.not_lt.mpr hc165) | exact absurd v2 hc171 | exact absurd v1 (Int32.not_lt.mpr hc187) | exact absurd v2 (Int32.not_lt.mpr hc193))))
            · skip
              refine MW.iconst (v := 1) dX6_keepsOff_196 (by decide) ?_
              exact MW.ireturn dX6_keepsOff_197 rfl (rfl) (by first | exact absurd rfl hc89 | exact (rtb_t ⟨p, by omega, (fun z9 => hc70 (by rw [z9])), hc89, by first | exact Or.inl ⟨Int32.not_le.mp hc165, hc171⟩ | exact Or.inr ⟨Int32.not_le.mp hc187, Int32.not_le.mp hc193⟩⟩))
        · skip
          refine MW.iload_n dX6_keepsOff_168 rfl ?_
          refine MW.iload dX6_keepsOff_169 rfl ?_
          refine MW.icmp_lt 196 dX6_keepsOff_171 (by decide) (fun hc171 => ?_) (fun hc171 => ?_)
          · skip
            refine MW.iconst (v := 1) dX6_keepsOff_196 (by decide) ?_
            exact MW.ireturn dX6_keepsOff_197 rfl (rfl) (by first | exact absurd rfl hc89 | exact (rtb_t ⟨p, by omega, (fun z9 => hc70 (by rw [z9])), hc89, by first | exact Or.inl ⟨Int32.not_le.mp hc165, hc171⟩ | exact Or.inr ⟨Int32.not_le.mp hc187, Int32.not_le.mp hc193⟩⟩))
          · skip
            refine MW.aload_n dX6_keepsOff_174 rfl ?_
            refine MW.getf fX6_keepsOff_175 18 rfl rfl ?_
            refine MW.iload_n dX6_keepsOff_178 rfl ?_
            refine MW.iaj dX6_keepsOff_179 24 0 rfl rfl hj (by decide) ?_
            refine MW.aload_n dX6_keepsOff_180 rfl ?_
            refine MW.getf fX6_keepsOff_181 18 rfl rfl ?_
            refine MW.iload dX6_keepsOff_184 rfl ?_
            refine MW.iaj dX6_keepsOff_186 24 0 rfl rfl hp (by decide) ?_
            refine MW.icmp_le 198 dX6_keepsOff_187 (by decide) (fun hc187 => ?_) (fun hc187 => ?_)
            · skip
              refine MW.iincj dX6_keepsOff_198 rfl rfl rfl ?_
              refine MW.goto 58 dX6_keepsOff_201 (by decide) ?_
              first
                | exact absurd rfl hc89
                | exact ih (p + 1) _ (by omega) (lt_s hI (fun ⟨y1, y2, y3⟩ => by first | exact y1 ((nI_eq (by omega) (by omega)).mp hc70) | exact y2 hc89 | (rcases y3 with ⟨v1, v2⟩ | ⟨v1, v2⟩ <;> first | exact absurd v1 (Int32.not_lt.mpr hc165) | exact absurd v2 hc171 | exact absurd v1 (Int32.not_lt.mpr hc187) | exact absurd v2 (Int32.not_lt.mpr hc193))))
            · skip
              refine MW.iload_n dX6_keepsOff_190 rfl ?_
              refine MW.iload dX6_keepsOff_191 rfl ?_
              refine MW.icmp_le 198 dX6_keepsOff_193 (by decide) (fun hc193 => ?_) (fun hc193 => ?_)
              · skip
                refine MW.iincj dX6_keepsOff_198 rfl rfl rfl ?_
                refine MW.goto 58 dX6_keepsOff_201 (by decide) ?_
                first
                  | exact absurd rfl hc89
                  | exact ih (p + 1) _ (by omega) (lt_s hI (fun ⟨y1, y2, y3⟩ => by first | exact y1 ((nI_eq (by omega) (by omega)).mp hc70) | exact y2 hc89 | (rcases y3 with ⟨v1, v2⟩ | ⟨v1, v2⟩ <;> first | exact absurd v1 (Int32.not_lt.mpr hc165) | exact absurd v2 hc171 | exact absurd v1 (Int32.not_lt.mpr hc187) | exact absurd v2 (Int32.not_lt.mpr hc193))))
              · skip
                refine MW.iconst (v := 1) dX6_keepsOff_196 (by decide) ?_
                exact MW.ireturn dX6_keepsOff_197 rfl (rfl) (by first | exact absurd rfl hc89 | exact (rtb_t ⟨p, by omega, (fun z9 => hc70 (by rw [z9])), hc89, by first | exact Or.inl ⟨Int32.not_le.mp hc165, hc171⟩ | exact Or.inr ⟨Int32.not_le.mp hc187, Int32.not_le.mp hc193⟩⟩))
    · skip
      have hc89 : (-1 : Int32) = -1 := rfl
      skip
      refine MW.iconst (v := -1) dX6_keepsOff_73 (by decide) ?_
      refine MW.goto 84 dX6_keepsOff_74 (by decide) ?_
      refine MW.istore dX6_keepsOff_84 rfl rfl ?_
      refine MW.iload dX6_keepsOff_86 rfl ?_
      refine MW.iconst (v := -1) dX6_keepsOff_88 (by decide) ?_
      refine MW.icmp_eq 198 dX6_keepsOff_89 (by decide) (fun hc89 => ?_) (fun hc89 => ?_)
      · skip
        refine MW.iincj dX6_keepsOff_198 rfl rfl rfl ?_
        refine MW.goto 58 dX6_keepsOff_201 (by decide) ?_
        first
          | exact absurd rfl hc89
          | exact ih (p + 1) _ (by omega) (lt_s hI (fun ⟨y1, y2, y3⟩ => by first | exact y1 ((nI_eq (by omega) (by omega)).mp hc70) | exact y2 hc89 | (rcases y3 with ⟨v1, v2⟩ | ⟨v1, v2⟩ <;> first | exact absurd v1 (Int32.not_lt.mpr hc165) | exact absurd v2 hc171 | exact absurd v1 (Int32.not_lt.mpr hc187) | exact absurd v2 (Int32.not_lt.mpr hc193))))
      · skip
        refine MW.iload_n dX6_keepsOff_92 rfl ?_
        refine MW.iconst (v := 1) dX6_keepsOff_93 (by decide) ?_
        refine MW.icmp_ne 105 dX6_keepsOff_94 (by decide) (fun hc94 => ?_) (fun hc94 => absurd hc94 (by decide))
        refine MW.iload_n dX6_keepsOff_105 rfl ?_
        refine MW.iconst (v := 4) dX6_keepsOff_106 (by decide) ?_
        refine MW.icmp_ne 147 dX6_keepsOff_107 (by decide) (fun hc107 => ?_) (fun hc107 => absurd hc107 (by decide))
        refine MW.iload_n dX6_keepsOff_147 rfl ?_
        refine MW.iconst (v := 5) dX6_keepsOff_148 (by decide) ?_
        refine MW.icmp_ne 198 dX6_keepsOff_149 (by decide) (fun hc149 => absurd rfl hc149) (fun hc149 => ?_)
        refine MW.aload_n dX6_keepsOff_152 rfl ?_
        refine MW.getf fX6_keepsOff_153 18 rfl rfl ?_
        refine MW.iload_n dX6_keepsOff_156 rfl ?_
        refine MW.iaj dX6_keepsOff_157 24 0 rfl rfl hj (by decide) ?_
        refine MW.aload_n dX6_keepsOff_158 rfl ?_
        refine MW.getf fX6_keepsOff_159 18 rfl rfl ?_
        refine MW.iload dX6_keepsOff_162 rfl ?_
        refine MW.iaj dX6_keepsOff_164 24 0 rfl rfl hp (by decide) ?_
        refine MW.icmp_ge 174 dX6_keepsOff_165 (by decide) (fun hc165 => ?_) (fun hc165 => ?_)
        · skip
          refine MW.aload_n dX6_keepsOff_174 rfl ?_
          refine MW.getf fX6_keepsOff_175 18 rfl rfl ?_
          refine MW.iload_n dX6_keepsOff_178 rfl ?_
          refine MW.iaj dX6_keepsOff_179 24 0 rfl rfl hj (by decide) ?_
          refine MW.aload_n dX6_keepsOff_180 rfl ?_
          refine MW.getf fX6_keepsOff_181 18 rfl rfl ?_
          refine MW.iload dX6_keepsOff_184 rfl ?_
          refine MW.iaj dX6_keepsOff_186 24 0 rfl rfl hp (by decide) ?_
          refine MW.icmp_le 198 dX6_keepsOff_187 (by decide) (fun hc187 => ?_) (fun hc187 => ?_)
          · skip
            refine MW.iincj dX6_keepsOff_198 rfl rfl rfl ?_
            refine MW.goto 58 dX6_keepsOff_201 (by decide) ?_
            first
              | exact absurd rfl hc89
              | exact ih (p + 1) _ (by omega) (lt_s hI (fun ⟨y1, y2, y3⟩ => by first | exact y1 ((nI_eq (by omega) (by omega)).mp hc70) | exact y2 hc89 | (rcases y3 with ⟨v1, v2⟩ | ⟨v1, v2⟩ <;> first | exact absurd v1 (Int32.not_lt.mpr hc165) | exact absurd v2 hc171 | exact absurd v1 (Int32.not_lt.mpr hc187) | exact absurd v2 (Int32.not_lt.mpr hc193))))
          · skip
            refine MW.iload_n dX6_keepsOff_190 rfl ?_
            refine MW.iload dX6_keepsOff_191 rfl ?_
            refine MW.icmp_le 198 dX6_keepsOff_193 (by decide) (fun hc193 => ?_) (fun hc193 => ?_)
            · skip
              refine MW.iincj dX6_keepsOff_198 rfl rfl rfl ?_
              refine MW.goto 58 dX6_keepsOff_201 (by decide) ?_
              first
                | exact absurd rfl hc89
                | exact ih (p + 1) _ (by omega) (lt_s hI (fun ⟨y1, y2, y3⟩ => by first | exact y1 ((nI_eq (by omega) (by omega)).mp hc70) | exact y2 hc89 | (rcases y3 with ⟨v1, v2⟩ | ⟨v1, v2⟩ <;> first | exact absurd v1 (Int32.not_lt.mpr hc165) | exact absurd v2 hc171 | exact absurd v1 (Int32.not_lt.mpr hc187) | exact absurd v2 (Int32.not_lt.mpr hc193))))
            · skip
              refine MW.iconst (v := 1) dX6_keepsOff_196 (by decide) ?_
              exact MW.ireturn dX6_keepsOff_197 rfl (rfl) (by first | exact absurd rfl hc89 | exact (rtb_t ⟨p, by omega, (fun z9 => hc70 (by rw [z9])), hc89, by first | exact Or.inl ⟨Int32.not_le.mp hc165, hc171⟩ | exact Or.inr ⟨Int32.not_le.mp hc187, Int32.not_le.mp hc193⟩⟩))
        · skip
          refine MW.iload_n dX6_keepsOff_168 rfl ?_
          refine MW.iload dX6_keepsOff_169 rfl ?_
          refine MW.icmp_lt 196 dX6_keepsOff_171 (by decide) (fun hc171 => ?_) (fun hc171 => ?_)
          · skip
            refine MW.iconst (v := 1) dX6_keepsOff_196 (by decide) ?_
            exact MW.ireturn dX6_keepsOff_197 rfl (rfl) (by first | exact absurd rfl hc89 | exact (rtb_t ⟨p, by omega, (fun z9 => hc70 (by rw [z9])), hc89, by first | exact Or.inl ⟨Int32.not_le.mp hc165, hc171⟩ | exact Or.inr ⟨Int32.not_le.mp hc187, Int32.not_le.mp hc193⟩⟩))
          · skip
            refine MW.aload_n dX6_keepsOff_174 rfl ?_
            refine MW.getf fX6_keepsOff_175 18 rfl rfl ?_
            refine MW.iload_n dX6_keepsOff_178 rfl ?_
            refine MW.iaj dX6_keepsOff_179 24 0 rfl rfl hj (by decide) ?_
            refine MW.aload_n dX6_keepsOff_180 rfl ?_
            refine MW.getf fX6_keepsOff_181 18 rfl rfl ?_
            refine MW.iload dX6_keepsOff_184 rfl ?_
            refine MW.iaj dX6_keepsOff_186 24 0 rfl rfl hp (by decide) ?_
            refine MW.icmp_le 198 dX6_keepsOff_187 (by decide) (fun hc187 => ?_) (fun hc187 => ?_)
            · skip
              refine MW.iincj dX6_keepsOff_198 rfl rfl rfl ?_
              refine MW.goto 58 dX6_keepsOff_201 (by decide) ?_
              first
                | exact absurd rfl hc89
                | exact ih (p + 1) _ (by omega) (lt_s hI (fun ⟨y1, y2, y3⟩ => by first | exact y1 ((nI_eq (by omega) (by omega)).mp hc70) | exact y2 hc89 | (rcases y3 with ⟨v1, v2⟩ | ⟨v1, v2⟩ <;> first | exact absurd v1 (Int32.not_lt.mpr hc165) | exact absurd v2 hc171 | exact absurd v1 (Int32.not_lt.mpr hc187) | exact absurd v2 (Int32.not_lt.mpr hc193))))
            · skip
              refine MW.iload_n dX6_keepsOff_190 rfl ?_
              refine MW.iload dX6_keepsOff_191 rfl ?_
              refine MW.icmp_le 198 dX6_keepsOff_193 (by decide) (fun hc193 => ?_) (fun hc193 => ?_)
              · skip
                refine MW.iincj dX6_keepsOff_198 rfl rfl rfl ?_
                refine MW.goto 58 dX6_keepsOff_201 (by decide) ?_
                first
                  | exact absurd rfl hc89
                  | exact ih (p + 1) _ (by omega) (lt_s hI (fun ⟨y1, y2, y3⟩ => by first | exact y1 ((nI_eq (by omega) (by omega)).mp hc70) | exact y2 hc89 | (rcases y3 with ⟨v1, v2⟩ | ⟨v1, v2⟩ <;> first | exact absurd v1 (Int32.not_lt.mpr hc165) | exact absurd v2 hc171 | exact absurd v1 (Int32.not_lt.mpr hc187) | exact absurd v2 (Int32.not_lt.mpr hc193))))
              · skip
                refine MW.iconst (v := 1) dX6_keepsOff_196 (by decide) ?_
                exact MW.ireturn dX6_keepsOff_197 rfl (rfl) (by first | exact absurd rfl hc89 | exact (rtb_t ⟨p, by omega, (fun z9 => hc70 (by rw [z9])), hc89, by first | exact Or.inl ⟨Int32.not_le.mp hc165, hc171⟩ | exact Or.inr ⟨Int32.not_le.mp hc187, Int32.not_le.mp hc193⟩⟩))
theorem m_ko5 {k : Nat} (hk : i 17 = nI k) (hk8 : k ≤ 8) {j : Nat} (hj : j < 8) {c : Int32} : MC (En l D t b L xs) MX6_keepsOff d [.ref (q 18), .int 5, .int (nI j), .int c] (hw t q i a w) mc ms (rt (some (.int (bI (ko a k j c 5)))) (hw t q i a w) mc ms) := by
  show MW _ _ _ 0 [some (.ref (q 18)), some (.int 5), some (.int (nI j)), some (.int c), none, none] [] _ _ _ _
  refine MW.iload_n dX6_keepsOff_0 rfl ?_
  refine MW.iconst (v := 2) dX6_keepsOff_1 (by decide) ?_
  refine MW.icmp_ne 26 dX6_keepsOff_2 (by decide) (fun hc2 => ?_) (fun hc2 => absurd hc2 (by decide))
  refine MW.iload_n dX6_keepsOff_26 rfl ?_
  refine MW.iconst (v := 3) dX6_keepsOff_27 (by decide) ?_
  refine MW.icmp_ne 55 dX6_keepsOff_28 (by decide) (fun hc28 => ?_) (fun hc28 => absurd hc28 (by decide))
  refine MW.iconst (v := 0) dX6_keepsOff_55 (by decide) ?_
  refine MW.istore dX6_keepsOff_56 rfl rfl ?_
  exact lm_ko5 hk hk8 hj k 0 none (by omega) (fun m h => absurd h (by omega))
end Model1
end
section
section Model2
variable {l : Launch} {D : va_G} {t : ty4} {b L : Nat} {xs : Nat → Int32} {q : Nat → Nat} {i : Nat → Int32} {a : Nat → Nat → Int32} {w : Int64} {d mc ms : Nat}
theorem m_ko {k : Nat} (hk : i 17 = nI k) (hk8 : k ≤ 8) {j : Nat} (hj : j < 8) {m : Nat} (hm : m < 12) : ∀ (u : Nat), 1 ≤ u → u ≤ 5 → MC (En l D t b L xs) MX6_keepsOff d [.ref (q 18), .int (nI u), .int (nI j), .int (nI m)] (hw t q i a w) mc ms (rt (some (.int (bI (ko a k j (nI m) u)))) (hw t q i a w) mc ms)
  | 0, h, _ => absurd h (by omega)
  | 1, _, _ => m_ko1 hk hk8 hj
  | 2, _, _ => m_ko2 hj hm
  | 3, _, _ => m_ko3 hj hm
  | 4, _, _ => m_ko4 hk hk8 hj
  | 5, _, _ => m_ko5 hk hk8 hj
  | u + 6, _, h => absurd h (by omega)
set_option maxHeartbeats 1000000 in
theorem m_axlesBearAt {k : Nat} (hk : i 17 = nI k) (hk8 : k ≤ 8) {j : Nat} (hj : j < 8) {c : Int32} : MC (En l D t b L xs) MX6_axlesBearAt (d + 2) [.ref (q 18), .int (nI j), .int c] (hw t q i a w) mc ms (rt (some (.int (bI (brM i (a 12) (upd (a 17) j c) k)))) (hw t q i a w) mc ms) := by
  show MW _ _ _ 0 [some (.ref (q 18)), some (.int (nI j)), some (.int c), none, none] [] _ _ _ _
  refine MW.aload_n dX6_axlesBearAt_0 rfl ?_
  refine MW.getf fX6_axlesBearAt_1 18 rfl rfl ?_
  refine MW.iload_n dX6_axlesBearAt_4 rfl ?_
  refine MW.iaj dX6_axlesBearAt_5 26 0 rfl rfl hj (by decide) ?_
  refine MW.istore_n dX6_axlesBearAt_6 rfl rfl ?_
  refine MW.aload_n dX6_axlesBearAt_7 rfl ?_
  refine MW.getf fX6_axlesBearAt_8 18 rfl rfl ?_
  refine MW.iload_n dX6_axlesBearAt_11 rfl ?_
  refine MW.iload_n dX6_axlesBearAt_12 rfl ?_
  refine MW.isj dX6_axlesBearAt_13 26 0 rfl rfl hj (by decide) ?_
  refine MW.heap hw_a26 ?_
  refine MW.aload_n dX6_axlesBearAt_14 rfl ?_
  refine MW.callV1 fX6_axlesBearAt_15 18 rfl (m_axlesBear (a := (au a 17 (upd (a 17) j c))) hk hk8) rfl rfl rfl rfl (Nat.le_of_ble_eq_true rfl) ?_
  refine MW.top (v' := .int (bI (brM i (a 12) (upd (a 17) j c) k))) rfl ?_
  refine MW.istore dX6_axlesBearAt_18 rfl rfl ?_
  refine MW.aload_n dX6_axlesBearAt_20 rfl ?_
  refine MW.getf fX6_axlesBearAt_21 18 rfl rfl ?_
  refine MW.iload_n dX6_axlesBearAt_24 rfl ?_
  refine MW.iload_n dX6_axlesBearAt_25 rfl ?_
  refine MW.isj dX6_axlesBearAt_26 26 0 rfl rfl hj (by decide) ?_
  refine MW.heap hw_a26 ?_
  refine MW.heap (h' := hw t q i a w) (by show hw t q i (au (au a 17 (upd (a 17) j c)) 17 (upd (au a 17 (upd (a 17) j c) 17) j (a 17 j))) w = _; rw [au_au, au_at, upd_upd, upd_self, au_self]) ?_
  refine MW.iload dX6_axlesBearAt_27 rfl ?_
  exact MW.ireturn dX6_axlesBearAt_29 rfl (nar_b (bI_01 _)) rt_r
set_option maxHeartbeats 2000000 in
theorem lm_bars {k : Nat} (hk : i 17 = nI k) (hk8 : k ≤ 8) {j : Nat} (hj : j < 8) {m : Nat} (hm : m < 12) : ∀ (r u : Nat), u + r = 6 → 1 ≤ u → sfd (ko a k j (nI m)) (cI (brM i (a 12) (upd (a 17) j (nI m)) k) 0 6) r u = sfd (ko a k j (nI m)) (cI (brM i (a 12) (upd (a 17) j (nI m)) k) 0 6) 5 1 → MW (En l D t b L xs) MX6_bars (d + 3) 2 [some (.ref (q 18)), some (.int (nI j)), some (.int (nI m)), some (.int (nI u))] [] (hw t q i a w) mc ms (rt (some (.int (sfd (ko a k j (nI m)) (cI (brM i (a 12) (upd (a 17) j (nI m)) k) 0 6) 5 1))) (hw t q i a w) mc ms) := by
  intro r
  induction r with
  | zero =>
    intro u hr hu hI
    refine MW.iload_n dX6_bars_2 rfl ?_
    refine MW.iconst (v := 5) dX6_bars_3 (by decide) ?_
    refine MW.icmp_gt 25 dX6_bars_4 (by decide) (fun hc4 => ?_) (fun hc4 => absurd (show (5 : Int32) < nI u from nI_lt (a := 5) (by omega) (by omega)) hc4)
    refine MW.aload_n dX6_bars_25 rfl ?_
    refine MW.iload_n dX6_bars_26 rfl ?_
    refine MW.iload_n dX6_bars_27 rfl ?_
    refine MW.callV1 fX6_bars_28 18 rfl (m_axlesBearAt hk hk8 hj) rfl rfl rfl rfl (Nat.le_of_ble_eq_true rfl) ?_
    refine MW.if_eq 38 dX6_bars_31 (by decide) (fun hc31 => ?_) (fun hc31 => ?_)
    · skip
      refine MW.bipush (v := 6) dX6_bars_38 (by decide) ?_
      exact MW.ireturn dX6_bars_40 rfl (rfl) (rt_e (by rw [← hI]; first | exact cI_t (nz hc31) | exact cI_f (zz hc31)))
    · skip
      refine MW.iconst (v := 0) dX6_bars_34 (by decide) ?_
      refine MW.goto 40 dX6_bars_35 (by decide) ?_
      exact MW.ireturn dX6_bars_40 rfl (rfl) (rt_e (by rw [← hI]; first | exact cI_t (nz hc31) | exact cI_f (zz hc31)))
  | succ r ih =>
    intro u hr hu hI
    refine MW.iload_n dX6_bars_2 rfl ?_
    refine MW.iconst (v := 5) dX6_bars_3 (by decide) ?_
    refine MW.icmp_gt 25 dX6_bars_4 (by decide) (fun hc4 => absurd hc4 (show ¬ (5 : Int32) < nI u from nI_nlt (a := 5) (b := u) (by omega) (by omega) |> fun z => z)) (fun hc4 => ?_)
    refine MW.aload_n dX6_bars_7 rfl ?_
    refine MW.iload_n dX6_bars_8 rfl ?_
    refine MW.iload_n dX6_bars_9 rfl ?_
    refine MW.iload_n dX6_bars_10 rfl ?_
    refine MW.callV1 fX6_bars_11 18 rfl (m_ko hk hk8 hj hm u hu (by omega)) rfl rfl rfl rfl (Nat.le_of_ble_eq_true rfl) ?_
    refine MW.if_eq 19 dX6_bars_14 (by decide) (fun hc14 => ?_) (fun hc14 => ?_)
    · skip
      refine MW.iincj dX6_bars_19 rfl rfl rfl ?_
      refine MW.goto 2 dX6_bars_22 (by decide) ?_
      exact ih (u + 1) (by omega) (by omega) (by rw [← hI]; exact (cI_f (zz hc14)).symm)
    · skip
      refine MW.iload_n dX6_bars_17 rfl ?_
      exact MW.ireturn dX6_bars_18 rfl (rfl) (rt_e (by rw [← hI]; exact cI_t (nz hc14)))
theorem m_bars {k : Nat} (hk : i 17 = nI k) (hk8 : k ≤ 8) {j : Nat} (hj : j < 8) {m : Nat} (hm : m < 12) : MC (En l D t b L xs) MX6_bars (d + 3) [.ref (q 18), .int (nI j), .int (nI m)] (hw t q i a w) mc ms (rt (some (.int (sfd (ko a k j (nI m)) (cI (brM i (a 12) (upd (a 17) j (nI m)) k) 0 6) 5 1))) (hw t q i a w) mc ms) := by
  show MW _ _ _ 0 [some (.ref (q 18)), some (.int (nI j)), some (.int (nI m)), none] [] _ _ _ _
  refine MW.iconst (v := 1) dX6_bars_0 (by decide) ?_
  refine MW.istore_n dX6_bars_1 rfl rfl ?_
  exact lm_bars hk hk8 hj hm 5 1 (by omega) (by omega) rfl
/-- the reference's isLeft -/
def ilP (i : Nat → Int32) (a : Nat → Nat → Int32) (k j m u : Nat) : Prop := (u = 6 ∧ brM i (a 12) (upd (a 17) j (nI m)) k) ∨ (u ≠ 6 ∧ ¬ ko a k j (nI m) u)
theorem m_isLeft {k : Nat} (hk : i 17 = nI k) (hk8 : k ≤ 8) {j : Nat} (hj : j < 8) {m : Nat} (hm : m < 12) {u : Nat} (hu1 : 1 ≤ u) (hu6 : u ≤ 6) : MC (En l D t b L xs) MX6_isLeft (d + 3) [.ref (q 18), .int (nI u), .int (nI j), .int (nI m)] (hw t q i a w) mc ms (rt (some (.int (bI (ilP i a k j m u)))) (hw t q i a w) mc ms) := by
  have h6 : nI u = 6 → u = 6 := fun z => (nI_eq (b := 6) (by omega) (by omega)).mp z
  show MW _ _ _ 0 [some (.ref (q 18)), some (.int (nI u)), some (.int (nI j)), some (.int (nI m))] [] _ _ _ _
  refine MW.iload_n dX6_isLeft_0 rfl ?_
  refine MW.bipush (v := 6) dX6_isLeft_1 (by decide) ?_
  refine MW.icmp_ne 15 dX6_isLeft_3 (by decide) (fun hc3 => ?_) (fun hc3 => ?_)
  · skip
    refine MW.aload_n dX6_isLeft_15 rfl ?_
    refine MW.iload_n dX6_isLeft_16 rfl ?_
    refine MW.iload_n dX6_isLeft_17 rfl ?_
    refine MW.iload_n dX6_isLeft_18 rfl ?_
    refine MW.callV1 fX6_isLeft_19 18 rfl (m_ko hk hk8 hj hm u hu1 (by have hz : u ≠ 6 := fun z => hc3 (by rw [z]; rfl); omega)) rfl rfl rfl rfl (Nat.le_of_ble_eq_true rfl) ?_
    refine MW.if_ne 29 dX6_isLeft_22 (by decide) (fun hc22 => ?_) (fun hc22 => ?_)
    · skip
      refine MW.iconst (v := 0) dX6_isLeft_29 (by decide) ?_
      exact MW.ireturn dX6_isLeft_30 rfl (by first | rfl | exact nar_b (bI_01 _)) (by first | exact rtb_t (Or.inr ⟨fun z => hc3 (by rw [z]; rfl), zz hc22⟩) | exact rtb_f (fun z => z.elim (fun y => hc3 (by rw [y.1]; rfl)) (fun y => y.2 (nz hc22))) | exact rt_e (bI_c ⟨fun z => z.elim (fun y => y.2) (fun y => absurd (h6 hc3) y.1), fun z => Or.inl ⟨h6 hc3, z⟩⟩))
    · skip
      refine MW.iconst (v := 1) dX6_isLeft_25 (by decide) ?_
      refine MW.goto 30 dX6_isLeft_26 (by decide) ?_
      exact MW.ireturn dX6_isLeft_30 rfl (by first | rfl | exact nar_b (bI_01 _)) (by first | exact rtb_t (Or.inr ⟨fun z => hc3 (by rw [z]; rfl), zz hc22⟩) | exact rtb_f (fun z => z.elim (fun y => hc3 (by rw [y.1]; rfl)) (fun y => y.2 (nz hc22))) | exact rt_e (bI_c ⟨fun z => z.elim (fun y => y.2) (fun y => absurd (h6 hc3) y.1), fun z => Or.inl ⟨h6 hc3, z⟩⟩))
  · skip
    refine MW.aload_n dX6_isLeft_6 rfl ?_
    refine MW.iload_n dX6_isLeft_7 rfl ?_
    refine MW.iload_n dX6_isLeft_8 rfl ?_
    refine MW.callV1 fX6_isLeft_9 18 rfl (m_axlesBearAt hk hk8 hj) rfl rfl rfl rfl (Nat.le_of_ble_eq_true rfl) ?_
    refine MW.goto 30 dX6_isLeft_12 (by decide) ?_
    exact MW.ireturn dX6_isLeft_30 rfl (by first | rfl | exact nar_b (bI_01 _)) (by first | exact rtb_t (Or.inr ⟨fun z => hc3 (by rw [z]; rfl), zz hc22⟩) | exact rtb_f (fun z => z.elim (fun y => hc3 (by rw [y.1]; rfl)) (fun y => y.2 (nz hc22))) | exact rt_e (bI_c ⟨fun z => z.elim (fun y => y.2) (fun y => absurd (h6 hc3) y.1), fun z => Or.inl ⟨h6 hc3, z⟩⟩))
/-- the candidates of a pallet: the cells in order, none, and the end -/
def cd (n c : Nat) : Int32 := if c < n then nI c else if c = n then -1 else 100
theorem cd_lt {n c : Nat} (h : c < n) : cd n c = nI c := if_pos h
theorem cd_n {n : Nat} : cd n n = -1 := by unfold cd; rw [if_neg (Nat.lt_irrefl n), if_pos rfl]
theorem cd_e {n : Nat} : cd n (n + 1) = 100 := by unfold cd; rw [if_neg (by omega), if_neg (by omega)]
theorem nI_m1 {m : Nat} (h : m < 2 ^ 31) : ¬ nI m = -1 := fun z => by have h9 := nI_pos (n := m) h; rw [z] at h9; exact h9 (by decide)
theorem m_nextPlace {n : Nat} (hn : i 12 = nI n) (hn12 : n ≤ 12) {c : Nat} (hc : c ≤ n) : MC (En l D t b L xs) MX6_nextPlace d [.ref (q 18), .int (cd n c)] (hw t q i a w) mc ms (rt (some (.int (cd n (c + 1)))) (hw t q i a w) mc ms) := by
  rcases Nat.lt_or_ge c n with hlt | hge
  · rw [cd_lt hlt]
    show MW _ _ _ 0 [some (.ref (q 18)), some (.int (nI c))] [] _ _ _ _
    refine MW.iload_n dX6_nextPlace_0 rfl ?_
    refine MW.iconst (v := -1) dX6_nextPlace_1 (by decide) ?_
    refine MW.icmp_ne 10 dX6_nextPlace_2 (by decide) (fun hc2 => ?_) (fun hc2 => absurd hc2 (nI_m1 (by omega)))
    refine MW.iload_n dX6_nextPlace_10 rfl ?_
    refine MW.iconst (v := 1) dX6_nextPlace_11 (by decide) ?_
    refine MW.iadd dX6_nextPlace_12 ?_
    refine MW.top (v' := .int (nI (c + 1))) (by rw [nI_1]) ?_
    refine MW.aload_n dX6_nextPlace_13 rfl ?_
    refine MW.getf fX6_nextPlace_14 18 rfl rfl ?_
    refine MW.icmp_ge 26 dX6_nextPlace_17 (by decide) (fun hc17 => ?_) (fun hc17 => ?_)
    · skip
      refine MW.iconst (v := -1) dX6_nextPlace_26 (by decide) ?_
      exact MW.ireturn dX6_nextPlace_27 rfl (rfl) (rt_e (by first | exact cd_lt (by rw [hn] at hc17; exact (nI_ltI (by omega) (by omega)).mp (Int32.not_le.mp hc17)) | (have h9 : n ≤ c + 1 := (nI_leI (by omega) (by omega)).mp (by rw [hn] at hc17; exact hc17); rw [show c + 1 = n by omega, cd_n])))
    · skip
      refine MW.iload_n dX6_nextPlace_20 rfl ?_
      refine MW.iconst (v := 1) dX6_nextPlace_21 (by decide) ?_
      refine MW.iadd dX6_nextPlace_22 ?_
      refine MW.top (v' := .int (nI (c + 1))) (by rw [nI_1]) ?_
      refine MW.goto 27 dX6_nextPlace_23 (by decide) ?_
      exact MW.ireturn dX6_nextPlace_27 rfl (rfl) (rt_e (by first | exact cd_lt (by rw [hn] at hc17; exact (nI_ltI (by omega) (by omega)).mp (Int32.not_le.mp hc17)) | (have h9 : n ≤ c + 1 := (nI_leI (by omega) (by omega)).mp (by rw [hn] at hc17; exact hc17); rw [show c + 1 = n by omega, cd_n])))
  · obtain rfl : c = n := by omega
    rw [cd_n, cd_e]
    show MW _ _ _ 0 [some (.ref (q 18)), some (.int (-1))] [] _ _ _ _
    refine MW.iload_n dX6_nextPlace_0 rfl ?_
    refine MW.iconst (v := -1) dX6_nextPlace_1 (by decide) ?_
    refine MW.icmp_ne 10 dX6_nextPlace_2 (by decide) (fun hc2 => absurd rfl hc2) (fun hc2 => ?_)
    refine MW.bipush (v := 100) dX6_nextPlace_5 (by decide) ?_
    refine MW.goto 27 dX6_nextPlace_7 (by decide) ?_
    exact MW.ireturn dX6_nextPlace_27 rfl (rfl) rt_r
/-- a pallet fits into a cell, axles apart -/
def ftP (a : Nat → Nat → Int32) (k j m : Nat) : Prop := ∀ u, 1 ≤ u → u ≤ 5 → ¬ ko a k j (nI m) u
set_option maxHeartbeats 2000000 in
theorem lm_fits2 {k : Nat} (hk : i 17 = nI k) (hk8 : k ≤ 8) {j : Nat} (hj : j < 8) {m : Nat} (hm : m < 12) : ∀ (r u : Nat), u + r = 6 → 1 ≤ u → (∀ v, 1 ≤ v → v < u → ¬ ko a k j (nI m) v) → MW (En l D t b L xs) MX6_fits (d + 1) 41 [some (.ref (q 18)), some (.int (nI j)), some (.int (nI m)), some (.int (nI u))] [] (hw t q i a w) mc ms (rt (some (.int (bI (ftP a k j m)))) (hw t q i a w) mc ms) := by
  intro r
  induction r with
  | zero =>
    intro u hr hu hI
    refine MW.iload_n dX6_fits_41 rfl ?_
    refine MW.iconst (v := 5) dX6_fits_42 (by decide) ?_
    refine MW.icmp_gt 64 dX6_fits_43 (by decide) (fun hc43 => ?_) (fun hc43 => absurd (show (5 : Int32) < nI u from nI_lt (a := 5) (by omega) (by omega)) hc43)
    refine MW.iconst (v := 1) dX6_fits_64 (by decide) ?_
    exact MW.ireturn dX6_fits_65 rfl (rfl) (rtb_t (fun v h1 h2 => hI v h1 (by omega)))
  | succ r ih =>
    intro u hr hu hI
    refine MW.iload_n dX6_fits_41 rfl ?_
    refine MW.iconst (v := 5) dX6_fits_42 (by decide) ?_
    refine MW.icmp_gt 64 dX6_fits_43 (by decide) (fun hc43 => absurd hc43 (show ¬ (5 : Int32) < nI u from nI_nlt (a := 5) (b := u) (by omega) (by omega) |> fun z => z)) (fun hc43 => ?_)
    refine MW.aload_n dX6_fits_46 rfl ?_
    refine MW.iload_n dX6_fits_47 rfl ?_
    refine MW.iload_n dX6_fits_48 rfl ?_
    refine MW.iload_n dX6_fits_49 rfl ?_
    refine MW.callV1 fX6_fits_50 18 rfl (m_ko hk hk8 hj hm u hu (by omega)) rfl rfl rfl rfl (Nat.le_of_ble_eq_true rfl) ?_
    refine MW.if_eq 58 dX6_fits_53 (by decide) (fun hc53 => ?_) (fun hc53 => ?_)
    · skip
      refine MW.iincj dX6_fits_58 rfl rfl rfl ?_
      refine MW.goto 41 dX6_fits_61 (by decide) ?_
      exact ih (u + 1) (by omega) (by omega) (fun v h1 h2 => by
        rcases Nat.lt_or_ge v u with h3 | h3
        · exact hI v h1 h3
        · rw [show v = u by omega]; exact zz hc53)
    · skip
      refine MW.iconst (v := 0) dX6_fits_56 (by decide) ?_
      exact MW.ireturn dX6_fits_57 rfl (rfl) (rtb_f (fun z => z u hu (by omega) (nz hc53)))
set_option maxHeartbeats 2000000 in
theorem lm_fits1 {k : Nat} (hk : i 17 = nI k) (hk8 : k ≤ 8) {j : Nat} (hj : j < 8) {m : Nat} (hm : m < 12) (hinv : ∀ p, j < p → p < k → a 17 p = -1) : ∀ (r p : Nat), p + r = k → j < p → MW (En l D t b L xs) MX6_fits (d + 1) 18 [some (.ref (q 18)), some (.int (nI j)), some (.int (nI m)), some (.int (nI p))] [] (hw t q i a w) mc ms (rt (some (.int (bI (ftP a k j m)))) (hw t q i a w) mc ms) := by
  intro r
  induction r with
  | zero =>
    intro p hr hp
    refine MW.iload_n dX6_fits_18 rfl ?_
    refine MW.aload_n dX6_fits_19 rfl ?_
    refine MW.getf fX6_fits_20 18 rfl rfl ?_
    refine MW.icmp_ge 39 dX6_fits_23 (by decide) (fun hc23 => ?_) (fun hc23 => absurd (show i 17 ≤ nI p by rw [hk]; exact nI_le (by omega) (by omega)) hc23)
    refine MW.iconst (v := 1) dX6_fits_39 (by decide) ?_
    refine MW.istore_n dX6_fits_40 rfl rfl ?_
    exact lm_fits2 hk hk8 hj hm 5 1 (by omega) (by omega) (fun v h1 h2 => absurd h2 (by omega))
  | succ r ih =>
    intro p hr hp
    have hp8 : p < 8 := by omega
    refine MW.iload_n dX6_fits_18 rfl ?_
    refine MW.aload_n dX6_fits_19 rfl ?_
    refine MW.getf fX6_fits_20 18 rfl rfl ?_
    refine MW.icmp_ge 39 dX6_fits_23 (by decide) (fun hc23 => absurd hc23 (show ¬ i 17 ≤ nI p by rw [hk]; exact nI_ge (by omega) (by omega))) (fun hc23 => ?_)
    refine MW.aload_n dX6_fits_26 rfl ?_
    refine MW.getf fX6_fits_27 18 rfl rfl ?_
    refine MW.iload_n dX6_fits_30 rfl ?_
    refine MW.iconst (v := -1) dX6_fits_31 (by decide) ?_
    refine MW.isj dX6_fits_32 26 0 rfl rfl hp8 (by decide) ?_
    refine MW.heap hw_a26 ?_
    refine MW.heap (h' := hw t q i a w) (by rw [← hinv p hp (by omega), upd_self, au_self]) ?_
    refine MW.iincj dX6_fits_33 rfl rfl rfl ?_
    refine MW.goto 18 dX6_fits_36 (by decide) ?_
    exact ih (p + 1) (by omega) (by omega)
set_option maxHeartbeats 1000000 in
theorem m_fits {k : Nat} (hk : i 17 = nI k) (hk8 : k ≤ 8) {j : Nat} (hj : j < 8) (hjk : j < k) {m : Nat} (hm : m < 12) (hwj : a 17 j = nI m) (hinv : ∀ p, j < p → p < k → a 17 p = -1) : MC (En l D t b L xs) MX6_fits (d + 1) [.ref (q 18), .int (nI j)] (hw t q i a w) mc ms (rt (some (.int (bI (ftP a k j m)))) (hw t q i a w) mc ms) := by
  show MW _ _ _ 0 [some (.ref (q 18)), some (.int (nI j)), none, none] [] _ _ _ _
  refine MW.aload_n dX6_fits_0 rfl ?_
  refine MW.getf fX6_fits_1 18 rfl rfl ?_
  refine MW.iload_n dX6_fits_4 rfl ?_
  refine MW.iaj dX6_fits_5 26 0 rfl rfl hj (by decide) ?_
  refine MW.top (v' := .int (nI m)) (by rw [hwj]) ?_
  refine MW.istore_n dX6_fits_6 rfl rfl ?_
  refine MW.iload_n dX6_fits_7 rfl ?_
  refine MW.iconst (v := -1) dX6_fits_8 (by decide) ?_
  refine MW.icmp_ne 14 dX6_fits_9 (by decide) (fun hc9 => ?_) (fun hc9 => absurd hc9 (nI_m1 (by omega)))
  refine MW.iload_n dX6_fits_14 rfl ?_
  refine MW.iconst (v := 1) dX6_fits_15 (by decide) ?_
  refine MW.iadd dX6_fits_16 ?_
  refine MW.top (v' := .int (nI (j + 1))) (by rw [nI_1]) ?_
  refine MW.istore_n dX6_fits_17 rfl rfl ?_
  exact lm_fits1 hk hk8 hj hm hinv (k - (j + 1)) (j + 1) (by omega) (by omega)
theorem m_fits1 {j : Nat} (hj : j < 8) (hwj : a 17 j = -1) : MC (En l D t b L xs) MX6_fits d [.ref (q 18), .int (nI j)] (hw t q i a w) mc ms (rt (some (.int 1)) (hw t q i a w) mc ms) := by
  show MW _ _ _ 0 [some (.ref (q 18)), some (.int (nI j)), none, none] [] _ _ _ _
  refine MW.aload_n dX6_fits_0 rfl ?_
  refine MW.getf fX6_fits_1 18 rfl rfl ?_
  refine MW.iload_n dX6_fits_4 rfl ?_
  refine MW.iaj dX6_fits_5 26 0 rfl rfl hj (by decide) ?_
  refine MW.top (v' := .int (-1)) (by rw [hwj]) ?_
  refine MW.istore_n dX6_fits_6 rfl rfl ?_
  refine MW.iload_n dX6_fits_7 rfl ?_
  refine MW.iconst (v := -1) dX6_fits_8 (by decide) ?_
  refine MW.icmp_ne 14 dX6_fits_9 (by decide) (fun hc9 => absurd rfl hc9) (fun hc9 => ?_)
  refine MW.iconst (v := 1) dX6_fits_12 (by decide) ?_
  exact MW.ireturn dX6_fits_13 rfl (rfl) rt_r
end Model2
end
section
/-- the reference's search: all placings of the pallets from k - r on, in order -/
noncomputable def mxS (i : Nat → Int32) (a : Nat → Nat → Int32) (n k : Nat) : Nat → (Nat → Int32) → SB → SB
  | 0, wh, sb => cS ((sb.1 < stn wh k ∨ stn wh k = sb.1 ∧ sb.2.1 < wtn (a 12) wh k) ∧ brM i (a 12) wh k) (stn wh k, wtn (a 12) wh k, cpk wh sb.2.2 k) sb
  | r + 1, wh, sb => mxS i a n k r wh (lp (fun c s => cS (ftP (au a 17 (upd wh (k - (r + 1)) (nI c))) k (k - (r + 1)) c) (mxS i a n k r (upd wh (k - (r + 1)) (nI c)) s) s) n 0 sb)
abbrev hx (t : ty4) (q : Nat → Nat) (i : Nat → Int32) (a : Nat → Nat → Int32) (w : Int64) (wh bs : Nat → Int32) : va_W := hw t q i (au (au a 17 wh) 18 bs) w
section Model3
variable {l : Launch} {D : va_G} {t : ty4} {b L : Nat} {xs : Nat → Int32} {q : Nat → Nat} {i : Nat → Int32} {a : Nat → Nat → Int32} {w : Int64} {d mc ms : Nat}
set_option maxHeartbeats 2000000 in
theorem lx_250 {k : Nat} (hk : i 17 = nI k) (hk8 : k ≤ 8) {n : Nat} (hn : i 12 = nI n) (hn12 : n ≤ 12) {p c : Nat} (hp : p < 8) (hc : c ≤ n) {wh bs : Nat → Int32} {x1 x2 : Int32} {Q : mi_O → va_W → Nat → Nat → Prop} (z4 z5 z6 : Option Value) (hQ : ∀ z4 z5 z6 : Option Value, MW (En l D t b L xs) MX6_solveExactly (d + 3) 66 [some (.ref (q 18)), some (.int x1), some (.int x2), some (.int (nI p)), z4, z5, z6] [] (hx t q i a w (upd wh p (cd n (c + 1))) bs) mc ms Q) : MW (En l D t b L xs) MX6_solveExactly (d + 3) 250 [some (.ref (q 18)), some (.int x1), some (.int x2), some (.int (nI p)), z4, z5, z6] [] (hx t q i a w (upd wh p (cd n c)) bs) mc ms Q := by
  refine MW.aload_n dX6_solveExactly_250 rfl ?_
  refine MW.getf fX6_solveExactly_251 18 rfl rfl ?_
  refine MW.iload_n dX6_solveExactly_254 rfl ?_
  refine MW.aload_n dX6_solveExactly_255 rfl ?_
  refine MW.aload_n dX6_solveExactly_256 rfl ?_
  refine MW.getf fX6_solveExactly_257 18 rfl rfl ?_
  refine MW.iload_n dX6_solveExactly_260 rfl ?_
  refine MW.iaj dX6_solveExactly_261 26 0 rfl rfl hp (by decide) ?_
  refine MW.top (v' := .int (cd n c)) (by show Value.int (upd wh p (cd n c) p) = _; rw [pk_us]) ?_
  refine MW.callV1 fX6_solveExactly_262 18 rfl (m_nextPlace hn hn12 hc) rfl rfl rfl rfl (Nat.le_of_ble_eq_true rfl) ?_
  refine MW.isj dX6_solveExactly_265 26 0 rfl rfl hp (by decide) ?_
  refine MW.heap hw_a26 ?_
  refine MW.heap (h' := hx t q i a w (upd wh p (cd n (c + 1))) bs) (by show hx t q i a w (upd (upd wh p (cd n c)) p (cd n (c + 1))) bs = _; rw [upd_upd]) ?_
  refine MW.goto 66 dX6_solveExactly_266 (by decide) ?_
  exact hQ _ _ _
set_option maxHeartbeats 2000000 in
theorem lx_91 {k : Nat} (hk : i 17 = nI k) (hk8 : k ≤ 8) {n : Nat} (hn : i 12 = nI n) (hn12 : n ≤ 12) {p c : Nat} (hp : p < 8) (hc : c ≤ n) {wh bs : Nat → Int32} {x1 x2 : Int32} {Q : mi_O → va_W → Nat → Nat → Prop} (z4 z5 z6 : Option Value) (hQ : ∀ z4 z5 z6 : Option Value, MW (En l D t b L xs) MX6_solveExactly (d + 3) 66 [some (.ref (q 18)), some (.int x1), some (.int x2), some (.int (nI p)), z4, z5, z6] [] (hx t q i a w (upd wh p (cd n (c + 1))) bs) mc ms Q) : MW (En l D t b L xs) MX6_solveExactly (d + 3) 91 [some (.ref (q 18)), some (.int x1), some (.int x2), some (.int (nI (p + 1) - 1)), z4, z5, z6] [] (hx t q i a w (upd wh p (cd n c)) bs) mc ms Q := by
  rw [nI_pred]
  refine MW.iload_n dX6_solveExactly_91 rfl ?_
  refine MW.if_lt 66 dX6_solveExactly_92 (by decide) (fun hc92 => absurd hc92 (nI_pos (by omega))) (fun hc92 => ?_)
  refine MW.aload_n dX6_solveExactly_95 rfl ?_
  refine MW.getf fX6_solveExactly_96 18 rfl rfl ?_
  refine MW.iload_n dX6_solveExactly_99 rfl ?_
  refine MW.aload_n dX6_solveExactly_100 rfl ?_
  refine MW.aload_n dX6_solveExactly_101 rfl ?_
  refine MW.getf fX6_solveExactly_102 18 rfl rfl ?_
  refine MW.iload_n dX6_solveExactly_105 rfl ?_
  refine MW.iaj dX6_solveExactly_106 26 0 rfl rfl hp (by decide) ?_
  refine MW.top (v' := .int (cd n c)) (by show Value.int (upd wh p (cd n c) p) = _; rw [pk_us]) ?_
  refine MW.callV1 fX6_solveExactly_107 18 rfl (m_nextPlace hn hn12 hc) rfl rfl rfl rfl (Nat.le_of_ble_eq_true rfl) ?_
  refine MW.isj dX6_solveExactly_110 26 0 rfl rfl hp (by decide) ?_
  refine MW.heap hw_a26 ?_
  refine MW.heap (h' := hx t q i a w (upd wh p (cd n (c + 1))) bs) (by show hx t q i a w (upd (upd wh p (cd n c)) p (cd n (c + 1))) bs = _; rw [upd_upd]) ?_
  refine MW.goto 66 dX6_solveExactly_111 (by decide) ?_
  exact hQ _ _ _
set_option maxHeartbeats 2000000 in
theorem lx_221 {k : Nat} (hk : i 17 = nI k) (hk8 : k ≤ 8) {wh bs : Nat → Int32} {x1 x2 x3 : Int32} (z4 z5 : Option Value) {Q : mi_O → va_W → Nat → Nat → Prop} : ∀ (r j : Nat), j + r = k → (MW (En l D t b L xs) MX6_solveExactly (d + 3) 250 [some (.ref (q 18)), some (.int x1), some (.int x2), some (.int x3), z4, z5, some (.int (nI k))] [] (hx t q i a w wh (cpk wh bs k)) mc ms Q) → MW (En l D t b L xs) MX6_solveExactly (d + 3) 221 [some (.ref (q 18)), some (.int x1), some (.int x2), some (.int x3), z4, z5, some (.int (nI j))] [] (hx t q i a w wh (cpk wh bs j)) mc ms Q := by
  intro r
  induction r with
  | zero =>
    intro j hr hQ
    obtain rfl : j = k := by omega
    refine MW.iload dX6_solveExactly_221 rfl ?_
    refine MW.aload_n dX6_solveExactly_223 rfl ?_
    refine MW.getf fX6_solveExactly_224 18 rfl rfl ?_
    refine MW.icmp_ge 250 dX6_solveExactly_227 (by decide) (fun hc227 => ?_) (fun hc227 => absurd (show i 17 ≤ nI j by rw [hk]; exact nI_le (by omega) (by omega)) hc227)
    exact hQ
  | succ r ih =>
    intro j hr hQ
    have hj : j < 8 := by omega
    refine MW.iload dX6_solveExactly_221 rfl ?_
    refine MW.aload_n dX6_solveExactly_223 rfl ?_
    refine MW.getf fX6_solveExactly_224 18 rfl rfl ?_
    refine MW.icmp_ge 250 dX6_solveExactly_227 (by decide) (fun hc227 => absurd hc227 (show ¬ i 17 ≤ nI j by rw [hk]; exact nI_ge (by omega) (by omega))) (fun hc227 => ?_)
    refine MW.aload_n dX6_solveExactly_230 rfl ?_
    refine MW.getf fX6_solveExactly_231 18 rfl rfl ?_
    refine MW.iload dX6_solveExactly_234 rfl ?_
    refine MW.aload_n dX6_solveExactly_236 rfl ?_
    refine MW.getf fX6_solveExactly_237 18 rfl rfl ?_
    refine MW.iload dX6_solveExactly_240 rfl ?_
    refine MW.iaj dX6_solveExactly_242 26 0 rfl rfl hj (by decide) ?_
    refine MW.isj dX6_solveExactly_243 27 0 rfl rfl hj (by decide) ?_
    refine MW.heap hw_a27 ?_
    refine MW.heap (h' := hx t q i a w wh (cpk wh bs (j + 1))) (by show hx t q i a w wh (upd (cpk wh bs j) j (wh j)) = _; rw [cpk_s]) ?_
    refine MW.iincj dX6_solveExactly_244 rfl rfl rfl ?_
    refine MW.goto 221 dX6_solveExactly_247 (by decide) ?_
    exact ih (j + 1) (by omega) hQ
set_option maxHeartbeats 2000000 in
theorem lx_A0 {k : Nat} (hk : i 17 = nI k) (hk8 : k ≤ 8) {n : Nat} (hn : i 12 = nI n) (hn12 : n ≤ 12) {Q : mi_O → va_W → Nat → Nat → Prop} : ∀ (p c : Nat) (wh : Nat → Int32) (sb : SB) (z4 z5 z6 : Option Value), p + (0 + 1) = k → c ≤ n → (∀ m, p < m → m < k → wh m = -1) → (∀ z4 z5 z6 : Option Value, MW (En l D t b L xs) MX6_solveExactly (d + 3) 66 [some (.ref (q 18)), some (.int (mxS i a n k 0 (upd wh p (cd n c)) sb).1), some (.int (mxS i a n k 0 (upd wh p (cd n c)) sb).2.1), some (.int (nI p)), z4, z5, z6] [] (hx t q i a w (upd wh p (cd n (c + 1))) (mxS i a n k 0 (upd wh p (cd n c)) sb).2.2) mc ms Q) → MW (En l D t b L xs) MX6_solveExactly (d + 3) 141 [some (.ref (q 18)), some (.int sb.1), some (.int sb.2.1), some (.int (nI p)), z4, z5, z6] [] (hx t q i a w (upd wh p (cd n c)) sb.2.2) mc ms Q := by
  intro p c wh sb z4 z5 z6 hr hc hinv hQ
  have hp : p < 8 := by omega
  refine MW.iload_n dX6_solveExactly_141 rfl ?_
  refine MW.iconst (v := 1) dX6_solveExactly_142 (by decide) ?_
  refine MW.iadd dX6_solveExactly_143 ?_
  refine MW.top (v' := .int (nI (p + 1))) (by rw [nI_1]) ?_
  refine MW.aload_n dX6_solveExactly_144 rfl ?_
  refine MW.getf fX6_solveExactly_145 18 rfl rfl ?_
  refine MW.icmp_ge 175 dX6_solveExactly_148 (by decide) (fun hc148 => ?_) (fun hc148 => absurd (show i 17 ≤ nI (p + 1) by rw [hk]; exact nI_le (by omega) (by omega)) hc148)
  refine MW.aload_n dX6_solveExactly_175 rfl ?_
  refine MW.callV1 fX6_solveExactly_176 18 rfl (m_standing (a := au (au a 17 (upd wh p (cd n c))) 18 sb.2.2) hk hk8) rfl rfl rfl rfl (Nat.le_of_ble_eq_true rfl) ?_
  refine MW.top (v' := .int (stn (upd wh p (cd n c)) k)) rfl ?_
  refine MW.istore dX6_solveExactly_179 rfl rfl ?_
  refine MW.aload_n dX6_solveExactly_181 rfl ?_
  refine MW.callV1 fX6_solveExactly_182 18 rfl (m_standingWeight (a := au (au a 17 (upd wh p (cd n c))) 18 sb.2.2) hk hk8) rfl rfl rfl rfl (Nat.le_of_ble_eq_true rfl) ?_
  refine MW.top (v' := .int (wtn (a 12) (upd wh p (cd n c)) k)) rfl ?_
  refine MW.istore dX6_solveExactly_185 rfl rfl ?_
  refine MW.iload dX6_solveExactly_187 rfl ?_
  refine MW.iload_n dX6_solveExactly_189 rfl ?_
  refine MW.icmp_gt 205 dX6_solveExactly_190 (by decide) (fun hc190 => ?_) (fun hc190 => ?_)
  · skip
    refine MW.aload_n dX6_solveExactly_205 rfl ?_
    refine MW.callV1 fX6_solveExactly_206 18 rfl (m_axlesBear (a := au (au a 17 (upd wh p (cd n c))) 18 sb.2.2) hk hk8) rfl rfl rfl rfl (Nat.le_of_ble_eq_true rfl) ?_
    refine MW.top (v' := .int (bI (brM i (a 12) (upd wh p (cd n c)) k))) rfl ?_
    refine MW.if_eq 250 dX6_solveExactly_209 (by decide) (fun hc209 => ?_) (fun hc209 => ?_)
    · skip
      have e9 : mxS i a n k 0 (upd wh p (cd n c)) sb = sb := cS_f (fun z => by first | exact zz hc209 z.2 | exact z.1.elim hc190 (fun y => by first | exact hc196 y.1 | exact absurd y.2 (Int32.not_lt.mpr hc202)))
      rw [e9] at hQ
      exact lx_250 hk hk8 hn hn12 hp hc _ _ _ hQ
    · skip
      refine MW.iload dX6_solveExactly_212 rfl ?_
      refine MW.istore_n dX6_solveExactly_214 rfl rfl ?_
      refine MW.iload dX6_solveExactly_215 rfl ?_
      refine MW.istore_n dX6_solveExactly_217 rfl rfl ?_
      refine MW.iconst (v := 0) dX6_solveExactly_218 (by decide) ?_
      refine MW.istore dX6_solveExactly_219 rfl rfl ?_
      have e9 : mxS i a n k 0 (upd wh p (cd n c)) sb = (stn (upd wh p (cd n c)) k, wtn (a 12) (upd wh p (cd n c)) k, cpk (upd wh p (cd n c)) sb.2.2 k) := cS_t ⟨by first | exact Or.inl hc190 | exact Or.inr ⟨hc196, Int32.not_le.mp hc202⟩, nz hc209⟩
      rw [e9] at hQ
      refine MW.heap (h' := hx t q i a w (upd wh p (cd n c)) (cpk (upd wh p (cd n c)) sb.2.2 0)) (by rw [cpk_0]) ?_
      exact lx_221 hk hk8 _ _ k 0 (by omega) (lx_250 hk hk8 hn hn12 hp hc _ _ _ hQ)
  · skip
    refine MW.iload dX6_solveExactly_193 rfl ?_
    refine MW.iload_n dX6_solveExactly_195 rfl ?_
    refine MW.icmp_ne 250 dX6_solveExactly_196 (by decide) (fun hc196 => ?_) (fun hc196 => ?_)
    · skip
      have e9 : mxS i a n k 0 (upd wh p (cd n c)) sb = sb := cS_f (fun z => by first | exact zz hc209 z.2 | exact z.1.elim hc190 (fun y => by first | exact hc196 y.1 | exact absurd y.2 (Int32.not_lt.mpr hc202)))
      rw [e9] at hQ
      exact lx_250 hk hk8 hn hn12 hp hc _ _ _ hQ
    · skip
      refine MW.iload dX6_solveExactly_199 rfl ?_
      refine MW.iload_n dX6_solveExactly_201 rfl ?_
      refine MW.icmp_le 250 dX6_solveExactly_202 (by decide) (fun hc202 => ?_) (fun hc202 => ?_)
      · skip
        have e9 : mxS i a n k 0 (upd wh p (cd n c)) sb = sb := cS_f (fun z => by first | exact zz hc209 z.2 | exact z.1.elim hc190 (fun y => by first | exact hc196 y.1 | exact absurd y.2 (Int32.not_lt.mpr hc202)))
        rw [e9] at hQ
        exact lx_250 hk hk8 hn hn12 hp hc _ _ _ hQ
      · skip
        refine MW.aload_n dX6_solveExactly_205 rfl ?_
        refine MW.callV1 fX6_solveExactly_206 18 rfl (m_axlesBear (a := au (au a 17 (upd wh p (cd n c))) 18 sb.2.2) hk hk8) rfl rfl rfl rfl (Nat.le_of_ble_eq_true rfl) ?_
        refine MW.top (v' := .int (bI (brM i (a 12) (upd wh p (cd n c)) k))) rfl ?_
        refine MW.if_eq 250 dX6_solveExactly_209 (by decide) (fun hc209 => ?_) (fun hc209 => ?_)
        · skip
          have e9 : mxS i a n k 0 (upd wh p (cd n c)) sb = sb := cS_f (fun z => by first | exact zz hc209 z.2 | exact z.1.elim hc190 (fun y => by first | exact hc196 y.1 | exact absurd y.2 (Int32.not_lt.mpr hc202)))
          rw [e9] at hQ
          exact lx_250 hk hk8 hn hn12 hp hc _ _ _ hQ
        · skip
          refine MW.iload dX6_solveExactly_212 rfl ?_
          refine MW.istore_n dX6_solveExactly_214 rfl rfl ?_
          refine MW.iload dX6_solveExactly_215 rfl ?_
          refine MW.istore_n dX6_solveExactly_217 rfl rfl ?_
          refine MW.iconst (v := 0) dX6_solveExactly_218 (by decide) ?_
          refine MW.istore dX6_solveExactly_219 rfl rfl ?_
          have e9 : mxS i a n k 0 (upd wh p (cd n c)) sb = (stn (upd wh p (cd n c)) k, wtn (a 12) (upd wh p (cd n c)) k, cpk (upd wh p (cd n c)) sb.2.2 k) := cS_t ⟨by first | exact Or.inl hc190 | exact Or.inr ⟨hc196, Int32.not_le.mp hc202⟩, nz hc209⟩
          rw [e9] at hQ
          refine MW.heap (h' := hx t q i a w (upd wh p (cd n c)) (cpk (upd wh p (cd n c)) sb.2.2 0)) (by rw [cpk_0]) ?_
          exact lx_221 hk hk8 _ _ k 0 (by omega) (lx_250 hk hk8 hn hn12 hp hc _ _ _ hQ)
set_option maxHeartbeats 2000000 in
theorem lx_cand {k : Nat} (hk : i 17 = nI k) (hk8 : k ≤ 8) {n : Nat} (hn : i 12 = nI n) (hn12 : n ≤ 12) {Q : mi_O → va_W → Nat → Nat → Prop} {r : Nat} (hA : ∀ (p c : Nat) (wh : Nat → Int32) (sb : SB) (z4 z5 z6 : Option Value), p + (r + 1) = k → c ≤ n → (∀ m, p < m → m < k → wh m = -1) → (∀ z4 z5 z6 : Option Value, MW (En l D t b L xs) MX6_solveExactly (d + 3) 66 [some (.ref (q 18)), some (.int (mxS i a n k r (upd wh p (cd n c)) sb).1), some (.int (mxS i a n k r (upd wh p (cd n c)) sb).2.1), some (.int (nI p)), z4, z5, z6] [] (hx t q i a w (upd wh p (cd n (c + 1))) (mxS i a n k r (upd wh p (cd n c)) sb).2.2) mc ms Q) → MW (En l D t b L xs) MX6_solveExactly (d + 3) 141 [some (.ref (q 18)), some (.int sb.1), some (.int sb.2.1), some (.int (nI p)), z4, z5, z6] [] (hx t q i a w (upd wh p (cd n c)) sb.2.2) mc ms Q) {p : Nat} (hpr : p + (r + 1) = k) {wh : Nat → Int32} (hinv : ∀ m, p ≤ m → m < k → wh m = -1) : ∀ (r2 c : Nat) (sb : SB) (z4 z5 z6 : Option Value), c + r2 = n → (∀ z4 z5 z6 : Option Value, MW (En l D t b L xs) MX6_solveExactly (d + 3) 91 [some (.ref (q 18)), some (.int (mxS i a n k r wh (lp (fun c s => cS (ftP (au a 17 (upd wh p (nI c))) k p c) (mxS i a n k r (upd wh p (nI c)) s) s) r2 c sb)).1), some (.int (mxS i a n k r wh (lp (fun c s => cS (ftP (au a 17 (upd wh p (nI c))) k p c) (mxS i a n k r (upd wh p (nI c)) s) s) r2 c sb)).2.1), some (.int (nI p - 1)), z4, z5, z6] [] (hx t q i a w wh (mxS i a n k r wh (lp (fun c s => cS (ftP (au a 17 (upd wh p (nI c))) k p c) (mxS i a n k r (upd wh p (nI c)) s) s) r2 c sb)).2.2) mc ms Q) → MW (En l D t b L xs) MX6_solveExactly (d + 3) 66 [some (.ref (q 18)), some (.int sb.1), some (.int sb.2.1), some (.int (nI p)), z4, z5, z6] [] (hx t q i a w (upd wh p (cd n c)) sb.2.2) mc ms Q := by
  have hp : p < 8 := by omega
  have hwp : wh p = -1 := hinv p (Nat.le_refl _) (by omega)
  intro r2
  induction r2 with
  | zero =>
    intro c sb z4 z5 z6 hc hQ
    obtain rfl : c = n := by omega
    have ew : upd wh p (cd c c) = wh := by rw [cd_n, ← hwp, upd_self]
    refine MW.iload_n dX6_solveExactly_66 rfl ?_
    refine MW.if_lt 269 dX6_solveExactly_67 (by decide) (fun hc67 => absurd hc67 (nI_pos (by omega))) (fun hc67 => ?_)
    refine MW.aload_n dX6_solveExactly_70 rfl ?_
    refine MW.getf fX6_solveExactly_71 18 rfl rfl ?_
    refine MW.iload_n dX6_solveExactly_74 rfl ?_
    refine MW.iaj dX6_solveExactly_75 26 0 rfl rfl hp (by decide) ?_
    refine MW.top (v' := .int (cd c c)) (by show Value.int (upd wh p (cd c c) p) = _; rw [pk_us]) ?_
    refine MW.bipush (v := 100) dX6_solveExactly_76 (by decide) ?_
    refine MW.icmp_ne 114 dX6_solveExactly_78 (by decide) (fun hc78 => ?_) (fun hc78 => absurd hc78 (show ¬ cd c c = 100 by rw [cd_n]; decide))
    refine MW.aload_n dX6_solveExactly_114 rfl ?_
    refine MW.iload_n dX6_solveExactly_115 rfl ?_
    refine MW.callV1 fX6_solveExactly_116 18 rfl (m_fits1 (a := au (au a 17 (upd wh p (cd c c))) 18 sb.2.2) hp (by show upd wh p (cd c c) p = _; rw [pk_us, cd_n])) rfl rfl rfl rfl (Nat.le_of_ble_eq_true rfl) ?_
    refine MW.if_ne 141 dX6_solveExactly_119 (by decide) (fun hc119 => ?_) (fun hc119 => absurd hc119 (by decide))
    refine hA p c wh sb _ _ _ hpr (Nat.le_refl _) (fun m h1 h2 => hinv m (by omega) h2) (fun z4 z5 z6 => ?_)
    rw [ew, cd_e]
    refine MW.iload_n dX6_solveExactly_66 rfl ?_
    refine MW.if_lt 269 dX6_solveExactly_67 (by decide) (fun hc67 => absurd hc67 (nI_pos (by omega))) (fun hc67 => ?_)
    refine MW.aload_n dX6_solveExactly_70 rfl ?_
    refine MW.getf fX6_solveExactly_71 18 rfl rfl ?_
    refine MW.iload_n dX6_solveExactly_74 rfl ?_
    refine MW.iaj dX6_solveExactly_75 26 0 rfl rfl hp (by decide) ?_
    refine MW.top (v' := .int 100) (by show Value.int (upd wh p 100 p) = _; rw [pk_us]) ?_
    refine MW.bipush (v := 100) dX6_solveExactly_76 (by decide) ?_
    refine MW.icmp_ne 114 dX6_solveExactly_78 (by decide) (fun hc78 => absurd rfl hc78) (fun hc78 => ?_)
    refine MW.aload_n dX6_solveExactly_81 rfl ?_
    refine MW.getf fX6_solveExactly_82 18 rfl rfl ?_
    refine MW.iload_n dX6_solveExactly_85 rfl ?_
    refine MW.iconst (v := -1) dX6_solveExactly_86 (by decide) ?_
    refine MW.isj dX6_solveExactly_87 26 0 rfl rfl hp (by decide) ?_
    refine MW.heap hw_a26 ?_
    refine MW.heap (h' := hx t q i a w wh (mxS i a c k r wh sb).2.2) (by show hx t q i a w (upd (upd wh p 100) p (-1)) _ = _; rw [upd_upd, ← hwp, upd_self]) ?_
    refine MW.iincs dX6_solveExactly_88 rfl rfl rfl ?_
    exact hQ _ _ _
  | succ r2 ih =>
    intro c sb z4 z5 z6 hc hQ
    have hcn : c < n := by omega
    have ec : cd n c = nI c := cd_lt hcn
    refine MW.iload_n dX6_solveExactly_66 rfl ?_
    refine MW.if_lt 269 dX6_solveExactly_67 (by decide) (fun hc67 => absurd hc67 (nI_pos (by omega))) (fun hc67 => ?_)
    refine MW.aload_n dX6_solveExactly_70 rfl ?_
    refine MW.getf fX6_solveExactly_71 18 rfl rfl ?_
    refine MW.iload_n dX6_solveExactly_74 rfl ?_
    refine MW.iaj dX6_solveExactly_75 26 0 rfl rfl hp (by decide) ?_
    refine MW.top (v' := .int (cd n c)) (by show Value.int (upd wh p (cd n c) p) = _; rw [pk_us]) ?_
    refine MW.bipush (v := 100) dX6_solveExactly_76 (by decide) ?_
    refine MW.icmp_ne 114 dX6_solveExactly_78 (by decide) (fun hc78 => ?_) (fun hc78 => absurd hc78 (show ¬ cd n c = 100 by rw [ec]; exact fun z => absurd ((nI_eq (b := 100) (by omega) (by omega)).mp z) (by omega)))
    refine MW.aload_n dX6_solveExactly_114 rfl ?_
    refine MW.iload_n dX6_solveExactly_115 rfl ?_
    refine MW.callV1 fX6_solveExactly_116 18 rfl (m_fits (a := au (au a 17 (upd wh p (cd n c))) 18 sb.2.2) (m := c) hk hk8 hp (by omega) (by omega) (by show upd wh p (cd n c) p = _; rw [pk_us, ec]) (fun m h1 h2 => by show upd wh p (cd n c) m = -1; rw [pk_un (by omega)]; exact hinv m (by omega) h2)) rfl rfl rfl rfl (Nat.le_of_ble_eq_true rfl) ?_
    refine MW.top (v' := .int (bI (ftP (au a 17 (upd wh p (nI c))) k p c))) (by rw [ec]; rfl) ?_
    refine MW.if_ne 141 dX6_solveExactly_119 (by decide) (fun hc119 => ?_) (fun hc119 => ?_)
    · skip
      refine hA p c wh sb _ _ _ hpr (by omega) (fun m h1 h2 => hinv m (by omega) h2) (fun z4 z5 z6 => ?_)
      rw [ec]
      exact ih (c + 1) _ _ _ _ (by omega) (by rw [show lp (fun c s => cS (ftP (au a 17 (upd wh p (nI c))) k p c) (mxS i a n k r (upd wh p (nI c)) s) s) (r2 + 1) c sb = lp (fun c s => cS (ftP (au a 17 (upd wh p (nI c))) k p c) (mxS i a n k r (upd wh p (nI c)) s) s) r2 (c + 1) (mxS i a n k r (upd wh p (nI c)) sb) from by show lp (fun c s => cS (ftP (au a 17 (upd wh p (nI c))) k p c) (mxS i a n k r (upd wh p (nI c)) s) s) r2 (c + 1) (cS _ _ sb) = _; rw [cS_t (nz hc119)]] at hQ; exact hQ)
    · skip
      refine MW.aload_n dX6_solveExactly_122 rfl ?_
      refine MW.getf fX6_solveExactly_123 18 rfl rfl ?_
      refine MW.iload_n dX6_solveExactly_126 rfl ?_
      refine MW.aload_n dX6_solveExactly_127 rfl ?_
      refine MW.aload_n dX6_solveExactly_128 rfl ?_
      refine MW.getf fX6_solveExactly_129 18 rfl rfl ?_
      refine MW.iload_n dX6_solveExactly_132 rfl ?_
      refine MW.iaj dX6_solveExactly_133 26 0 rfl rfl hp (by decide) ?_
      refine MW.top (v' := .int (cd n c)) (by show Value.int (upd wh p (cd n c) p) = _; rw [pk_us]) ?_
      refine MW.callV1 fX6_solveExactly_134 18 rfl (m_nextPlace hn hn12 (show c ≤ n by omega)) rfl rfl rfl rfl (Nat.le_of_ble_eq_true rfl) ?_
      refine MW.isj dX6_solveExactly_137 26 0 rfl rfl hp (by decide) ?_
      refine MW.heap hw_a26 ?_
      refine MW.heap (h' := hx t q i a w (upd wh p (cd n (c + 1))) sb.2.2) (by show hx t q i a w (upd (upd wh p (cd n c)) p (cd n (c + 1))) _ = _; rw [upd_upd]) ?_
      refine MW.goto 66 dX6_solveExactly_138 (by decide) ?_
      exact ih (c + 1) sb _ _ _ (by omega) (by rw [show lp (fun c s => cS (ftP (au a 17 (upd wh p (nI c))) k p c) (mxS i a n k r (upd wh p (nI c)) s) s) (r2 + 1) c sb = lp (fun c s => cS (ftP (au a 17 (upd wh p (nI c))) k p c) (mxS i a n k r (upd wh p (nI c)) s) s) r2 (c + 1) sb from by show lp (fun c s => cS (ftP (au a 17 (upd wh p (nI c))) k p c) (mxS i a n k r (upd wh p (nI c)) s) s) r2 (c + 1) (cS _ _ sb) = _; rw [cS_f (zz hc119)]] at hQ; exact hQ)
set_option maxHeartbeats 2000000 in
theorem lx_A {k : Nat} (hk : i 17 = nI k) (hk8 : k ≤ 8) {n : Nat} (hn : i 12 = nI n) (hn12 : n ≤ 12) {Q : mi_O → va_W → Nat → Nat → Prop} : ∀ r : Nat, ∀ (p c : Nat) (wh : Nat → Int32) (sb : SB) (z4 z5 z6 : Option Value), p + (r + 1) = k → c ≤ n → (∀ m, p < m → m < k → wh m = -1) → (∀ z4 z5 z6 : Option Value, MW (En l D t b L xs) MX6_solveExactly (d + 3) 66 [some (.ref (q 18)), some (.int (mxS i a n k r (upd wh p (cd n c)) sb).1), some (.int (mxS i a n k r (upd wh p (cd n c)) sb).2.1), some (.int (nI p)), z4, z5, z6] [] (hx t q i a w (upd wh p (cd n (c + 1))) (mxS i a n k r (upd wh p (cd n c)) sb).2.2) mc ms Q) → MW (En l D t b L xs) MX6_solveExactly (d + 3) 141 [some (.ref (q 18)), some (.int sb.1), some (.int sb.2.1), some (.int (nI p)), z4, z5, z6] [] (hx t q i a w (upd wh p (cd n c)) sb.2.2) mc ms Q := by
  intro r
  induction r with
  | zero => exact lx_A0 hk hk8 hn hn12
  | succ r ih =>
    intro p c wh sb z4 z5 z6 hr hc hinv hQ
    have hp : p + 1 < 8 := by omega
    have ek : k - (r + 1) = p + 1 := by omega
    have hfirst : ∀ z4 z5 z6 : Option Value, MW (En l D t b L xs) MX6_solveExactly (d + 3) 66 [some (.ref (q 18)), some (.int sb.1), some (.int sb.2.1), some (.int (nI (p + 1))), z4, z5, z6] [] (hx t q i a w (upd (upd wh p (cd n c)) (p + 1) (cd n 0)) sb.2.2) mc ms Q := fun z4 z5 z6 => lx_cand hk hk8 hn hn12 ih (p := p + 1) (by omega) (wh := (upd wh p (cd n c))) (fun m h1 h2 => by rw [pk_un (by omega)]; exact hinv m (by omega) h2) n 0 sb z4 z5 z6 (by omega) (fun z4 z5 z6 => lx_91 hk hk8 hn hn12 (by omega) hc z4 z5 z6 (fun z4 z5 z6 => by have h9 := hQ z4 z5 z6; rw [show mxS i a n k (r + 1) (upd wh p (cd n c)) sb = mxS i a n k r (upd wh p (cd n c)) (lp (fun c_1 s => cS (ftP (au a 17 (upd (upd wh p (cd n c)) (p + 1) (nI c_1))) k (p + 1) c_1) (mxS i a n k r (upd (upd wh p (cd n c)) (p + 1) (nI c_1)) s) s) n 0 sb) from by unfold mxS; rw [ek]] at h9; exact h9))
    refine MW.iload_n dX6_solveExactly_141 rfl ?_
    refine MW.iconst (v := 1) dX6_solveExactly_142 (by decide) ?_
    refine MW.iadd dX6_solveExactly_143 ?_
    refine MW.top (v' := .int (nI (p + 1))) (by rw [nI_1]) ?_
    refine MW.aload_n dX6_solveExactly_144 rfl ?_
    refine MW.getf fX6_solveExactly_145 18 rfl rfl ?_
    refine MW.icmp_ge 175 dX6_solveExactly_148 (by decide) (fun hc148 => absurd hc148 (show ¬ i 17 ≤ nI (p + 1) by rw [hk]; exact nI_ge (by omega) (by omega))) (fun hc148 => ?_)
    refine MW.iincj dX6_solveExactly_151 rfl rfl rfl ?_
    refine MW.aload_n dX6_solveExactly_154 rfl ?_
    refine MW.getf fX6_solveExactly_155 18 rfl rfl ?_
    refine MW.iload_n dX6_solveExactly_158 rfl ?_
    refine MW.aload_n dX6_solveExactly_159 rfl ?_
    refine MW.getf fX6_solveExactly_160 18 rfl rfl ?_
    refine MW.if_le 170 dX6_solveExactly_163 (by decide) (fun hc163 => ?_) (fun hc163 => ?_)
    · skip
      have e0 : cd n 0 = -1 := by rw [hn] at hc163
        have h0 : n = 0 := by
          rcases Nat.eq_zero_or_pos n with z | z
          · exact z
          · exact absurd hc163 (nI_nle z (by omega))
        rw [h0]; rfl
      refine MW.iconst (v := -1) dX6_solveExactly_170 (by decide) ?_
      refine MW.isj dX6_solveExactly_171 26 0 rfl rfl hp (by decide) ?_
      refine MW.heap hw_a26 ?_
      refine MW.goto 66 dX6_solveExactly_172 (by decide) ?_
      refine MW.heap (h' := hx t q i a w (upd (upd wh p (cd n c)) (p + 1) (cd n 0)) sb.2.2) (by rw [e0]; rfl) ?_
      exact hfirst _ _ _
    · skip
      have e0 : cd n 0 = 0 := by
        rw [hn] at hc163
        have h0 : 0 < n := by
          rcases Nat.eq_zero_or_pos n with z | z
          · rw [z] at hc163; exact absurd (show (nI 0 : Int32) ≤ 0 by decide) hc163
          · exact z
        rw [cd_lt h0]; rfl
      refine MW.iconst (v := 0) dX6_solveExactly_166 (by decide) ?_
      refine MW.goto 171 dX6_solveExactly_167 (by decide) ?_
      refine MW.isj dX6_solveExactly_171 26 0 rfl rfl hp (by decide) ?_
      refine MW.heap hw_a26 ?_
      refine MW.goto 66 dX6_solveExactly_172 (by decide) ?_
      refine MW.heap (h' := hx t q i a w (upd (upd wh p (cd n c)) (p + 1) (cd n 0)) sb.2.2) (by rw [e0]; rfl) ?_
      exact hfirst _ _ _
end Model3
end
