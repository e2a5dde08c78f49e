section
-- ===== PART A: goes FIRST, ahead of the names: the tables' words, and 'selects' of the private methods out of them =====
/-- a private method of a class that the tables say can be made, by its rows of tables_1 -/
def lw_okq (q : MethodName × Nat) : Prop := (q.1.cls ≠ "java/lang/invoke/MethodHandle" ∧ q.1.cls ≠ "java/lang/invoke/VarHandle") ∧ Cond.instantiable q.1.cls q.2 ∈ tables_1 ∧ Cond.privateMethod q.1 ∈ tables_1 ∧ Cond.instanceMethod q.1 ∈ tables_1
theorem lw_p0 : lw_okq (⟨"LetByColours$Letters", "append", "(I)Z"⟩, 2) := ⟨⟨by decide +kernel, by decide +kernel⟩, List.mem_of_getElem? (i := 28) (by decide +kernel), List.mem_of_getElem? (i := 282) (by decide +kernel), List.mem_of_getElem? (i := 283) (by decide +kernel)⟩
theorem lw_p1 : lw_okq (⟨"LetByColours$Reader", "readAll", "(LLetByColours$Letters;LLetByColours$Leases;)I"⟩, 1) := ⟨⟨by decide +kernel, by decide +kernel⟩, List.mem_of_getElem? (i := 44) (by decide +kernel), List.mem_of_getElem? (i := 286) (by decide +kernel), List.mem_of_getElem? (i := 287) (by decide +kernel)⟩
theorem lw_p2 : lw_okq (⟨"LetByColours$Leases", "clear", "()V"⟩, 12) := ⟨⟨by decide +kernel, by decide +kernel⟩, List.mem_of_getElem? (i := 54) (by decide +kernel), List.mem_of_getElem? (i := 290) (by decide +kernel), List.mem_of_getElem? (i := 291) (by decide +kernel)⟩
theorem lw_p3 : lw_okq (⟨"LetByColours$Leases", "setFog", "(III)Z"⟩, 12) := ⟨⟨by decide +kernel, by decide +kernel⟩, List.mem_of_getElem? (i := 54) (by decide +kernel), List.mem_of_getElem? (i := 294) (by decide +kernel), List.mem_of_getElem? (i := 295) (by decide +kernel)⟩
theorem lw_p4 : lw_okq (⟨"LetByColours$Reader", "readItem", "(LLetByColours$Letters;ILLetByColours$Leases;)I"⟩, 1) := ⟨⟨by decide +kernel, by decide +kernel⟩, List.mem_of_getElem? (i := 44) (by decide +kernel), List.mem_of_getElem? (i := 298) (by decide +kernel), List.mem_of_getElem? (i := 299) (by decide +kernel)⟩
theorem lw_p5 : lw_okq (⟨"LetByColours$Letters", "at", "(I)I"⟩, 2) := ⟨⟨by decide +kernel, by decide +kernel⟩, List.mem_of_getElem? (i := 28) (by decide +kernel), List.mem_of_getElem? (i := 302) (by decide +kernel), List.mem_of_getElem? (i := 303) (by decide +kernel)⟩
theorem lw_p6 : lw_okq (⟨"LetByColours$Letters", "isFigure", "(I)Z"⟩, 2) := ⟨⟨by decide +kernel, by decide +kernel⟩, List.mem_of_getElem? (i := 28) (by decide +kernel), List.mem_of_getElem? (i := 312) (by decide +kernel), List.mem_of_getElem? (i := 313) (by decide +kernel)⟩
theorem lw_p7 : lw_okq (⟨"LetByColours$Leases", "accept", "(I[I)Z"⟩, 12) := ⟨⟨by decide +kernel, by decide +kernel⟩, List.mem_of_getElem? (i := 54) (by decide +kernel), List.mem_of_getElem? (i := 320) (by decide +kernel), List.mem_of_getElem? (i := 321) (by decide +kernel)⟩
theorem lw_p8 : lw_okq (⟨"LetByColours$Leases", "addTenant", "([I)Z"⟩, 12) := ⟨⟨by decide +kernel, by decide +kernel⟩, List.mem_of_getElem? (i := 54) (by decide +kernel), List.mem_of_getElem? (i := 324) (by decide +kernel), List.mem_of_getElem? (i := 325) (by decide +kernel)⟩
theorem lw_p9 : lw_okq (⟨"LetByColours$Leases", "addShip", "(II)Z"⟩, 12) := ⟨⟨by decide +kernel, by decide +kernel⟩, List.mem_of_getElem? (i := 54) (by decide +kernel), List.mem_of_getElem? (i := 332) (by decide +kernel), List.mem_of_getElem? (i := 333) (by decide +kernel)⟩
theorem lw_p10 : lw_okq (⟨"LetByColours$Leases", "setLimit", "(I)Z"⟩, 12) := ⟨⟨by decide +kernel, by decide +kernel⟩, List.mem_of_getElem? (i := 54) (by decide +kernel), List.mem_of_getElem? (i := 340) (by decide +kernel), List.mem_of_getElem? (i := 341) (by decide +kernel)⟩
theorem lw_p11 : lw_okq (⟨"LetByColours$State", "begin", "(LLetByColours$Leases;)V"⟩, 5) := ⟨⟨by decide +kernel, by decide +kernel⟩, List.mem_of_getElem? (i := 118) (by decide +kernel), List.mem_of_getElem? (i := 344) (by decide +kernel), List.mem_of_getElem? (i := 345) (by decide +kernel)⟩
theorem lw_p12 : lw_okq (⟨"LetByColours", "isTenant", "(I)Z"⟩, 11) := ⟨⟨by decide +kernel, by decide +kernel⟩, List.mem_of_getElem? (i := 20) (by decide +kernel), List.mem_of_getElem? (i := 404) (by decide +kernel), List.mem_of_getElem? (i := 405) (by decide +kernel)⟩
theorem lw_p13 : lw_okq (⟨"LetByColours", "isShip", "(I)Z"⟩, 11) := ⟨⟨by decide +kernel, by decide +kernel⟩, List.mem_of_getElem? (i := 20) (by decide +kernel), List.mem_of_getElem? (i := 412) (by decide +kernel), List.mem_of_getElem? (i := 413) (by decide +kernel)⟩
theorem lw_p14 : lw_okq (⟨"LetByColours", "lightAsNow", "()V"⟩, 11) := ⟨⟨by decide +kernel, by decide +kernel⟩, List.mem_of_getElem? (i := 20) (by decide +kernel), List.mem_of_getElem? (i := 423) (by decide +kernel), List.mem_of_getElem? (i := 424) (by decide +kernel)⟩
theorem lw_p15 : lw_okq (⟨"LetByColours", "lightAs", "(LLetByColours$State;)V"⟩, 11) := ⟨⟨by decide +kernel, by decide +kernel⟩, List.mem_of_getElem? (i := 20) (by decide +kernel), List.mem_of_getElem? (i := 427) (by decide +kernel), List.mem_of_getElem? (i := 428) (by decide +kernel)⟩
def lw_privs_1 : List (MethodName × Nat) := [(⟨"LetByColours$Letters", "append", "(I)Z"⟩, 2), (⟨"LetByColours$Reader", "readAll", "(LLetByColours$Letters;LLetByColours$Leases;)I"⟩, 1), (⟨"LetByColours$Leases", "clear", "()V"⟩, 12), (⟨"LetByColours$Leases", "setFog", "(III)Z"⟩, 12), (⟨"LetByColours$Reader", "readItem", "(LLetByColours$Letters;ILLetByColours$Leases;)I"⟩, 1), (⟨"LetByColours$Letters", "at", "(I)I"⟩, 2), (⟨"LetByColours$Letters", "isFigure", "(I)Z"⟩, 2), (⟨"LetByColours$Leases", "accept", "(I[I)Z"⟩, 12), (⟨"LetByColours$Leases", "addTenant", "([I)Z"⟩, 12), (⟨"LetByColours$Leases", "addShip", "(II)Z"⟩, 12), (⟨"LetByColours$Leases", "setLimit", "(I)Z"⟩, 12), (⟨"LetByColours$State", "begin", "(LLetByColours$Leases;)V"⟩, 5), (⟨"LetByColours", "isTenant", "(I)Z"⟩, 11), (⟨"LetByColours", "isShip", "(I)Z"⟩, 11), (⟨"LetByColours", "lightAsNow", "()V"⟩, 11), (⟨"LetByColours", "lightAs", "(LLetByColours$State;)V"⟩, 11)]
theorem lw_r1 : ∀ q ∈ lw_privs_1, lw_okq q := List.forall_mem_cons.mpr ⟨lw_p0, List.forall_mem_cons.mpr ⟨lw_p1, List.forall_mem_cons.mpr ⟨lw_p2, List.forall_mem_cons.mpr ⟨lw_p3, List.forall_mem_cons.mpr ⟨lw_p4, List.forall_mem_cons.mpr ⟨lw_p5, List.forall_mem_cons.mpr ⟨lw_p6, List.forall_mem_cons.mpr ⟨lw_p7, List.forall_mem_cons.mpr ⟨lw_p8, List.forall_mem_cons.mpr ⟨lw_p9, List.forall_mem_cons.mpr ⟨lw_p10, List.forall_mem_cons.mpr ⟨lw_p11, List.forall_mem_cons.mpr ⟨lw_p12, List.forall_mem_cons.mpr ⟨lw_p13, List.forall_mem_cons.mpr ⟨lw_p14, List.forall_mem_cons.mpr ⟨lw_p15, fun _ h => absurd h List.not_mem_nil⟩⟩⟩⟩⟩⟩⟩⟩⟩⟩⟩⟩⟩⟩⟩⟩
theorem lw_p16 : lw_okq (⟨"LetByColours$Lamp", "turn", "(LLetByColours$Leases;LLetByColours$State;)V"⟩, 4) := ⟨⟨by decide +kernel, by decide +kernel⟩, List.mem_of_getElem? (i := 189) (by decide +kernel), List.mem_of_getElem? (i := 431) (by decide +kernel), List.mem_of_getElem? (i := 432) (by decide +kernel)⟩
theorem lw_p17 : lw_okq (⟨"LetByColours$Leases", "shineOf", "(IIII)I"⟩, 12) := ⟨⟨by decide +kernel, by decide +kernel⟩, List.mem_of_getElem? (i := 54) (by decide +kernel), List.mem_of_getElem? (i := 435) (by decide +kernel), List.mem_of_getElem? (i := 436) (by decide +kernel)⟩
theorem lw_p18 : lw_okq (⟨"LetByColours$Leases", "paysMostOfHisColour", "(I)Z"⟩, 12) := ⟨⟨by decide +kernel, by decide +kernel⟩, List.mem_of_getElem? (i := 54) (by decide +kernel), List.mem_of_getElem? (i := 439) (by decide +kernel), List.mem_of_getElem? (i := 440) (by decide +kernel)⟩
theorem lw_p19 : lw_okq (⟨"LetByColours$State", "paying", "(LLetByColours$Leases;)I"⟩, 5) := ⟨⟨by decide +kernel, by decide +kernel⟩, List.mem_of_getElem? (i := 118) (by decide +kernel), List.mem_of_getElem? (i := 443) (by decide +kernel), List.mem_of_getElem? (i := 444) (by decide +kernel)⟩
theorem lw_p20 : lw_okq (⟨"LetByColours$Lamp", "show", "(LLetByColours$Leases;II)V"⟩, 4) := ⟨⟨by decide +kernel, by decide +kernel⟩, List.mem_of_getElem? (i := 189) (by decide +kernel), List.mem_of_getElem? (i := 447) (by decide +kernel), List.mem_of_getElem? (i := 448) (by decide +kernel)⟩
theorem lw_p21 : lw_okq (⟨"LetByColours$Lamp", "colourAt", "(I)I"⟩, 4) := ⟨⟨by decide +kernel, by decide +kernel⟩, List.mem_of_getElem? (i := 189) (by decide +kernel), List.mem_of_getElem? (i := 454) (by decide +kernel), List.mem_of_getElem? (i := 455) (by decide +kernel)⟩
theorem lw_p22 : lw_okq (⟨"LetByColours$Lamp", "ownerAt", "(I)I"⟩, 4) := ⟨⟨by decide +kernel, by decide +kernel⟩, List.mem_of_getElem? (i := 189) (by decide +kernel), List.mem_of_getElem? (i := 458) (by decide +kernel), List.mem_of_getElem? (i := 459) (by decide +kernel)⟩
theorem lw_p23 : lw_okq (⟨"LetByColours$Pile", "put", "(LLetByColours$State;)V"⟩, 3) := ⟨⟨by decide +kernel, by decide +kernel⟩, List.mem_of_getElem? (i := 152) (by decide +kernel), List.mem_of_getElem? (i := 466) (by decide +kernel), List.mem_of_getElem? (i := 467) (by decide +kernel)⟩
theorem lw_p24 : lw_okq (⟨"LetByColours$Pile", "rowAt", "(I)I"⟩, 3) := ⟨⟨by decide +kernel, by decide +kernel⟩, List.mem_of_getElem? (i := 152) (by decide +kernel), List.mem_of_getElem? (i := 470) (by decide +kernel), List.mem_of_getElem? (i := 471) (by decide +kernel)⟩
theorem lw_p25 : lw_okq (⟨"LetByColours$State", "copy", "(LLetByColours$State;)V"⟩, 5) := ⟨⟨by decide +kernel, by decide +kernel⟩, List.mem_of_getElem? (i := 118) (by decide +kernel), List.mem_of_getElem? (i := 474) (by decide +kernel), List.mem_of_getElem? (i := 475) (by decide +kernel)⟩
theorem lw_p26 : lw_okq (⟨"LetByColours$State", "goBy", "(LLetByColours$Leases;I)V"⟩, 5) := ⟨⟨by decide +kernel, by decide +kernel⟩, List.mem_of_getElem? (i := 118) (by decide +kernel), List.mem_of_getElem? (i := 478) (by decide +kernel), List.mem_of_getElem? (i := 479) (by decide +kernel)⟩
theorem lw_p27 : lw_okq (⟨"LetByColours$Pile", "takeInto", "(LLetByColours$State;)Z"⟩, 3) := ⟨⟨by decide +kernel, by decide +kernel⟩, List.mem_of_getElem? (i := 152) (by decide +kernel), List.mem_of_getElem? (i := 504) (by decide +kernel), List.mem_of_getElem? (i := 505) (by decide +kernel)⟩
theorem lw_p28 : lw_okq (⟨"LetByColours$Lamp", "firstSign", "(II)I"⟩, 4) := ⟨⟨by decide +kernel, by decide +kernel⟩, List.mem_of_getElem? (i := 189) (by decide +kernel), List.mem_of_getElem? (i := 522) (by decide +kernel), List.mem_of_getElem? (i := 523) (by decide +kernel)⟩
theorem lw_p29 : lw_okq (⟨"LetByColours$Lamp", "sureInAnyFog", "(LLetByColours$Leases;)I"⟩, 4) := ⟨⟨by decide +kernel, by decide +kernel⟩, List.mem_of_getElem? (i := 189) (by decide +kernel), List.mem_of_getElem? (i := 531) (by decide +kernel), List.mem_of_getElem? (i := 532) (by decide +kernel)⟩
theorem lw_p30 : lw_okq (⟨"LetByColours$Lamp", "sureShips", "(LLetByColours$Leases;I)I"⟩, 4) := ⟨⟨by decide +kernel, by decide +kernel⟩, List.mem_of_getElem? (i := 189) (by decide +kernel), List.mem_of_getElem? (i := 535) (by decide +kernel), List.mem_of_getElem? (i := 536) (by decide +kernel)⟩
theorem lw_p31 : lw_okq (⟨"LetByColours$Search", "run", "(LLetByColours$Leases;LLetByColours$State;LLetByColours$Lamp;)V"⟩, 4) := ⟨⟨by decide +kernel, by decide +kernel⟩, List.mem_of_getElem? (i := 210) (by decide +kernel), List.mem_of_getElem? (i := 545) (by decide +kernel), List.mem_of_getElem? (i := 546) (by decide +kernel)⟩
def lw_privs_2 : List (MethodName × Nat) := [(⟨"LetByColours$Lamp", "turn", "(LLetByColours$Leases;LLetByColours$State;)V"⟩, 4), (⟨"LetByColours$Leases", "shineOf", "(IIII)I"⟩, 12), (⟨"LetByColours$Leases", "paysMostOfHisColour", "(I)Z"⟩, 12), (⟨"LetByColours$State", "paying", "(LLetByColours$Leases;)I"⟩, 5), (⟨"LetByColours$Lamp", "show", "(LLetByColours$Leases;II)V"⟩, 4), (⟨"LetByColours$Lamp", "colourAt", "(I)I"⟩, 4), (⟨"LetByColours$Lamp", "ownerAt", "(I)I"⟩, 4), (⟨"LetByColours$Pile", "put", "(LLetByColours$State;)V"⟩, 3), (⟨"LetByColours$Pile", "rowAt", "(I)I"⟩, 3), (⟨"LetByColours$State", "copy", "(LLetByColours$State;)V"⟩, 5), (⟨"LetByColours$State", "goBy", "(LLetByColours$Leases;I)V"⟩, 5), (⟨"LetByColours$Pile", "takeInto", "(LLetByColours$State;)Z"⟩, 3), (⟨"LetByColours$Lamp", "firstSign", "(II)I"⟩, 4), (⟨"LetByColours$Lamp", "sureInAnyFog", "(LLetByColours$Leases;)I"⟩, 4), (⟨"LetByColours$Lamp", "sureShips", "(LLetByColours$Leases;I)I"⟩, 4), (⟨"LetByColours$Search", "run", "(LLetByColours$Leases;LLetByColours$State;LLetByColours$Lamp;)V"⟩, 4)]
theorem lw_r2 : ∀ q ∈ lw_privs_2, lw_okq q := List.forall_mem_cons.mpr ⟨lw_p16, List.forall_mem_cons.mpr ⟨lw_p17, List.forall_mem_cons.mpr ⟨lw_p18, List.forall_mem_cons.mpr ⟨lw_p19, List.forall_mem_cons.mpr ⟨lw_p20, List.forall_mem_cons.mpr ⟨lw_p21, List.forall_mem_cons.mpr ⟨lw_p22, List.forall_mem_cons.mpr ⟨lw_p23, List.forall_mem_cons.mpr ⟨lw_p24, List.forall_mem_cons.mpr ⟨lw_p25, List.forall_mem_cons.mpr ⟨lw_p26, List.forall_mem_cons.mpr ⟨lw_p27, List.forall_mem_cons.mpr ⟨lw_p28, List.forall_mem_cons.mpr ⟨lw_p29, List.forall_mem_cons.mpr ⟨lw_p30, List.forall_mem_cons.mpr ⟨lw_p31, fun _ h => absurd h List.not_mem_nil⟩⟩⟩⟩⟩⟩⟩⟩⟩⟩⟩⟩⟩⟩⟩⟩
theorem lw_p32 : lw_okq (⟨"LetByColours$Search", "prepare", "(LLetByColours$Leases;LLetByColours$State;)V"⟩, 4) := ⟨⟨by decide +kernel, by decide +kernel⟩, List.mem_of_getElem? (i := 210) (by decide +kernel), List.mem_of_getElem? (i := 549) (by decide +kernel), List.mem_of_getElem? (i := 550) (by decide +kernel)⟩
theorem lw_p33 : lw_okq (⟨"LetByColours$Search", "nextWay", "(I)Z"⟩, 4) := ⟨⟨by decide +kernel, by decide +kernel⟩, List.mem_of_getElem? (i := 210) (by decide +kernel), List.mem_of_getElem? (i := 566) (by decide +kernel), List.mem_of_getElem? (i := 567) (by decide +kernel)⟩
theorem lw_p34 : lw_okq (⟨"LetByColours", "sureByLightOf", "(II)I"⟩, 11) := ⟨⟨by decide +kernel, by decide +kernel⟩, List.mem_of_getElem? (i := 20) (by decide +kernel), List.mem_of_getElem? (i := 576) (by decide +kernel), List.mem_of_getElem? (i := 577) (by decide +kernel)⟩
theorem lw_p35 : lw_okq (⟨"LetByColours$Leases", "everybody", "()I"⟩, 12) := ⟨⟨by decide +kernel, by decide +kernel⟩, List.mem_of_getElem? (i := 54) (by decide +kernel), List.mem_of_getElem? (i := 584) (by decide +kernel), List.mem_of_getElem? (i := 585) (by decide +kernel)⟩
theorem lw_p36 : lw_okq (⟨"LetByColours$Lamp", "unsureInAllFogs", "(LLetByColours$Leases;)I"⟩, 4) := ⟨⟨by decide +kernel, by decide +kernel⟩, List.mem_of_getElem? (i := 189) (by decide +kernel), List.mem_of_getElem? (i := 592) (by decide +kernel), List.mem_of_getElem? (i := 593) (by decide +kernel)⟩
theorem lw_p37 : lw_okq (⟨"LetByColours$Looks", "append", "(II)Z"⟩, 3) := ⟨⟨by decide +kernel, by decide +kernel⟩, List.mem_of_getElem? (i := 172) (by decide +kernel), List.mem_of_getElem? (i := 608) (by decide +kernel), List.mem_of_getElem? (i := 609) (by decide +kernel)⟩
theorem lw_p38 : lw_okq (⟨"LetByColours$Looks", "fit", "(LLetByColours$Lamp;)Z"⟩, 3) := ⟨⟨by decide +kernel, by decide +kernel⟩, List.mem_of_getElem? (i := 172) (by decide +kernel), List.mem_of_getElem? (i := 620) (by decide +kernel), List.mem_of_getElem? (i := 621) (by decide +kernel)⟩
theorem lw_p39 : lw_okq (⟨"LetByColours$Looks", "darkStripes", "()I"⟩, 3) := ⟨⟨by decide +kernel, by decide +kernel⟩, List.mem_of_getElem? (i := 172) (by decide +kernel), List.mem_of_getElem? (i := 629) (by decide +kernel), List.mem_of_getElem? (i := 630) (by decide +kernel)⟩
theorem lw_p40 : lw_okq (⟨"LetByColours", "sureTenths", "(I)I"⟩, 11) := ⟨⟨by decide +kernel, by decide +kernel⟩, List.mem_of_getElem? (i := 20) (by decide +kernel), List.mem_of_getElem? (i := 637) (by decide +kernel), List.mem_of_getElem? (i := 638) (by decide +kernel)⟩
theorem lw_p41 : lw_okq (⟨"LetByColours$Leases", "allShips", "()I"⟩, 12) := ⟨⟨by decide +kernel, by decide +kernel⟩, List.mem_of_getElem? (i := 54) (by decide +kernel), List.mem_of_getElem? (i := 648) (by decide +kernel), List.mem_of_getElem? (i := 649) (by decide +kernel)⟩
theorem lw_p42 : lw_okq (⟨"LetByColoursModel", "clearTold", "()V"⟩, 30) := ⟨⟨by decide +kernel, by decide +kernel⟩, List.mem_of_getElem? (i := 680) (by decide +kernel), List.mem_of_getElem? (i := 686) (by decide +kernel), List.mem_of_getElem? (i := 687) (by decide +kernel)⟩
theorem lw_p43 : lw_okq (⟨"LetByColoursModel", "tellsFog", "(III)V"⟩, 30) := ⟨⟨by decide +kernel, by decide +kernel⟩, List.mem_of_getElem? (i := 680) (by decide +kernel), List.mem_of_getElem? (i := 690) (by decide +kernel), List.mem_of_getElem? (i := 691) (by decide +kernel)⟩
theorem lw_p44 : lw_okq (⟨"LetByColoursModel", "tells", "(IIIII)V"⟩, 30) := ⟨⟨by decide +kernel, by decide +kernel⟩, List.mem_of_getElem? (i := 680) (by decide +kernel), List.mem_of_getElem? (i := 694) (by decide +kernel), List.mem_of_getElem? (i := 695) (by decide +kernel)⟩
theorem lw_p45 : lw_okq (⟨"LetByColoursModel", "tellsShip", "(II)V"⟩, 30) := ⟨⟨by decide +kernel, by decide +kernel⟩, List.mem_of_getElem? (i := 680) (by decide +kernel), List.mem_of_getElem? (i := 698) (by decide +kernel), List.mem_of_getElem? (i := 699) (by decide +kernel)⟩
theorem lw_p46 : lw_okq (⟨"LetByColoursModel", "settles", "()V"⟩, 30) := ⟨⟨by decide +kernel, by decide +kernel⟩, List.mem_of_getElem? (i := 680) (by decide +kernel), List.mem_of_getElem? (i := 702) (by decide +kernel), List.mem_of_getElem? (i := 703) (by decide +kernel)⟩
theorem lw_p47 : lw_okq (⟨"LetByColoursModel", "readItem", "()Z"⟩, 30) := ⟨⟨by decide +kernel, by decide +kernel⟩, List.mem_of_getElem? (i := 680) (by decide +kernel), List.mem_of_getElem? (i := 815) (by decide +kernel), List.mem_of_getElem? (i := 816) (by decide +kernel)⟩
def lw_privs_3 : List (MethodName × Nat) := [(⟨"LetByColours$Search", "prepare", "(LLetByColours$Leases;LLetByColours$State;)V"⟩, 4), (⟨"LetByColours$Search", "nextWay", "(I)Z"⟩, 4), (⟨"LetByColours", "sureByLightOf", "(II)I"⟩, 11), (⟨"LetByColours$Leases", "everybody", "()I"⟩, 12), (⟨"LetByColours$Lamp", "unsureInAllFogs", "(LLetByColours$Leases;)I"⟩, 4), (⟨"LetByColours$Looks", "append", "(II)Z"⟩, 3), (⟨"LetByColours$Looks", "fit", "(LLetByColours$Lamp;)Z"⟩, 3), (⟨"LetByColours$Looks", "darkStripes", "()I"⟩, 3), (⟨"LetByColours", "sureTenths", "(I)I"⟩, 11), (⟨"LetByColours$Leases", "allShips", "()I"⟩, 12), (⟨"LetByColoursModel", "clearTold", "()V"⟩, 30), (⟨"LetByColoursModel", "tellsFog", "(III)V"⟩, 30), (⟨"LetByColoursModel", "tells", "(IIIII)V"⟩, 30), (⟨"LetByColoursModel", "tellsShip", "(II)V"⟩, 30), (⟨"LetByColoursModel", "settles", "()V"⟩, 30), (⟨"LetByColoursModel", "readItem", "()Z"⟩, 30)]
theorem lw_r3 : ∀ q ∈ lw_privs_3, lw_okq q := List.forall_mem_cons.mpr ⟨lw_p32, List.forall_mem_cons.mpr ⟨lw_p33, List.forall_mem_cons.mpr ⟨lw_p34, List.forall_mem_cons.mpr ⟨lw_p35, List.forall_mem_cons.mpr ⟨lw_p36, List.forall_mem_cons.mpr ⟨lw_p37, List.forall_mem_cons.mpr ⟨lw_p38, List.forall_mem_cons.mpr ⟨lw_p39, List.forall_mem_cons.mpr ⟨lw_p40, List.forall_mem_cons.mpr ⟨lw_p41, List.forall_mem_cons.mpr ⟨lw_p42, List.forall_mem_cons.mpr ⟨lw_p43, List.forall_mem_cons.mpr ⟨lw_p44, List.forall_mem_cons.mpr ⟨lw_p45, List.forall_mem_cons.mpr ⟨lw_p46, List.forall_mem_cons.mpr ⟨lw_p47, fun _ h => absurd h List.not_mem_nil⟩⟩⟩⟩⟩⟩⟩⟩⟩⟩⟩⟩⟩⟩⟩⟩
theorem lw_p48 : lw_okq (⟨"LetByColoursModel", "letterAt", "(I)I"⟩, 30) := ⟨⟨by decide +kernel, by decide +kernel⟩, List.mem_of_getElem? (i := 680) (by decide +kernel), List.mem_of_getElem? (i := 819) (by decide +kernel), List.mem_of_getElem? (i := 820) (by decide +kernel)⟩
theorem lw_p49 : lw_okq (⟨"LetByColoursModel", "readTenantOf", "()Z"⟩, 30) := ⟨⟨by decide +kernel, by decide +kernel⟩, List.mem_of_getElem? (i := 680) (by decide +kernel), List.mem_of_getElem? (i := 823) (by decide +kernel), List.mem_of_getElem? (i := 824) (by decide +kernel)⟩
theorem lw_p50 : lw_okq (⟨"LetByColoursModel", "readNumbers", "(I)Z"⟩, 30) := ⟨⟨by decide +kernel, by decide +kernel⟩, List.mem_of_getElem? (i := 680) (by decide +kernel), List.mem_of_getElem? (i := 827) (by decide +kernel), List.mem_of_getElem? (i := 828) (by decide +kernel)⟩
theorem lw_p51 : lw_okq (⟨"LetByColoursModel", "isTold", "(III)Z"⟩, 30) := ⟨⟨by decide +kernel, by decide +kernel⟩, List.mem_of_getElem? (i := 680) (by decide +kernel), List.mem_of_getElem? (i := 834) (by decide +kernel), List.mem_of_getElem? (i := 835) (by decide +kernel)⟩
theorem lw_p52 : lw_okq (⟨"LetByColoursModel", "readShipOf", "()Z"⟩, 30) := ⟨⟨by decide +kernel, by decide +kernel⟩, List.mem_of_getElem? (i := 680) (by decide +kernel), List.mem_of_getElem? (i := 838) (by decide +kernel), List.mem_of_getElem? (i := 839) (by decide +kernel)⟩
theorem lw_p53 : lw_okq (⟨"LetByColoursModel", "readFogOf", "()Z"⟩, 30) := ⟨⟨by decide +kernel, by decide +kernel⟩, List.mem_of_getElem? (i := 680) (by decide +kernel), List.mem_of_getElem? (i := 842) (by decide +kernel), List.mem_of_getElem? (i := 843) (by decide +kernel)⟩
theorem lw_p54 : lw_okq (⟨"LetByColoursModel", "readMostOf", "()Z"⟩, 30) := ⟨⟨by decide +kernel, by decide +kernel⟩, List.mem_of_getElem? (i := 680) (by decide +kernel), List.mem_of_getElem? (i := 846) (by decide +kernel), List.mem_of_getElem? (i := 847) (by decide +kernel)⟩
theorem lw_p55 : lw_okq (⟨"LetByColoursModel", "isTenant", "(I)Z"⟩, 30) := ⟨⟨by decide +kernel, by decide +kernel⟩, List.mem_of_getElem? (i := 680) (by decide +kernel), List.mem_of_getElem? (i := 859) (by decide +kernel), List.mem_of_getElem? (i := 860) (by decide +kernel)⟩
theorem lw_p56 : lw_okq (⟨"LetByColoursModel", "asItIs", "()V"⟩, 30) := ⟨⟨by decide +kernel, by decide +kernel⟩, List.mem_of_getElem? (i := 680) (by decide +kernel), List.mem_of_getElem? (i := 863) (by decide +kernel), List.mem_of_getElem? (i := 864) (by decide +kernel)⟩
theorem lw_p57 : lw_okq (⟨"LetByColoursModel", "behindNow", "()I"⟩, 30) := ⟨⟨by decide +kernel, by decide +kernel⟩, List.mem_of_getElem? (i := 680) (by decide +kernel), List.mem_of_getElem? (i := 867) (by decide +kernel), List.mem_of_getElem? (i := 868) (by decide +kernel)⟩
theorem lw_p58 : lw_okq (⟨"LetByColoursModel", "isShip", "(I)Z"⟩, 30) := ⟨⟨by decide +kernel, by decide +kernel⟩, List.mem_of_getElem? (i := 680) (by decide +kernel), List.mem_of_getElem? (i := 878) (by decide +kernel), List.mem_of_getElem? (i := 879) (by decide +kernel)⟩
theorem lw_p59 : lw_okq (⟨"LetByColoursModel", "paint", "()V"⟩, 30) := ⟨⟨by decide +kernel, by decide +kernel⟩, List.mem_of_getElem? (i := 680) (by decide +kernel), List.mem_of_getElem? (i := 889) (by decide +kernel), List.mem_of_getElem? (i := 890) (by decide +kernel)⟩
theorem lw_p60 : lw_okq (⟨"LetByColoursModel", "shines", "(II)Z"⟩, 30) := ⟨⟨by decide +kernel, by decide +kernel⟩, List.mem_of_getElem? (i := 680) (by decide +kernel), List.mem_of_getElem? (i := 893) (by decide +kernel), List.mem_of_getElem? (i := 894) (by decide +kernel)⟩
theorem lw_p61 : lw_okq (⟨"LetByColoursModel", "isProudest", "(I)Z"⟩, 30) := ⟨⟨by decide +kernel, by decide +kernel⟩, List.mem_of_getElem? (i := 680) (by decide +kernel), List.mem_of_getElem? (i := 897) (by decide +kernel), List.mem_of_getElem? (i := 898) (by decide +kernel)⟩
theorem lw_p62 : lw_okq (⟨"LetByColoursModel", "remembers", "()V"⟩, 30) := ⟨⟨by decide +kernel, by decide +kernel⟩, List.mem_of_getElem? (i := 680) (by decide +kernel), List.mem_of_getElem? (i := 905) (by decide +kernel), List.mem_of_getElem? (i := 906) (by decide +kernel)⟩
theorem lw_p63 : lw_okq (⟨"LetByColoursModel", "signOf", "(II)I"⟩, 30) := ⟨⟨by decide +kernel, by decide +kernel⟩, List.mem_of_getElem? (i := 680) (by decide +kernel), List.mem_of_getElem? (i := 942) (by decide +kernel), List.mem_of_getElem? (i := 943) (by decide +kernel)⟩
def lw_privs_4 : List (MethodName × Nat) := [(⟨"LetByColoursModel", "letterAt", "(I)I"⟩, 30), (⟨"LetByColoursModel", "readTenantOf", "()Z"⟩, 30), (⟨"LetByColoursModel", "readNumbers", "(I)Z"⟩, 30), (⟨"LetByColoursModel", "isTold", "(III)Z"⟩, 30), (⟨"LetByColoursModel", "readShipOf", "()Z"⟩, 30), (⟨"LetByColoursModel", "readFogOf", "()Z"⟩, 30), (⟨"LetByColoursModel", "readMostOf", "()Z"⟩, 30), (⟨"LetByColoursModel", "isTenant", "(I)Z"⟩, 30), (⟨"LetByColoursModel", "asItIs", "()V"⟩, 30), (⟨"LetByColoursModel", "behindNow", "()I"⟩, 30), (⟨"LetByColoursModel", "isShip", "(I)Z"⟩, 30), (⟨"LetByColoursModel", "paint", "()V"⟩, 30), (⟨"LetByColoursModel", "shines", "(II)Z"⟩, 30), (⟨"LetByColoursModel", "isProudest", "(I)Z"⟩, 30), (⟨"LetByColoursModel", "remembers", "()V"⟩, 30), (⟨"LetByColoursModel", "signOf", "(II)I"⟩, 30)]
theorem lw_r4 : ∀ q ∈ lw_privs_4, lw_okq q := List.forall_mem_cons.mpr ⟨lw_p48, List.forall_mem_cons.mpr ⟨lw_p49, List.forall_mem_cons.mpr ⟨lw_p50, List.forall_mem_cons.mpr ⟨lw_p51, List.forall_mem_cons.mpr ⟨lw_p52, List.forall_mem_cons.mpr ⟨lw_p53, List.forall_mem_cons.mpr ⟨lw_p54, List.forall_mem_cons.mpr ⟨lw_p55, List.forall_mem_cons.mpr ⟨lw_p56, List.forall_mem_cons.mpr ⟨lw_p57, List.forall_mem_cons.mpr ⟨lw_p58, List.forall_mem_cons.mpr ⟨lw_p59, List.forall_mem_cons.mpr ⟨lw_p60, List.forall_mem_cons.mpr ⟨lw_p61, List.forall_mem_cons.mpr ⟨lw_p62, List.forall_mem_cons.mpr ⟨lw_p63, fun _ h => absurd h List.not_mem_nil⟩⟩⟩⟩⟩⟩⟩⟩⟩⟩⟩⟩⟩⟩⟩⟩
theorem lw_p64 : lw_okq (⟨"LetByColoursModel", "sees", "(II)Z"⟩, 30) := ⟨⟨by decide +kernel, by decide +kernel⟩, List.mem_of_getElem? (i := 680) (by decide +kernel), List.mem_of_getElem? (i := 946) (by decide +kernel), List.mem_of_getElem? (i := 947) (by decide +kernel)⟩
theorem lw_p65 : lw_okq (⟨"LetByColoursModel", "sureInAny", "()I"⟩, 30) := ⟨⟨by decide +kernel, by decide +kernel⟩, List.mem_of_getElem? (i := 680) (by decide +kernel), List.mem_of_getElem? (i := 954) (by decide +kernel), List.mem_of_getElem? (i := 955) (by decide +kernel)⟩
theorem lw_p66 : lw_okq (⟨"LetByColoursModel", "sureIn", "(I)I"⟩, 30) := ⟨⟨by decide +kernel, by decide +kernel⟩, List.mem_of_getElem? (i := 680) (by decide +kernel), List.mem_of_getElem? (i := 958) (by decide +kernel), List.mem_of_getElem? (i := 959) (by decide +kernel)⟩
theorem lw_p67 : lw_okq (⟨"LetByColoursModel", "isOrder", "(I)Z"⟩, 30) := ⟨⟨by decide +kernel, by decide +kernel⟩, List.mem_of_getElem? (i := 680) (by decide +kernel), List.mem_of_getElem? (i := 966) (by decide +kernel), List.mem_of_getElem? (i := 967) (by decide +kernel)⟩
theorem lw_p68 : lw_okq (⟨"LetByColoursModel", "tenths", "(I)I"⟩, 30) := ⟨⟨by decide +kernel, by decide +kernel⟩, List.mem_of_getElem? (i := 680) (by decide +kernel), List.mem_of_getElem? (i := 1009) (by decide +kernel), List.mem_of_getElem? (i := 1010) (by decide +kernel)⟩
def lw_privs_5 : List (MethodName × Nat) := [(⟨"LetByColoursModel", "sees", "(II)Z"⟩, 30), (⟨"LetByColoursModel", "sureInAny", "()I"⟩, 30), (⟨"LetByColoursModel", "sureIn", "(I)I"⟩, 30), (⟨"LetByColoursModel", "isOrder", "(I)Z"⟩, 30), (⟨"LetByColoursModel", "tenths", "(I)I"⟩, 30)]
theorem lw_r5 : ∀ q ∈ lw_privs_5, lw_okq q := List.forall_mem_cons.mpr ⟨lw_p64, List.forall_mem_cons.mpr ⟨lw_p65, List.forall_mem_cons.mpr ⟨lw_p66, List.forall_mem_cons.mpr ⟨lw_p67, List.forall_mem_cons.mpr ⟨lw_p68, fun _ h => absurd h List.not_mem_nil⟩⟩⟩⟩⟩
def lw_privs : List (MethodName × Nat) := lw_privs_1 ++ (lw_privs_2 ++ (lw_privs_3 ++ (lw_privs_4 ++ (lw_privs_5))))
def lw_tbl : List Cond := k2_sels lw_privs ++ tables_1
theorem lw_privs_ok : ∀ q ∈ lw_privs, lw_okq q := by
  show ∀ q ∈ lw_privs_1 ++ (lw_privs_2 ++ (lw_privs_3 ++ (lw_privs_4 ++ (lw_privs_5)))), lw_okq q
  exact List.forall_mem_append.mpr ⟨lw_r1, List.forall_mem_append.mpr ⟨lw_r2, List.forall_mem_append.mpr ⟨lw_r3, List.forall_mem_append.mpr ⟨lw_r4, lw_r5⟩⟩⟩⟩

/-! THE CLAIM OUT OF ONE WALK OF THE LAW'S BODY. Your part is whole_start (and what it stands on); all else here is the same for every law, but numbers. -/
def R_law : String := "LetByColoursLaw"
def lw_P (b : Addr) (xs : List Int32) (args : Array Value) (s : State) : Prop := args = #[.ref b] ∧ s.IntsAt b xs ∧ xs.length ≤ 320 ∧ (Jvm.Cond.and given_1 narrow_1).before args s = true
def lw_Q (_ : Array Value) (s : State) (o : Outcome) (t : State) : Prop := o = .returned (some (.int 1)) ∧ Framed s o t [] 600000 7302250
def lw_Z (below : List Frame) (a : Array Value) (s : State) : State → Prop := fun t => ∃ o, t.status = .running ∧ Ended t below o ∧ lw_Q a s o t
/-- the law's own end, with 1 on the stack, nothing written that was there before, its room as the claim has it -/
theorem lw_ret {p : Program} {l : Launch} {e : Env} {s : State} {m : MethodId} {below : List Frame} {meth : Method} {c : Code} {b : Nat} (hx : p.tables.exec = Jvm.exec) (hb : c.code = code) (hr : meth.sig.returnType = ret) (hlocks : meth.locks = false) {pc : Nat} {H : Heap} {ls : Array Slot} (hdg : decode code pc = .ok (.ireturn, 1)) : W p l e room_1 s m #[Value.ref b] below meth c H [] 600000 7302250 (lw_Z below #[Value.ref b] s) (F0 m pc ls [.int 1]) := by
  intro T hT X
  obtain ⟨fs, hret, hrun, hended, hW, hframe⟩ := X.leave (v := some (.int 1)) (hlocks := hlocks) (fun h => by rw [hr] at h; cases h)
  have hmeth' : T.vm.method? m = some meth := X.method'
  refine ⟨T.setFrames fs, ?_, .returned (some (.int 1)), hrun, hended, rfl, ⟨_, rfl⟩, hW, hframe⟩
  jvm_step X.here [X.here.top, hx, hb, hdg, hmeth', hr, ret, narrow_b1]
  (try refine ⟨rfl, ?_⟩); (try refine ⟨rfl, ?_⟩)
  first | (intro acts; rw [hret _ acts rfl rfl rfl]) | rw [hret _ _ rfl rfl rfl]
  exact Steps.refl _
/-- what holds at the law's entry: the machine, the code, the tables' words (any of lw_tbl by 'hts w (by decide +kernel)'), the script of L ints xs at the cell b, what the Statement gives of the start (any of its parts by flat_of_before) -/
def lw_At (p : Program) (s : State) (m : MethodId) (meth : Method) (c : Code) (b L : Nat) (xs : Nat → Int32) : Prop :=
  p.tables.exec = Jvm.exec ∧ c.code = code ∧ meth.sig.returnType = ret ∧ c.maxLocals = 4 ∧ s.vm.findClass R_law = some m.cls ∧ (∀ w ∈ lw_tbl, w.before #[Value.ref b] s = true) ∧ va_X b L xs s s.heap ∧ b < s.heap.size ∧ meth.locks = false ∧ (Jvm.Cond.and given_1 narrow_1).before #[Value.ref b] s = true
end
section
def va_AOA (t : FieldType) (U : State) : Prop := (Cond.arrayOver (.array t)).before #[] U = true
theorem va_AOA.of {t : FieldType} {A : Array Value} {U : State} (h : (Cond.arrayOver (.array t)).before A U = true) : va_AOA t U := h
theorem va_AOA.use {t : FieldType} {A : Array Value} {U : State} (h : va_AOA t U) : (Cond.arrayOver (.array t)).before A U = true := h
/-! ===== BEGIN words of one list among another's, by their places ===== -/
theorem goodIn_r {big : List Cond} (ws : List Cond) (ps : List Nat) (hp : ws = ps.filterMap (fun i => big[i]?)) (h : ws.all goodWord = true) : GoodIn big ws := by
  intro w hw
  have h1 := List.all_eq_true.mp h w hw
  rw [hp] at hw
  obtain ⟨i, -, hi⟩ := List.mem_filterMap.mp hw
  have hm : w ∈ big := by first | exact List.mem_of_getElem? hi | exact List.getElem?_mem hi
  exact ⟨hm, good_of_word h1⟩
theorem goodIn_app {big a b : List Cond} (ha : GoodIn big a) (hb : GoodIn big b) : GoodIn big (a ++ b) := fun w h => (List.mem_append.mp h).elim (ha w) (hb w)
theorem goodIn_ca {big a b : List Cond} {c : Cond} (ha : GoodIn big (c :: a)) (hb : GoodIn big b) : GoodIn big (c :: (a ++ b)) := fun w h => (List.mem_cons.mp h).elim (fun e => ha w (List.mem_cons.mpr (Or.inl e))) (fun h => (List.mem_append.mp h).elim (fun h => ha w (List.mem_cons.mpr (Or.inr h))) (hb w))
theorem goodIn_sub {big ws : List Cond} (hm : ∀ w ∈ ws, w ∈ big) (h : ws.all goodWord = true) : GoodIn big ws := fun w hw => ⟨hm w hw, good_of_word (List.all_eq_true.mp h w hw)⟩
/-! ===== END ===== -/

/-! ===== BEGIN new T[n][m]: the outer array a place, the inner ones among the pooled ===== -/
/-- f, but v at every address of l -/
def vr_up {α : Type} (f : Nat → α) (l : List Nat) (v : α) : Nat → α := fun a => if a ∈ l then v else f a
theorem vr_up_in {α : Type} {f : Nat → α} {l : List Nat} {v : α} {a : Nat} (h : a ∈ l) : vr_up f l v a = v := if_pos h
theorem vr_up_ne {α : Type} {f : Nat → α} {l : List Nat} {v : α} {a : Nat} (h : a ∉ l) : vr_up f l v a = f a := if_neg h
theorem vr_rows {L l : List Nat} {f : Nat → va_E} {e : va_E} (h : ∀ a, a ∈ l → a ∉ L) : va_pl L f ++ l.map (fun a => (a, e)) = va_pl (L ++ l) (vr_up f l e) := by
  unfold va_pl
  rw [List.map_append]
  congr 1
  · apply List.map_congr_left
    intro a ha
    rw [vr_up_ne (fun q => h a q ha)]
  · apply List.map_congr_left
    intro a ha
    rw [vr_up_in ha]
theorem vr_lay {X rows : va_W} {x : Nat × va_E} {pl : va_W} {D : va_G} {cl : List vw_C} {H : Heap} (hP : va_P D cl (((X ++ pl) ++ [x]) ++ rows) H) : va_P D cl ((X ++ [x]) ++ (pl ++ rows)) H := by
  rw [List.append_assoc (X ++ pl)] at hP
  have h := va_P.swap hP
  rw [← List.append_assoc X] at h
  have h2 := va_P.swap h
  rw [List.append_assoc (X ++ [x])] at h2
  exact h2
theorem vr_layD {X rows : va_W} {x : Nat × va_E} {pl : va_W} {A : Nat → Prop} (hD : va_D A (((X ++ pl) ++ [x]) ++ rows)) : va_D A ((X ++ [x]) ++ (pl ++ rows)) := by
  rw [List.append_assoc (X ++ pl)] at hD
  have h := va_D.swap hD
  rw [← List.append_assoc X] at h
  have h2 := va_D.swap h
  rw [List.append_assoc (X ++ [x])] at h2
  exact h2
theorem vr_outer (c : ClassId) (N h0 : Nat) : ∀ i : Nat, Jvm.Free.Multi.outerC c N h0 i = arrV c N (fun j => va_rf (if j < i then some (h0 + 1 + j) else none))
  | 0 => by
    show ({ cls := c, slots := Array.replicate N .null, vm := .none } : Cell) = _
    rw [arrV_new]
    refine congrArg (arrV c N) (funext fun j => ?_)
    simp [va_rf]
  | i + 1 => by
    show (Jvm.Free.Multi.outerC c N h0 i).setSlot i (.ref (h0 + 1 + i)) = _
    rw [vr_outer c N h0 i, arrV_store]
    refine congrArg (arrV c N) (funext fun j => ?_)
    by_cases e : j = i
    · subst e
      simp [updV, va_rf]
    · by_cases h : j < i
      · simp [updV, e, h, Nat.lt_succ_of_lt h]
      · simp [updV, e, h, show ¬ j < i + 1 by omega]
section VGM
variable {p : Program} {l : Launch} {e : Env} {R : Room} {s : State} {m : MethodId} {args : Array Value} {below : List Frame} {meth : Method} {c : Code} {H : Heap} {locs : List Loc} {cells slots : Nat} {Q : State → Prop}
variable {cc : ByteArray} {pc : Nat} {ls : Array Slot} {rest : List Value} {D : va_G} {cl : List vw_C} {A : Nat → Prop} {a : Nat} {tys : List (ClassId × FieldType)} {ws : va_W} {H0 : Heap}
theorem va_mnaX {X : va_W} {L : List Nat} {f : Nat → va_E} {cc : ByteArray} (hexec : p.tables.exec = Jvm.exec) (hb : c.code = cc) {own : String} {index : Nat} {ty : FieldType} {cy : ClassId} (hown : s.vm.findClass own = some m.cls) (hclink : (Cond.classLink own index ("[" ++ (FieldType.array ty).toString)).before args s = true) (hover : va_AOA ty s) (harr : (Cond.arrayClass ty).before args s = true) (hcy : s.vm.findClass (FieldType.array ty).toString = some cy)
    (hK : va_K D cl tys s) (hP : va_P D cl (X ++ va_pl L f) H) (hD : va_D A (X ++ va_pl L f)) (hS : va_S A H0 H locs) (hA : ∀ q, H0.size ≤ q → A q) {n k : Int32} {N' K' : Nat} {z : vp_A} (hn : ¬ n < 0) (hk : ¬ k < 0) (hN : n.toNatClampNeg = N') (hM : k.toNatClampNeg = K')
    (hb1 : N' * 4 ≤ 536870912) (hb2 : K' * componentBytes ty ≤ 536870912) (hb3 : K' ≤ 536870912) (hdf : fits ty (defaultValue ty) = true) (hdd : (defaultValue ty).isDefault = true) (hcells : cells + (1 + N') ≤ R.cells) (hslots : slots + (N' + N' * K') ≤ R.slots) (hz : ∀ c : ClassId, Jvm.Free.Multi.innerC c K' (defaultValue ty) = vp_cell c z) (hdg : decode cc pc = .ok (.multianewarray index 2, 4))
    (kk : ∀ (q : Nat) (r : Nat → Nat) (cA : ClassId) (H1 : Heap), q = H.size → (∀ i : Nat, r i = H.size + 1 + i) → (∀ i j : Nat, i < N' → j < N' → r i = r j → i = j) → (∀ i : Nat, i < N' → r i ∉ L) → va_K D cl (tys ++ [(cA, .array ty)]) s →
      va_P D cl ((X ++ [(q, .inl (cA, N', .inr (.inr (.inr (.inr (fun i => if i < N' then some (r i) else none))))))]) ++ va_pl (L ++ (List.range N').map r) (vr_up f ((List.range N').map r) (.inl (cy, z)))) H1 → va_D A ((X ++ [(q, .inl (cA, N', .inr (.inr (.inr (.inr (fun i => if i < N' then some (r i) else none))))))]) ++ va_pl (L ++ (List.range N').map r) (vr_up f ((List.range N').map r) (.inl (cy, z)))) → va_S A H0 H1 locs →
      W p l e R s m args below meth c H1 locs (cells + 1 + N') (slots + N' + N' * K') Q (F0 m (pc + 4) ls (.ref q :: rest))) : W p l e R s m args below meth c H locs cells slots Q (F0 m pc ls (.int k :: .int n :: rest)) := by
  subst hN
  subst hM
  intro T hT Xs
  obtain ⟨vm₁, cA, comp, -, fA, fC, hO, -, X', step⟩ := Xs.multianewarray2F hexec hown hclink (va_AOA.use hover) harr (g := F0 m pc ls (.int k :: .int n :: rest)) rfl (by rw [hb]; exact hdg) rfl hn hk hb1 hb2 hb3 hdf hdd hcells hslots
  have ec : some cy = some comp := hcy.symm.trans fC
  cases ec
  generalize hF : Jvm.Free.Multi.fill (T.setVm vm₁) cA cy n.toNatClampNeg k.toNatClampNeg (defaultValue ty) n.toNatClampNeg = F at X' step
  have hTh : (T.setVm vm₁).heap = H := hT
  obtain ⟨f1, f2, -, -⟩ := Jvm.Free.Multi.fill_facts (T.setVm vm₁) cA cy n.toNatClampNeg k.toNatClampNeg (defaultValue ty) n.toNatClampNeg
  rw [hF, hTh] at f1 f2
  have hold : ∀ x : Nat, x < H.size → F.heap[x]? = H[x]? := fun x hx => by
    have := Jvm.Free.Multi.fill_old (T.setVm vm₁) cA cy n.toNatClampNeg k.toNatClampNeg (defaultValue ty) (a := x) (by rw [hTh]; exact hx) n.toNatClampNeg
    rw [hF, hTh] at this
    exact this
  have hrow : ∀ j : Nat, j < n.toNatClampNeg → F.heap[H.size + 1 + j]? = some (vp_cell cy z) := fun j hj => by
    have := Jvm.Free.Multi.fill_inner (T.setVm vm₁) cA cy n.toNatClampNeg k.toNatClampNeg (defaultValue ty) n.toNatClampNeg j hj
    rw [hF, hTh, hz] at this
    exact this
  have hout : Jvm.Free.Multi.outerC cA n.toNatClampNeg H.size n.toNatClampNeg = vp_cell cA (n.toNatClampNeg, .inr (.inr (.inr (.inr (fun i => if i < n.toNatClampNeg then some (H.size + 1 + i) else none))))) := by
    rw [vp_cell_q]
    exact vr_outer cA n.toNatClampNeg H.size n.toNatClampNeg
  rw [hout] at f2
  have hlt : ∀ a, a ∈ L → a < H.size := fun a ha => by
    obtain ⟨k9, hk9⟩ := va_pl_get (X := X) (f := f) ha
    exact (hP k9 _ hk9).lt
  have hnl : ∀ i : Nat, i < n.toNatClampNeg → H.size + 1 + i ∉ L := fun i _ h => by
    have := hlt _ h
    omega
  have hnm : ∀ a, a ∈ (List.range n.toNatClampNeg).map (fun i => H.size + 1 + i) → a ∉ L := fun a ha h => by
    obtain ⟨i, -, rfl⟩ := List.mem_map.mp ha
    have := hlt _ h
    omega
  have hP0 : va_P D cl (X ++ va_pl L f) F.heap := hP.kept (fun k9 x hx => hold x.1 ((hP k9 x hx).lt))
  have hP1 : va_P D cl ((X ++ va_pl L f) ++ [(H.size, .inl (cA, n.toNatClampNeg, .inr (.inr (.inr (.inr (fun i => if i < n.toNatClampNeg then some (H.size + 1 + i) else none))))))]) F.heap := hP0.app (fun k9 x hx => by
    have h0 : k9 < 1 := (List.getElem?_eq_some_iff.mp hx).1
    rw [show k9 = 0 by omega] at hx
    cases hx
    exact f2)
  have hP2 : va_P D cl (((X ++ va_pl L f) ++ [(H.size, .inl (cA, n.toNatClampNeg, .inr (.inr (.inr (.inr (fun i => if i < n.toNatClampNeg then some (H.size + 1 + i) else none))))))]) ++ ((List.range n.toNatClampNeg).map (fun i => H.size + 1 + i)).map (fun a => (a, .inl (cy, z)))) F.heap := hP1.app (fun k9 x hx => by
    obtain ⟨a, ha, rfl⟩ := List.mem_map.mp (List.mem_of_getElem? hx)
    obtain ⟨i, hi, rfl⟩ := List.mem_map.mp ha
    exact hrow i (List.mem_range.mp hi))
  have hD2 : va_D A (((X ++ va_pl L f) ++ [(H.size, .inl (cA, n.toNatClampNeg, .inr (.inr (.inr (.inr (fun i => if i < n.toNatClampNeg then some (H.size + 1 + i) else none))))))]) ++ ((List.range n.toNatClampNeg).map (fun i => H.size + 1 + i)).map (fun a => (a, .inl (cy, z)))) := by
    have hD1 := hD.push (e := .inl (cA, n.toNatClampNeg, .inr (.inr (.inr (.inr (fun i => if i < n.toNatClampNeg then some (H.size + 1 + i) else none)))))) hP rfl (hA _ hS.1)
    generalize hW1 : (X ++ va_pl L f) ++ [(H.size, .inl (cA, n.toNatClampNeg, .inr (.inr (.inr (.inr (fun i => if i < n.toNatClampNeg then some (H.size + 1 + i) else none))))))] = W1 at hD1 hP1 ⊢
    have hle : ∀ (k9 : Nat) (x : Nat × va_E), W1[k9]? = some x → x.1 ≤ H.size := fun k9 x hx => by
      rw [← hW1] at hx
      by_cases hl : k9 < (X ++ va_pl L f).length
      · rw [List.getElem?_append_left hl] at hx
        exact Nat.le_of_lt ((hP k9 x hx).lt)
      · rw [List.getElem?_append_right (by omega)] at hx
        have h0 : k9 - (X ++ va_pl L f).length < 1 := (List.getElem?_eq_some_iff.mp hx).1
        rw [show k9 - (X ++ va_pl L f).length = 0 by omega] at hx
        cases hx
        exact Nat.le_refl _
    have hr : ∀ (k9 : Nat) (x : Nat × va_E), (((List.range n.toNatClampNeg).map (fun i => H.size + 1 + i)).map (fun a => ((a, .inl (cy, z)) : Nat × va_E)))[k9]? = some x → x.1 = H.size + 1 + k9 := fun k9 x hx => by
      rw [List.getElem?_map, List.getElem?_map] at hx
      by_cases h9 : k9 < n.toNatClampNeg
      · rw [List.getElem?_range h9] at hx
        cases hx
        rfl
      · have hn0 : (List.range n.toNatClampNeg)[k9]? = none := List.getElem?_eq_none (by rw [List.length_range]; omega)
        rw [hn0] at hx
        cases hx
    refine ⟨fun i j x y hi hj hxy => ?_, fun k9 x hx => ?_⟩
    · by_cases h1 : i < W1.length <;> by_cases h2 : j < W1.length
      · rw [List.getElem?_append_left h1] at hi
        rw [List.getElem?_append_left h2] at hj
        exact hD1.1 i j x y hi hj hxy
      · rw [List.getElem?_append_left h1] at hi
        rw [List.getElem?_append_right (by omega)] at hj
        have := hle _ _ hi
        have := hr _ _ hj
        omega
      · rw [List.getElem?_append_right (by omega)] at hi
        rw [List.getElem?_append_left h2] at hj
        have := hle _ _ hj
        have := hr _ _ hi
        omega
      · rw [List.getElem?_append_right (by omega)] at hi hj
        have := hr _ _ hi
        have := hr _ _ hj
        omega
    · by_cases h1 : k9 < W1.length
      · rw [List.getElem?_append_left h1] at hx
        exact hD1.2 k9 x hx
      · rw [List.getElem?_append_right (by omega)] at hx
        have := hr _ _ hx
        exact hA _ (by have := hS.1; omega)
  have hAr : ArrOfT s cA (.array ty) := fun N9 z9 => by
    obtain ⟨-, k9, hk9, cm9, hkk9⟩ := (hO 0 0 0).1
    exact ⟨(fun q hq => by cases hq), k9, hk9, cm9, hkk9⟩
  have hK2 : va_K D cl (tys ++ [(cA, .array ty)]) s := ⟨hK.1, fun k9 x hx => by
    by_cases hl : k9 < tys.length
    · rw [List.getElem?_append_left hl] at hx
      exact hK.2 k9 x hx
    · rw [List.getElem?_append_right (by omega)] at hx
      have h0 : k9 - tys.length < 1 := (List.getElem?_eq_some_iff.mp hx).1
      rw [show k9 - tys.length = 0 by omega] at hx
      cases hx
      exact ⟨hAr, fA⟩⟩
  obtain ⟨t, a1, b1⟩ := kk H.size (fun i => H.size + 1 + i) cA F.heap rfl (fun _ => rfl) (fun i j _ _ h => by have h9 : H.size + 1 + i = H.size + 1 + j := h; omega) hnl hK2 (by rw [← vr_rows hnm]; exact vr_lay hP2) (by rw [← vr_rows hnm]; exact vr_layD hD2) ⟨by rw [f1]; have := hS.1; omega, fun x h1 h2 => (hold x (Nat.lt_of_lt_of_le h1 hS.1)).trans (hS.2.1 x h1 h2), hS.2.2⟩ F rfl X'
  refine ⟨t, step t ?_, b1⟩
  have e : T.heap.size = H.size := by rw [hT]
  rw [e]
  exact a1
end VGM
/-! ===== END ===== -/

def RX0 : String := "LetByColours$Lamp"
def TX0 : u_T := fun k => match k with
  | 0 => ("LetByColours$Lamp", "shine", "[I", true)
  | 1 => ("LetByColours$Lamp", "own", "[I", true)
  | 2 => ("LetByColours$Lamp", "ofColour", "[I", true)
  | _ => ("LetByColours$Lamp", "owned", "I", false)
def tyX0 : Nat → FieldType := fun k => match k with
  | 0 => .array .int
  | 1 => .array .int
  | 2 => .array .int
  | _ => .int
abbrev wsX00 : List Cond := u_ws RX0 TX0 4
theorem nmX0 : ∀ a, a < 4 → ∀ b, b < 4 → a ≠ b → (TX0 a).2.1 ≠ (TX0 b).2.1 := by decide +kernel
theorem tyX0_ok : ∀ k, k < 4 → parseFieldDescriptor (TX0 k).2.2.1 = some (tyX0 k) := by decide +kernel
abbrev cX0_init : ByteArray := prog_2_method_1_code
def yX0_init : MethodName := ⟨RX0, "<init>", "()V"⟩
abbrev cX0_turn : ByteArray := prog_2_method_2_code
def yX0_turn : MethodName := ⟨RX0, "turn", "(LLetByColours$Leases;LLetByColours$State;)V"⟩
abbrev cX0_show : ByteArray := prog_2_method_3_code
def yX0_show : MethodName := ⟨RX0, "show", "(LLetByColours$Leases;II)V"⟩
abbrev cX0_colourAt : ByteArray := prog_2_method_4_code
def yX0_colourAt : MethodName := ⟨RX0, "colourAt", "(I)I"⟩
abbrev cX0_ownerAt : ByteArray := prog_2_method_5_code
def yX0_ownerAt : MethodName := ⟨RX0, "ownerAt", "(I)I"⟩
abbrev cX0_firstSign : ByteArray := prog_2_method_6_code
def yX0_firstSign : MethodName := ⟨RX0, "firstSign", "(II)I"⟩
abbrev cX0_sureShips : ByteArray := prog_2_method_7_code
def yX0_sureShips : MethodName := ⟨RX0, "sureShips", "(LLetByColours$Leases;I)I"⟩
abbrev cX0_sureInAnyFog : ByteArray := prog_2_method_8_code
def yX0_sureInAnyFog : MethodName := ⟨RX0, "sureInAnyFog", "(LLetByColours$Leases;)I"⟩
abbrev cX0_unsureInAllFogs : ByteArray := prog_2_method_9_code
def yX0_unsureInAllFogs : MethodName := ⟨RX0, "unsureInAllFogs", "(LLetByColours$Leases;)I"⟩
def RX1 : String := "LetByColours$Leases"
def TX1 : u_T := fun k => match k with
  | 0 => ("LetByColours$Leases", "tenants", "I", false)
  | 1 => ("LetByColours$Leases", "colour", "[I", true)
  | 2 => ("LetByColours$Leases", "start", "[I", true)
  | 3 => ("LetByColours$Leases", "width", "[I", true)
  | 4 => ("LetByColours$Leases", "rent", "[I", true)
  | 5 => ("LetByColours$Leases", "kind", "[I", true)
  | 6 => ("LetByColours$Leases", "ships", "I", false)
  | 7 => ("LetByColours$Leases", "shipStart", "[I", true)
  | 8 => ("LetByColours$Leases", "shipWidth", "[I", true)
  | 9 => ("LetByColours$Leases", "shipSees", "[I", true)
  | 10 => ("LetByColours$Leases", "fogTenths", "[I", true)
  | _ => ("LetByColours$Leases", "limit", "I", false)
def tyX1 : Nat → FieldType := fun k => match k with
  | 0 => .int
  | 1 => .array .int
  | 2 => .array .int
  | 3 => .array .int
  | 4 => .array .int
  | 5 => .array .int
  | 6 => .int
  | 7 => .array .int
  | 8 => .array .int
  | 9 => .array .int
  | 10 => .array .int
  | _ => .int
abbrev wsX10 : List Cond := u_ws RX1 TX1 12
theorem nmX1 : ∀ a, a < 12 → ∀ b, b < 12 → a ≠ b → (TX1 a).2.1 ≠ (TX1 b).2.1 := by decide +kernel
theorem tyX1_ok : ∀ k, k < 12 → parseFieldDescriptor (TX1 k).2.2.1 = some (tyX1 k) := by decide +kernel
abbrev cX1_init : ByteArray := prog_3_method_1_code
def yX1_init : MethodName := ⟨RX1, "<init>", "()V"⟩
abbrev cX1_clear : ByteArray := prog_3_method_2_code
def yX1_clear : MethodName := ⟨RX1, "clear", "()V"⟩
abbrev cX1_everybody : ByteArray := prog_3_method_3_code
def yX1_everybody : MethodName := ⟨RX1, "everybody", "()I"⟩
abbrev cX1_allShips : ByteArray := prog_3_method_4_code
def yX1_allShips : MethodName := ⟨RX1, "allShips", "()I"⟩
abbrev cX1_accept : ByteArray := prog_3_method_5_code
def yX1_accept : MethodName := ⟨RX1, "accept", "(I[I)Z"⟩
abbrev cX1_isPlace : ByteArray := prog_3_method_6_code
def yX1_isPlace : MethodName := ⟨RX1, "isPlace", "(II)Z"⟩
abbrev cX1_addTenant : ByteArray := prog_3_method_7_code
def yX1_addTenant : MethodName := ⟨RX1, "addTenant", "([I)Z"⟩
abbrev cX1_addShip : ByteArray := prog_3_method_8_code
def yX1_addShip : MethodName := ⟨RX1, "addShip", "(II)Z"⟩
abbrev cX1_setFog : ByteArray := prog_3_method_9_code
def yX1_setFog : MethodName := ⟨RX1, "setFog", "(III)Z"⟩
abbrev cX1_setLimit : ByteArray := prog_3_method_10_code
def yX1_setLimit : MethodName := ⟨RX1, "setLimit", "(I)Z"⟩
abbrev cX1_paysMostOfHisColour : ByteArray := prog_3_method_11_code
def yX1_paysMostOfHisColour : MethodName := ⟨RX1, "paysMostOfHisColour", "(I)Z"⟩
abbrev cX1_shineOf : ByteArray := prog_3_method_12_code
def yX1_shineOf : MethodName := ⟨RX1, "shineOf", "(IIII)I"⟩
def RX2 : String := "LetByColours$Letters"
def TX2 : u_T := fun k => match k with
  | 0 => ("LetByColours$Letters", "row", "[I", true)
  | _ => ("LetByColours$Letters", "length", "I", false)
def tyX2 : Nat → FieldType := fun k => match k with
  | 0 => .array .int
  | _ => .int
abbrev wsX20 : List Cond := u_ws RX2 TX2 2
theorem nmX2 : ∀ a, a < 2 → ∀ b, b < 2 → a ≠ b → (TX2 a).2.1 ≠ (TX2 b).2.1 := by decide +kernel
theorem tyX2_ok : ∀ k, k < 2 → parseFieldDescriptor (TX2 k).2.2.1 = some (tyX2 k) := by decide +kernel
abbrev cX2_init : ByteArray := prog_4_method_1_code
def yX2_init : MethodName := ⟨RX2, "<init>", "()V"⟩
abbrev cX2_append : ByteArray := prog_4_method_2_code
def yX2_append : MethodName := ⟨RX2, "append", "(I)Z"⟩
abbrev cX2_at : ByteArray := prog_4_method_3_code
def yX2_at : MethodName := ⟨RX2, "at", "(I)I"⟩
abbrev cX2_isFigure : ByteArray := prog_4_method_4_code
def yX2_isFigure : MethodName := ⟨RX2, "isFigure", "(I)Z"⟩
def RX3 : String := "LetByColours$Looks"
def TX3 : u_T := fun k => match k with
  | 0 => ("LetByColours$Looks", "stripe", "[I", true)
  | 1 => ("LetByColours$Looks", "colour", "[I", true)
  | _ => ("LetByColours$Looks", "size", "I", false)
def tyX3 : Nat → FieldType := fun k => match k with
  | 0 => .array .int
  | 1 => .array .int
  | _ => .int
abbrev wsX30 : List Cond := u_ws RX3 TX3 3
theorem nmX3 : ∀ a, a < 3 → ∀ b, b < 3 → a ≠ b → (TX3 a).2.1 ≠ (TX3 b).2.1 := by decide +kernel
theorem tyX3_ok : ∀ k, k < 3 → parseFieldDescriptor (TX3 k).2.2.1 = some (tyX3 k) := by decide +kernel
abbrev cX3_init : ByteArray := prog_5_method_1_code
def yX3_init : MethodName := ⟨RX3, "<init>", "()V"⟩
abbrev cX3_append : ByteArray := prog_5_method_2_code
def yX3_append : MethodName := ⟨RX3, "append", "(II)Z"⟩
abbrev cX3_fit : ByteArray := prog_5_method_3_code
def yX3_fit : MethodName := ⟨RX3, "fit", "(LLetByColours$Lamp;)Z"⟩
abbrev cX3_darkStripes : ByteArray := prog_5_method_4_code
def yX3_darkStripes : MethodName := ⟨RX3, "darkStripes", "()I"⟩
def RX4 : String := "LetByColours$Pile"
def TX4 : u_T := fun k => match k with
  | 0 => ("LetByColours$Pile", "rows", "[LLetByColours$State;", true)
  | 1 => ("LetByColours$Pile", "bottom", "I", false)
  | _ => ("LetByColours$Pile", "size", "I", false)
def tyX4 : Nat → FieldType := fun k => match k with
  | 0 => .array (.object "LetByColours$State")
  | 1 => .int
  | _ => .int
abbrev wsX40 : List Cond := u_ws RX4 TX4 3
theorem nmX4 : ∀ a, a < 3 → ∀ b, b < 3 → a ≠ b → (TX4 a).2.1 ≠ (TX4 b).2.1 := by decide +kernel
theorem tyX4_ok : ∀ k, k < 3 → parseFieldDescriptor (TX4 k).2.2.1 = some (tyX4 k) := by decide +kernel
abbrev cX4_init : ByteArray := prog_6_method_1_code
def yX4_init : MethodName := ⟨RX4, "<init>", "(I)V"⟩
abbrev cX4_rowAt : ByteArray := prog_6_method_2_code
def yX4_rowAt : MethodName := ⟨RX4, "rowAt", "(I)I"⟩
abbrev cX4_put : ByteArray := prog_6_method_3_code
def yX4_put : MethodName := ⟨RX4, "put", "(LLetByColours$State;)V"⟩
abbrev cX4_takeInto : ByteArray := prog_6_method_4_code
def yX4_takeInto : MethodName := ⟨RX4, "takeInto", "(LLetByColours$State;)Z"⟩
def RX5 : String := "LetByColours$Reader"
def TX5 : u_T := fun k => match k with
  | _ => ("LetByColours$Reader", "numbers", "[I", true)
def tyX5 : Nat → FieldType := fun k => match k with
  | _ => .array .int
abbrev wsX50 : List Cond := u_ws RX5 TX5 1
theorem nmX5 : ∀ a, a < 1 → ∀ b, b < 1 → a ≠ b → (TX5 a).2.1 ≠ (TX5 b).2.1 := by decide +kernel
theorem tyX5_ok : ∀ k, k < 1 → parseFieldDescriptor (TX5 k).2.2.1 = some (tyX5 k) := by decide +kernel
abbrev cX5_init : ByteArray := prog_7_method_1_code
def yX5_init : MethodName := ⟨RX5, "<init>", "()V"⟩
abbrev cX5_readAll : ByteArray := prog_7_method_2_code
def yX5_readAll : MethodName := ⟨RX5, "readAll", "(LLetByColours$Letters;LLetByColours$Leases;)I"⟩
abbrev cX5_readItem : ByteArray := prog_7_method_3_code
def yX5_readItem : MethodName := ⟨RX5, "readItem", "(LLetByColours$Letters;ILLetByColours$Leases;)I"⟩
abbrev cX5_numbersBehind : ByteArray := prog_7_method_4_code
def yX5_numbersBehind : MethodName := ⟨RX5, "numbersBehind", "(I)I"⟩
abbrev cX5_numberAt : ByteArray := prog_7_method_5_code
def yX5_numberAt : MethodName := ⟨RX5, "numberAt", "(LLetByColours$Letters;II)I"⟩
def RX6 : String := "LetByColours$Search"
def TX6 : u_T := fun k => match k with
  | 0 => ("LetByColours$Search", "shineAt", "[[I", true)
  | 1 => ("LetByColours$Search", "way", "[I", true)
  | 2 => ("LetByColours$Search", "best", "[I", true)
  | _ => ("LetByColours$Search", "bestSure", "I", false)
def tyX6 : Nat → FieldType := fun k => match k with
  | 0 => .array (.array .int)
  | 1 => .array .int
  | 2 => .array .int
  | _ => .int
abbrev wsX60 : List Cond := u_ws RX6 TX6 4
theorem nmX6 : ∀ a, a < 4 → ∀ b, b < 4 → a ≠ b → (TX6 a).2.1 ≠ (TX6 b).2.1 := by decide +kernel
theorem tyX6_ok : ∀ k, k < 4 → parseFieldDescriptor (TX6 k).2.2.1 = some (tyX6 k) := by decide +kernel
abbrev cX6_init : ByteArray := prog_8_method_1_code
def yX6_init : MethodName := ⟨RX6, "<init>", "()V"⟩
abbrev cX6_run : ByteArray := prog_8_method_2_code
def yX6_run : MethodName := ⟨RX6, "run", "(LLetByColours$Leases;LLetByColours$State;LLetByColours$Lamp;)V"⟩
abbrev cX6_prepare : ByteArray := prog_8_method_3_code
def yX6_prepare : MethodName := ⟨RX6, "prepare", "(LLetByColours$Leases;LLetByColours$State;)V"⟩
abbrev cX6_nextWay : ByteArray := prog_8_method_4_code
def yX6_nextWay : MethodName := ⟨RX6, "nextWay", "(I)Z"⟩
def RX7 : String := "LetByColours$State"
def TX7 : u_T := fun k => match k with
  | 0 => ("LetByColours$State", "night", "I", false)
  | 1 => ("LetByColours$State", "arrears", "[I", true)
  | 2 => ("LetByColours$State", "start", "[I", true)
  | 3 => ("LetByColours$State", "width", "[I", true)
  | _ => ("LetByColours$State", "smoked", "I", false)
def tyX7 : Nat → FieldType := fun k => match k with
  | 0 => .int
  | 1 => .array .int
  | 2 => .array .int
  | 3 => .array .int
  | _ => .int
abbrev wsX70 : List Cond := u_ws RX7 TX7 5
theorem nmX7 : ∀ a, a < 5 → ∀ b, b < 5 → a ≠ b → (TX7 a).2.1 ≠ (TX7 b).2.1 := by decide +kernel
theorem tyX7_ok : ∀ k, k < 5 → parseFieldDescriptor (TX7 k).2.2.1 = some (tyX7 k) := by decide +kernel
abbrev cX7_init : ByteArray := prog_9_method_1_code
def yX7_init : MethodName := ⟨RX7, "<init>", "()V"⟩
abbrev cX7_begin : ByteArray := prog_9_method_2_code
def yX7_begin : MethodName := ⟨RX7, "begin", "(LLetByColours$Leases;)V"⟩
abbrev cX7_copy : ByteArray := prog_9_method_3_code
def yX7_copy : MethodName := ⟨RX7, "copy", "(LLetByColours$State;)V"⟩
abbrev cX7_goBy : ByteArray := prog_9_method_4_code
def yX7_goBy : MethodName := ⟨RX7, "goBy", "(LLetByColours$Leases;I)V"⟩
abbrev cX7_paying : ByteArray := prog_9_method_5_code
def yX7_paying : MethodName := ⟨RX7, "paying", "(LLetByColours$Leases;)I"⟩
def RX8 : String := "LetByColours"
def TX8 : u_T := fun k => match k with
  | 0 => ("LetByColours", "text", "LLetByColours$Letters;", true)
  | 1 => ("LetByColours", "reader", "LLetByColours$Reader;", true)
  | 2 => ("LetByColours", "laid", "LLetByColours$Leases;", false)
  | 3 => ("LetByColours", "draft", "LLetByColours$Leases;", false)
  | 4 => ("LetByColours", "state", "LLetByColours$State;", true)
  | 5 => ("LetByColours", "coming", "LLetByColours$State;", true)
  | 6 => ("LetByColours", "undoable", "LLetByColours$Pile;", true)
  | 7 => ("LetByColours", "kept", "LLetByColours$Pile;", true)
  | 8 => ("LetByColours", "looks", "LLetByColours$Looks;", true)
  | 9 => ("LetByColours", "lamp", "LLetByColours$Lamp;", true)
  | _ => ("LetByColours", "search", "LLetByColours$Search;", true)
def tyX8 : Nat → FieldType := fun k => match k with
  | 0 => .object "LetByColours$Letters"
  | 1 => .object "LetByColours$Reader"
  | 2 => .object "LetByColours$Leases"
  | 3 => .object "LetByColours$Leases"
  | 4 => .object "LetByColours$State"
  | 5 => .object "LetByColours$State"
  | 6 => .object "LetByColours$Pile"
  | 7 => .object "LetByColours$Pile"
  | 8 => .object "LetByColours$Looks"
  | 9 => .object "LetByColours$Lamp"
  | _ => .object "LetByColours$Search"
abbrev wsX80 : List Cond := u_ws RX8 TX8 11
theorem nmX8 : ∀ a, a < 11 → ∀ b, b < 11 → a ≠ b → (TX8 a).2.1 ≠ (TX8 b).2.1 := by decide +kernel
theorem tyX8_ok : ∀ k, k < 11 → parseFieldDescriptor (TX8 k).2.2.1 = some (tyX8 k) := by decide +kernel
abbrev cX8_init : ByteArray := prog_1_method_1_code
def yX8_init : MethodName := ⟨RX8, "<init>", "()V"⟩
abbrev cX8_write : ByteArray := prog_1_method_2_code
def yX8_write : MethodName := ⟨RX8, "write", "(I)I"⟩
abbrev cX8_wipe : ByteArray := prog_1_method_3_code
def yX8_wipe : MethodName := ⟨RX8, "wipe", "()I"⟩
abbrev cX8_fault : ByteArray := prog_1_method_4_code
def yX8_fault : MethodName := ⟨RX8, "fault", "()I"⟩
abbrev cX8_lay : ByteArray := prog_1_method_5_code
def yX8_lay : MethodName := ⟨RX8, "lay", "()I"⟩
abbrev cX8_tenant : ByteArray := prog_1_method_6_code
def yX8_tenant : MethodName := ⟨RX8, "tenant", "(II)I"⟩
abbrev cX8_ship : ByteArray := prog_1_method_7_code
def yX8_ship : MethodName := ⟨RX8, "ship", "(II)I"⟩
abbrev cX8_stripe : ByteArray := prog_1_method_8_code
def yX8_stripe : MethodName := ⟨RX8, "stripe", "(II)I"⟩
abbrev cX8_pass : ByteArray := prog_1_method_9_code
def yX8_pass : MethodName := ⟨RX8, "pass", "(I)I"⟩
abbrev cX8_pay : ByteArray := prog_1_method_10_code
def yX8_pay : MethodName := ⟨RX8, "pay", "(II)I"⟩
abbrev cX8_change : ByteArray := prog_1_method_11_code
def yX8_change : MethodName := ⟨RX8, "change", "(II)I"⟩
abbrev cX8_smoke : ByteArray := prog_1_method_12_code
def yX8_smoke : MethodName := ⟨RX8, "smoke", "(I)I"⟩
abbrev cX8_undo : ByteArray := prog_1_method_13_code
def yX8_undo : MethodName := ⟨RX8, "undo", "()I"⟩
abbrev cX8_seen : ByteArray := prog_1_method_14_code
def yX8_seen : MethodName := ⟨RX8, "seen", "(II)I"⟩
abbrev cX8_sign : ByteArray := prog_1_method_15_code
def yX8_sign : MethodName := ⟨RX8, "sign", "(II)I"⟩
abbrev cX8_fleet : ByteArray := prog_1_method_16_code
def yX8_fleet : MethodName := ⟨RX8, "fleet", "(I)I"⟩
abbrev cX8_order : ByteArray := prog_1_method_17_code
def yX8_order : MethodName := ⟨RX8, "order", "(I)I"⟩
abbrev cX8_needed : ByteArray := prog_1_method_18_code
def yX8_needed : MethodName := ⟨RX8, "needed", "(I)I"⟩
abbrev cX8_least : ByteArray := prog_1_method_19_code
def yX8_least : MethodName := ⟨RX8, "least", "(I)I"⟩
abbrev cX8_rock : ByteArray := prog_1_method_20_code
def yX8_rock : MethodName := ⟨RX8, "rock", "(I)I"⟩
abbrev cX8_row : ByteArray := prog_1_method_21_code
def yX8_row : MethodName := ⟨RX8, "row", "(IIII)I"⟩
abbrev cX8_look : ByteArray := prog_1_method_22_code
def yX8_look : MethodName := ⟨RX8, "look", "(II)I"⟩
abbrev cX8_forget : ByteArray := prog_1_method_23_code
def yX8_forget : MethodName := ⟨RX8, "forget", "()I"⟩
abbrev cX8_behind : ByteArray := prog_1_method_24_code
def yX8_behind : MethodName := ⟨RX8, "behind", "(I)I"⟩
abbrev cX8_panes : ByteArray := prog_1_method_25_code
def yX8_panes : MethodName := ⟨RX8, "panes", "()I"⟩
abbrev cX8_odds : ByteArray := prog_1_method_26_code
def yX8_odds : MethodName := ⟨RX8, "odds", "(II)I"⟩
abbrev cX8_mean : ByteArray := prog_1_method_27_code
def yX8_mean : MethodName := ⟨RX8, "mean", "(I)I"⟩
abbrev cX8_owed : ByteArray := prog_1_method_28_code
def yX8_owed : MethodName := ⟨RX8, "owed", "(I)I"⟩
abbrev cX8_weeks : ByteArray := prog_1_method_29_code
def yX8_weeks : MethodName := ⟨RX8, "weeks", "(III)I"⟩
abbrev cX8_keep : ByteArray := prog_1_method_30_code
def yX8_keep : MethodName := ⟨RX8, "keep", "()I"⟩
abbrev cX8_back : ByteArray := prog_1_method_31_code
def yX8_back : MethodName := ⟨RX8, "back", "()I"⟩
abbrev cX8_count : ByteArray := prog_1_method_32_code
def yX8_count : MethodName := ⟨RX8, "count", "(I)I"⟩
abbrev cX8_within : ByteArray := prog_1_method_33_code
def yX8_within : MethodName := ⟨RX8, "within", "(III)Z"⟩
abbrev cX8_isStripe : ByteArray := prog_1_method_34_code
def yX8_isStripe : MethodName := ⟨RX8, "isStripe", "(I)Z"⟩
abbrev cX8_isFog : ByteArray := prog_1_method_35_code
def yX8_isFog : MethodName := ⟨RX8, "isFog", "(I)Z"⟩
abbrev cX8_isColourOrDark : ByteArray := prog_1_method_36_code
def yX8_isColourOrDark : MethodName := ⟨RX8, "isColourOrDark", "(I)Z"⟩
abbrev cX8_isTenant : ByteArray := prog_1_method_37_code
def yX8_isTenant : MethodName := ⟨RX8, "isTenant", "(I)Z"⟩
abbrev cX8_isShip : ByteArray := prog_1_method_38_code
def yX8_isShip : MethodName := ⟨RX8, "isShip", "(I)Z"⟩
abbrev cX8_coloursSeenIn : ByteArray := prog_1_method_39_code
def yX8_coloursSeenIn : MethodName := ⟨RX8, "coloursSeenIn", "(I)I"⟩
abbrev cX8_swap : ByteArray := prog_1_method_40_code
def yX8_swap : MethodName := ⟨RX8, "swap", "([III)V"⟩
abbrev cX8_stripesFrom : ByteArray := prog_1_method_41_code
def yX8_stripesFrom : MethodName := ⟨RX8, "stripesFrom", "(II)I"⟩
abbrev cX8_drawnFog : ByteArray := prog_1_method_42_code
def yX8_drawnFog : MethodName := ⟨RX8, "drawnFog", "(II)I"⟩
abbrev cX8_partOfTenths : ByteArray := prog_1_method_43_code
def yX8_partOfTenths : MethodName := ⟨RX8, "partOfTenths", "(II)I"⟩
abbrev cX8_lightAsNow : ByteArray := prog_1_method_44_code
def yX8_lightAsNow : MethodName := ⟨RX8, "lightAsNow", "()V"⟩
abbrev cX8_lightAs : ByteArray := prog_1_method_45_code
def yX8_lightAs : MethodName := ⟨RX8, "lightAs", "(LLetByColours$State;)V"⟩
abbrev cX8_sureByLightOf : ByteArray := prog_1_method_46_code
def yX8_sureByLightOf : MethodName := ⟨RX8, "sureByLightOf", "(II)I"⟩
abbrev cX8_sureTenths : ByteArray := prog_1_method_47_code
def yX8_sureTenths : MethodName := ⟨RX8, "sureTenths", "(I)I"⟩
def RX9 : String := "LetByColoursModel"
def TX9 : u_T := fun k => match k with
  | 0 => ("LetByColoursModel", "tenants", "I", false)
  | 1 => ("LetByColoursModel", "tenant", "[I", true)
  | 2 => ("LetByColoursModel", "ships", "I", false)
  | 3 => ("LetByColoursModel", "ship", "[I", true)
  | 4 => ("LetByColoursModel", "fog", "[I", true)
  | 5 => ("LetByColoursModel", "most", "I", false)
  | 6 => ("LetByColoursModel", "st", "[I", true)
  | 7 => ("LetByColoursModel", "acts", "I", false)
  | 8 => ("LetByColoursModel", "was", "[I", true)
  | 9 => ("LetByColoursModel", "keeps", "I", false)
  | 10 => ("LetByColoursModel", "kept", "[I", true)
  | 11 => ("LetByColoursModel", "looks", "I", false)
  | 12 => ("LetByColoursModel", "look", "[I", true)
  | 13 => ("LetByColoursModel", "text", "[I", true)
  | 14 => ("LetByColoursModel", "texted", "I", false)
  | 15 => ("LetByColoursModel", "at", "I", false)
  | 16 => ("LetByColoursModel", "told", "[I", true)
  | 17 => ("LetByColoursModel", "readTenants", "I", false)
  | 18 => ("LetByColoursModel", "readTenant", "[I", true)
  | 19 => ("LetByColoursModel", "readShips", "I", false)
  | 20 => ("LetByColoursModel", "readShip", "[I", true)
  | 21 => ("LetByColoursModel", "readFog", "[I", true)
  | 22 => ("LetByColoursModel", "readMost", "I", false)
  | 23 => ("LetByColoursModel", "read", "[I", true)
  | 24 => ("LetByColoursModel", "now", "[I", true)
  | 25 => ("LetByColoursModel", "out", "I", false)
  | 26 => ("LetByColoursModel", "whose", "[I", true)
  | 27 => ("LetByColoursModel", "colour", "[I", true)
  | 28 => ("LetByColoursModel", "order", "[I", true)
  | _ => ("LetByColoursModel", "best", "[I", true)
def tyX9 : Nat → FieldType := fun k => match k with
  | 0 => .int
  | 1 => .array .int
  | 2 => .int
  | 3 => .array .int
  | 4 => .array .int
  | 5 => .int
  | 6 => .array .int
  | 7 => .int
  | 8 => .array .int
  | 9 => .int
  | 10 => .array .int
  | 11 => .int
  | 12 => .array .int
  | 13 => .array .int
  | 14 => .int
  | 15 => .int
  | 16 => .array .int
  | 17 => .int
  | 18 => .array .int
  | 19 => .int
  | 20 => .array .int
  | 21 => .array .int
  | 22 => .int
  | 23 => .array .int
  | 24 => .array .int
  | 25 => .int
  | 26 => .array .int
  | 27 => .array .int
  | 28 => .array .int
  | _ => .array .int
abbrev wsX90 : List Cond := u_ws RX9 TX9 30
theorem nmX9 : ∀ a, a < 30 → ∀ b, b < 30 → a ≠ b → (TX9 a).2.1 ≠ (TX9 b).2.1 := by decide +kernel
theorem tyX9_ok : ∀ k, k < 30 → parseFieldDescriptor (TX9 k).2.2.1 = some (tyX9 k) := by decide +kernel
abbrev cX9_init : ByteArray := prog_11_method_1_code
def yX9_init : MethodName := ⟨RX9, "<init>", "()V"⟩
abbrev cX9_tells : ByteArray := prog_11_method_3_code
def yX9_tells : MethodName := ⟨RX9, "tells", "(IIIII)V"⟩
abbrev cX9_tellsShip : ByteArray := prog_11_method_4_code
def yX9_tellsShip : MethodName := ⟨RX9, "tellsShip", "(II)V"⟩
abbrev cX9_in : ByteArray := prog_11_method_5_code
def yX9_in : MethodName := ⟨RX9, "in", "(III)Z"⟩
abbrev cX9_has : ByteArray := prog_11_method_6_code
def yX9_has : MethodName := ⟨RX9, "has", "(II)Z"⟩
abbrev cX9_bits : ByteArray := prog_11_method_7_code
def yX9_bits : MethodName := ⟨RX9, "bits", "(I)I"⟩
abbrev cX9_isTenant : ByteArray := prog_11_method_8_code
def yX9_isTenant : MethodName := ⟨RX9, "isTenant", "(I)Z"⟩
abbrev cX9_isShip : ByteArray := prog_11_method_9_code
def yX9_isShip : MethodName := ⟨RX9, "isShip", "(I)Z"⟩
abbrev cX9_isStripe : ByteArray := prog_11_method_10_code
def yX9_isStripe : MethodName := ⟨RX9, "isStripe", "(I)Z"⟩
abbrev cX9_isFog : ByteArray := prog_11_method_11_code
def yX9_isFog : MethodName := ⟨RX9, "isFog", "(I)Z"⟩
abbrev cX9_write : ByteArray := prog_11_method_12_code
def yX9_write : MethodName := ⟨RX9, "write", "(I)I"⟩
abbrev cX9_wipe : ByteArray := prog_11_method_13_code
def yX9_wipe : MethodName := ⟨RX9, "wipe", "()I"⟩
abbrev cX9_letterAt : ByteArray := prog_11_method_14_code
def yX9_letterAt : MethodName := ⟨RX9, "letterAt", "(I)I"⟩
abbrev cX9_isFigure : ByteArray := prog_11_method_15_code
def yX9_isFigure : MethodName := ⟨RX9, "isFigure", "(I)Z"⟩
abbrev cX9_readNumbers : ByteArray := prog_11_method_16_code
def yX9_readNumbers : MethodName := ⟨RX9, "readNumbers", "(I)Z"⟩
abbrev cX9_isTold : ByteArray := prog_11_method_17_code
def yX9_isTold : MethodName := ⟨RX9, "isTold", "(III)Z"⟩
abbrev cX9_put : ByteArray := prog_11_method_18_code
def yX9_put : MethodName := ⟨RX9, "put", "([II[II)V"⟩
abbrev cX9_clearTold : ByteArray := prog_11_method_19_code
def yX9_clearTold : MethodName := ⟨RX9, "clearTold", "()V"⟩
abbrev cX9_tellsFog : ByteArray := prog_11_method_20_code
def yX9_tellsFog : MethodName := ⟨RX9, "tellsFog", "(III)V"⟩
abbrev cX9_readTenantOf : ByteArray := prog_11_method_21_code
def yX9_readTenantOf : MethodName := ⟨RX9, "readTenantOf", "()Z"⟩
abbrev cX9_readShipOf : ByteArray := prog_11_method_22_code
def yX9_readShipOf : MethodName := ⟨RX9, "readShipOf", "()Z"⟩
abbrev cX9_readFogOf : ByteArray := prog_11_method_23_code
def yX9_readFogOf : MethodName := ⟨RX9, "readFogOf", "()Z"⟩
abbrev cX9_readMostOf : ByteArray := prog_11_method_24_code
def yX9_readMostOf : MethodName := ⟨RX9, "readMostOf", "()Z"⟩
abbrev cX9_readItem : ByteArray := prog_11_method_25_code
def yX9_readItem : MethodName := ⟨RX9, "readItem", "()Z"⟩
abbrev cX9_fault : ByteArray := prog_11_method_26_code
def yX9_fault : MethodName := ⟨RX9, "fault", "()I"⟩
abbrev cX9_lay : ByteArray := prog_11_method_27_code
def yX9_lay : MethodName := ⟨RX9, "lay", "()I"⟩
abbrev cX9_settles : ByteArray := prog_11_method_28_code
def yX9_settles : MethodName := ⟨RX9, "settles", "()V"⟩
abbrev cX9_asItIs : ByteArray := prog_11_method_29_code
def yX9_asItIs : MethodName := ⟨RX9, "asItIs", "()V"⟩
abbrev cX9_behindNow : ByteArray := prog_11_method_30_code
def yX9_behindNow : MethodName := ⟨RX9, "behindNow", "()I"⟩
abbrev cX9_isProudest : ByteArray := prog_11_method_31_code
def yX9_isProudest : MethodName := ⟨RX9, "isProudest", "(I)Z"⟩
abbrev cX9_shines : ByteArray := prog_11_method_32_code
def yX9_shines : MethodName := ⟨RX9, "shines", "(II)Z"⟩
abbrev cX9_paint : ByteArray := prog_11_method_33_code
def yX9_paint : MethodName := ⟨RX9, "paint", "()V"⟩
abbrev cX9_isSeen : ByteArray := prog_11_method_34_code
def yX9_isSeen : MethodName := ⟨RX9, "isSeen", "(II)Z"⟩
abbrev cX9_sees : ByteArray := prog_11_method_35_code
def yX9_sees : MethodName := ⟨RX9, "sees", "(II)Z"⟩
abbrev cX9_signOf : ByteArray := prog_11_method_36_code
def yX9_signOf : MethodName := ⟨RX9, "signOf", "(II)I"⟩
abbrev cX9_sureIn : ByteArray := prog_11_method_37_code
def yX9_sureIn : MethodName := ⟨RX9, "sureIn", "(I)I"⟩
abbrev cX9_sureInAny : ByteArray := prog_11_method_38_code
def yX9_sureInAny : MethodName := ⟨RX9, "sureInAny", "()I"⟩
abbrev cX9_tenant : ByteArray := prog_11_method_39_code
def yX9_tenant : MethodName := ⟨RX9, "tenant", "(II)I"⟩
abbrev cX9_ship : ByteArray := prog_11_method_40_code
def yX9_ship : MethodName := ⟨RX9, "ship", "(II)I"⟩
abbrev cX9_stripe : ByteArray := prog_11_method_41_code
def yX9_stripe : MethodName := ⟨RX9, "stripe", "(II)I"⟩
abbrev cX9_remembers : ByteArray := prog_11_method_42_code
def yX9_remembers : MethodName := ⟨RX9, "remembers", "()V"⟩
abbrev cX9_pass : ByteArray := prog_11_method_43_code
def yX9_pass : MethodName := ⟨RX9, "pass", "(I)I"⟩
abbrev cX9_pay : ByteArray := prog_11_method_44_code
def yX9_pay : MethodName := ⟨RX9, "pay", "(II)I"⟩
abbrev cX9_swap : ByteArray := prog_11_method_45_code
def yX9_swap : MethodName := ⟨RX9, "swap", "([III)V"⟩
abbrev cX9_change : ByteArray := prog_11_method_46_code
def yX9_change : MethodName := ⟨RX9, "change", "(II)I"⟩
abbrev cX9_smoke : ByteArray := prog_11_method_47_code
def yX9_smoke : MethodName := ⟨RX9, "smoke", "(I)I"⟩
abbrev cX9_undo : ByteArray := prog_11_method_48_code
def yX9_undo : MethodName := ⟨RX9, "undo", "()I"⟩
abbrev cX9_seen : ByteArray := prog_11_method_49_code
def yX9_seen : MethodName := ⟨RX9, "seen", "(II)I"⟩
abbrev cX9_sign : ByteArray := prog_11_method_50_code
def yX9_sign : MethodName := ⟨RX9, "sign", "(II)I"⟩
abbrev cX9_fleet : ByteArray := prog_11_method_51_code
def yX9_fleet : MethodName := ⟨RX9, "fleet", "(I)I"⟩
abbrev cX9_isOrder : ByteArray := prog_11_method_52_code
def yX9_isOrder : MethodName := ⟨RX9, "isOrder", "(I)Z"⟩
abbrev cX9_order : ByteArray := prog_11_method_53_code
def yX9_order : MethodName := ⟨RX9, "order", "(I)I"⟩
abbrev cX9_needed : ByteArray := prog_11_method_54_code
def yX9_needed : MethodName := ⟨RX9, "needed", "(I)I"⟩
abbrev cX9_least : ByteArray := prog_11_method_55_code
def yX9_least : MethodName := ⟨RX9, "least", "(I)I"⟩
abbrev cX9_rock : ByteArray := prog_11_method_56_code
def yX9_rock : MethodName := ⟨RX9, "rock", "(I)I"⟩
abbrev cX9_row : ByteArray := prog_11_method_57_code
def yX9_row : MethodName := ⟨RX9, "row", "(IIII)I"⟩
abbrev cX9_look : ByteArray := prog_11_method_58_code
def yX9_look : MethodName := ⟨RX9, "look", "(II)I"⟩
abbrev cX9_forget : ByteArray := prog_11_method_59_code
def yX9_forget : MethodName := ⟨RX9, "forget", "()I"⟩
abbrev cX9_behind : ByteArray := prog_11_method_60_code
def yX9_behind : MethodName := ⟨RX9, "behind", "(I)I"⟩
abbrev cX9_panes : ByteArray := prog_11_method_61_code
def yX9_panes : MethodName := ⟨RX9, "panes", "()I"⟩
abbrev cX9_tenths : ByteArray := prog_11_method_62_code
def yX9_tenths : MethodName := ⟨RX9, "tenths", "(I)I"⟩
abbrev cX9_lowest : ByteArray := prog_11_method_63_code
def yX9_lowest : MethodName := ⟨RX9, "lowest", "(III)I"⟩
abbrev cX9_odds : ByteArray := prog_11_method_64_code
def yX9_odds : MethodName := ⟨RX9, "odds", "(II)I"⟩
abbrev cX9_mean : ByteArray := prog_11_method_65_code
def yX9_mean : MethodName := ⟨RX9, "mean", "(I)I"⟩
abbrev cX9_owed : ByteArray := prog_11_method_66_code
def yX9_owed : MethodName := ⟨RX9, "owed", "(I)I"⟩
abbrev cX9_weeks : ByteArray := prog_11_method_67_code
def yX9_weeks : MethodName := ⟨RX9, "weeks", "(III)I"⟩
abbrev cX9_keep : ByteArray := prog_11_method_68_code
def yX9_keep : MethodName := ⟨RX9, "keep", "()I"⟩
abbrev cX9_back : ByteArray := prog_11_method_69_code
def yX9_back : MethodName := ⟨RX9, "back", "()I"⟩
abbrev cX9_count : ByteArray := prog_11_method_70_code
def yX9_count : MethodName := ⟨RX9, "count", "(I)I"⟩
def RJx145de : String := "java/io/Serializable"
def TJx145de : u_T := fun k => match k with
  | _ => ("", "", "", false)
def tyJx145de : Nat → FieldType := fun k => match k with
  | _ => .int
abbrev wsJx145de0 : List Cond := u_ws RJx145de TJx145de 0
theorem nmJx145de : ∀ a, a < 0 → ∀ b, b < 0 → a ≠ b → (TJx145de a).2.1 ≠ (TJx145de b).2.1 := by decide +kernel
theorem tyJx145de_ok : ∀ k, k < 0 → parseFieldDescriptor (TJx145de k).2.2.1 = some (tyJx145de k) := by decide +kernel
def RJx9f9b0 : String := "java/lang/CharSequence"
def TJx9f9b0 : u_T := fun k => match k with
  | _ => ("", "", "", false)
def tyJx9f9b0 : Nat → FieldType := fun k => match k with
  | _ => .int
abbrev wsJx9f9b00 : List Cond := u_ws RJx9f9b0 TJx9f9b0 0
theorem nmJx9f9b0 : ∀ a, a < 0 → ∀ b, b < 0 → a ≠ b → (TJx9f9b0 a).2.1 ≠ (TJx9f9b0 b).2.1 := by decide +kernel
theorem tyJx9f9b0_ok : ∀ k, k < 0 → parseFieldDescriptor (TJx9f9b0 k).2.2.1 = some (tyJx9f9b0 k) := by decide +kernel
def RJxb160c : String := "java/lang/Comparable"
def TJxb160c : u_T := fun k => match k with
  | _ => ("", "", "", false)
def tyJxb160c : Nat → FieldType := fun k => match k with
  | _ => .int
abbrev wsJxb160c0 : List Cond := u_ws RJxb160c TJxb160c 0
theorem nmJxb160c : ∀ a, a < 0 → ∀ b, b < 0 → a ≠ b → (TJxb160c a).2.1 ≠ (TJxb160c b).2.1 := by decide +kernel
theorem tyJxb160c_ok : ∀ k, k < 0 → parseFieldDescriptor (TJxb160c k).2.2.1 = some (tyJxb160c k) := by decide +kernel
def RJ6 : String := "java/lang/Integer"
def TJ6 : u_T := fun k => match k with
  | _ => ("", "", "", false)
def tyJ6 : Nat → FieldType := fun k => match k with
  | _ => .int
abbrev wsJ60 : List Cond := u_ws RJ6 TJ6 0
theorem nmJ6 : ∀ a, a < 0 → ∀ b, b < 0 → a ≠ b → (TJ6 a).2.1 ≠ (TJ6 b).2.1 := by decide +kernel
theorem tyJ6_ok : ∀ k, k < 0 → parseFieldDescriptor (TJ6 k).2.2.1 = some (tyJ6 k) := by decide +kernel
abbrev cJ6_bitCount_0f7a4 : ByteArray := prog_12_method_49_code
def yJ6_bitCount_0f7a4 : MethodName := ⟨RJ6, "bitCount", "(I)I"⟩
def RJ9 : String := "java/lang/Math"
def TJ9 : u_T := fun k => match k with
  | _ => ("", "", "", false)
def tyJ9 : Nat → FieldType := fun k => match k with
  | _ => .int
abbrev wsJ90 : List Cond := u_ws RJ9 TJ9 0
theorem nmJ9 : ∀ a, a < 0 → ∀ b, b < 0 → a ≠ b → (TJ9 a).2.1 ≠ (TJ9 b).2.1 := by decide +kernel
theorem tyJ9_ok : ∀ k, k < 0 → parseFieldDescriptor (TJ9 k).2.2.1 = some (tyJ9 k) := by decide +kernel
abbrev cJ9_max_7cf53 : ByteArray := prog_13_method_65_code
def yJ9_max_7cf53 : MethodName := ⟨RJ9, "max", "(II)I"⟩
def RJ0 : String := "java/lang/String"
def TJ0 : u_T := fun k => match k with
  | _ => ("", "", "", false)
def tyJ0 : Nat → FieldType := fun k => match k with
  | _ => .int
abbrev wsJ00 : List Cond := u_ws RJ0 TJ0 0
theorem nmJ0 : ∀ a, a < 0 → ∀ b, b < 0 → a ≠ b → (TJ0 a).2.1 ≠ (TJ0 b).2.1 := by decide +kernel
theorem tyJ0_ok : ∀ k, k < 0 → parseFieldDescriptor (TJ0 k).2.2.1 = some (tyJ0 k) := by decide +kernel
abbrev cJ0_length_8abf5 : ByteArray := prog_14_method_54_code
def yJ0_length_8abf5 : MethodName := ⟨RJ0, "length", "()I"⟩
abbrev cJ0_charAt_5068e : ByteArray := prog_14_method_56_code
def yJ0_charAt_5068e : MethodName := ⟨RJ0, "charAt", "(I)C"⟩
abbrev cJ0_coder_7d493 : ByteArray := prog_14_method_152_code
def yJ0_coder_7d493 : MethodName := ⟨RJ0, "coder", "()B"⟩
abbrev cJ0_isLatin1_aae02 : ByteArray := prog_14_method_154_code
def yJ0_isLatin1_aae02 : MethodName := ⟨RJ0, "isLatin1", "()Z"⟩
abbrev cJ0_checkIndex_df160 : ByteArray := prog_14_method_155_code
def yJ0_checkIndex_df160 : MethodName := ⟨RJ0, "checkIndex", "(II)V"⟩
def RJ1 : String := "java/lang/StringLatin1"
def TJ1 : u_T := fun k => match k with
  | _ => ("", "", "", false)
def tyJ1 : Nat → FieldType := fun k => match k with
  | _ => .int
abbrev wsJ10 : List Cond := u_ws RJ1 TJ1 0
theorem nmJ1 : ∀ a, a < 0 → ∀ b, b < 0 → a ≠ b → (TJ1 a).2.1 ≠ (TJ1 b).2.1 := by decide +kernel
theorem tyJ1_ok : ∀ k, k < 0 → parseFieldDescriptor (TJ1 k).2.2.1 = some (tyJ1 k) := by decide +kernel
abbrev cJ1_charAt_3b067 : ByteArray := prog_15_method_2_code
def yJ1_charAt_3b067 : MethodName := ⟨RJ1, "charAt", "([BI)C"⟩
def RJ2 : String := "java/lang/StringUTF16"
def TJ2 : u_T := fun k => match k with
  | _ => ("", "", "", false)
def tyJ2 : Nat → FieldType := fun k => match k with
  | _ => .int
abbrev wsJ20 : List Cond := u_ws RJ2 TJ2 0
theorem nmJ2 : ∀ a, a < 0 → ∀ b, b < 0 → a ≠ b → (TJ2 a).2.1 ≠ (TJ2 b).2.1 := by decide +kernel
theorem tyJ2_ok : ∀ k, k < 0 → parseFieldDescriptor (TJ2 k).2.2.1 = some (tyJ2 k) := by decide +kernel
abbrev cJ2_getChar_3b067 : ByteArray := prog_16_method_5_code
def yJ2_getChar_3b067 : MethodName := ⟨RJ2, "getChar", "([BI)C"⟩
abbrev cJ2_length_9d52b : ByteArray := prog_16_method_6_code
def yJ2_length_9d52b : MethodName := ⟨RJ2, "length", "([B)I"⟩
abbrev cJ2_charAt_3b067 : ByteArray := prog_16_method_83_code
def yJ2_charAt_3b067 : MethodName := ⟨RJ2, "charAt", "([BI)C"⟩
abbrev cJ2_checkIndex_2214a : ByteArray := prog_16_method_91_code
def yJ2_checkIndex_2214a : MethodName := ⟨RJ2, "checkIndex", "(I[B)V"⟩
def RJ10 : String := "java/lang/System"
def TJ10 : u_T := fun k => match k with
  | _ => ("", "", "", false)
def tyJ10 : Nat → FieldType := fun k => match k with
  | _ => .int
abbrev wsJ100 : List Cond := u_ws RJ10 TJ10 0
theorem nmJ10 : ∀ a, a < 0 → ∀ b, b < 0 → a ≠ b → (TJ10 a).2.1 ≠ (TJ10 b).2.1 := by decide +kernel
theorem tyJ10_ok : ∀ k, k < 0 → parseFieldDescriptor (TJ10 k).2.2.1 = some (tyJ10 k) := by decide +kernel
def RJxfd54e : String := "java/lang/constant/Constable"
def TJxfd54e : u_T := fun k => match k with
  | _ => ("", "", "", false)
def tyJxfd54e : Nat → FieldType := fun k => match k with
  | _ => .int
abbrev wsJxfd54e0 : List Cond := u_ws RJxfd54e TJxfd54e 0
theorem nmJxfd54e : ∀ a, a < 0 → ∀ b, b < 0 → a ≠ b → (TJxfd54e a).2.1 ≠ (TJxfd54e b).2.1 := by decide +kernel
theorem tyJxfd54e_ok : ∀ k, k < 0 → parseFieldDescriptor (TJxfd54e k).2.2.1 = some (tyJxfd54e k) := by decide +kernel
def RJx3cf43 : String := "java/lang/constant/ConstantDesc"
def TJx3cf43 : u_T := fun k => match k with
  | _ => ("", "", "", false)
def tyJx3cf43 : Nat → FieldType := fun k => match k with
  | _ => .int
abbrev wsJx3cf430 : List Cond := u_ws RJx3cf43 TJx3cf43 0
theorem nmJx3cf43 : ∀ a, a < 0 → ∀ b, b < 0 → a ≠ b → (TJx3cf43 a).2.1 ≠ (TJx3cf43 b).2.1 := by decide +kernel
theorem tyJx3cf43_ok : ∀ k, k < 0 → parseFieldDescriptor (TJx3cf43 k).2.2.1 = some (tyJx3cf43 k) := by decide +kernel
def RJ7 : String := "java/util/Arrays"
def TJ7 : u_T := fun k => match k with
  | _ => ("", "", "", false)
def tyJ7 : Nat → FieldType := fun k => match k with
  | _ => .int
abbrev wsJ70 : List Cond := u_ws RJ7 TJ7 0
theorem nmJ7 : ∀ a, a < 0 → ∀ b, b < 0 → a ≠ b → (TJ7 a).2.1 ≠ (TJ7 b).2.1 := by decide +kernel
theorem tyJ7_ok : ∀ k, k < 0 → parseFieldDescriptor (TJ7 k).2.2.1 = some (tyJ7 k) := by decide +kernel
abbrev cJ7_fill_53178 : ByteArray := prog_18_method_103_code
def yJ7_fill_53178 : MethodName := ⟨RJ7, "fill", "([II)V"⟩
def RJ3 : String := "jdk/internal/util/Preconditions"
def TJ3 : u_T := fun k => match k with
  | _ => ("", "", "", false)
def tyJ3 : Nat → FieldType := fun k => match k with
  | _ => .int
abbrev wsJ30 : List Cond := u_ws RJ3 TJ3 0
theorem nmJ3 : ∀ a, a < 0 → ∀ b, b < 0 → a ≠ b → (TJ3 a).2.1 ≠ (TJ3 b).2.1 := by decide +kernel
theorem tyJ3_ok : ∀ k, k < 0 → parseFieldDescriptor (TJ3 k).2.2.1 = some (tyJ3 k) := by decide +kernel
abbrev cJ3_checkIndex_8e157 : ByteArray := prog_19_method_11_code
def yJ3_checkIndex_8e157 : MethodName := ⟨RJ3, "checkIndex", "(IILjava/util/function/BiFunction;)I"⟩
def RL : String := "LetByColoursLaw"
abbrev cL_law : ByteArray := code
def yL_law : MethodName := ⟨RL, "law", "([I)Z"⟩
abbrev vwCl : List vw_C := [(RX0, TX0, 4), (RX1, TX1, 12), (RX2, TX2, 2), (RX3, TX3, 3), (RX4, TX4, 3), (RX5, TX5, 1), (RX6, TX6, 4), (RX7, TX7, 5), (RX8, TX8, 11), (RX9, TX9, 30)]
end
section
theorem dX0_init_0 : decode cX0_init 0 = .ok (.aload_n 0, 1) := by decide +kernel
theorem dX0_init_1 : decode cX0_init 1 = .ok (.invokespecial 3, 3) := by decide +kernel
theorem dX0_init_4 : decode cX0_init 4 = .ok (.aload_n 0, 1) := by decide +kernel
theorem dX0_init_5 : decode cX0_init 5 = .ok (.bipush 6, 2) := by decide +kernel
theorem dX0_init_7 : decode cX0_init 7 = .ok (.newarray .int, 2) := by decide +kernel
theorem dX0_init_9 : decode cX0_init 9 = .ok (.putfield 9, 3) := by decide +kernel
theorem dX0_init_12 : decode cX0_init 12 = .ok (.aload_n 0, 1) := by decide +kernel
theorem dX0_init_13 : decode cX0_init 13 = .ok (.bipush 6, 2) := by decide +kernel
theorem dX0_init_15 : decode cX0_init 15 = .ok (.newarray .int, 2) := by decide +kernel
theorem dX0_init_17 : decode cX0_init 17 = .ok (.putfield 15, 3) := by decide +kernel
theorem dX0_init_20 : decode cX0_init 20 = .ok (.aload_n 0, 1) := by decide +kernel
theorem dX0_init_21 : decode cX0_init 21 = .ok (.iconst 4, 1) := by decide +kernel
theorem dX0_init_22 : decode cX0_init 22 = .ok (.newarray .int, 2) := by decide +kernel
theorem dX0_init_24 : decode cX0_init 24 = .ok (.putfield 18, 3) := by decide +kernel
theorem dX0_init_27 : decode cX0_init 27 = .ok (.return_, 1) := by decide +kernel
theorem dX0_turn_0 : decode cX0_turn 0 = .ok (.iconst 0, 1) := by decide +kernel
theorem dX0_turn_1 : decode cX0_turn 1 = .ok (.istore_n 3, 1) := by decide +kernel
theorem dX0_turn_2 : decode cX0_turn 2 = .ok (.iload_n 3, 1) := by decide +kernel
theorem dX0_turn_3 : decode cX0_turn 3 = .ok (.aload_n 1, 1) := by decide +kernel
theorem dX0_turn_4 : decode cX0_turn 4 = .ok (.getfield 21, 3) := by decide +kernel
theorem dX0_turn_7 : decode cX0_turn 7 = .ok (.if_icmp .ge 36, 3) := by decide +kernel
theorem dX0_turn_10 : decode cX0_turn 10 = .ok (.aload_n 0, 1) := by decide +kernel
theorem dX0_turn_11 : decode cX0_turn 11 = .ok (.getfield 9, 3) := by decide +kernel
theorem dX0_turn_14 : decode cX0_turn 14 = .ok (.iload_n 3, 1) := by decide +kernel
theorem dX0_turn_15 : decode cX0_turn 15 = .ok (.aload_n 1, 1) := by decide +kernel
theorem dX0_turn_16 : decode cX0_turn 16 = .ok (.iload_n 3, 1) := by decide +kernel
theorem dX0_turn_17 : decode cX0_turn 17 = .ok (.aload_n 2, 1) := by decide +kernel
theorem dX0_turn_18 : decode cX0_turn 18 = .ok (.getfield 27, 3) := by decide +kernel
theorem dX0_turn_21 : decode cX0_turn 21 = .ok (.iload_n 3, 1) := by decide +kernel
theorem dX0_turn_22 : decode cX0_turn 22 = .ok (.iaload, 1) := by decide +kernel
theorem dX0_turn_23 : decode cX0_turn 23 = .ok (.aload_n 2, 1) := by decide +kernel
theorem dX0_turn_24 : decode cX0_turn 24 = .ok (.getfield 32, 3) := by decide +kernel
theorem dX0_turn_27 : decode cX0_turn 27 = .ok (.iload_n 3, 1) := by decide +kernel
theorem dX0_turn_28 : decode cX0_turn 28 = .ok (.iaload, 1) := by decide +kernel
theorem dX0_turn_29 : decode cX0_turn 29 = .ok (.aload_n 2, 1) := by decide +kernel
theorem dX0_turn_30 : decode cX0_turn 30 = .ok (.getfield 35, 3) := by decide +kernel
theorem dX0_turn_33 : decode cX0_turn 33 = .ok (.invokevirtual 38, 3) := by decide +kernel
theorem dX0_turn_36 : decode cX0_turn 36 = .ok (.iastore, 1) := by decide +kernel
theorem dX0_turn_37 : decode cX0_turn 37 = .ok (.iinc 3 1, 3) := by decide +kernel
theorem dX0_turn_40 : decode cX0_turn 40 = .ok (.goto (-38), 3) := by decide +kernel
theorem dX0_turn_43 : decode cX0_turn 43 = .ok (.return_, 1) := by decide +kernel
theorem dX0_show_0 : decode cX0_show 0 = .ok (.aload_n 0, 1) := by decide +kernel
theorem dX0_show_1 : decode cX0_show 1 = .ok (.iconst 0, 1) := by decide +kernel
theorem dX0_show_2 : decode cX0_show 2 = .ok (.putfield 42, 3) := by decide +kernel
theorem dX0_show_5 : decode cX0_show 5 = .ok (.aload_n 0, 1) := by decide +kernel
theorem dX0_show_6 : decode cX0_show 6 = .ok (.getfield 15, 3) := by decide +kernel
theorem dX0_show_9 : decode cX0_show 9 = .ok (.iconst 0, 1) := by decide +kernel
theorem dX0_show_10 : decode cX0_show 10 = .ok (.invokestatic 45, 3) := by decide +kernel
theorem dX0_show_13 : decode cX0_show 13 = .ok (.aload_n 0, 1) := by decide +kernel
theorem dX0_show_14 : decode cX0_show 14 = .ok (.getfield 18, 3) := by decide +kernel
theorem dX0_show_17 : decode cX0_show 17 = .ok (.iconst 0, 1) := by decide +kernel
theorem dX0_show_18 : decode cX0_show 18 = .ok (.invokestatic 45, 3) := by decide +kernel
theorem dX0_show_21 : decode cX0_show 21 = .ok (.iconst 0, 1) := by decide +kernel
theorem dX0_show_22 : decode cX0_show 22 = .ok (.istore 4, 2) := by decide +kernel
theorem dX0_show_24 : decode cX0_show 24 = .ok (.iload 4, 2) := by decide +kernel
theorem dX0_show_26 : decode cX0_show 26 = .ok (.aload_n 1, 1) := by decide +kernel
theorem dX0_show_27 : decode cX0_show 27 = .ok (.getfield 21, 3) := by decide +kernel
theorem dX0_show_30 : decode cX0_show 30 = .ok (.if_icmp .ge 82, 3) := by decide +kernel
theorem dX0_show_33 : decode cX0_show 33 = .ok (.iload_n 2, 1) := by decide +kernel
theorem dX0_show_34 : decode cX0_show 34 = .ok (.iload 4, 2) := by decide +kernel
theorem dX0_show_36 : decode cX0_show 36 = .ok (.ishr, 1) := by decide +kernel
theorem dX0_show_37 : decode cX0_show 37 = .ok (.iconst 1, 1) := by decide +kernel
theorem dX0_show_38 : decode cX0_show 38 = .ok (.iand, 1) := by decide +kernel
theorem dX0_show_39 : decode cX0_show 39 = .ok (.iconst 1, 1) := by decide +kernel
theorem dX0_show_40 : decode cX0_show 40 = .ok (.if_icmp .ne 66, 3) := by decide +kernel
theorem dX0_show_43 : decode cX0_show 43 = .ok (.aload_n 0, 1) := by decide +kernel
theorem dX0_show_44 : decode cX0_show 44 = .ok (.getfield 15, 3) := by decide +kernel
theorem dX0_show_47 : decode cX0_show 47 = .ok (.iload 4, 2) := by decide +kernel
theorem dX0_show_49 : decode cX0_show 49 = .ok (.aload_n 0, 1) := by decide +kernel
theorem dX0_show_50 : decode cX0_show 50 = .ok (.getfield 9, 3) := by decide +kernel
theorem dX0_show_53 : decode cX0_show 53 = .ok (.iload 4, 2) := by decide +kernel
theorem dX0_show_55 : decode cX0_show 55 = .ok (.iaload, 1) := by decide +kernel
theorem dX0_show_56 : decode cX0_show 56 = .ok (.aload_n 0, 1) := by decide +kernel
theorem dX0_show_57 : decode cX0_show 57 = .ok (.getfield 42, 3) := by decide +kernel
theorem dX0_show_60 : decode cX0_show 60 = .ok (.iconst (-1), 1) := by decide +kernel
theorem dX0_show_61 : decode cX0_show 61 = .ok (.ixor, 1) := by decide +kernel
theorem dX0_show_62 : decode cX0_show 62 = .ok (.iand, 1) := by decide +kernel
theorem dX0_show_63 : decode cX0_show 63 = .ok (.iastore, 1) := by decide +kernel
theorem dX0_show_64 : decode cX0_show 64 = .ok (.aload_n 0, 1) := by decide +kernel
theorem dX0_show_65 : decode cX0_show 65 = .ok (.dup, 1) := by decide +kernel
theorem dX0_show_66 : decode cX0_show 66 = .ok (.getfield 42, 3) := by decide +kernel
theorem dX0_show_69 : decode cX0_show 69 = .ok (.aload_n 0, 1) := by decide +kernel
theorem dX0_show_70 : decode cX0_show 70 = .ok (.getfield 15, 3) := by decide +kernel
theorem dX0_show_73 : decode cX0_show 73 = .ok (.iload 4, 2) := by decide +kernel
theorem dX0_show_75 : decode cX0_show 75 = .ok (.iaload, 1) := by decide +kernel
theorem dX0_show_76 : decode cX0_show 76 = .ok (.ior, 1) := by decide +kernel
theorem dX0_show_77 : decode cX0_show 77 = .ok (.putfield 42, 3) := by decide +kernel
theorem dX0_show_80 : decode cX0_show 80 = .ok (.aload_n 0, 1) := by decide +kernel
theorem dX0_show_81 : decode cX0_show 81 = .ok (.getfield 18, 3) := by decide +kernel
theorem dX0_show_84 : decode cX0_show 84 = .ok (.aload_n 1, 1) := by decide +kernel
theorem dX0_show_85 : decode cX0_show 85 = .ok (.getfield 51, 3) := by decide +kernel
theorem dX0_show_88 : decode cX0_show 88 = .ok (.iload 4, 2) := by decide +kernel
theorem dX0_show_90 : decode cX0_show 90 = .ok (.iaload, 1) := by decide +kernel
theorem dX0_show_91 : decode cX0_show 91 = .ok (.dup2, 1) := by decide +kernel
theorem dX0_show_92 : decode cX0_show 92 = .ok (.iaload, 1) := by decide +kernel
theorem dX0_show_93 : decode cX0_show 93 = .ok (.aload_n 0, 1) := by decide +kernel
theorem dX0_show_94 : decode cX0_show 94 = .ok (.getfield 15, 3) := by decide +kernel
theorem dX0_show_97 : decode cX0_show 97 = .ok (.iload 4, 2) := by decide +kernel
theorem dX0_show_99 : decode cX0_show 99 = .ok (.iaload, 1) := by decide +kernel
theorem dX0_show_100 : decode cX0_show 100 = .ok (.iload_n 3, 1) := by decide +kernel
theorem dX0_show_101 : decode cX0_show 101 = .ok (.iconst (-1), 1) := by decide +kernel
theorem dX0_show_102 : decode cX0_show 102 = .ok (.ixor, 1) := by decide +kernel
theorem dX0_show_103 : decode cX0_show 103 = .ok (.iand, 1) := by decide +kernel
theorem dX0_show_104 : decode cX0_show 104 = .ok (.ior, 1) := by decide +kernel
theorem dX0_show_105 : decode cX0_show 105 = .ok (.iastore, 1) := by decide +kernel
theorem dX0_show_106 : decode cX0_show 106 = .ok (.iinc 4 1, 3) := by decide +kernel
theorem dX0_show_109 : decode cX0_show 109 = .ok (.goto (-85), 3) := by decide +kernel
theorem dX0_show_112 : decode cX0_show 112 = .ok (.return_, 1) := by decide +kernel
theorem dX0_colourAt_0 : decode cX0_colourAt 0 = .ok (.iconst 0, 1) := by decide +kernel
theorem dX0_colourAt_1 : decode cX0_colourAt 1 = .ok (.istore_n 2, 1) := by decide +kernel
theorem dX0_colourAt_2 : decode cX0_colourAt 2 = .ok (.iload_n 2, 1) := by decide +kernel
theorem dX0_colourAt_3 : decode cX0_colourAt 3 = .ok (.iconst 4, 1) := by decide +kernel
theorem dX0_colourAt_4 : decode cX0_colourAt 4 = .ok (.if_icmp .ge 25, 3) := by decide +kernel
theorem dX0_colourAt_7 : decode cX0_colourAt 7 = .ok (.aload_n 0, 1) := by decide +kernel
theorem dX0_colourAt_8 : decode cX0_colourAt 8 = .ok (.getfield 18, 3) := by decide +kernel
theorem dX0_colourAt_11 : decode cX0_colourAt 11 = .ok (.iload_n 2, 1) := by decide +kernel
theorem dX0_colourAt_12 : decode cX0_colourAt 12 = .ok (.iaload, 1) := by decide +kernel
theorem dX0_colourAt_13 : decode cX0_colourAt 13 = .ok (.iload_n 1, 1) := by decide +kernel
theorem dX0_colourAt_14 : decode cX0_colourAt 14 = .ok (.ishr, 1) := by decide +kernel
theorem dX0_colourAt_15 : decode cX0_colourAt 15 = .ok (.iconst 1, 1) := by decide +kernel
theorem dX0_colourAt_16 : decode cX0_colourAt 16 = .ok (.iand, 1) := by decide +kernel
theorem dX0_colourAt_17 : decode cX0_colourAt 17 = .ok (.iconst 1, 1) := by decide +kernel
theorem dX0_colourAt_18 : decode cX0_colourAt 18 = .ok (.if_icmp .ne 5, 3) := by decide +kernel
theorem dX0_colourAt_21 : decode cX0_colourAt 21 = .ok (.iload_n 2, 1) := by decide +kernel
theorem dX0_colourAt_22 : decode cX0_colourAt 22 = .ok (.ireturn, 1) := by decide +kernel
theorem dX0_colourAt_23 : decode cX0_colourAt 23 = .ok (.iinc 2 1, 3) := by decide +kernel
theorem dX0_colourAt_26 : decode cX0_colourAt 26 = .ok (.goto (-24), 3) := by decide +kernel
theorem dX0_colourAt_29 : decode cX0_colourAt 29 = .ok (.iconst 4, 1) := by decide +kernel
theorem dX0_colourAt_30 : decode cX0_colourAt 30 = .ok (.ireturn, 1) := by decide +kernel
theorem dX0_ownerAt_0 : decode cX0_ownerAt 0 = .ok (.iconst 0, 1) := by decide +kernel
theorem dX0_ownerAt_1 : decode cX0_ownerAt 1 = .ok (.istore_n 2, 1) := by decide +kernel
theorem dX0_ownerAt_2 : decode cX0_ownerAt 2 = .ok (.iload_n 2, 1) := by decide +kernel
theorem dX0_ownerAt_3 : decode cX0_ownerAt 3 = .ok (.bipush 6, 2) := by decide +kernel
theorem dX0_ownerAt_5 : decode cX0_ownerAt 5 = .ok (.if_icmp .ge 25, 3) := by decide +kernel
theorem dX0_ownerAt_8 : decode cX0_ownerAt 8 = .ok (.aload_n 0, 1) := by decide +kernel
theorem dX0_ownerAt_9 : decode cX0_ownerAt 9 = .ok (.getfield 15, 3) := by decide +kernel
theorem dX0_ownerAt_12 : decode cX0_ownerAt 12 = .ok (.iload_n 2, 1) := by decide +kernel
theorem dX0_ownerAt_13 : decode cX0_ownerAt 13 = .ok (.iaload, 1) := by decide +kernel
theorem dX0_ownerAt_14 : decode cX0_ownerAt 14 = .ok (.iload_n 1, 1) := by decide +kernel
theorem dX0_ownerAt_15 : decode cX0_ownerAt 15 = .ok (.ishr, 1) := by decide +kernel
theorem dX0_ownerAt_16 : decode cX0_ownerAt 16 = .ok (.iconst 1, 1) := by decide +kernel
theorem dX0_ownerAt_17 : decode cX0_ownerAt 17 = .ok (.iand, 1) := by decide +kernel
theorem dX0_ownerAt_18 : decode cX0_ownerAt 18 = .ok (.iconst 1, 1) := by decide +kernel
theorem dX0_ownerAt_19 : decode cX0_ownerAt 19 = .ok (.if_icmp .ne 5, 3) := by decide +kernel
theorem dX0_ownerAt_22 : decode cX0_ownerAt 22 = .ok (.iload_n 2, 1) := by decide +kernel
theorem dX0_ownerAt_23 : decode cX0_ownerAt 23 = .ok (.ireturn, 1) := by decide +kernel
theorem dX0_ownerAt_24 : decode cX0_ownerAt 24 = .ok (.iinc 2 1, 3) := by decide +kernel
theorem dX0_ownerAt_27 : decode cX0_ownerAt 27 = .ok (.goto (-25), 3) := by decide +kernel
theorem dX0_ownerAt_30 : decode cX0_ownerAt 30 = .ok (.bipush (-4), 2) := by decide +kernel
theorem dX0_ownerAt_32 : decode cX0_ownerAt 32 = .ok (.ireturn, 1) := by decide +kernel
theorem dX0_firstSign_0 : decode cX0_firstSign 0 = .ok (.iconst 0, 1) := by decide +kernel
theorem dX0_firstSign_1 : decode cX0_firstSign 1 = .ok (.istore_n 3, 1) := by decide +kernel
theorem dX0_firstSign_2 : decode cX0_firstSign 2 = .ok (.iload_n 3, 1) := by decide +kernel
theorem dX0_firstSign_3 : decode cX0_firstSign 3 = .ok (.iload_n 2, 1) := by decide +kernel
theorem dX0_firstSign_4 : decode cX0_firstSign 4 = .ok (.invokestatic 54, 3) := by decide +kernel
theorem dX0_firstSign_7 : decode cX0_firstSign 7 = .ok (.if_icmp .ge 35, 3) := by decide +kernel
theorem dX0_firstSign_10 : decode cX0_firstSign 10 = .ok (.aload_n 0, 1) := by decide +kernel
theorem dX0_firstSign_11 : decode cX0_firstSign 11 = .ok (.getfield 18, 3) := by decide +kernel
theorem dX0_firstSign_14 : decode cX0_firstSign 14 = .ok (.iload_n 3, 1) := by decide +kernel
theorem dX0_firstSign_15 : decode cX0_firstSign 15 = .ok (.iaload, 1) := by decide +kernel
theorem dX0_firstSign_16 : decode cX0_firstSign 16 = .ok (.iload_n 1, 1) := by decide +kernel
theorem dX0_firstSign_17 : decode cX0_firstSign 17 = .ok (.iand, 1) := by decide +kernel
theorem dX0_firstSign_18 : decode cX0_firstSign 18 = .ok (.ifCond .eq 18, 3) := by decide +kernel
theorem dX0_firstSign_21 : decode cX0_firstSign 21 = .ok (.aload_n 0, 1) := by decide +kernel
theorem dX0_firstSign_22 : decode cX0_firstSign 22 = .ok (.getfield 18, 3) := by decide +kernel
theorem dX0_firstSign_25 : decode cX0_firstSign 25 = .ok (.iload_n 3, 1) := by decide +kernel
theorem dX0_firstSign_26 : decode cX0_firstSign 26 = .ok (.iaload, 1) := by decide +kernel
theorem dX0_firstSign_27 : decode cX0_firstSign 27 = .ok (.iload_n 1, 1) := by decide +kernel
theorem dX0_firstSign_28 : decode cX0_firstSign 28 = .ok (.iconst (-1), 1) := by decide +kernel
theorem dX0_firstSign_29 : decode cX0_firstSign 29 = .ok (.ixor, 1) := by decide +kernel
theorem dX0_firstSign_30 : decode cX0_firstSign 30 = .ok (.iand, 1) := by decide +kernel
theorem dX0_firstSign_31 : decode cX0_firstSign 31 = .ok (.ifCond .ne 5, 3) := by decide +kernel
theorem dX0_firstSign_34 : decode cX0_firstSign 34 = .ok (.iload_n 3, 1) := by decide +kernel
theorem dX0_firstSign_35 : decode cX0_firstSign 35 = .ok (.ireturn, 1) := by decide +kernel
theorem dX0_firstSign_36 : decode cX0_firstSign 36 = .ok (.iinc 3 1, 3) := by decide +kernel
theorem dX0_firstSign_39 : decode cX0_firstSign 39 = .ok (.goto (-37), 3) := by decide +kernel
theorem dX0_firstSign_42 : decode cX0_firstSign 42 = .ok (.bipush (-4), 2) := by decide +kernel
theorem dX0_firstSign_44 : decode cX0_firstSign 44 = .ok (.ireturn, 1) := by decide +kernel
theorem dX0_sureShips_0 : decode cX0_sureShips 0 = .ok (.iconst 0, 1) := by decide +kernel
theorem dX0_sureShips_1 : decode cX0_sureShips 1 = .ok (.istore_n 3, 1) := by decide +kernel
theorem dX0_sureShips_2 : decode cX0_sureShips 2 = .ok (.iconst 0, 1) := by decide +kernel
theorem dX0_sureShips_3 : decode cX0_sureShips 3 = .ok (.istore 4, 2) := by decide +kernel
theorem dX0_sureShips_5 : decode cX0_sureShips 5 = .ok (.iload 4, 2) := by decide +kernel
theorem dX0_sureShips_7 : decode cX0_sureShips 7 = .ok (.aload_n 1, 1) := by decide +kernel
theorem dX0_sureShips_8 : decode cX0_sureShips 8 = .ok (.getfield 58, 3) := by decide +kernel
theorem dX0_sureShips_11 : decode cX0_sureShips 11 = .ok (.if_icmp .ge 33, 3) := by decide +kernel
theorem dX0_sureShips_14 : decode cX0_sureShips 14 = .ok (.aload_n 0, 1) := by decide +kernel
theorem dX0_sureShips_15 : decode cX0_sureShips 15 = .ok (.aload_n 1, 1) := by decide +kernel
theorem dX0_sureShips_16 : decode cX0_sureShips 16 = .ok (.getfield 61, 3) := by decide +kernel
theorem dX0_sureShips_19 : decode cX0_sureShips 19 = .ok (.iload 4, 2) := by decide +kernel
theorem dX0_sureShips_21 : decode cX0_sureShips 21 = .ok (.iaload, 1) := by decide +kernel
theorem dX0_sureShips_22 : decode cX0_sureShips 22 = .ok (.iload_n 2, 1) := by decide +kernel
theorem dX0_sureShips_23 : decode cX0_sureShips 23 = .ok (.invokevirtual 64, 3) := by decide +kernel
theorem dX0_sureShips_26 : decode cX0_sureShips 26 = .ok (.bipush (-4), 2) := by decide +kernel
theorem dX0_sureShips_28 : decode cX0_sureShips 28 = .ok (.if_icmp .eq 10, 3) := by decide +kernel
theorem dX0_sureShips_31 : decode cX0_sureShips 31 = .ok (.iload_n 3, 1) := by decide +kernel
theorem dX0_sureShips_32 : decode cX0_sureShips 32 = .ok (.iconst 1, 1) := by decide +kernel
theorem dX0_sureShips_33 : decode cX0_sureShips 33 = .ok (.iload 4, 2) := by decide +kernel
theorem dX0_sureShips_35 : decode cX0_sureShips 35 = .ok (.ishl, 1) := by decide +kernel
theorem dX0_sureShips_36 : decode cX0_sureShips 36 = .ok (.ior, 1) := by decide +kernel
theorem dX0_sureShips_37 : decode cX0_sureShips 37 = .ok (.istore_n 3, 1) := by decide +kernel
theorem dX0_sureShips_38 : decode cX0_sureShips 38 = .ok (.iinc 4 1, 3) := by decide +kernel
theorem dX0_sureShips_41 : decode cX0_sureShips 41 = .ok (.goto (-36), 3) := by decide +kernel
theorem dX0_sureShips_44 : decode cX0_sureShips 44 = .ok (.iload_n 3, 1) := by decide +kernel
theorem dX0_sureShips_45 : decode cX0_sureShips 45 = .ok (.ireturn, 1) := by decide +kernel
theorem dX0_sureInAnyFog_0 : decode cX0_sureInAnyFog 0 = .ok (.aload_n 0, 1) := by decide +kernel
theorem dX0_sureInAnyFog_1 : decode cX0_sureInAnyFog 1 = .ok (.aload_n 1, 1) := by decide +kernel
theorem dX0_sureInAnyFog_2 : decode cX0_sureInAnyFog 2 = .ok (.iconst 3, 1) := by decide +kernel
theorem dX0_sureInAnyFog_3 : decode cX0_sureInAnyFog 3 = .ok (.invokevirtual 68, 3) := by decide +kernel
theorem dX0_sureInAnyFog_6 : decode cX0_sureInAnyFog 6 = .ok (.ireturn, 1) := by decide +kernel
theorem dX0_unsureInAllFogs_0 : decode cX0_unsureInAllFogs 0 = .ok (.iconst 0, 1) := by decide +kernel
theorem dX0_unsureInAllFogs_1 : decode cX0_unsureInAllFogs 1 = .ok (.istore_n 2, 1) := by decide +kernel
theorem dX0_unsureInAllFogs_2 : decode cX0_unsureInAllFogs 2 = .ok (.iconst 0, 1) := by decide +kernel
theorem dX0_unsureInAllFogs_3 : decode cX0_unsureInAllFogs 3 = .ok (.istore_n 3, 1) := by decide +kernel
theorem dX0_unsureInAllFogs_4 : decode cX0_unsureInAllFogs 4 = .ok (.iload_n 3, 1) := by decide +kernel
theorem dX0_unsureInAllFogs_5 : decode cX0_unsureInAllFogs 5 = .ok (.iconst 4, 1) := by decide +kernel
theorem dX0_unsureInAllFogs_6 : decode cX0_unsureInAllFogs 6 = .ok (.if_icmp .ge 26, 3) := by decide +kernel
theorem dX0_unsureInAllFogs_9 : decode cX0_unsureInAllFogs 9 = .ok (.iload_n 2, 1) := by decide +kernel
theorem dX0_unsureInAllFogs_10 : decode cX0_unsureInAllFogs 10 = .ok (.aload_n 1, 1) := by decide +kernel
theorem dX0_unsureInAllFogs_11 : decode cX0_unsureInAllFogs 11 = .ok (.getfield 58, 3) := by decide +kernel
theorem dX0_unsureInAllFogs_14 : decode cX0_unsureInAllFogs 14 = .ok (.aload_n 0, 1) := by decide +kernel
theorem dX0_unsureInAllFogs_15 : decode cX0_unsureInAllFogs 15 = .ok (.aload_n 1, 1) := by decide +kernel
theorem dX0_unsureInAllFogs_16 : decode cX0_unsureInAllFogs 16 = .ok (.iload_n 3, 1) := by decide +kernel
theorem dX0_unsureInAllFogs_17 : decode cX0_unsureInAllFogs 17 = .ok (.invokevirtual 68, 3) := by decide +kernel
theorem dX0_unsureInAllFogs_20 : decode cX0_unsureInAllFogs 20 = .ok (.invokestatic 72, 3) := by decide +kernel
theorem dX0_unsureInAllFogs_23 : decode cX0_unsureInAllFogs 23 = .ok (.isub, 1) := by decide +kernel
theorem dX0_unsureInAllFogs_24 : decode cX0_unsureInAllFogs 24 = .ok (.iadd, 1) := by decide +kernel
theorem dX0_unsureInAllFogs_25 : decode cX0_unsureInAllFogs 25 = .ok (.istore_n 2, 1) := by decide +kernel
theorem dX0_unsureInAllFogs_26 : decode cX0_unsureInAllFogs 26 = .ok (.iinc 3 1, 3) := by decide +kernel
theorem dX0_unsureInAllFogs_29 : decode cX0_unsureInAllFogs 29 = .ok (.goto (-25), 3) := by decide +kernel
theorem dX0_unsureInAllFogs_32 : decode cX0_unsureInAllFogs 32 = .ok (.iload_n 2, 1) := by decide +kernel
theorem dX0_unsureInAllFogs_33 : decode cX0_unsureInAllFogs 33 = .ok (.ireturn, 1) := by decide +kernel
theorem dX1_init_0 : decode cX1_init 0 = .ok (.aload_n 0, 1) := by decide +kernel
theorem dX1_init_1 : decode cX1_init 1 = .ok (.invokespecial 3, 3) := by decide +kernel
theorem dX1_init_4 : decode cX1_init 4 = .ok (.aload_n 0, 1) := by decide +kernel
theorem dX1_init_5 : decode cX1_init 5 = .ok (.bipush 6, 2) := by decide +kernel
theorem dX1_init_7 : decode cX1_init 7 = .ok (.newarray .int, 2) := by decide +kernel
theorem dX1_init_9 : decode cX1_init 9 = .ok (.putfield 9, 3) := by decide +kernel
theorem dX1_init_12 : decode cX1_init 12 = .ok (.aload_n 0, 1) := by decide +kernel
theorem dX1_init_13 : decode cX1_init 13 = .ok (.bipush 6, 2) := by decide +kernel
theorem dX1_init_15 : decode cX1_init 15 = .ok (.newarray .int, 2) := by decide +kernel
theorem dX1_init_17 : decode cX1_init 17 = .ok (.putfield 15, 3) := by decide +kernel
theorem dX1_init_20 : decode cX1_init 20 = .ok (.aload_n 0, 1) := by decide +kernel
theorem dX1_init_21 : decode cX1_init 21 = .ok (.bipush 6, 2) := by decide +kernel
theorem dX1_init_23 : decode cX1_init 23 = .ok (.newarray .int, 2) := by decide +kernel
theorem dX1_init_25 : decode cX1_init 25 = .ok (.putfield 18, 3) := by decide +kernel
theorem dX1_init_28 : decode cX1_init 28 = .ok (.aload_n 0, 1) := by decide +kernel
theorem dX1_init_29 : decode cX1_init 29 = .ok (.bipush 6, 2) := by decide +kernel
theorem dX1_init_31 : decode cX1_init 31 = .ok (.newarray .int, 2) := by decide +kernel
theorem dX1_init_33 : decode cX1_init 33 = .ok (.putfield 21, 3) := by decide +kernel
theorem dX1_init_36 : decode cX1_init 36 = .ok (.aload_n 0, 1) := by decide +kernel
theorem dX1_init_37 : decode cX1_init 37 = .ok (.bipush 6, 2) := by decide +kernel
theorem dX1_init_39 : decode cX1_init 39 = .ok (.newarray .int, 2) := by decide +kernel
theorem dX1_init_41 : decode cX1_init 41 = .ok (.putfield 24, 3) := by decide +kernel
theorem dX1_init_44 : decode cX1_init 44 = .ok (.aload_n 0, 1) := by decide +kernel
theorem dX1_init_45 : decode cX1_init 45 = .ok (.iconst 5, 1) := by decide +kernel
theorem dX1_init_46 : decode cX1_init 46 = .ok (.newarray .int, 2) := by decide +kernel
theorem dX1_init_48 : decode cX1_init 48 = .ok (.putfield 27, 3) := by decide +kernel
theorem dX1_init_51 : decode cX1_init 51 = .ok (.aload_n 0, 1) := by decide +kernel
theorem dX1_init_52 : decode cX1_init 52 = .ok (.iconst 5, 1) := by decide +kernel
theorem dX1_init_53 : decode cX1_init 53 = .ok (.newarray .int, 2) := by decide +kernel
theorem dX1_init_55 : decode cX1_init 55 = .ok (.putfield 30, 3) := by decide +kernel
theorem dX1_init_58 : decode cX1_init 58 = .ok (.aload_n 0, 1) := by decide +kernel
theorem dX1_init_59 : decode cX1_init 59 = .ok (.iconst 5, 1) := by decide +kernel
theorem dX1_init_60 : decode cX1_init 60 = .ok (.newarray .int, 2) := by decide +kernel
theorem dX1_init_62 : decode cX1_init 62 = .ok (.putfield 33, 3) := by decide +kernel
theorem dX1_init_65 : decode cX1_init 65 = .ok (.aload_n 0, 1) := by decide +kernel
theorem dX1_init_66 : decode cX1_init 66 = .ok (.iconst 4, 1) := by decide +kernel
theorem dX1_init_67 : decode cX1_init 67 = .ok (.newarray .int, 2) := by decide +kernel
theorem dX1_init_69 : decode cX1_init 69 = .ok (.putfield 36, 3) := by decide +kernel
theorem dX1_init_72 : decode cX1_init 72 = .ok (.return_, 1) := by decide +kernel
theorem dX1_clear_0 : decode cX1_clear 0 = .ok (.aload_n 0, 1) := by decide +kernel
theorem dX1_clear_1 : decode cX1_clear 1 = .ok (.iconst 0, 1) := by decide +kernel
theorem dX1_clear_2 : decode cX1_clear 2 = .ok (.putfield 39, 3) := by decide +kernel
theorem dX1_clear_5 : decode cX1_clear 5 = .ok (.aload_n 0, 1) := by decide +kernel
theorem dX1_clear_6 : decode cX1_clear 6 = .ok (.iconst 0, 1) := by decide +kernel
theorem dX1_clear_7 : decode cX1_clear 7 = .ok (.putfield 43, 3) := by decide +kernel
theorem dX1_clear_10 : decode cX1_clear 10 = .ok (.aload_n 0, 1) := by decide +kernel
theorem dX1_clear_11 : decode cX1_clear 11 = .ok (.iconst 4, 1) := by decide +kernel
theorem dX1_clear_12 : decode cX1_clear 12 = .ok (.iconst 3, 1) := by decide +kernel
theorem dX1_clear_13 : decode cX1_clear 13 = .ok (.iconst 2, 1) := by decide +kernel
theorem dX1_clear_14 : decode cX1_clear 14 = .ok (.invokevirtual 46, 3) := by decide +kernel
theorem dX1_clear_17 : decode cX1_clear 17 = .ok (.pop, 1) := by decide +kernel
theorem dX1_clear_18 : decode cX1_clear 18 = .ok (.aload_n 0, 1) := by decide +kernel
theorem dX1_clear_19 : decode cX1_clear 19 = .ok (.bipush 20, 2) := by decide +kernel
theorem dX1_clear_21 : decode cX1_clear 21 = .ok (.putfield 50, 3) := by decide +kernel
theorem dX1_clear_24 : decode cX1_clear 24 = .ok (.return_, 1) := by decide +kernel
theorem dX1_everybody_0 : decode cX1_everybody 0 = .ok (.iconst 1, 1) := by decide +kernel
theorem dX1_everybody_1 : decode cX1_everybody 1 = .ok (.aload_n 0, 1) := by decide +kernel
theorem dX1_everybody_2 : decode cX1_everybody 2 = .ok (.getfield 39, 3) := by decide +kernel
theorem dX1_everybody_5 : decode cX1_everybody 5 = .ok (.ishl, 1) := by decide +kernel
theorem dX1_everybody_6 : decode cX1_everybody 6 = .ok (.iconst 1, 1) := by decide +kernel
theorem dX1_everybody_7 : decode cX1_everybody 7 = .ok (.isub, 1) := by decide +kernel
theorem dX1_everybody_8 : decode cX1_everybody 8 = .ok (.ireturn, 1) := by decide +kernel
theorem dX1_allShips_0 : decode cX1_allShips 0 = .ok (.iconst 1, 1) := by decide +kernel
theorem dX1_allShips_1 : decode cX1_allShips 1 = .ok (.aload_n 0, 1) := by decide +kernel
theorem dX1_allShips_2 : decode cX1_allShips 2 = .ok (.getfield 43, 3) := by decide +kernel
theorem dX1_allShips_5 : decode cX1_allShips 5 = .ok (.ishl, 1) := by decide +kernel
theorem dX1_allShips_6 : decode cX1_allShips 6 = .ok (.iconst 1, 1) := by decide +kernel
theorem dX1_allShips_7 : decode cX1_allShips 7 = .ok (.isub, 1) := by decide +kernel
theorem dX1_allShips_8 : decode cX1_allShips 8 = .ok (.ireturn, 1) := by decide +kernel
theorem dX1_accept_0 : decode cX1_accept 0 = .ok (.iload_n 1, 1) := by decide +kernel
theorem dX1_accept_1 : decode cX1_accept 1 = .ok (.lookupswitch 82 #[(98, 74), (102, 60), (115, 49), (116, 43)], 43) := by decide +kernel
theorem dX1_accept_44 : decode cX1_accept 44 = .ok (.aload_n 0, 1) := by decide +kernel
theorem dX1_accept_45 : decode cX1_accept 45 = .ok (.aload_n 2, 1) := by decide +kernel
theorem dX1_accept_46 : decode cX1_accept 46 = .ok (.invokevirtual 53, 3) := by decide +kernel
theorem dX1_accept_49 : decode cX1_accept 49 = .ok (.ireturn, 1) := by decide +kernel
theorem dX1_accept_50 : decode cX1_accept 50 = .ok (.aload_n 0, 1) := by decide +kernel
theorem dX1_accept_51 : decode cX1_accept 51 = .ok (.aload_n 2, 1) := by decide +kernel
theorem dX1_accept_52 : decode cX1_accept 52 = .ok (.iconst 0, 1) := by decide +kernel
theorem dX1_accept_53 : decode cX1_accept 53 = .ok (.iaload, 1) := by decide +kernel
theorem dX1_accept_54 : decode cX1_accept 54 = .ok (.aload_n 2, 1) := by decide +kernel
theorem dX1_accept_55 : decode cX1_accept 55 = .ok (.iconst 1, 1) := by decide +kernel
theorem dX1_accept_56 : decode cX1_accept 56 = .ok (.iaload, 1) := by decide +kernel
theorem dX1_accept_57 : decode cX1_accept 57 = .ok (.invokevirtual 57, 3) := by decide +kernel
theorem dX1_accept_60 : decode cX1_accept 60 = .ok (.ireturn, 1) := by decide +kernel
theorem dX1_accept_61 : decode cX1_accept 61 = .ok (.aload_n 0, 1) := by decide +kernel
theorem dX1_accept_62 : decode cX1_accept 62 = .ok (.aload_n 2, 1) := by decide +kernel
theorem dX1_accept_63 : decode cX1_accept 63 = .ok (.iconst 0, 1) := by decide +kernel
theorem dX1_accept_64 : decode cX1_accept 64 = .ok (.iaload, 1) := by decide +kernel
theorem dX1_accept_65 : decode cX1_accept 65 = .ok (.aload_n 2, 1) := by decide +kernel
theorem dX1_accept_66 : decode cX1_accept 66 = .ok (.iconst 1, 1) := by decide +kernel
theorem dX1_accept_67 : decode cX1_accept 67 = .ok (.iaload, 1) := by decide +kernel
theorem dX1_accept_68 : decode cX1_accept 68 = .ok (.aload_n 2, 1) := by decide +kernel
theorem dX1_accept_69 : decode cX1_accept 69 = .ok (.iconst 2, 1) := by decide +kernel
theorem dX1_accept_70 : decode cX1_accept 70 = .ok (.iaload, 1) := by decide +kernel
theorem dX1_accept_71 : decode cX1_accept 71 = .ok (.invokevirtual 46, 3) := by decide +kernel
theorem dX1_accept_74 : decode cX1_accept 74 = .ok (.ireturn, 1) := by decide +kernel
theorem dX1_accept_75 : decode cX1_accept 75 = .ok (.aload_n 0, 1) := by decide +kernel
theorem dX1_accept_76 : decode cX1_accept 76 = .ok (.aload_n 2, 1) := by decide +kernel
theorem dX1_accept_77 : decode cX1_accept 77 = .ok (.iconst 0, 1) := by decide +kernel
theorem dX1_accept_78 : decode cX1_accept 78 = .ok (.iaload, 1) := by decide +kernel
theorem dX1_accept_79 : decode cX1_accept 79 = .ok (.invokevirtual 61, 3) := by decide +kernel
theorem dX1_accept_82 : decode cX1_accept 82 = .ok (.ireturn, 1) := by decide +kernel
theorem dX1_accept_83 : decode cX1_accept 83 = .ok (.iconst 0, 1) := by decide +kernel
theorem dX1_accept_84 : decode cX1_accept 84 = .ok (.ireturn, 1) := by decide +kernel
theorem dX1_isPlace_0 : decode cX1_isPlace 0 = .ok (.iload_n 0, 1) := by decide +kernel
theorem dX1_isPlace_1 : decode cX1_isPlace 1 = .ok (.iconst 0, 1) := by decide +kernel
theorem dX1_isPlace_2 : decode cX1_isPlace 2 = .ok (.bipush 23, 2) := by decide +kernel
theorem dX1_isPlace_4 : decode cX1_isPlace 4 = .ok (.invokestatic 65, 3) := by decide +kernel
theorem dX1_isPlace_7 : decode cX1_isPlace 7 = .ok (.ifCond .eq 17, 3) := by decide +kernel
theorem dX1_isPlace_10 : decode cX1_isPlace 10 = .ok (.iload_n 1, 1) := by decide +kernel
theorem dX1_isPlace_11 : decode cX1_isPlace 11 = .ok (.iconst 1, 1) := by decide +kernel
theorem dX1_isPlace_12 : decode cX1_isPlace 12 = .ok (.bipush 12, 2) := by decide +kernel
theorem dX1_isPlace_14 : decode cX1_isPlace 14 = .ok (.invokestatic 65, 3) := by decide +kernel
theorem dX1_isPlace_17 : decode cX1_isPlace 17 = .ok (.ifCond .eq 7, 3) := by decide +kernel
theorem dX1_isPlace_20 : decode cX1_isPlace 20 = .ok (.iconst 1, 1) := by decide +kernel
theorem dX1_isPlace_21 : decode cX1_isPlace 21 = .ok (.goto 4, 3) := by decide +kernel
theorem dX1_isPlace_24 : decode cX1_isPlace 24 = .ok (.iconst 0, 1) := by decide +kernel
theorem dX1_isPlace_25 : decode cX1_isPlace 25 = .ok (.ireturn, 1) := by decide +kernel
theorem dX1_addTenant_0 : decode cX1_addTenant 0 = .ok (.aload_n 0, 1) := by decide +kernel
theorem dX1_addTenant_1 : decode cX1_addTenant 1 = .ok (.getfield 39, 3) := by decide +kernel
theorem dX1_addTenant_4 : decode cX1_addTenant 4 = .ok (.bipush 6, 2) := by decide +kernel
theorem dX1_addTenant_6 : decode cX1_addTenant 6 = .ok (.if_icmp .ge 49, 3) := by decide +kernel
theorem dX1_addTenant_9 : decode cX1_addTenant 9 = .ok (.aload_n 1, 1) := by decide +kernel
theorem dX1_addTenant_10 : decode cX1_addTenant 10 = .ok (.iconst 0, 1) := by decide +kernel
theorem dX1_addTenant_11 : decode cX1_addTenant 11 = .ok (.iaload, 1) := by decide +kernel
theorem dX1_addTenant_12 : decode cX1_addTenant 12 = .ok (.iconst 0, 1) := by decide +kernel
theorem dX1_addTenant_13 : decode cX1_addTenant 13 = .ok (.iconst 3, 1) := by decide +kernel
theorem dX1_addTenant_14 : decode cX1_addTenant 14 = .ok (.invokestatic 65, 3) := by decide +kernel
theorem dX1_addTenant_17 : decode cX1_addTenant 17 = .ok (.ifCond .eq 38, 3) := by decide +kernel
theorem dX1_addTenant_20 : decode cX1_addTenant 20 = .ok (.aload_n 1, 1) := by decide +kernel
theorem dX1_addTenant_21 : decode cX1_addTenant 21 = .ok (.iconst 1, 1) := by decide +kernel
theorem dX1_addTenant_22 : decode cX1_addTenant 22 = .ok (.iaload, 1) := by decide +kernel
theorem dX1_addTenant_23 : decode cX1_addTenant 23 = .ok (.aload_n 1, 1) := by decide +kernel
theorem dX1_addTenant_24 : decode cX1_addTenant 24 = .ok (.iconst 2, 1) := by decide +kernel
theorem dX1_addTenant_25 : decode cX1_addTenant 25 = .ok (.iaload, 1) := by decide +kernel
theorem dX1_addTenant_26 : decode cX1_addTenant 26 = .ok (.invokestatic 68, 3) := by decide +kernel
theorem dX1_addTenant_29 : decode cX1_addTenant 29 = .ok (.ifCond .eq 26, 3) := by decide +kernel
theorem dX1_addTenant_32 : decode cX1_addTenant 32 = .ok (.aload_n 1, 1) := by decide +kernel
theorem dX1_addTenant_33 : decode cX1_addTenant 33 = .ok (.iconst 3, 1) := by decide +kernel
theorem dX1_addTenant_34 : decode cX1_addTenant 34 = .ok (.iaload, 1) := by decide +kernel
theorem dX1_addTenant_35 : decode cX1_addTenant 35 = .ok (.iconst 0, 1) := by decide +kernel
theorem dX1_addTenant_36 : decode cX1_addTenant 36 = .ok (.bipush 20, 2) := by decide +kernel
theorem dX1_addTenant_38 : decode cX1_addTenant 38 = .ok (.invokestatic 65, 3) := by decide +kernel
theorem dX1_addTenant_41 : decode cX1_addTenant 41 = .ok (.ifCond .eq 14, 3) := by decide +kernel
theorem dX1_addTenant_44 : decode cX1_addTenant 44 = .ok (.aload_n 1, 1) := by decide +kernel
theorem dX1_addTenant_45 : decode cX1_addTenant 45 = .ok (.iconst 4, 1) := by decide +kernel
theorem dX1_addTenant_46 : decode cX1_addTenant 46 = .ok (.iaload, 1) := by decide +kernel
theorem dX1_addTenant_47 : decode cX1_addTenant 47 = .ok (.iconst 0, 1) := by decide +kernel
theorem dX1_addTenant_48 : decode cX1_addTenant 48 = .ok (.iconst 3, 1) := by decide +kernel
theorem dX1_addTenant_49 : decode cX1_addTenant 49 = .ok (.invokestatic 65, 3) := by decide +kernel
theorem dX1_addTenant_52 : decode cX1_addTenant 52 = .ok (.ifCond .ne 5, 3) := by decide +kernel
theorem dX1_addTenant_55 : decode cX1_addTenant 55 = .ok (.iconst 0, 1) := by decide +kernel
theorem dX1_addTenant_56 : decode cX1_addTenant 56 = .ok (.ireturn, 1) := by decide +kernel
theorem dX1_addTenant_57 : decode cX1_addTenant 57 = .ok (.aload_n 0, 1) := by decide +kernel
theorem dX1_addTenant_58 : decode cX1_addTenant 58 = .ok (.getfield 9, 3) := by decide +kernel
theorem dX1_addTenant_61 : decode cX1_addTenant 61 = .ok (.aload_n 0, 1) := by decide +kernel
theorem dX1_addTenant_62 : decode cX1_addTenant 62 = .ok (.getfield 39, 3) := by decide +kernel
theorem dX1_addTenant_65 : decode cX1_addTenant 65 = .ok (.aload_n 1, 1) := by decide +kernel
theorem dX1_addTenant_66 : decode cX1_addTenant 66 = .ok (.iconst 0, 1) := by decide +kernel
theorem dX1_addTenant_67 : decode cX1_addTenant 67 = .ok (.iaload, 1) := by decide +kernel
theorem dX1_addTenant_68 : decode cX1_addTenant 68 = .ok (.iastore, 1) := by decide +kernel
theorem dX1_addTenant_69 : decode cX1_addTenant 69 = .ok (.aload_n 0, 1) := by decide +kernel
theorem dX1_addTenant_70 : decode cX1_addTenant 70 = .ok (.getfield 15, 3) := by decide +kernel
theorem dX1_addTenant_73 : decode cX1_addTenant 73 = .ok (.aload_n 0, 1) := by decide +kernel
theorem dX1_addTenant_74 : decode cX1_addTenant 74 = .ok (.getfield 39, 3) := by decide +kernel
theorem dX1_addTenant_77 : decode cX1_addTenant 77 = .ok (.aload_n 1, 1) := by decide +kernel
theorem dX1_addTenant_78 : decode cX1_addTenant 78 = .ok (.iconst 1, 1) := by decide +kernel
theorem dX1_addTenant_79 : decode cX1_addTenant 79 = .ok (.iaload, 1) := by decide +kernel
theorem dX1_addTenant_80 : decode cX1_addTenant 80 = .ok (.iastore, 1) := by decide +kernel
theorem dX1_addTenant_81 : decode cX1_addTenant 81 = .ok (.aload_n 0, 1) := by decide +kernel
theorem dX1_addTenant_82 : decode cX1_addTenant 82 = .ok (.getfield 18, 3) := by decide +kernel
theorem dX1_addTenant_85 : decode cX1_addTenant 85 = .ok (.aload_n 0, 1) := by decide +kernel
theorem dX1_addTenant_86 : decode cX1_addTenant 86 = .ok (.getfield 39, 3) := by decide +kernel
theorem dX1_addTenant_89 : decode cX1_addTenant 89 = .ok (.aload_n 1, 1) := by decide +kernel
theorem dX1_addTenant_90 : decode cX1_addTenant 90 = .ok (.iconst 2, 1) := by decide +kernel
theorem dX1_addTenant_91 : decode cX1_addTenant 91 = .ok (.iaload, 1) := by decide +kernel
theorem dX1_addTenant_92 : decode cX1_addTenant 92 = .ok (.iastore, 1) := by decide +kernel
theorem dX1_addTenant_93 : decode cX1_addTenant 93 = .ok (.aload_n 0, 1) := by decide +kernel
theorem dX1_addTenant_94 : decode cX1_addTenant 94 = .ok (.getfield 21, 3) := by decide +kernel
theorem dX1_addTenant_97 : decode cX1_addTenant 97 = .ok (.aload_n 0, 1) := by decide +kernel
theorem dX1_addTenant_98 : decode cX1_addTenant 98 = .ok (.getfield 39, 3) := by decide +kernel
theorem dX1_addTenant_101 : decode cX1_addTenant 101 = .ok (.aload_n 1, 1) := by decide +kernel
theorem dX1_addTenant_102 : decode cX1_addTenant 102 = .ok (.iconst 3, 1) := by decide +kernel
theorem dX1_addTenant_103 : decode cX1_addTenant 103 = .ok (.iaload, 1) := by decide +kernel
theorem dX1_addTenant_104 : decode cX1_addTenant 104 = .ok (.iastore, 1) := by decide +kernel
theorem dX1_addTenant_105 : decode cX1_addTenant 105 = .ok (.aload_n 0, 1) := by decide +kernel
theorem dX1_addTenant_106 : decode cX1_addTenant 106 = .ok (.getfield 24, 3) := by decide +kernel
theorem dX1_addTenant_109 : decode cX1_addTenant 109 = .ok (.aload_n 0, 1) := by decide +kernel
theorem dX1_addTenant_110 : decode cX1_addTenant 110 = .ok (.getfield 39, 3) := by decide +kernel
theorem dX1_addTenant_113 : decode cX1_addTenant 113 = .ok (.aload_n 1, 1) := by decide +kernel
theorem dX1_addTenant_114 : decode cX1_addTenant 114 = .ok (.iconst 4, 1) := by decide +kernel
theorem dX1_addTenant_115 : decode cX1_addTenant 115 = .ok (.iaload, 1) := by decide +kernel
theorem dX1_addTenant_116 : decode cX1_addTenant 116 = .ok (.iastore, 1) := by decide +kernel
theorem dX1_addTenant_117 : decode cX1_addTenant 117 = .ok (.aload_n 0, 1) := by decide +kernel
theorem dX1_addTenant_118 : decode cX1_addTenant 118 = .ok (.dup, 1) := by decide +kernel
theorem dX1_addTenant_119 : decode cX1_addTenant 119 = .ok (.getfield 39, 3) := by decide +kernel
theorem dX1_addTenant_122 : decode cX1_addTenant 122 = .ok (.iconst 1, 1) := by decide +kernel
theorem dX1_addTenant_123 : decode cX1_addTenant 123 = .ok (.iadd, 1) := by decide +kernel
theorem dX1_addTenant_124 : decode cX1_addTenant 124 = .ok (.putfield 39, 3) := by decide +kernel
theorem dX1_addTenant_127 : decode cX1_addTenant 127 = .ok (.iconst 1, 1) := by decide +kernel
theorem dX1_addTenant_128 : decode cX1_addTenant 128 = .ok (.ireturn, 1) := by decide +kernel
theorem dX1_addShip_0 : decode cX1_addShip 0 = .ok (.aload_n 0, 1) := by decide +kernel
theorem dX1_addShip_1 : decode cX1_addShip 1 = .ok (.getfield 43, 3) := by decide +kernel
theorem dX1_addShip_4 : decode cX1_addShip 4 = .ok (.iconst 5, 1) := by decide +kernel
theorem dX1_addShip_5 : decode cX1_addShip 5 = .ok (.if_icmp .ge 11, 3) := by decide +kernel
theorem dX1_addShip_8 : decode cX1_addShip 8 = .ok (.iload_n 1, 1) := by decide +kernel
theorem dX1_addShip_9 : decode cX1_addShip 9 = .ok (.iload_n 2, 1) := by decide +kernel
theorem dX1_addShip_10 : decode cX1_addShip 10 = .ok (.invokestatic 68, 3) := by decide +kernel
theorem dX1_addShip_13 : decode cX1_addShip 13 = .ok (.ifCond .ne 5, 3) := by decide +kernel
theorem dX1_addShip_16 : decode cX1_addShip 16 = .ok (.iconst 0, 1) := by decide +kernel
theorem dX1_addShip_17 : decode cX1_addShip 17 = .ok (.ireturn, 1) := by decide +kernel
theorem dX1_addShip_18 : decode cX1_addShip 18 = .ok (.aload_n 0, 1) := by decide +kernel
theorem dX1_addShip_19 : decode cX1_addShip 19 = .ok (.getfield 27, 3) := by decide +kernel
theorem dX1_addShip_22 : decode cX1_addShip 22 = .ok (.aload_n 0, 1) := by decide +kernel
theorem dX1_addShip_23 : decode cX1_addShip 23 = .ok (.getfield 43, 3) := by decide +kernel
theorem dX1_addShip_26 : decode cX1_addShip 26 = .ok (.iload_n 1, 1) := by decide +kernel
theorem dX1_addShip_27 : decode cX1_addShip 27 = .ok (.iastore, 1) := by decide +kernel
theorem dX1_addShip_28 : decode cX1_addShip 28 = .ok (.aload_n 0, 1) := by decide +kernel
theorem dX1_addShip_29 : decode cX1_addShip 29 = .ok (.getfield 30, 3) := by decide +kernel
theorem dX1_addShip_32 : decode cX1_addShip 32 = .ok (.aload_n 0, 1) := by decide +kernel
theorem dX1_addShip_33 : decode cX1_addShip 33 = .ok (.getfield 43, 3) := by decide +kernel
theorem dX1_addShip_36 : decode cX1_addShip 36 = .ok (.iload_n 2, 1) := by decide +kernel
theorem dX1_addShip_37 : decode cX1_addShip 37 = .ok (.iastore, 1) := by decide +kernel
theorem dX1_addShip_38 : decode cX1_addShip 38 = .ok (.aload_n 0, 1) := by decide +kernel
theorem dX1_addShip_39 : decode cX1_addShip 39 = .ok (.getfield 33, 3) := by decide +kernel
theorem dX1_addShip_42 : decode cX1_addShip 42 = .ok (.aload_n 0, 1) := by decide +kernel
theorem dX1_addShip_43 : decode cX1_addShip 43 = .ok (.getfield 43, 3) := by decide +kernel
theorem dX1_addShip_46 : decode cX1_addShip 46 = .ok (.iload_n 1, 1) := by decide +kernel
theorem dX1_addShip_47 : decode cX1_addShip 47 = .ok (.iconst 1, 1) := by decide +kernel
theorem dX1_addShip_48 : decode cX1_addShip 48 = .ok (.iload_n 2, 1) := by decide +kernel
theorem dX1_addShip_49 : decode cX1_addShip 49 = .ok (.ishl, 1) := by decide +kernel
theorem dX1_addShip_50 : decode cX1_addShip 50 = .ok (.iconst 1, 1) := by decide +kernel
theorem dX1_addShip_51 : decode cX1_addShip 51 = .ok (.isub, 1) := by decide +kernel
theorem dX1_addShip_52 : decode cX1_addShip 52 = .ok (.invokestatic 71, 3) := by decide +kernel
theorem dX1_addShip_55 : decode cX1_addShip 55 = .ok (.iastore, 1) := by decide +kernel
theorem dX1_addShip_56 : decode cX1_addShip 56 = .ok (.aload_n 0, 1) := by decide +kernel
theorem dX1_addShip_57 : decode cX1_addShip 57 = .ok (.dup, 1) := by decide +kernel
theorem dX1_addShip_58 : decode cX1_addShip 58 = .ok (.getfield 43, 3) := by decide +kernel
theorem dX1_addShip_61 : decode cX1_addShip 61 = .ok (.iconst 1, 1) := by decide +kernel
theorem dX1_addShip_62 : decode cX1_addShip 62 = .ok (.iadd, 1) := by decide +kernel
theorem dX1_addShip_63 : decode cX1_addShip 63 = .ok (.putfield 43, 3) := by decide +kernel
theorem dX1_addShip_66 : decode cX1_addShip 66 = .ok (.iconst 1, 1) := by decide +kernel
theorem dX1_addShip_67 : decode cX1_addShip 67 = .ok (.ireturn, 1) := by decide +kernel
theorem dX1_setFog_0 : decode cX1_setFog 0 = .ok (.iload_n 1, 1) := by decide +kernel
theorem dX1_setFog_1 : decode cX1_setFog 1 = .ok (.iload_n 2, 1) := by decide +kernel
theorem dX1_setFog_2 : decode cX1_setFog 2 = .ok (.iadd, 1) := by decide +kernel
theorem dX1_setFog_3 : decode cX1_setFog 3 = .ok (.iload_n 3, 1) := by decide +kernel
theorem dX1_setFog_4 : decode cX1_setFog 4 = .ok (.iadd, 1) := by decide +kernel
theorem dX1_setFog_5 : decode cX1_setFog 5 = .ok (.bipush 10, 2) := by decide +kernel
theorem dX1_setFog_7 : decode cX1_setFog 7 = .ok (.if_icmp .le 5, 3) := by decide +kernel
theorem dX1_setFog_10 : decode cX1_setFog 10 = .ok (.iconst 0, 1) := by decide +kernel
theorem dX1_setFog_11 : decode cX1_setFog 11 = .ok (.ireturn, 1) := by decide +kernel
theorem dX1_setFog_12 : decode cX1_setFog 12 = .ok (.aload_n 0, 1) := by decide +kernel
theorem dX1_setFog_13 : decode cX1_setFog 13 = .ok (.getfield 36, 3) := by decide +kernel
theorem dX1_setFog_16 : decode cX1_setFog 16 = .ok (.iconst 0, 1) := by decide +kernel
theorem dX1_setFog_17 : decode cX1_setFog 17 = .ok (.iload_n 1, 1) := by decide +kernel
theorem dX1_setFog_18 : decode cX1_setFog 18 = .ok (.iastore, 1) := by decide +kernel
theorem dX1_setFog_19 : decode cX1_setFog 19 = .ok (.aload_n 0, 1) := by decide +kernel
theorem dX1_setFog_20 : decode cX1_setFog 20 = .ok (.getfield 36, 3) := by decide +kernel
theorem dX1_setFog_23 : decode cX1_setFog 23 = .ok (.iconst 1, 1) := by decide +kernel
theorem dX1_setFog_24 : decode cX1_setFog 24 = .ok (.iload_n 2, 1) := by decide +kernel
theorem dX1_setFog_25 : decode cX1_setFog 25 = .ok (.iastore, 1) := by decide +kernel
theorem dX1_setFog_26 : decode cX1_setFog 26 = .ok (.aload_n 0, 1) := by decide +kernel
theorem dX1_setFog_27 : decode cX1_setFog 27 = .ok (.getfield 36, 3) := by decide +kernel
theorem dX1_setFog_30 : decode cX1_setFog 30 = .ok (.iconst 2, 1) := by decide +kernel
theorem dX1_setFog_31 : decode cX1_setFog 31 = .ok (.iload_n 3, 1) := by decide +kernel
theorem dX1_setFog_32 : decode cX1_setFog 32 = .ok (.iastore, 1) := by decide +kernel
theorem dX1_setFog_33 : decode cX1_setFog 33 = .ok (.aload_n 0, 1) := by decide +kernel
theorem dX1_setFog_34 : decode cX1_setFog 34 = .ok (.getfield 36, 3) := by decide +kernel
theorem dX1_setFog_37 : decode cX1_setFog 37 = .ok (.iconst 3, 1) := by decide +kernel
theorem dX1_setFog_38 : decode cX1_setFog 38 = .ok (.bipush 10, 2) := by decide +kernel
theorem dX1_setFog_40 : decode cX1_setFog 40 = .ok (.iload_n 1, 1) := by decide +kernel
theorem dX1_setFog_41 : decode cX1_setFog 41 = .ok (.isub, 1) := by decide +kernel
theorem dX1_setFog_42 : decode cX1_setFog 42 = .ok (.iload_n 2, 1) := by decide +kernel
theorem dX1_setFog_43 : decode cX1_setFog 43 = .ok (.isub, 1) := by decide +kernel
theorem dX1_setFog_44 : decode cX1_setFog 44 = .ok (.iload_n 3, 1) := by decide +kernel
theorem dX1_setFog_45 : decode cX1_setFog 45 = .ok (.isub, 1) := by decide +kernel
theorem dX1_setFog_46 : decode cX1_setFog 46 = .ok (.iastore, 1) := by decide +kernel
theorem dX1_setFog_47 : decode cX1_setFog 47 = .ok (.iconst 1, 1) := by decide +kernel
theorem dX1_setFog_48 : decode cX1_setFog 48 = .ok (.ireturn, 1) := by decide +kernel
theorem dX1_setLimit_0 : decode cX1_setLimit 0 = .ok (.iload_n 1, 1) := by decide +kernel
theorem dX1_setLimit_1 : decode cX1_setLimit 1 = .ok (.bipush 60, 2) := by decide +kernel
theorem dX1_setLimit_3 : decode cX1_setLimit 3 = .ok (.if_icmp .le 5, 3) := by decide +kernel
theorem dX1_setLimit_6 : decode cX1_setLimit 6 = .ok (.iconst 0, 1) := by decide +kernel
theorem dX1_setLimit_7 : decode cX1_setLimit 7 = .ok (.ireturn, 1) := by decide +kernel
theorem dX1_setLimit_8 : decode cX1_setLimit 8 = .ok (.aload_n 0, 1) := by decide +kernel
theorem dX1_setLimit_9 : decode cX1_setLimit 9 = .ok (.iload_n 1, 1) := by decide +kernel
theorem dX1_setLimit_10 : decode cX1_setLimit 10 = .ok (.putfield 50, 3) := by decide +kernel
theorem dX1_setLimit_13 : decode cX1_setLimit 13 = .ok (.iconst 1, 1) := by decide +kernel
theorem dX1_setLimit_14 : decode cX1_setLimit 14 = .ok (.ireturn, 1) := by decide +kernel
theorem dX1_paysMostOfHisColour_0 : decode cX1_paysMostOfHisColour 0 = .ok (.iconst 0, 1) := by decide +kernel
theorem dX1_paysMostOfHisColour_1 : decode cX1_paysMostOfHisColour 1 = .ok (.istore_n 2, 1) := by decide +kernel
theorem dX1_paysMostOfHisColour_2 : decode cX1_paysMostOfHisColour 2 = .ok (.iload_n 2, 1) := by decide +kernel
theorem dX1_paysMostOfHisColour_3 : decode cX1_paysMostOfHisColour 3 = .ok (.aload_n 0, 1) := by decide +kernel
theorem dX1_paysMostOfHisColour_4 : decode cX1_paysMostOfHisColour 4 = .ok (.getfield 39, 3) := by decide +kernel
theorem dX1_paysMostOfHisColour_7 : decode cX1_paysMostOfHisColour 7 = .ok (.if_icmp .ge 41, 3) := by decide +kernel
theorem dX1_paysMostOfHisColour_10 : decode cX1_paysMostOfHisColour 10 = .ok (.aload_n 0, 1) := by decide +kernel
theorem dX1_paysMostOfHisColour_11 : decode cX1_paysMostOfHisColour 11 = .ok (.getfield 9, 3) := by decide +kernel
theorem dX1_paysMostOfHisColour_14 : decode cX1_paysMostOfHisColour 14 = .ok (.iload_n 2, 1) := by decide +kernel
theorem dX1_paysMostOfHisColour_15 : decode cX1_paysMostOfHisColour 15 = .ok (.iaload, 1) := by decide +kernel
theorem dX1_paysMostOfHisColour_16 : decode cX1_paysMostOfHisColour 16 = .ok (.aload_n 0, 1) := by decide +kernel
theorem dX1_paysMostOfHisColour_17 : decode cX1_paysMostOfHisColour 17 = .ok (.getfield 9, 3) := by decide +kernel
theorem dX1_paysMostOfHisColour_20 : decode cX1_paysMostOfHisColour 20 = .ok (.iload_n 1, 1) := by decide +kernel
theorem dX1_paysMostOfHisColour_21 : decode cX1_paysMostOfHisColour 21 = .ok (.iaload, 1) := by decide +kernel
theorem dX1_paysMostOfHisColour_22 : decode cX1_paysMostOfHisColour 22 = .ok (.if_icmp .ne 20, 3) := by decide +kernel
theorem dX1_paysMostOfHisColour_25 : decode cX1_paysMostOfHisColour 25 = .ok (.aload_n 0, 1) := by decide +kernel
theorem dX1_paysMostOfHisColour_26 : decode cX1_paysMostOfHisColour 26 = .ok (.getfield 21, 3) := by decide +kernel
theorem dX1_paysMostOfHisColour_29 : decode cX1_paysMostOfHisColour 29 = .ok (.iload_n 2, 1) := by decide +kernel
theorem dX1_paysMostOfHisColour_30 : decode cX1_paysMostOfHisColour 30 = .ok (.iaload, 1) := by decide +kernel
theorem dX1_paysMostOfHisColour_31 : decode cX1_paysMostOfHisColour 31 = .ok (.aload_n 0, 1) := by decide +kernel
theorem dX1_paysMostOfHisColour_32 : decode cX1_paysMostOfHisColour 32 = .ok (.getfield 21, 3) := by decide +kernel
theorem dX1_paysMostOfHisColour_35 : decode cX1_paysMostOfHisColour 35 = .ok (.iload_n 1, 1) := by decide +kernel
theorem dX1_paysMostOfHisColour_36 : decode cX1_paysMostOfHisColour 36 = .ok (.iaload, 1) := by decide +kernel
theorem dX1_paysMostOfHisColour_37 : decode cX1_paysMostOfHisColour 37 = .ok (.if_icmp .le 5, 3) := by decide +kernel
theorem dX1_paysMostOfHisColour_40 : decode cX1_paysMostOfHisColour 40 = .ok (.iconst 0, 1) := by decide +kernel
theorem dX1_paysMostOfHisColour_41 : decode cX1_paysMostOfHisColour 41 = .ok (.ireturn, 1) := by decide +kernel
theorem dX1_paysMostOfHisColour_42 : decode cX1_paysMostOfHisColour 42 = .ok (.iinc 2 1, 3) := by decide +kernel
theorem dX1_paysMostOfHisColour_45 : decode cX1_paysMostOfHisColour 45 = .ok (.goto (-43), 3) := by decide +kernel
theorem dX1_paysMostOfHisColour_48 : decode cX1_paysMostOfHisColour 48 = .ok (.iconst 1, 1) := by decide +kernel
theorem dX1_paysMostOfHisColour_49 : decode cX1_paysMostOfHisColour 49 = .ok (.ireturn, 1) := by decide +kernel
theorem dX1_shineOf_0 : decode cX1_shineOf 0 = .ok (.iload 4, 2) := by decide +kernel
theorem dX1_shineOf_2 : decode cX1_shineOf 2 = .ok (.iconst 2, 1) := by decide +kernel
theorem dX1_shineOf_3 : decode cX1_shineOf 3 = .ok (.irem, 1) := by decide +kernel
theorem dX1_shineOf_4 : decode cX1_shineOf 4 = .ok (.ifCond .ne 7, 3) := by decide +kernel
theorem dX1_shineOf_7 : decode cX1_shineOf 7 = .ok (.iconst 1, 1) := by decide +kernel
theorem dX1_shineOf_8 : decode cX1_shineOf 8 = .ok (.goto 4, 3) := by decide +kernel
theorem dX1_shineOf_11 : decode cX1_shineOf 11 = .ok (.iconst 0, 1) := by decide +kernel
theorem dX1_shineOf_12 : decode cX1_shineOf 12 = .ok (.istore 5, 2) := by decide +kernel
theorem dX1_shineOf_14 : decode cX1_shineOf 14 = .ok (.iconst 1, 1) := by decide +kernel
theorem dX1_shineOf_15 : decode cX1_shineOf 15 = .ok (.iload_n 3, 1) := by decide +kernel
theorem dX1_shineOf_16 : decode cX1_shineOf 16 = .ok (.ishl, 1) := by decide +kernel
theorem dX1_shineOf_17 : decode cX1_shineOf 17 = .ok (.iconst 1, 1) := by decide +kernel
theorem dX1_shineOf_18 : decode cX1_shineOf 18 = .ok (.isub, 1) := by decide +kernel
theorem dX1_shineOf_19 : decode cX1_shineOf 19 = .ok (.istore 6, 2) := by decide +kernel
theorem dX1_shineOf_21 : decode cX1_shineOf 21 = .ok (.aload_n 0, 1) := by decide +kernel
theorem dX1_shineOf_22 : decode cX1_shineOf 22 = .ok (.getfield 24, 3) := by decide +kernel
theorem dX1_shineOf_25 : decode cX1_shineOf 25 = .ok (.iload_n 1, 1) := by decide +kernel
theorem dX1_shineOf_26 : decode cX1_shineOf 26 = .ok (.iaload, 1) := by decide +kernel
theorem dX1_shineOf_27 : decode cX1_shineOf 27 = .ok (.tableswitch 82 1 3 #[25, 41, 63], 25) := by decide +kernel
theorem dX1_shineOf_52 : decode cX1_shineOf 52 = .ok (.iload 5, 2) := by decide +kernel
theorem dX1_shineOf_54 : decode cX1_shineOf 54 = .ok (.ifCond .eq 12, 3) := by decide +kernel
theorem dX1_shineOf_57 : decode cX1_shineOf 57 = .ok (.iload_n 2, 1) := by decide +kernel
theorem dX1_shineOf_58 : decode cX1_shineOf 58 = .ok (.iload 6, 2) := by decide +kernel
theorem dX1_shineOf_60 : decode cX1_shineOf 60 = .ok (.invokestatic 71, 3) := by decide +kernel
theorem dX1_shineOf_63 : decode cX1_shineOf 63 = .ok (.goto 4, 3) := by decide +kernel
theorem dX1_shineOf_66 : decode cX1_shineOf 66 = .ok (.iconst 0, 1) := by decide +kernel
theorem dX1_shineOf_67 : decode cX1_shineOf 67 = .ok (.ireturn, 1) := by decide +kernel
theorem dX1_shineOf_68 : decode cX1_shineOf 68 = .ok (.iload_n 2, 1) := by decide +kernel
theorem dX1_shineOf_69 : decode cX1_shineOf 69 = .ok (.iload 6, 2) := by decide +kernel
theorem dX1_shineOf_71 : decode cX1_shineOf 71 = .ok (.iload 5, 2) := by decide +kernel
theorem dX1_shineOf_73 : decode cX1_shineOf 73 = .ok (.ifCond .eq 9, 3) := by decide +kernel
theorem dX1_shineOf_76 : decode cX1_shineOf 76 = .ok (.sipush 1365, 3) := by decide +kernel
theorem dX1_shineOf_79 : decode cX1_shineOf 79 = .ok (.goto 6, 3) := by decide +kernel
theorem dX1_shineOf_82 : decode cX1_shineOf 82 = .ok (.sipush 2730, 3) := by decide +kernel
theorem dX1_shineOf_85 : decode cX1_shineOf 85 = .ok (.iand, 1) := by decide +kernel
theorem dX1_shineOf_86 : decode cX1_shineOf 86 = .ok (.invokestatic 71, 3) := by decide +kernel
theorem dX1_shineOf_89 : decode cX1_shineOf 89 = .ok (.ireturn, 1) := by decide +kernel
theorem dX1_shineOf_90 : decode cX1_shineOf 90 = .ok (.aload_n 0, 1) := by decide +kernel
theorem dX1_shineOf_91 : decode cX1_shineOf 91 = .ok (.iload_n 1, 1) := by decide +kernel
theorem dX1_shineOf_92 : decode cX1_shineOf 92 = .ok (.invokevirtual 75, 3) := by decide +kernel
theorem dX1_shineOf_95 : decode cX1_shineOf 95 = .ok (.ifCond .eq 12, 3) := by decide +kernel
theorem dX1_shineOf_98 : decode cX1_shineOf 98 = .ok (.iload_n 2, 1) := by decide +kernel
theorem dX1_shineOf_99 : decode cX1_shineOf 99 = .ok (.iload 6, 2) := by decide +kernel
theorem dX1_shineOf_101 : decode cX1_shineOf 101 = .ok (.invokestatic 71, 3) := by decide +kernel
theorem dX1_shineOf_104 : decode cX1_shineOf 104 = .ok (.goto 4, 3) := by decide +kernel
theorem dX1_shineOf_107 : decode cX1_shineOf 107 = .ok (.iconst 0, 1) := by decide +kernel
theorem dX1_shineOf_108 : decode cX1_shineOf 108 = .ok (.ireturn, 1) := by decide +kernel
theorem dX1_shineOf_109 : decode cX1_shineOf 109 = .ok (.iload_n 2, 1) := by decide +kernel
theorem dX1_shineOf_110 : decode cX1_shineOf 110 = .ok (.iload 6, 2) := by decide +kernel
theorem dX1_shineOf_112 : decode cX1_shineOf 112 = .ok (.invokestatic 71, 3) := by decide +kernel
theorem dX1_shineOf_115 : decode cX1_shineOf 115 = .ok (.ireturn, 1) := by decide +kernel
theorem dX2_init_0 : decode cX2_init 0 = .ok (.aload_n 0, 1) := by decide +kernel
theorem dX2_init_1 : decode cX2_init 1 = .ok (.invokespecial 3, 3) := by decide +kernel
theorem dX2_init_4 : decode cX2_init 4 = .ok (.aload_n 0, 1) := by decide +kernel
theorem dX2_init_5 : decode cX2_init 5 = .ok (.sipush 200, 3) := by decide +kernel
theorem dX2_init_8 : decode cX2_init 8 = .ok (.newarray .int, 2) := by decide +kernel
theorem dX2_init_10 : decode cX2_init 10 = .ok (.putfield 9, 3) := by decide +kernel
theorem dX2_init_13 : decode cX2_init 13 = .ok (.return_, 1) := by decide +kernel
theorem dX2_append_0 : decode cX2_append 0 = .ok (.aload_n 0, 1) := by decide +kernel
theorem dX2_append_1 : decode cX2_append 1 = .ok (.getfield 15, 3) := by decide +kernel
theorem dX2_append_4 : decode cX2_append 4 = .ok (.sipush 200, 3) := by decide +kernel
theorem dX2_append_7 : decode cX2_append 7 = .ok (.if_icmp .lt 5, 3) := by decide +kernel
theorem dX2_append_10 : decode cX2_append 10 = .ok (.iconst 0, 1) := by decide +kernel
theorem dX2_append_11 : decode cX2_append 11 = .ok (.ireturn, 1) := by decide +kernel
theorem dX2_append_12 : decode cX2_append 12 = .ok (.aload_n 0, 1) := by decide +kernel
theorem dX2_append_13 : decode cX2_append 13 = .ok (.getfield 9, 3) := by decide +kernel
theorem dX2_append_16 : decode cX2_append 16 = .ok (.aload_n 0, 1) := by decide +kernel
theorem dX2_append_17 : decode cX2_append 17 = .ok (.getfield 15, 3) := by decide +kernel
theorem dX2_append_20 : decode cX2_append 20 = .ok (.iload_n 1, 1) := by decide +kernel
theorem dX2_append_21 : decode cX2_append 21 = .ok (.iastore, 1) := by decide +kernel
theorem dX2_append_22 : decode cX2_append 22 = .ok (.aload_n 0, 1) := by decide +kernel
theorem dX2_append_23 : decode cX2_append 23 = .ok (.dup, 1) := by decide +kernel
theorem dX2_append_24 : decode cX2_append 24 = .ok (.getfield 15, 3) := by decide +kernel
theorem dX2_append_27 : decode cX2_append 27 = .ok (.iconst 1, 1) := by decide +kernel
theorem dX2_append_28 : decode cX2_append 28 = .ok (.iadd, 1) := by decide +kernel
theorem dX2_append_29 : decode cX2_append 29 = .ok (.putfield 15, 3) := by decide +kernel
theorem dX2_append_32 : decode cX2_append 32 = .ok (.iconst 1, 1) := by decide +kernel
theorem dX2_append_33 : decode cX2_append 33 = .ok (.ireturn, 1) := by decide +kernel
theorem dX2_at_0 : decode cX2_at 0 = .ok (.iload_n 1, 1) := by decide +kernel
theorem dX2_at_1 : decode cX2_at 1 = .ok (.iconst 0, 1) := by decide +kernel
theorem dX2_at_2 : decode cX2_at 2 = .ok (.aload_n 0, 1) := by decide +kernel
theorem dX2_at_3 : decode cX2_at 3 = .ok (.getfield 15, 3) := by decide +kernel
theorem dX2_at_6 : decode cX2_at 6 = .ok (.iconst 1, 1) := by decide +kernel
theorem dX2_at_7 : decode cX2_at 7 = .ok (.isub, 1) := by decide +kernel
theorem dX2_at_8 : decode cX2_at 8 = .ok (.invokestatic 19, 3) := by decide +kernel
theorem dX2_at_11 : decode cX2_at 11 = .ok (.ifCond .eq 12, 3) := by decide +kernel
theorem dX2_at_14 : decode cX2_at 14 = .ok (.aload_n 0, 1) := by decide +kernel
theorem dX2_at_15 : decode cX2_at 15 = .ok (.getfield 9, 3) := by decide +kernel
theorem dX2_at_18 : decode cX2_at 18 = .ok (.iload_n 1, 1) := by decide +kernel
theorem dX2_at_19 : decode cX2_at 19 = .ok (.iaload, 1) := by decide +kernel
theorem dX2_at_20 : decode cX2_at 20 = .ok (.goto 4, 3) := by decide +kernel
theorem dX2_at_23 : decode cX2_at 23 = .ok (.iconst 0, 1) := by decide +kernel
theorem dX2_at_24 : decode cX2_at 24 = .ok (.ireturn, 1) := by decide +kernel
theorem dX2_isFigure_0 : decode cX2_isFigure 0 = .ok (.aload_n 0, 1) := by decide +kernel
theorem dX2_isFigure_1 : decode cX2_isFigure 1 = .ok (.iload_n 1, 1) := by decide +kernel
theorem dX2_isFigure_2 : decode cX2_isFigure 2 = .ok (.invokevirtual 23, 3) := by decide +kernel
theorem dX2_isFigure_5 : decode cX2_isFigure 5 = .ok (.bipush 48, 2) := by decide +kernel
theorem dX2_isFigure_7 : decode cX2_isFigure 7 = .ok (.bipush 57, 2) := by decide +kernel
theorem dX2_isFigure_9 : decode cX2_isFigure 9 = .ok (.invokestatic 19, 3) := by decide +kernel
theorem dX2_isFigure_12 : decode cX2_isFigure 12 = .ok (.ireturn, 1) := by decide +kernel
theorem dX3_init_0 : decode cX3_init 0 = .ok (.aload_n 0, 1) := by decide +kernel
theorem dX3_init_1 : decode cX3_init 1 = .ok (.invokespecial 3, 3) := by decide +kernel
theorem dX3_init_4 : decode cX3_init 4 = .ok (.aload_n 0, 1) := by decide +kernel
theorem dX3_init_5 : decode cX3_init 5 = .ok (.bipush 8, 2) := by decide +kernel
theorem dX3_init_7 : decode cX3_init 7 = .ok (.newarray .int, 2) := by decide +kernel
theorem dX3_init_9 : decode cX3_init 9 = .ok (.putfield 9, 3) := by decide +kernel
theorem dX3_init_12 : decode cX3_init 12 = .ok (.aload_n 0, 1) := by decide +kernel
theorem dX3_init_13 : decode cX3_init 13 = .ok (.bipush 8, 2) := by decide +kernel
theorem dX3_init_15 : decode cX3_init 15 = .ok (.newarray .int, 2) := by decide +kernel
theorem dX3_init_17 : decode cX3_init 17 = .ok (.putfield 15, 3) := by decide +kernel
theorem dX3_init_20 : decode cX3_init 20 = .ok (.return_, 1) := by decide +kernel
theorem dX3_append_0 : decode cX3_append 0 = .ok (.aload_n 0, 1) := by decide +kernel
theorem dX3_append_1 : decode cX3_append 1 = .ok (.getfield 18, 3) := by decide +kernel
theorem dX3_append_4 : decode cX3_append 4 = .ok (.bipush 8, 2) := by decide +kernel
theorem dX3_append_6 : decode cX3_append 6 = .ok (.if_icmp .lt 5, 3) := by decide +kernel
theorem dX3_append_9 : decode cX3_append 9 = .ok (.iconst 0, 1) := by decide +kernel
theorem dX3_append_10 : decode cX3_append 10 = .ok (.ireturn, 1) := by decide +kernel
theorem dX3_append_11 : decode cX3_append 11 = .ok (.aload_n 0, 1) := by decide +kernel
theorem dX3_append_12 : decode cX3_append 12 = .ok (.getfield 9, 3) := by decide +kernel
theorem dX3_append_15 : decode cX3_append 15 = .ok (.aload_n 0, 1) := by decide +kernel
theorem dX3_append_16 : decode cX3_append 16 = .ok (.getfield 18, 3) := by decide +kernel
theorem dX3_append_19 : decode cX3_append 19 = .ok (.iload_n 1, 1) := by decide +kernel
theorem dX3_append_20 : decode cX3_append 20 = .ok (.iastore, 1) := by decide +kernel
theorem dX3_append_21 : decode cX3_append 21 = .ok (.aload_n 0, 1) := by decide +kernel
theorem dX3_append_22 : decode cX3_append 22 = .ok (.getfield 15, 3) := by decide +kernel
theorem dX3_append_25 : decode cX3_append 25 = .ok (.aload_n 0, 1) := by decide +kernel
theorem dX3_append_26 : decode cX3_append 26 = .ok (.getfield 18, 3) := by decide +kernel
theorem dX3_append_29 : decode cX3_append 29 = .ok (.iload_n 2, 1) := by decide +kernel
theorem dX3_append_30 : decode cX3_append 30 = .ok (.iastore, 1) := by decide +kernel
theorem dX3_append_31 : decode cX3_append 31 = .ok (.aload_n 0, 1) := by decide +kernel
theorem dX3_append_32 : decode cX3_append 32 = .ok (.dup, 1) := by decide +kernel
theorem dX3_append_33 : decode cX3_append 33 = .ok (.getfield 18, 3) := by decide +kernel
theorem dX3_append_36 : decode cX3_append 36 = .ok (.iconst 1, 1) := by decide +kernel
theorem dX3_append_37 : decode cX3_append 37 = .ok (.iadd, 1) := by decide +kernel
theorem dX3_append_38 : decode cX3_append 38 = .ok (.putfield 18, 3) := by decide +kernel
theorem dX3_append_41 : decode cX3_append 41 = .ok (.iconst 1, 1) := by decide +kernel
theorem dX3_append_42 : decode cX3_append 42 = .ok (.ireturn, 1) := by decide +kernel
theorem dX3_fit_0 : decode cX3_fit 0 = .ok (.iconst 0, 1) := by decide +kernel
theorem dX3_fit_1 : decode cX3_fit 1 = .ok (.istore_n 2, 1) := by decide +kernel
theorem dX3_fit_2 : decode cX3_fit 2 = .ok (.iload_n 2, 1) := by decide +kernel
theorem dX3_fit_3 : decode cX3_fit 3 = .ok (.aload_n 0, 1) := by decide +kernel
theorem dX3_fit_4 : decode cX3_fit 4 = .ok (.getfield 18, 3) := by decide +kernel
theorem dX3_fit_7 : decode cX3_fit 7 = .ok (.if_icmp .ge 30, 3) := by decide +kernel
theorem dX3_fit_10 : decode cX3_fit 10 = .ok (.aload_n 1, 1) := by decide +kernel
theorem dX3_fit_11 : decode cX3_fit 11 = .ok (.aload_n 0, 1) := by decide +kernel
theorem dX3_fit_12 : decode cX3_fit 12 = .ok (.getfield 9, 3) := by decide +kernel
theorem dX3_fit_15 : decode cX3_fit 15 = .ok (.iload_n 2, 1) := by decide +kernel
theorem dX3_fit_16 : decode cX3_fit 16 = .ok (.iaload, 1) := by decide +kernel
theorem dX3_fit_17 : decode cX3_fit 17 = .ok (.invokevirtual 22, 3) := by decide +kernel
theorem dX3_fit_20 : decode cX3_fit 20 = .ok (.aload_n 0, 1) := by decide +kernel
theorem dX3_fit_21 : decode cX3_fit 21 = .ok (.getfield 15, 3) := by decide +kernel
theorem dX3_fit_24 : decode cX3_fit 24 = .ok (.iload_n 2, 1) := by decide +kernel
theorem dX3_fit_25 : decode cX3_fit 25 = .ok (.iaload, 1) := by decide +kernel
theorem dX3_fit_26 : decode cX3_fit 26 = .ok (.if_icmp .eq 5, 3) := by decide +kernel
theorem dX3_fit_29 : decode cX3_fit 29 = .ok (.iconst 0, 1) := by decide +kernel
theorem dX3_fit_30 : decode cX3_fit 30 = .ok (.ireturn, 1) := by decide +kernel
theorem dX3_fit_31 : decode cX3_fit 31 = .ok (.iinc 2 1, 3) := by decide +kernel
theorem dX3_fit_34 : decode cX3_fit 34 = .ok (.goto (-32), 3) := by decide +kernel
theorem dX3_fit_37 : decode cX3_fit 37 = .ok (.iconst 1, 1) := by decide +kernel
theorem dX3_fit_38 : decode cX3_fit 38 = .ok (.ireturn, 1) := by decide +kernel
theorem dX3_darkStripes_0 : decode cX3_darkStripes 0 = .ok (.iconst 0, 1) := by decide +kernel
theorem dX3_darkStripes_1 : decode cX3_darkStripes 1 = .ok (.istore_n 1, 1) := by decide +kernel
theorem dX3_darkStripes_2 : decode cX3_darkStripes 2 = .ok (.iconst 0, 1) := by decide +kernel
theorem dX3_darkStripes_3 : decode cX3_darkStripes 3 = .ok (.istore_n 2, 1) := by decide +kernel
theorem dX3_darkStripes_4 : decode cX3_darkStripes 4 = .ok (.iload_n 2, 1) := by decide +kernel
theorem dX3_darkStripes_5 : decode cX3_darkStripes 5 = .ok (.aload_n 0, 1) := by decide +kernel
theorem dX3_darkStripes_6 : decode cX3_darkStripes 6 = .ok (.getfield 18, 3) := by decide +kernel
theorem dX3_darkStripes_9 : decode cX3_darkStripes 9 = .ok (.if_icmp .ge 30, 3) := by decide +kernel
theorem dX3_darkStripes_12 : decode cX3_darkStripes 12 = .ok (.aload_n 0, 1) := by decide +kernel
theorem dX3_darkStripes_13 : decode cX3_darkStripes 13 = .ok (.getfield 15, 3) := by decide +kernel
theorem dX3_darkStripes_16 : decode cX3_darkStripes 16 = .ok (.iload_n 2, 1) := by decide +kernel
theorem dX3_darkStripes_17 : decode cX3_darkStripes 17 = .ok (.iaload, 1) := by decide +kernel
theorem dX3_darkStripes_18 : decode cX3_darkStripes 18 = .ok (.iconst 4, 1) := by decide +kernel
theorem dX3_darkStripes_19 : decode cX3_darkStripes 19 = .ok (.if_icmp .ne 14, 3) := by decide +kernel
theorem dX3_darkStripes_22 : decode cX3_darkStripes 22 = .ok (.iload_n 1, 1) := by decide +kernel
theorem dX3_darkStripes_23 : decode cX3_darkStripes 23 = .ok (.iconst 1, 1) := by decide +kernel
theorem dX3_darkStripes_24 : decode cX3_darkStripes 24 = .ok (.aload_n 0, 1) := by decide +kernel
theorem dX3_darkStripes_25 : decode cX3_darkStripes 25 = .ok (.getfield 9, 3) := by decide +kernel
theorem dX3_darkStripes_28 : decode cX3_darkStripes 28 = .ok (.iload_n 2, 1) := by decide +kernel
theorem dX3_darkStripes_29 : decode cX3_darkStripes 29 = .ok (.iaload, 1) := by decide +kernel
theorem dX3_darkStripes_30 : decode cX3_darkStripes 30 = .ok (.ishl, 1) := by decide +kernel
theorem dX3_darkStripes_31 : decode cX3_darkStripes 31 = .ok (.ior, 1) := by decide +kernel
theorem dX3_darkStripes_32 : decode cX3_darkStripes 32 = .ok (.istore_n 1, 1) := by decide +kernel
theorem dX3_darkStripes_33 : decode cX3_darkStripes 33 = .ok (.iinc 2 1, 3) := by decide +kernel
theorem dX3_darkStripes_36 : decode cX3_darkStripes 36 = .ok (.goto (-32), 3) := by decide +kernel
theorem dX3_darkStripes_39 : decode cX3_darkStripes 39 = .ok (.iload_n 1, 1) := by decide +kernel
theorem dX3_darkStripes_40 : decode cX3_darkStripes 40 = .ok (.ireturn, 1) := by decide +kernel
theorem dX4_init_0 : decode cX4_init 0 = .ok (.aload_n 0, 1) := by decide +kernel
theorem dX4_init_1 : decode cX4_init 1 = .ok (.invokespecial 1, 3) := by decide +kernel
theorem dX4_init_4 : decode cX4_init 4 = .ok (.aload_n 0, 1) := by decide +kernel
theorem dX4_init_5 : decode cX4_init 5 = .ok (.iload_n 1, 1) := by decide +kernel
theorem dX4_init_6 : decode cX4_init 6 = .ok (.anewarray 7, 3) := by decide +kernel
theorem dX4_init_9 : decode cX4_init 9 = .ok (.putfield 9, 3) := by decide +kernel
theorem dX4_init_12 : decode cX4_init 12 = .ok (.iconst 0, 1) := by decide +kernel
theorem dX4_init_13 : decode cX4_init 13 = .ok (.istore_n 2, 1) := by decide +kernel
theorem dX4_init_14 : decode cX4_init 14 = .ok (.iload_n 2, 1) := by decide +kernel
theorem dX4_init_15 : decode cX4_init 15 = .ok (.iload_n 1, 1) := by decide +kernel
theorem dX4_init_16 : decode cX4_init 16 = .ok (.if_icmp .ge 22, 3) := by decide +kernel
theorem dX4_init_19 : decode cX4_init 19 = .ok (.aload_n 0, 1) := by decide +kernel
theorem dX4_init_20 : decode cX4_init 20 = .ok (.getfield 9, 3) := by decide +kernel
theorem dX4_init_23 : decode cX4_init 23 = .ok (.iload_n 2, 1) := by decide +kernel
theorem dX4_init_24 : decode cX4_init 24 = .ok (.new 7, 3) := by decide +kernel
theorem dX4_init_27 : decode cX4_init 27 = .ok (.dup, 1) := by decide +kernel
theorem dX4_init_28 : decode cX4_init 28 = .ok (.invokespecial 15, 3) := by decide +kernel
theorem dX4_init_31 : decode cX4_init 31 = .ok (.aastore, 1) := by decide +kernel
theorem dX4_init_32 : decode cX4_init 32 = .ok (.iinc 2 1, 3) := by decide +kernel
theorem dX4_init_35 : decode cX4_init 35 = .ok (.goto (-21), 3) := by decide +kernel
theorem dX4_init_38 : decode cX4_init 38 = .ok (.return_, 1) := by decide +kernel
theorem dX4_rowAt_0 : decode cX4_rowAt 0 = .ok (.aload_n 0, 1) := by decide +kernel
theorem dX4_rowAt_1 : decode cX4_rowAt 1 = .ok (.getfield 16, 3) := by decide +kernel
theorem dX4_rowAt_4 : decode cX4_rowAt 4 = .ok (.iload_n 1, 1) := by decide +kernel
theorem dX4_rowAt_5 : decode cX4_rowAt 5 = .ok (.iadd, 1) := by decide +kernel
theorem dX4_rowAt_6 : decode cX4_rowAt 6 = .ok (.istore_n 2, 1) := by decide +kernel
theorem dX4_rowAt_7 : decode cX4_rowAt 7 = .ok (.iload_n 2, 1) := by decide +kernel
theorem dX4_rowAt_8 : decode cX4_rowAt 8 = .ok (.aload_n 0, 1) := by decide +kernel
theorem dX4_rowAt_9 : decode cX4_rowAt 9 = .ok (.getfield 9, 3) := by decide +kernel
theorem dX4_rowAt_12 : decode cX4_rowAt 12 = .ok (.arraylength, 1) := by decide +kernel
theorem dX4_rowAt_13 : decode cX4_rowAt 13 = .ok (.if_icmp .ge 7, 3) := by decide +kernel
theorem dX4_rowAt_16 : decode cX4_rowAt 16 = .ok (.iload_n 2, 1) := by decide +kernel
theorem dX4_rowAt_17 : decode cX4_rowAt 17 = .ok (.goto 10, 3) := by decide +kernel
theorem dX4_rowAt_20 : decode cX4_rowAt 20 = .ok (.iload_n 2, 1) := by decide +kernel
theorem dX4_rowAt_21 : decode cX4_rowAt 21 = .ok (.aload_n 0, 1) := by decide +kernel
theorem dX4_rowAt_22 : decode cX4_rowAt 22 = .ok (.getfield 9, 3) := by decide +kernel
theorem dX4_rowAt_25 : decode cX4_rowAt 25 = .ok (.arraylength, 1) := by decide +kernel
theorem dX4_rowAt_26 : decode cX4_rowAt 26 = .ok (.isub, 1) := by decide +kernel
theorem dX4_rowAt_27 : decode cX4_rowAt 27 = .ok (.ireturn, 1) := by decide +kernel
theorem dX4_put_0 : decode cX4_put 0 = .ok (.aload_n 0, 1) := by decide +kernel
theorem dX4_put_1 : decode cX4_put 1 = .ok (.getfield 20, 3) := by decide +kernel
theorem dX4_put_4 : decode cX4_put 4 = .ok (.aload_n 0, 1) := by decide +kernel
theorem dX4_put_5 : decode cX4_put 5 = .ok (.getfield 9, 3) := by decide +kernel
theorem dX4_put_8 : decode cX4_put 8 = .ok (.arraylength, 1) := by decide +kernel
theorem dX4_put_9 : decode cX4_put 9 = .ok (.if_icmp .ne 22, 3) := by decide +kernel
theorem dX4_put_12 : decode cX4_put 12 = .ok (.aload_n 0, 1) := by decide +kernel
theorem dX4_put_13 : decode cX4_put 13 = .ok (.aload_n 0, 1) := by decide +kernel
theorem dX4_put_14 : decode cX4_put 14 = .ok (.iconst 1, 1) := by decide +kernel
theorem dX4_put_15 : decode cX4_put 15 = .ok (.invokevirtual 23, 3) := by decide +kernel
theorem dX4_put_18 : decode cX4_put 18 = .ok (.putfield 16, 3) := by decide +kernel
theorem dX4_put_21 : decode cX4_put 21 = .ok (.aload_n 0, 1) := by decide +kernel
theorem dX4_put_22 : decode cX4_put 22 = .ok (.dup, 1) := by decide +kernel
theorem dX4_put_23 : decode cX4_put 23 = .ok (.getfield 20, 3) := by decide +kernel
theorem dX4_put_26 : decode cX4_put 26 = .ok (.iconst 1, 1) := by decide +kernel
theorem dX4_put_27 : decode cX4_put 27 = .ok (.isub, 1) := by decide +kernel
theorem dX4_put_28 : decode cX4_put 28 = .ok (.putfield 20, 3) := by decide +kernel
theorem dX4_put_31 : decode cX4_put 31 = .ok (.aload_n 0, 1) := by decide +kernel
theorem dX4_put_32 : decode cX4_put 32 = .ok (.getfield 9, 3) := by decide +kernel
theorem dX4_put_35 : decode cX4_put 35 = .ok (.aload_n 0, 1) := by decide +kernel
theorem dX4_put_36 : decode cX4_put 36 = .ok (.aload_n 0, 1) := by decide +kernel
theorem dX4_put_37 : decode cX4_put 37 = .ok (.getfield 20, 3) := by decide +kernel
theorem dX4_put_40 : decode cX4_put 40 = .ok (.invokevirtual 23, 3) := by decide +kernel
theorem dX4_put_43 : decode cX4_put 43 = .ok (.aaload, 1) := by decide +kernel
theorem dX4_put_44 : decode cX4_put 44 = .ok (.aload_n 1, 1) := by decide +kernel
theorem dX4_put_45 : decode cX4_put 45 = .ok (.invokevirtual 27, 3) := by decide +kernel
theorem dX4_put_48 : decode cX4_put 48 = .ok (.aload_n 0, 1) := by decide +kernel
theorem dX4_put_49 : decode cX4_put 49 = .ok (.dup, 1) := by decide +kernel
theorem dX4_put_50 : decode cX4_put 50 = .ok (.getfield 20, 3) := by decide +kernel
theorem dX4_put_53 : decode cX4_put 53 = .ok (.iconst 1, 1) := by decide +kernel
theorem dX4_put_54 : decode cX4_put 54 = .ok (.iadd, 1) := by decide +kernel
theorem dX4_put_55 : decode cX4_put 55 = .ok (.putfield 20, 3) := by decide +kernel
theorem dX4_put_58 : decode cX4_put 58 = .ok (.return_, 1) := by decide +kernel
theorem dX4_takeInto_0 : decode cX4_takeInto 0 = .ok (.aload_n 0, 1) := by decide +kernel
theorem dX4_takeInto_1 : decode cX4_takeInto 1 = .ok (.getfield 20, 3) := by decide +kernel
theorem dX4_takeInto_4 : decode cX4_takeInto 4 = .ok (.ifCond .ne 5, 3) := by decide +kernel
theorem dX4_takeInto_7 : decode cX4_takeInto 7 = .ok (.iconst 0, 1) := by decide +kernel
theorem dX4_takeInto_8 : decode cX4_takeInto 8 = .ok (.ireturn, 1) := by decide +kernel
theorem dX4_takeInto_9 : decode cX4_takeInto 9 = .ok (.aload_n 0, 1) := by decide +kernel
theorem dX4_takeInto_10 : decode cX4_takeInto 10 = .ok (.dup, 1) := by decide +kernel
theorem dX4_takeInto_11 : decode cX4_takeInto 11 = .ok (.getfield 20, 3) := by decide +kernel
theorem dX4_takeInto_14 : decode cX4_takeInto 14 = .ok (.iconst 1, 1) := by decide +kernel
theorem dX4_takeInto_15 : decode cX4_takeInto 15 = .ok (.isub, 1) := by decide +kernel
theorem dX4_takeInto_16 : decode cX4_takeInto 16 = .ok (.putfield 20, 3) := by decide +kernel
theorem dX4_takeInto_19 : decode cX4_takeInto 19 = .ok (.aload_n 1, 1) := by decide +kernel
theorem dX4_takeInto_20 : decode cX4_takeInto 20 = .ok (.aload_n 0, 1) := by decide +kernel
theorem dX4_takeInto_21 : decode cX4_takeInto 21 = .ok (.getfield 9, 3) := by decide +kernel
theorem dX4_takeInto_24 : decode cX4_takeInto 24 = .ok (.aload_n 0, 1) := by decide +kernel
theorem dX4_takeInto_25 : decode cX4_takeInto 25 = .ok (.aload_n 0, 1) := by decide +kernel
theorem dX4_takeInto_26 : decode cX4_takeInto 26 = .ok (.getfield 20, 3) := by decide +kernel
theorem dX4_takeInto_29 : decode cX4_takeInto 29 = .ok (.invokevirtual 23, 3) := by decide +kernel
theorem dX4_takeInto_32 : decode cX4_takeInto 32 = .ok (.aaload, 1) := by decide +kernel
theorem dX4_takeInto_33 : decode cX4_takeInto 33 = .ok (.invokevirtual 27, 3) := by decide +kernel
theorem dX4_takeInto_36 : decode cX4_takeInto 36 = .ok (.iconst 1, 1) := by decide +kernel
theorem dX4_takeInto_37 : decode cX4_takeInto 37 = .ok (.ireturn, 1) := by decide +kernel
theorem dX5_init_0 : decode cX5_init 0 = .ok (.aload_n 0, 1) := by decide +kernel
theorem dX5_init_1 : decode cX5_init 1 = .ok (.invokespecial 3, 3) := by decide +kernel
theorem dX5_init_4 : decode cX5_init 4 = .ok (.aload_n 0, 1) := by decide +kernel
theorem dX5_init_5 : decode cX5_init 5 = .ok (.iconst 5, 1) := by decide +kernel
theorem dX5_init_6 : decode cX5_init 6 = .ok (.newarray .int, 2) := by decide +kernel
theorem dX5_init_8 : decode cX5_init 8 = .ok (.putfield 11, 3) := by decide +kernel
theorem dX5_init_11 : decode cX5_init 11 = .ok (.return_, 1) := by decide +kernel
theorem dX5_readAll_0 : decode cX5_readAll 0 = .ok (.aload_n 2, 1) := by decide +kernel
theorem dX5_readAll_1 : decode cX5_readAll 1 = .ok (.invokevirtual 15, 3) := by decide +kernel
theorem dX5_readAll_4 : decode cX5_readAll 4 = .ok (.iconst 0, 1) := by decide +kernel
theorem dX5_readAll_5 : decode cX5_readAll 5 = .ok (.istore_n 3, 1) := by decide +kernel
theorem dX5_readAll_6 : decode cX5_readAll 6 = .ok (.iconst 0, 1) := by decide +kernel
theorem dX5_readAll_7 : decode cX5_readAll 7 = .ok (.istore 4, 2) := by decide +kernel
theorem dX5_readAll_9 : decode cX5_readAll 9 = .ok (.iload 4, 2) := by decide +kernel
theorem dX5_readAll_11 : decode cX5_readAll 11 = .ok (.sipush 200, 3) := by decide +kernel
theorem dX5_readAll_14 : decode cX5_readAll 14 = .ok (.if_icmp .ge 38, 3) := by decide +kernel
theorem dX5_readAll_17 : decode cX5_readAll 17 = .ok (.iload_n 3, 1) := by decide +kernel
theorem dX5_readAll_18 : decode cX5_readAll 18 = .ok (.aload_n 1, 1) := by decide +kernel
theorem dX5_readAll_19 : decode cX5_readAll 19 = .ok (.getfield 20, 3) := by decide +kernel
theorem dX5_readAll_22 : decode cX5_readAll 22 = .ok (.if_icmp .ge 30, 3) := by decide +kernel
theorem dX5_readAll_25 : decode cX5_readAll 25 = .ok (.aload_n 0, 1) := by decide +kernel
theorem dX5_readAll_26 : decode cX5_readAll 26 = .ok (.aload_n 1, 1) := by decide +kernel
theorem dX5_readAll_27 : decode cX5_readAll 27 = .ok (.iload_n 3, 1) := by decide +kernel
theorem dX5_readAll_28 : decode cX5_readAll 28 = .ok (.aload_n 2, 1) := by decide +kernel
theorem dX5_readAll_29 : decode cX5_readAll 29 = .ok (.invokevirtual 26, 3) := by decide +kernel
theorem dX5_readAll_32 : decode cX5_readAll 32 = .ok (.istore 5, 2) := by decide +kernel
theorem dX5_readAll_34 : decode cX5_readAll 34 = .ok (.iload 5, 2) := by decide +kernel
theorem dX5_readAll_36 : decode cX5_readAll 36 = .ok (.bipush (-4), 2) := by decide +kernel
theorem dX5_readAll_38 : decode cX5_readAll 38 = .ok (.if_icmp .ne 5, 3) := by decide +kernel
theorem dX5_readAll_41 : decode cX5_readAll 41 = .ok (.iload_n 3, 1) := by decide +kernel
theorem dX5_readAll_42 : decode cX5_readAll 42 = .ok (.ireturn, 1) := by decide +kernel
theorem dX5_readAll_43 : decode cX5_readAll 43 = .ok (.iload 5, 2) := by decide +kernel
theorem dX5_readAll_45 : decode cX5_readAll 45 = .ok (.istore_n 3, 1) := by decide +kernel
theorem dX5_readAll_46 : decode cX5_readAll 46 = .ok (.iinc 4 1, 3) := by decide +kernel
theorem dX5_readAll_49 : decode cX5_readAll 49 = .ok (.goto (-40), 3) := by decide +kernel
theorem dX5_readAll_52 : decode cX5_readAll 52 = .ok (.bipush (-4), 2) := by decide +kernel
theorem dX5_readAll_54 : decode cX5_readAll 54 = .ok (.ireturn, 1) := by decide +kernel
theorem dX5_readItem_0 : decode cX5_readItem 0 = .ok (.aload_n 1, 1) := by decide +kernel
theorem dX5_readItem_1 : decode cX5_readItem 1 = .ok (.iload_n 2, 1) := by decide +kernel
theorem dX5_readItem_2 : decode cX5_readItem 2 = .ok (.invokevirtual 30, 3) := by decide +kernel
theorem dX5_readItem_5 : decode cX5_readItem 5 = .ok (.istore 4, 2) := by decide +kernel
theorem dX5_readItem_7 : decode cX5_readItem 7 = .ok (.iload 4, 2) := by decide +kernel
theorem dX5_readItem_9 : decode cX5_readItem 9 = .ok (.invokestatic 34, 3) := by decide +kernel
theorem dX5_readItem_12 : decode cX5_readItem 12 = .ok (.istore 5, 2) := by decide +kernel
theorem dX5_readItem_14 : decode cX5_readItem 14 = .ok (.iload 5, 2) := by decide +kernel
theorem dX5_readItem_16 : decode cX5_readItem 16 = .ok (.ifCond .ne 6, 3) := by decide +kernel
theorem dX5_readItem_19 : decode cX5_readItem 19 = .ok (.bipush (-4), 2) := by decide +kernel
theorem dX5_readItem_21 : decode cX5_readItem 21 = .ok (.ireturn, 1) := by decide +kernel
theorem dX5_readItem_22 : decode cX5_readItem 22 = .ok (.iload_n 2, 1) := by decide +kernel
theorem dX5_readItem_23 : decode cX5_readItem 23 = .ok (.iconst 1, 1) := by decide +kernel
theorem dX5_readItem_24 : decode cX5_readItem 24 = .ok (.iadd, 1) := by decide +kernel
theorem dX5_readItem_25 : decode cX5_readItem 25 = .ok (.istore 6, 2) := by decide +kernel
theorem dX5_readItem_27 : decode cX5_readItem 27 = .ok (.iconst 0, 1) := by decide +kernel
theorem dX5_readItem_28 : decode cX5_readItem 28 = .ok (.istore 7, 2) := by decide +kernel
theorem dX5_readItem_30 : decode cX5_readItem 30 = .ok (.iload 7, 2) := by decide +kernel
theorem dX5_readItem_32 : decode cX5_readItem 32 = .ok (.iload 5, 2) := by decide +kernel
theorem dX5_readItem_34 : decode cX5_readItem 34 = .ok (.if_icmp .ge 92, 3) := by decide +kernel
theorem dX5_readItem_37 : decode cX5_readItem 37 = .ok (.aload_n 1, 1) := by decide +kernel
theorem dX5_readItem_38 : decode cX5_readItem 38 = .ok (.iload 6, 2) := by decide +kernel
theorem dX5_readItem_40 : decode cX5_readItem 40 = .ok (.invokevirtual 37, 3) := by decide +kernel
theorem dX5_readItem_43 : decode cX5_readItem 43 = .ok (.ifCond .ne 6, 3) := by decide +kernel
theorem dX5_readItem_46 : decode cX5_readItem 46 = .ok (.bipush (-4), 2) := by decide +kernel
theorem dX5_readItem_48 : decode cX5_readItem 48 = .ok (.ireturn, 1) := by decide +kernel
theorem dX5_readItem_49 : decode cX5_readItem 49 = .ok (.aload_n 1, 1) := by decide +kernel
theorem dX5_readItem_50 : decode cX5_readItem 50 = .ok (.iload 6, 2) := by decide +kernel
theorem dX5_readItem_52 : decode cX5_readItem 52 = .ok (.iconst 1, 1) := by decide +kernel
theorem dX5_readItem_53 : decode cX5_readItem 53 = .ok (.iadd, 1) := by decide +kernel
theorem dX5_readItem_54 : decode cX5_readItem 54 = .ok (.invokevirtual 37, 3) := by decide +kernel
theorem dX5_readItem_57 : decode cX5_readItem 57 = .ok (.ifCond .eq 7, 3) := by decide +kernel
theorem dX5_readItem_60 : decode cX5_readItem 60 = .ok (.iconst 2, 1) := by decide +kernel
theorem dX5_readItem_61 : decode cX5_readItem 61 = .ok (.goto 4, 3) := by decide +kernel
theorem dX5_readItem_64 : decode cX5_readItem 64 = .ok (.iconst 1, 1) := by decide +kernel
theorem dX5_readItem_65 : decode cX5_readItem 65 = .ok (.istore 8, 2) := by decide +kernel
theorem dX5_readItem_67 : decode cX5_readItem 67 = .ok (.aload_n 0, 1) := by decide +kernel
theorem dX5_readItem_68 : decode cX5_readItem 68 = .ok (.getfield 11, 3) := by decide +kernel
theorem dX5_readItem_71 : decode cX5_readItem 71 = .ok (.iload 7, 2) := by decide +kernel
theorem dX5_readItem_73 : decode cX5_readItem 73 = .ok (.aload_n 1, 1) := by decide +kernel
theorem dX5_readItem_74 : decode cX5_readItem 74 = .ok (.iload 6, 2) := by decide +kernel
theorem dX5_readItem_76 : decode cX5_readItem 76 = .ok (.iload 8, 2) := by decide +kernel
theorem dX5_readItem_78 : decode cX5_readItem 78 = .ok (.invokestatic 41, 3) := by decide +kernel
theorem dX5_readItem_81 : decode cX5_readItem 81 = .ok (.iastore, 1) := by decide +kernel
theorem dX5_readItem_82 : decode cX5_readItem 82 = .ok (.iload 6, 2) := by decide +kernel
theorem dX5_readItem_84 : decode cX5_readItem 84 = .ok (.iload 8, 2) := by decide +kernel
theorem dX5_readItem_86 : decode cX5_readItem 86 = .ok (.iadd, 1) := by decide +kernel
theorem dX5_readItem_87 : decode cX5_readItem 87 = .ok (.istore 6, 2) := by decide +kernel
theorem dX5_readItem_89 : decode cX5_readItem 89 = .ok (.aload_n 1, 1) := by decide +kernel
theorem dX5_readItem_90 : decode cX5_readItem 90 = .ok (.iload 6, 2) := by decide +kernel
theorem dX5_readItem_92 : decode cX5_readItem 92 = .ok (.invokevirtual 30, 3) := by decide +kernel
theorem dX5_readItem_95 : decode cX5_readItem 95 = .ok (.iload 7, 2) := by decide +kernel
theorem dX5_readItem_97 : decode cX5_readItem 97 = .ok (.iload 5, 2) := by decide +kernel
theorem dX5_readItem_99 : decode cX5_readItem 99 = .ok (.iconst 1, 1) := by decide +kernel
theorem dX5_readItem_100 : decode cX5_readItem 100 = .ok (.isub, 1) := by decide +kernel
theorem dX5_readItem_101 : decode cX5_readItem 101 = .ok (.if_icmp .ne 8, 3) := by decide +kernel
theorem dX5_readItem_104 : decode cX5_readItem 104 = .ok (.bipush 59, 2) := by decide +kernel
theorem dX5_readItem_106 : decode cX5_readItem 106 = .ok (.goto 5, 3) := by decide +kernel
theorem dX5_readItem_109 : decode cX5_readItem 109 = .ok (.bipush 44, 2) := by decide +kernel
theorem dX5_readItem_111 : decode cX5_readItem 111 = .ok (.if_icmp .eq 6, 3) := by decide +kernel
theorem dX5_readItem_114 : decode cX5_readItem 114 = .ok (.bipush (-4), 2) := by decide +kernel
theorem dX5_readItem_116 : decode cX5_readItem 116 = .ok (.ireturn, 1) := by decide +kernel
theorem dX5_readItem_117 : decode cX5_readItem 117 = .ok (.iinc 6 1, 3) := by decide +kernel
theorem dX5_readItem_120 : decode cX5_readItem 120 = .ok (.iinc 7 1, 3) := by decide +kernel
theorem dX5_readItem_123 : decode cX5_readItem 123 = .ok (.goto (-93), 3) := by decide +kernel
theorem dX5_readItem_126 : decode cX5_readItem 126 = .ok (.aload_n 3, 1) := by decide +kernel
theorem dX5_readItem_127 : decode cX5_readItem 127 = .ok (.iload 4, 2) := by decide +kernel
theorem dX5_readItem_129 : decode cX5_readItem 129 = .ok (.aload_n 0, 1) := by decide +kernel
theorem dX5_readItem_130 : decode cX5_readItem 130 = .ok (.getfield 11, 3) := by decide +kernel
theorem dX5_readItem_133 : decode cX5_readItem 133 = .ok (.invokevirtual 45, 3) := by decide +kernel
theorem dX5_readItem_136 : decode cX5_readItem 136 = .ok (.ifCond .eq 8, 3) := by decide +kernel
theorem dX5_readItem_139 : decode cX5_readItem 139 = .ok (.iload 6, 2) := by decide +kernel
theorem dX5_readItem_141 : decode cX5_readItem 141 = .ok (.goto 5, 3) := by decide +kernel
theorem dX5_readItem_144 : decode cX5_readItem 144 = .ok (.bipush (-4), 2) := by decide +kernel
theorem dX5_readItem_146 : decode cX5_readItem 146 = .ok (.ireturn, 1) := by decide +kernel
theorem dX5_numbersBehind_0 : decode cX5_numbersBehind 0 = .ok (.iload_n 0, 1) := by decide +kernel
theorem dX5_numbersBehind_1 : decode cX5_numbersBehind 1 = .ok (.lookupswitch 51 #[(98, 49), (102, 47), (115, 45), (116, 43)], 43) := by decide +kernel
theorem dX5_numbersBehind_44 : decode cX5_numbersBehind 44 = .ok (.iconst 5, 1) := by decide +kernel
theorem dX5_numbersBehind_45 : decode cX5_numbersBehind 45 = .ok (.ireturn, 1) := by decide +kernel
theorem dX5_numbersBehind_46 : decode cX5_numbersBehind 46 = .ok (.iconst 2, 1) := by decide +kernel
theorem dX5_numbersBehind_47 : decode cX5_numbersBehind 47 = .ok (.ireturn, 1) := by decide +kernel
theorem dX5_numbersBehind_48 : decode cX5_numbersBehind 48 = .ok (.iconst 3, 1) := by decide +kernel
theorem dX5_numbersBehind_49 : decode cX5_numbersBehind 49 = .ok (.ireturn, 1) := by decide +kernel
theorem dX5_numbersBehind_50 : decode cX5_numbersBehind 50 = .ok (.iconst 1, 1) := by decide +kernel
theorem dX5_numbersBehind_51 : decode cX5_numbersBehind 51 = .ok (.ireturn, 1) := by decide +kernel
theorem dX5_numbersBehind_52 : decode cX5_numbersBehind 52 = .ok (.iconst 0, 1) := by decide +kernel
theorem dX5_numbersBehind_53 : decode cX5_numbersBehind 53 = .ok (.ireturn, 1) := by decide +kernel
theorem dX5_numberAt_0 : decode cX5_numberAt 0 = .ok (.iconst 0, 1) := by decide +kernel
theorem dX5_numberAt_1 : decode cX5_numberAt 1 = .ok (.istore_n 3, 1) := by decide +kernel
theorem dX5_numberAt_2 : decode cX5_numberAt 2 = .ok (.iconst 0, 1) := by decide +kernel
theorem dX5_numberAt_3 : decode cX5_numberAt 3 = .ok (.istore 4, 2) := by decide +kernel
theorem dX5_numberAt_5 : decode cX5_numberAt 5 = .ok (.iload 4, 2) := by decide +kernel
theorem dX5_numberAt_7 : decode cX5_numberAt 7 = .ok (.iload_n 2, 1) := by decide +kernel
theorem dX5_numberAt_8 : decode cX5_numberAt 8 = .ok (.if_icmp .ge 26, 3) := by decide +kernel
theorem dX5_numberAt_11 : decode cX5_numberAt 11 = .ok (.iload_n 3, 1) := by decide +kernel
theorem dX5_numberAt_12 : decode cX5_numberAt 12 = .ok (.bipush 10, 2) := by decide +kernel
theorem dX5_numberAt_14 : decode cX5_numberAt 14 = .ok (.imul, 1) := by decide +kernel
theorem dX5_numberAt_15 : decode cX5_numberAt 15 = .ok (.aload_n 0, 1) := by decide +kernel
theorem dX5_numberAt_16 : decode cX5_numberAt 16 = .ok (.iload_n 1, 1) := by decide +kernel
theorem dX5_numberAt_17 : decode cX5_numberAt 17 = .ok (.iload 4, 2) := by decide +kernel
theorem dX5_numberAt_19 : decode cX5_numberAt 19 = .ok (.iadd, 1) := by decide +kernel
theorem dX5_numberAt_20 : decode cX5_numberAt 20 = .ok (.invokevirtual 30, 3) := by decide +kernel
theorem dX5_numberAt_23 : decode cX5_numberAt 23 = .ok (.iadd, 1) := by decide +kernel
theorem dX5_numberAt_24 : decode cX5_numberAt 24 = .ok (.bipush 48, 2) := by decide +kernel
theorem dX5_numberAt_26 : decode cX5_numberAt 26 = .ok (.isub, 1) := by decide +kernel
theorem dX5_numberAt_27 : decode cX5_numberAt 27 = .ok (.istore_n 3, 1) := by decide +kernel
theorem dX5_numberAt_28 : decode cX5_numberAt 28 = .ok (.iinc 4 1, 3) := by decide +kernel
theorem dX5_numberAt_31 : decode cX5_numberAt 31 = .ok (.goto (-26), 3) := by decide +kernel
theorem dX5_numberAt_34 : decode cX5_numberAt 34 = .ok (.iload_n 3, 1) := by decide +kernel
theorem dX5_numberAt_35 : decode cX5_numberAt 35 = .ok (.ireturn, 1) := by decide +kernel
theorem dX6_init_0 : decode cX6_init 0 = .ok (.aload_n 0, 1) := by decide +kernel
theorem dX6_init_1 : decode cX6_init 1 = .ok (.invokespecial 3, 3) := by decide +kernel
theorem dX6_init_4 : decode cX6_init 4 = .ok (.aload_n 0, 1) := by decide +kernel
theorem dX6_init_5 : decode cX6_init 5 = .ok (.bipush 6, 2) := by decide +kernel
theorem dX6_init_7 : decode cX6_init 7 = .ok (.bipush 6, 2) := by decide +kernel
theorem dX6_init_9 : decode cX6_init 9 = .ok (.multianewarray 9 2, 4) := by decide +kernel
theorem dX6_init_13 : decode cX6_init 13 = .ok (.putfield 11, 3) := by decide +kernel
theorem dX6_init_16 : decode cX6_init 16 = .ok (.aload_n 0, 1) := by decide +kernel
theorem dX6_init_17 : decode cX6_init 17 = .ok (.bipush 6, 2) := by decide +kernel
theorem dX6_init_19 : decode cX6_init 19 = .ok (.newarray .int, 2) := by decide +kernel
theorem dX6_init_21 : decode cX6_init 21 = .ok (.putfield 16, 3) := by decide +kernel
theorem dX6_init_24 : decode cX6_init 24 = .ok (.aload_n 0, 1) := by decide +kernel
theorem dX6_init_25 : decode cX6_init 25 = .ok (.bipush 6, 2) := by decide +kernel
theorem dX6_init_27 : decode cX6_init 27 = .ok (.newarray .int, 2) := by decide +kernel
theorem dX6_init_29 : decode cX6_init 29 = .ok (.putfield 20, 3) := by decide +kernel
theorem dX6_init_32 : decode cX6_init 32 = .ok (.return_, 1) := by decide +kernel
theorem dX6_run_0 : decode cX6_run 0 = .ok (.aload_n 0, 1) := by decide +kernel
theorem dX6_run_1 : decode cX6_run 1 = .ok (.aload_n 1, 1) := by decide +kernel
theorem dX6_run_2 : decode cX6_run 2 = .ok (.aload_n 2, 1) := by decide +kernel
theorem dX6_run_3 : decode cX6_run 3 = .ok (.invokevirtual 23, 3) := by decide +kernel
theorem dX6_run_6 : decode cX6_run 6 = .ok (.aload_n 2, 1) := by decide +kernel
theorem dX6_run_7 : decode cX6_run 7 = .ok (.aload_n 1, 1) := by decide +kernel
theorem dX6_run_8 : decode cX6_run 8 = .ok (.invokevirtual 27, 3) := by decide +kernel
theorem dX6_run_11 : decode cX6_run 11 = .ok (.istore 4, 2) := by decide +kernel
theorem dX6_run_13 : decode cX6_run 13 = .ok (.iconst 1, 1) := by decide +kernel
theorem dX6_run_14 : decode cX6_run 14 = .ok (.istore 5, 2) := by decide +kernel
theorem dX6_run_16 : decode cX6_run 16 = .ok (.iconst 0, 1) := by decide +kernel
theorem dX6_run_17 : decode cX6_run 17 = .ok (.istore 6, 2) := by decide +kernel
theorem dX6_run_19 : decode cX6_run 19 = .ok (.iload 6, 2) := by decide +kernel
theorem dX6_run_21 : decode cX6_run 21 = .ok (.sipush 720, 3) := by decide +kernel
theorem dX6_run_24 : decode cX6_run 24 = .ok (.if_icmp .ge 134, 3) := by decide +kernel
theorem dX6_run_27 : decode cX6_run 27 = .ok (.iload 5, 2) := by decide +kernel
theorem dX6_run_29 : decode cX6_run 29 = .ok (.ifCond .eq 129, 3) := by decide +kernel
theorem dX6_run_32 : decode cX6_run 32 = .ok (.iconst 0, 1) := by decide +kernel
theorem dX6_run_33 : decode cX6_run 33 = .ok (.istore 7, 2) := by decide +kernel
theorem dX6_run_35 : decode cX6_run 35 = .ok (.iload 7, 2) := by decide +kernel
theorem dX6_run_37 : decode cX6_run 37 = .ok (.aload_n 1, 1) := by decide +kernel
theorem dX6_run_38 : decode cX6_run 38 = .ok (.getfield 33, 3) := by decide +kernel
theorem dX6_run_41 : decode cX6_run 41 = .ok (.if_icmp .ge 31, 3) := by decide +kernel
theorem dX6_run_44 : decode cX6_run 44 = .ok (.aload_n 3, 1) := by decide +kernel
theorem dX6_run_45 : decode cX6_run 45 = .ok (.getfield 39, 3) := by decide +kernel
theorem dX6_run_48 : decode cX6_run 48 = .ok (.iload 7, 2) := by decide +kernel
theorem dX6_run_50 : decode cX6_run 50 = .ok (.aload_n 0, 1) := by decide +kernel
theorem dX6_run_51 : decode cX6_run 51 = .ok (.getfield 11, 3) := by decide +kernel
theorem dX6_run_54 : decode cX6_run 54 = .ok (.iload 7, 2) := by decide +kernel
theorem dX6_run_56 : decode cX6_run 56 = .ok (.aaload, 1) := by decide +kernel
theorem dX6_run_57 : decode cX6_run 57 = .ok (.aload_n 0, 1) := by decide +kernel
theorem dX6_run_58 : decode cX6_run 58 = .ok (.getfield 16, 3) := by decide +kernel
theorem dX6_run_61 : decode cX6_run 61 = .ok (.iload 7, 2) := by decide +kernel
theorem dX6_run_63 : decode cX6_run 63 = .ok (.iaload, 1) := by decide +kernel
theorem dX6_run_64 : decode cX6_run 64 = .ok (.iaload, 1) := by decide +kernel
theorem dX6_run_65 : decode cX6_run 65 = .ok (.iastore, 1) := by decide +kernel
theorem dX6_run_66 : decode cX6_run 66 = .ok (.iinc 7 1, 3) := by decide +kernel
theorem dX6_run_69 : decode cX6_run 69 = .ok (.goto (-34), 3) := by decide +kernel
theorem dX6_run_72 : decode cX6_run 72 = .ok (.aload_n 3, 1) := by decide +kernel
theorem dX6_run_73 : decode cX6_run 73 = .ok (.aload_n 1, 1) := by decide +kernel
theorem dX6_run_74 : decode cX6_run 74 = .ok (.iload 4, 2) := by decide +kernel
theorem dX6_run_76 : decode cX6_run 76 = .ok (.aload_n 2, 1) := by decide +kernel
theorem dX6_run_77 : decode cX6_run 77 = .ok (.getfield 44, 3) := by decide +kernel
theorem dX6_run_80 : decode cX6_run 80 = .ok (.invokevirtual 47, 3) := by decide +kernel
theorem dX6_run_83 : decode cX6_run 83 = .ok (.aload_n 3, 1) := by decide +kernel
theorem dX6_run_84 : decode cX6_run 84 = .ok (.aload_n 1, 1) := by decide +kernel
theorem dX6_run_85 : decode cX6_run 85 = .ok (.invokevirtual 51, 3) := by decide +kernel
theorem dX6_run_88 : decode cX6_run 88 = .ok (.invokestatic 54, 3) := by decide +kernel
theorem dX6_run_91 : decode cX6_run 91 = .ok (.istore 7, 2) := by decide +kernel
theorem dX6_run_93 : decode cX6_run 93 = .ok (.iload 7, 2) := by decide +kernel
theorem dX6_run_95 : decode cX6_run 95 = .ok (.aload_n 0, 1) := by decide +kernel
theorem dX6_run_96 : decode cX6_run 96 = .ok (.getfield 60, 3) := by decide +kernel
theorem dX6_run_99 : decode cX6_run 99 = .ok (.if_icmp .le 24, 3) := by decide +kernel
theorem dX6_run_102 : decode cX6_run 102 = .ok (.aload_n 0, 1) := by decide +kernel
theorem dX6_run_103 : decode cX6_run 103 = .ok (.iload 7, 2) := by decide +kernel
theorem dX6_run_105 : decode cX6_run 105 = .ok (.putfield 60, 3) := by decide +kernel
theorem dX6_run_108 : decode cX6_run 108 = .ok (.aload_n 0, 1) := by decide +kernel
theorem dX6_run_109 : decode cX6_run 109 = .ok (.getfield 16, 3) := by decide +kernel
theorem dX6_run_112 : decode cX6_run 112 = .ok (.iconst 0, 1) := by decide +kernel
theorem dX6_run_113 : decode cX6_run 113 = .ok (.aload_n 0, 1) := by decide +kernel
theorem dX6_run_114 : decode cX6_run 114 = .ok (.getfield 20, 3) := by decide +kernel
theorem dX6_run_117 : decode cX6_run 117 = .ok (.iconst 0, 1) := by decide +kernel
theorem dX6_run_118 : decode cX6_run 118 = .ok (.bipush 6, 2) := by decide +kernel
theorem dX6_run_120 : decode cX6_run 120 = .ok (.invokestatic 63, 3) := by decide +kernel
theorem dX6_run_123 : decode cX6_run 123 = .ok (.aload_n 0, 1) := by decide +kernel
theorem dX6_run_124 : decode cX6_run 124 = .ok (.getfield 60, 3) := by decide +kernel
theorem dX6_run_127 : decode cX6_run 127 = .ok (.aload_n 1, 1) := by decide +kernel
theorem dX6_run_128 : decode cX6_run 128 = .ok (.getfield 69, 3) := by decide +kernel
theorem dX6_run_131 : decode cX6_run 131 = .ok (.if_icmp .ge 18, 3) := by decide +kernel
theorem dX6_run_134 : decode cX6_run 134 = .ok (.aload_n 0, 1) := by decide +kernel
theorem dX6_run_135 : decode cX6_run 135 = .ok (.aload_n 1, 1) := by decide +kernel
theorem dX6_run_136 : decode cX6_run 136 = .ok (.getfield 33, 3) := by decide +kernel
theorem dX6_run_139 : decode cX6_run 139 = .ok (.invokevirtual 72, 3) := by decide +kernel
theorem dX6_run_142 : decode cX6_run 142 = .ok (.ifCond .eq 7, 3) := by decide +kernel
theorem dX6_run_145 : decode cX6_run 145 = .ok (.iconst 1, 1) := by decide +kernel
theorem dX6_run_146 : decode cX6_run 146 = .ok (.goto 4, 3) := by decide +kernel
theorem dX6_run_149 : decode cX6_run 149 = .ok (.iconst 0, 1) := by decide +kernel
theorem dX6_run_150 : decode cX6_run 150 = .ok (.istore 5, 2) := by decide +kernel
theorem dX6_run_152 : decode cX6_run 152 = .ok (.iinc 6 1, 3) := by decide +kernel
theorem dX6_run_155 : decode cX6_run 155 = .ok (.goto (-136), 3) := by decide +kernel
theorem dX6_run_158 : decode cX6_run 158 = .ok (.return_, 1) := by decide +kernel
theorem dX6_prepare_0 : decode cX6_prepare 0 = .ok (.aload_n 0, 1) := by decide +kernel
theorem dX6_prepare_1 : decode cX6_prepare 1 = .ok (.iconst (-1), 1) := by decide +kernel
theorem dX6_prepare_2 : decode cX6_prepare 2 = .ok (.putfield 60, 3) := by decide +kernel
theorem dX6_prepare_5 : decode cX6_prepare 5 = .ok (.iconst 0, 1) := by decide +kernel
theorem dX6_prepare_6 : decode cX6_prepare 6 = .ok (.istore_n 3, 1) := by decide +kernel
theorem dX6_prepare_7 : decode cX6_prepare 7 = .ok (.iload_n 3, 1) := by decide +kernel
theorem dX6_prepare_8 : decode cX6_prepare 8 = .ok (.aload_n 1, 1) := by decide +kernel
theorem dX6_prepare_9 : decode cX6_prepare 9 = .ok (.getfield 33, 3) := by decide +kernel
theorem dX6_prepare_12 : decode cX6_prepare 12 = .ok (.if_icmp .ge 66, 3) := by decide +kernel
theorem dX6_prepare_15 : decode cX6_prepare 15 = .ok (.aload_n 0, 1) := by decide +kernel
theorem dX6_prepare_16 : decode cX6_prepare 16 = .ok (.getfield 16, 3) := by decide +kernel
theorem dX6_prepare_19 : decode cX6_prepare 19 = .ok (.iload_n 3, 1) := by decide +kernel
theorem dX6_prepare_20 : decode cX6_prepare 20 = .ok (.iload_n 3, 1) := by decide +kernel
theorem dX6_prepare_21 : decode cX6_prepare 21 = .ok (.iastore, 1) := by decide +kernel
theorem dX6_prepare_22 : decode cX6_prepare 22 = .ok (.iconst 0, 1) := by decide +kernel
theorem dX6_prepare_23 : decode cX6_prepare 23 = .ok (.istore 4, 2) := by decide +kernel
theorem dX6_prepare_25 : decode cX6_prepare 25 = .ok (.iload 4, 2) := by decide +kernel
theorem dX6_prepare_27 : decode cX6_prepare 27 = .ok (.aload_n 1, 1) := by decide +kernel
theorem dX6_prepare_28 : decode cX6_prepare 28 = .ok (.getfield 33, 3) := by decide +kernel
theorem dX6_prepare_31 : decode cX6_prepare 31 = .ok (.if_icmp .ge 41, 3) := by decide +kernel
theorem dX6_prepare_34 : decode cX6_prepare 34 = .ok (.aload_n 0, 1) := by decide +kernel
theorem dX6_prepare_35 : decode cX6_prepare 35 = .ok (.getfield 11, 3) := by decide +kernel
theorem dX6_prepare_38 : decode cX6_prepare 38 = .ok (.iload_n 3, 1) := by decide +kernel
theorem dX6_prepare_39 : decode cX6_prepare 39 = .ok (.aaload, 1) := by decide +kernel
theorem dX6_prepare_40 : decode cX6_prepare 40 = .ok (.iload 4, 2) := by decide +kernel
theorem dX6_prepare_42 : decode cX6_prepare 42 = .ok (.aload_n 1, 1) := by decide +kernel
theorem dX6_prepare_43 : decode cX6_prepare 43 = .ok (.iload_n 3, 1) := by decide +kernel
theorem dX6_prepare_44 : decode cX6_prepare 44 = .ok (.aload_n 2, 1) := by decide +kernel
theorem dX6_prepare_45 : decode cX6_prepare 45 = .ok (.getfield 76, 3) := by decide +kernel
theorem dX6_prepare_48 : decode cX6_prepare 48 = .ok (.iload 4, 2) := by decide +kernel
theorem dX6_prepare_50 : decode cX6_prepare 50 = .ok (.iaload, 1) := by decide +kernel
theorem dX6_prepare_51 : decode cX6_prepare 51 = .ok (.aload_n 2, 1) := by decide +kernel
theorem dX6_prepare_52 : decode cX6_prepare 52 = .ok (.getfield 79, 3) := by decide +kernel
theorem dX6_prepare_55 : decode cX6_prepare 55 = .ok (.iload 4, 2) := by decide +kernel
theorem dX6_prepare_57 : decode cX6_prepare 57 = .ok (.iaload, 1) := by decide +kernel
theorem dX6_prepare_58 : decode cX6_prepare 58 = .ok (.aload_n 2, 1) := by decide +kernel
theorem dX6_prepare_59 : decode cX6_prepare 59 = .ok (.getfield 82, 3) := by decide +kernel
theorem dX6_prepare_62 : decode cX6_prepare 62 = .ok (.invokevirtual 85, 3) := by decide +kernel
theorem dX6_prepare_65 : decode cX6_prepare 65 = .ok (.iastore, 1) := by decide +kernel
theorem dX6_prepare_66 : decode cX6_prepare 66 = .ok (.iinc 4 1, 3) := by decide +kernel
theorem dX6_prepare_69 : decode cX6_prepare 69 = .ok (.goto (-44), 3) := by decide +kernel
theorem dX6_prepare_72 : decode cX6_prepare 72 = .ok (.iinc 3 1, 3) := by decide +kernel
theorem dX6_prepare_75 : decode cX6_prepare 75 = .ok (.goto (-68), 3) := by decide +kernel
theorem dX6_prepare_78 : decode cX6_prepare 78 = .ok (.return_, 1) := by decide +kernel
theorem dX6_nextWay_0 : decode cX6_nextWay 0 = .ok (.iload_n 1, 1) := by decide +kernel
theorem dX6_nextWay_1 : decode cX6_nextWay 1 = .ok (.iconst 2, 1) := by decide +kernel
theorem dX6_nextWay_2 : decode cX6_nextWay 2 = .ok (.isub, 1) := by decide +kernel
theorem dX6_nextWay_3 : decode cX6_nextWay 3 = .ok (.istore_n 2, 1) := by decide +kernel
theorem dX6_nextWay_4 : decode cX6_nextWay 4 = .ok (.iload_n 2, 1) := by decide +kernel
theorem dX6_nextWay_5 : decode cX6_nextWay 5 = .ok (.ifCond .lt 26, 3) := by decide +kernel
theorem dX6_nextWay_8 : decode cX6_nextWay 8 = .ok (.aload_n 0, 1) := by decide +kernel
theorem dX6_nextWay_9 : decode cX6_nextWay 9 = .ok (.getfield 16, 3) := by decide +kernel
theorem dX6_nextWay_12 : decode cX6_nextWay 12 = .ok (.iload_n 2, 1) := by decide +kernel
theorem dX6_nextWay_13 : decode cX6_nextWay 13 = .ok (.iaload, 1) := by decide +kernel
theorem dX6_nextWay_14 : decode cX6_nextWay 14 = .ok (.aload_n 0, 1) := by decide +kernel
theorem dX6_nextWay_15 : decode cX6_nextWay 15 = .ok (.getfield 16, 3) := by decide +kernel
theorem dX6_nextWay_18 : decode cX6_nextWay 18 = .ok (.iload_n 2, 1) := by decide +kernel
theorem dX6_nextWay_19 : decode cX6_nextWay 19 = .ok (.iconst 1, 1) := by decide +kernel
theorem dX6_nextWay_20 : decode cX6_nextWay 20 = .ok (.iadd, 1) := by decide +kernel
theorem dX6_nextWay_21 : decode cX6_nextWay 21 = .ok (.iaload, 1) := by decide +kernel
theorem dX6_nextWay_22 : decode cX6_nextWay 22 = .ok (.if_icmp .le 9, 3) := by decide +kernel
theorem dX6_nextWay_25 : decode cX6_nextWay 25 = .ok (.iinc 2 (-1), 3) := by decide +kernel
theorem dX6_nextWay_28 : decode cX6_nextWay 28 = .ok (.goto (-24), 3) := by decide +kernel
theorem dX6_nextWay_31 : decode cX6_nextWay 31 = .ok (.iload_n 2, 1) := by decide +kernel
theorem dX6_nextWay_32 : decode cX6_nextWay 32 = .ok (.ifCond .ge 5, 3) := by decide +kernel
theorem dX6_nextWay_35 : decode cX6_nextWay 35 = .ok (.iconst 0, 1) := by decide +kernel
theorem dX6_nextWay_36 : decode cX6_nextWay 36 = .ok (.ireturn, 1) := by decide +kernel
theorem dX6_nextWay_37 : decode cX6_nextWay 37 = .ok (.iload_n 1, 1) := by decide +kernel
theorem dX6_nextWay_38 : decode cX6_nextWay 38 = .ok (.iconst 1, 1) := by decide +kernel
theorem dX6_nextWay_39 : decode cX6_nextWay 39 = .ok (.isub, 1) := by decide +kernel
theorem dX6_nextWay_40 : decode cX6_nextWay 40 = .ok (.istore_n 3, 1) := by decide +kernel
theorem dX6_nextWay_41 : decode cX6_nextWay 41 = .ok (.iload_n 3, 1) := by decide +kernel
theorem dX6_nextWay_42 : decode cX6_nextWay 42 = .ok (.iload_n 2, 1) := by decide +kernel
theorem dX6_nextWay_43 : decode cX6_nextWay 43 = .ok (.if_icmp .le 24, 3) := by decide +kernel
theorem dX6_nextWay_46 : decode cX6_nextWay 46 = .ok (.aload_n 0, 1) := by decide +kernel
theorem dX6_nextWay_47 : decode cX6_nextWay 47 = .ok (.getfield 16, 3) := by decide +kernel
theorem dX6_nextWay_50 : decode cX6_nextWay 50 = .ok (.iload_n 3, 1) := by decide +kernel
theorem dX6_nextWay_51 : decode cX6_nextWay 51 = .ok (.iaload, 1) := by decide +kernel
theorem dX6_nextWay_52 : decode cX6_nextWay 52 = .ok (.aload_n 0, 1) := by decide +kernel
theorem dX6_nextWay_53 : decode cX6_nextWay 53 = .ok (.getfield 16, 3) := by decide +kernel
theorem dX6_nextWay_56 : decode cX6_nextWay 56 = .ok (.iload_n 2, 1) := by decide +kernel
theorem dX6_nextWay_57 : decode cX6_nextWay 57 = .ok (.iaload, 1) := by decide +kernel
theorem dX6_nextWay_58 : decode cX6_nextWay 58 = .ok (.if_icmp .ge 9, 3) := by decide +kernel
theorem dX6_nextWay_61 : decode cX6_nextWay 61 = .ok (.iinc 3 (-1), 3) := by decide +kernel
theorem dX6_nextWay_64 : decode cX6_nextWay 64 = .ok (.goto (-23), 3) := by decide +kernel
theorem dX6_nextWay_67 : decode cX6_nextWay 67 = .ok (.aload_n 0, 1) := by decide +kernel
theorem dX6_nextWay_68 : decode cX6_nextWay 68 = .ok (.getfield 16, 3) := by decide +kernel
theorem dX6_nextWay_71 : decode cX6_nextWay 71 = .ok (.iload_n 2, 1) := by decide +kernel
theorem dX6_nextWay_72 : decode cX6_nextWay 72 = .ok (.iload_n 3, 1) := by decide +kernel
theorem dX6_nextWay_73 : decode cX6_nextWay 73 = .ok (.invokestatic 89, 3) := by decide +kernel
theorem dX6_nextWay_76 : decode cX6_nextWay 76 = .ok (.iload_n 2, 1) := by decide +kernel
theorem dX6_nextWay_77 : decode cX6_nextWay 77 = .ok (.iconst 1, 1) := by decide +kernel
theorem dX6_nextWay_78 : decode cX6_nextWay 78 = .ok (.iadd, 1) := by decide +kernel
theorem dX6_nextWay_79 : decode cX6_nextWay 79 = .ok (.istore 4, 2) := by decide +kernel
theorem dX6_nextWay_81 : decode cX6_nextWay 81 = .ok (.iload_n 1, 1) := by decide +kernel
theorem dX6_nextWay_82 : decode cX6_nextWay 82 = .ok (.iconst 1, 1) := by decide +kernel
theorem dX6_nextWay_83 : decode cX6_nextWay 83 = .ok (.isub, 1) := by decide +kernel
theorem dX6_nextWay_84 : decode cX6_nextWay 84 = .ok (.istore 5, 2) := by decide +kernel
theorem dX6_nextWay_86 : decode cX6_nextWay 86 = .ok (.iload 4, 2) := by decide +kernel
theorem dX6_nextWay_88 : decode cX6_nextWay 88 = .ok (.iload 5, 2) := by decide +kernel
theorem dX6_nextWay_90 : decode cX6_nextWay 90 = .ok (.if_icmp .ge 23, 3) := by decide +kernel
theorem dX6_nextWay_93 : decode cX6_nextWay 93 = .ok (.aload_n 0, 1) := by decide +kernel
theorem dX6_nextWay_94 : decode cX6_nextWay 94 = .ok (.getfield 16, 3) := by decide +kernel
theorem dX6_nextWay_97 : decode cX6_nextWay 97 = .ok (.iload 4, 2) := by decide +kernel
theorem dX6_nextWay_99 : decode cX6_nextWay 99 = .ok (.iload 5, 2) := by decide +kernel
theorem dX6_nextWay_101 : decode cX6_nextWay 101 = .ok (.invokestatic 89, 3) := by decide +kernel
theorem dX6_nextWay_104 : decode cX6_nextWay 104 = .ok (.iinc 4 1, 3) := by decide +kernel
theorem dX6_nextWay_107 : decode cX6_nextWay 107 = .ok (.iinc 5 (-1), 3) := by decide +kernel
theorem dX6_nextWay_110 : decode cX6_nextWay 110 = .ok (.goto (-24), 3) := by decide +kernel
theorem dX6_nextWay_113 : decode cX6_nextWay 113 = .ok (.iconst 1, 1) := by decide +kernel
theorem dX6_nextWay_114 : decode cX6_nextWay 114 = .ok (.ireturn, 1) := by decide +kernel
theorem dX7_init_0 : decode cX7_init 0 = .ok (.aload_n 0, 1) := by decide +kernel
theorem dX7_init_1 : decode cX7_init 1 = .ok (.invokespecial 3, 3) := by decide +kernel
theorem dX7_init_4 : decode cX7_init 4 = .ok (.aload_n 0, 1) := by decide +kernel
theorem dX7_init_5 : decode cX7_init 5 = .ok (.bipush 6, 2) := by decide +kernel
theorem dX7_init_7 : decode cX7_init 7 = .ok (.newarray .int, 2) := by decide +kernel
theorem dX7_init_9 : decode cX7_init 9 = .ok (.putfield 9, 3) := by decide +kernel
theorem dX7_init_12 : decode cX7_init 12 = .ok (.aload_n 0, 1) := by decide +kernel
theorem dX7_init_13 : decode cX7_init 13 = .ok (.bipush 6, 2) := by decide +kernel
theorem dX7_init_15 : decode cX7_init 15 = .ok (.newarray .int, 2) := by decide +kernel
theorem dX7_init_17 : decode cX7_init 17 = .ok (.putfield 15, 3) := by decide +kernel
theorem dX7_init_20 : decode cX7_init 20 = .ok (.aload_n 0, 1) := by decide +kernel
theorem dX7_init_21 : decode cX7_init 21 = .ok (.bipush 6, 2) := by decide +kernel
theorem dX7_init_23 : decode cX7_init 23 = .ok (.newarray .int, 2) := by decide +kernel
theorem dX7_init_25 : decode cX7_init 25 = .ok (.putfield 18, 3) := by decide +kernel
theorem dX7_init_28 : decode cX7_init 28 = .ok (.return_, 1) := by decide +kernel
theorem dX7_begin_0 : decode cX7_begin 0 = .ok (.aload_n 0, 1) := by decide +kernel
theorem dX7_begin_1 : decode cX7_begin 1 = .ok (.iconst 0, 1) := by decide +kernel
theorem dX7_begin_2 : decode cX7_begin 2 = .ok (.putfield 21, 3) := by decide +kernel
theorem dX7_begin_5 : decode cX7_begin 5 = .ok (.aload_n 0, 1) := by decide +kernel
theorem dX7_begin_6 : decode cX7_begin 6 = .ok (.iconst 0, 1) := by decide +kernel
theorem dX7_begin_7 : decode cX7_begin 7 = .ok (.putfield 25, 3) := by decide +kernel
theorem dX7_begin_10 : decode cX7_begin 10 = .ok (.iconst 0, 1) := by decide +kernel
theorem dX7_begin_11 : decode cX7_begin 11 = .ok (.istore_n 2, 1) := by decide +kernel
theorem dX7_begin_12 : decode cX7_begin 12 = .ok (.iload_n 2, 1) := by decide +kernel
theorem dX7_begin_13 : decode cX7_begin 13 = .ok (.bipush 6, 2) := by decide +kernel
theorem dX7_begin_15 : decode cX7_begin 15 = .ok (.if_icmp .ge 40, 3) := by decide +kernel
theorem dX7_begin_18 : decode cX7_begin 18 = .ok (.aload_n 0, 1) := by decide +kernel
theorem dX7_begin_19 : decode cX7_begin 19 = .ok (.getfield 9, 3) := by decide +kernel
theorem dX7_begin_22 : decode cX7_begin 22 = .ok (.iload_n 2, 1) := by decide +kernel
theorem dX7_begin_23 : decode cX7_begin 23 = .ok (.iconst 0, 1) := by decide +kernel
theorem dX7_begin_24 : decode cX7_begin 24 = .ok (.iastore, 1) := by decide +kernel
theorem dX7_begin_25 : decode cX7_begin 25 = .ok (.aload_n 0, 1) := by decide +kernel
theorem dX7_begin_26 : decode cX7_begin 26 = .ok (.getfield 15, 3) := by decide +kernel
theorem dX7_begin_29 : decode cX7_begin 29 = .ok (.iload_n 2, 1) := by decide +kernel
theorem dX7_begin_30 : decode cX7_begin 30 = .ok (.aload_n 1, 1) := by decide +kernel
theorem dX7_begin_31 : decode cX7_begin 31 = .ok (.getfield 28, 3) := by decide +kernel
theorem dX7_begin_34 : decode cX7_begin 34 = .ok (.iload_n 2, 1) := by decide +kernel
theorem dX7_begin_35 : decode cX7_begin 35 = .ok (.iaload, 1) := by decide +kernel
theorem dX7_begin_36 : decode cX7_begin 36 = .ok (.iastore, 1) := by decide +kernel
theorem dX7_begin_37 : decode cX7_begin 37 = .ok (.aload_n 0, 1) := by decide +kernel
theorem dX7_begin_38 : decode cX7_begin 38 = .ok (.getfield 18, 3) := by decide +kernel
theorem dX7_begin_41 : decode cX7_begin 41 = .ok (.iload_n 2, 1) := by decide +kernel
theorem dX7_begin_42 : decode cX7_begin 42 = .ok (.aload_n 1, 1) := by decide +kernel
theorem dX7_begin_43 : decode cX7_begin 43 = .ok (.getfield 31, 3) := by decide +kernel
theorem dX7_begin_46 : decode cX7_begin 46 = .ok (.iload_n 2, 1) := by decide +kernel
theorem dX7_begin_47 : decode cX7_begin 47 = .ok (.iaload, 1) := by decide +kernel
theorem dX7_begin_48 : decode cX7_begin 48 = .ok (.iastore, 1) := by decide +kernel
theorem dX7_begin_49 : decode cX7_begin 49 = .ok (.iinc 2 1, 3) := by decide +kernel
theorem dX7_begin_52 : decode cX7_begin 52 = .ok (.goto (-40), 3) := by decide +kernel
theorem dX7_begin_55 : decode cX7_begin 55 = .ok (.return_, 1) := by decide +kernel
theorem dX7_copy_0 : decode cX7_copy 0 = .ok (.aload_n 0, 1) := by decide +kernel
theorem dX7_copy_1 : decode cX7_copy 1 = .ok (.aload_n 1, 1) := by decide +kernel
theorem dX7_copy_2 : decode cX7_copy 2 = .ok (.getfield 21, 3) := by decide +kernel
theorem dX7_copy_5 : decode cX7_copy 5 = .ok (.putfield 21, 3) := by decide +kernel
theorem dX7_copy_8 : decode cX7_copy 8 = .ok (.aload_n 0, 1) := by decide +kernel
theorem dX7_copy_9 : decode cX7_copy 9 = .ok (.aload_n 1, 1) := by decide +kernel
theorem dX7_copy_10 : decode cX7_copy 10 = .ok (.getfield 25, 3) := by decide +kernel
theorem dX7_copy_13 : decode cX7_copy 13 = .ok (.putfield 25, 3) := by decide +kernel
theorem dX7_copy_16 : decode cX7_copy 16 = .ok (.iconst 0, 1) := by decide +kernel
theorem dX7_copy_17 : decode cX7_copy 17 = .ok (.istore_n 2, 1) := by decide +kernel
theorem dX7_copy_18 : decode cX7_copy 18 = .ok (.iload_n 2, 1) := by decide +kernel
theorem dX7_copy_19 : decode cX7_copy 19 = .ok (.bipush 6, 2) := by decide +kernel
theorem dX7_copy_21 : decode cX7_copy 21 = .ok (.if_icmp .ge 45, 3) := by decide +kernel
theorem dX7_copy_24 : decode cX7_copy 24 = .ok (.aload_n 0, 1) := by decide +kernel
theorem dX7_copy_25 : decode cX7_copy 25 = .ok (.getfield 9, 3) := by decide +kernel
theorem dX7_copy_28 : decode cX7_copy 28 = .ok (.iload_n 2, 1) := by decide +kernel
theorem dX7_copy_29 : decode cX7_copy 29 = .ok (.aload_n 1, 1) := by decide +kernel
theorem dX7_copy_30 : decode cX7_copy 30 = .ok (.getfield 9, 3) := by decide +kernel
theorem dX7_copy_33 : decode cX7_copy 33 = .ok (.iload_n 2, 1) := by decide +kernel
theorem dX7_copy_34 : decode cX7_copy 34 = .ok (.iaload, 1) := by decide +kernel
theorem dX7_copy_35 : decode cX7_copy 35 = .ok (.iastore, 1) := by decide +kernel
theorem dX7_copy_36 : decode cX7_copy 36 = .ok (.aload_n 0, 1) := by decide +kernel
theorem dX7_copy_37 : decode cX7_copy 37 = .ok (.getfield 15, 3) := by decide +kernel
theorem dX7_copy_40 : decode cX7_copy 40 = .ok (.iload_n 2, 1) := by decide +kernel
theorem dX7_copy_41 : decode cX7_copy 41 = .ok (.aload_n 1, 1) := by decide +kernel
theorem dX7_copy_42 : decode cX7_copy 42 = .ok (.getfield 15, 3) := by decide +kernel
theorem dX7_copy_45 : decode cX7_copy 45 = .ok (.iload_n 2, 1) := by decide +kernel
theorem dX7_copy_46 : decode cX7_copy 46 = .ok (.iaload, 1) := by decide +kernel
theorem dX7_copy_47 : decode cX7_copy 47 = .ok (.iastore, 1) := by decide +kernel
theorem dX7_copy_48 : decode cX7_copy 48 = .ok (.aload_n 0, 1) := by decide +kernel
theorem dX7_copy_49 : decode cX7_copy 49 = .ok (.getfield 18, 3) := by decide +kernel
theorem dX7_copy_52 : decode cX7_copy 52 = .ok (.iload_n 2, 1) := by decide +kernel
theorem dX7_copy_53 : decode cX7_copy 53 = .ok (.aload_n 1, 1) := by decide +kernel
theorem dX7_copy_54 : decode cX7_copy 54 = .ok (.getfield 18, 3) := by decide +kernel
theorem dX7_copy_57 : decode cX7_copy 57 = .ok (.iload_n 2, 1) := by decide +kernel
theorem dX7_copy_58 : decode cX7_copy 58 = .ok (.iaload, 1) := by decide +kernel
theorem dX7_copy_59 : decode cX7_copy 59 = .ok (.iastore, 1) := by decide +kernel
theorem dX7_copy_60 : decode cX7_copy 60 = .ok (.iinc 2 1, 3) := by decide +kernel
theorem dX7_copy_63 : decode cX7_copy 63 = .ok (.goto (-45), 3) := by decide +kernel
theorem dX7_copy_66 : decode cX7_copy 66 = .ok (.return_, 1) := by decide +kernel
theorem dX7_goBy_0 : decode cX7_goBy 0 = .ok (.aload_n 0, 1) := by decide +kernel
theorem dX7_goBy_1 : decode cX7_goBy 1 = .ok (.dup, 1) := by decide +kernel
theorem dX7_goBy_2 : decode cX7_goBy 2 = .ok (.getfield 21, 3) := by decide +kernel
theorem dX7_goBy_5 : decode cX7_goBy 5 = .ok (.iload_n 2, 1) := by decide +kernel
theorem dX7_goBy_6 : decode cX7_goBy 6 = .ok (.iadd, 1) := by decide +kernel
theorem dX7_goBy_7 : decode cX7_goBy 7 = .ok (.putfield 21, 3) := by decide +kernel
theorem dX7_goBy_10 : decode cX7_goBy 10 = .ok (.iconst 0, 1) := by decide +kernel
theorem dX7_goBy_11 : decode cX7_goBy 11 = .ok (.istore_n 3, 1) := by decide +kernel
theorem dX7_goBy_12 : decode cX7_goBy 12 = .ok (.iload_n 3, 1) := by decide +kernel
theorem dX7_goBy_13 : decode cX7_goBy 13 = .ok (.aload_n 1, 1) := by decide +kernel
theorem dX7_goBy_14 : decode cX7_goBy 14 = .ok (.getfield 32, 3) := by decide +kernel
theorem dX7_goBy_17 : decode cX7_goBy 17 = .ok (.if_icmp .ge 26, 3) := by decide +kernel
theorem dX7_goBy_20 : decode cX7_goBy 20 = .ok (.aload_n 0, 1) := by decide +kernel
theorem dX7_goBy_21 : decode cX7_goBy 21 = .ok (.getfield 9, 3) := by decide +kernel
theorem dX7_goBy_24 : decode cX7_goBy 24 = .ok (.iload_n 3, 1) := by decide +kernel
theorem dX7_goBy_25 : decode cX7_goBy 25 = .ok (.dup2, 1) := by decide +kernel
theorem dX7_goBy_26 : decode cX7_goBy 26 = .ok (.iaload, 1) := by decide +kernel
theorem dX7_goBy_27 : decode cX7_goBy 27 = .ok (.aload_n 1, 1) := by decide +kernel
theorem dX7_goBy_28 : decode cX7_goBy 28 = .ok (.getfield 35, 3) := by decide +kernel
theorem dX7_goBy_31 : decode cX7_goBy 31 = .ok (.iload_n 3, 1) := by decide +kernel
theorem dX7_goBy_32 : decode cX7_goBy 32 = .ok (.iaload, 1) := by decide +kernel
theorem dX7_goBy_33 : decode cX7_goBy 33 = .ok (.iload_n 2, 1) := by decide +kernel
theorem dX7_goBy_34 : decode cX7_goBy 34 = .ok (.imul, 1) := by decide +kernel
theorem dX7_goBy_35 : decode cX7_goBy 35 = .ok (.iadd, 1) := by decide +kernel
theorem dX7_goBy_36 : decode cX7_goBy 36 = .ok (.iastore, 1) := by decide +kernel
theorem dX7_goBy_37 : decode cX7_goBy 37 = .ok (.iinc 3 1, 3) := by decide +kernel
theorem dX7_goBy_40 : decode cX7_goBy 40 = .ok (.goto (-28), 3) := by decide +kernel
theorem dX7_goBy_43 : decode cX7_goBy 43 = .ok (.return_, 1) := by decide +kernel
theorem dX7_paying_0 : decode cX7_paying 0 = .ok (.iconst 0, 1) := by decide +kernel
theorem dX7_paying_1 : decode cX7_paying 1 = .ok (.istore_n 2, 1) := by decide +kernel
theorem dX7_paying_2 : decode cX7_paying 2 = .ok (.iconst 0, 1) := by decide +kernel
theorem dX7_paying_3 : decode cX7_paying 3 = .ok (.istore_n 3, 1) := by decide +kernel
theorem dX7_paying_4 : decode cX7_paying 4 = .ok (.iload_n 3, 1) := by decide +kernel
theorem dX7_paying_5 : decode cX7_paying 5 = .ok (.aload_n 1, 1) := by decide +kernel
theorem dX7_paying_6 : decode cX7_paying 6 = .ok (.getfield 32, 3) := by decide +kernel
theorem dX7_paying_9 : decode cX7_paying 9 = .ok (.if_icmp .ge 28, 3) := by decide +kernel
theorem dX7_paying_12 : decode cX7_paying 12 = .ok (.aload_n 0, 1) := by decide +kernel
theorem dX7_paying_13 : decode cX7_paying 13 = .ok (.getfield 9, 3) := by decide +kernel
theorem dX7_paying_16 : decode cX7_paying 16 = .ok (.iload_n 3, 1) := by decide +kernel
theorem dX7_paying_17 : decode cX7_paying 17 = .ok (.iaload, 1) := by decide +kernel
theorem dX7_paying_18 : decode cX7_paying 18 = .ok (.aload_n 1, 1) := by decide +kernel
theorem dX7_paying_19 : decode cX7_paying 19 = .ok (.getfield 38, 3) := by decide +kernel
theorem dX7_paying_22 : decode cX7_paying 22 = .ok (.if_icmp .gt 9, 3) := by decide +kernel
theorem dX7_paying_25 : decode cX7_paying 25 = .ok (.iload_n 2, 1) := by decide +kernel
theorem dX7_paying_26 : decode cX7_paying 26 = .ok (.iconst 1, 1) := by decide +kernel
theorem dX7_paying_27 : decode cX7_paying 27 = .ok (.iload_n 3, 1) := by decide +kernel
theorem dX7_paying_28 : decode cX7_paying 28 = .ok (.ishl, 1) := by decide +kernel
theorem dX7_paying_29 : decode cX7_paying 29 = .ok (.ior, 1) := by decide +kernel
theorem dX7_paying_30 : decode cX7_paying 30 = .ok (.istore_n 2, 1) := by decide +kernel
theorem dX7_paying_31 : decode cX7_paying 31 = .ok (.iinc 3 1, 3) := by decide +kernel
theorem dX7_paying_34 : decode cX7_paying 34 = .ok (.goto (-30), 3) := by decide +kernel
theorem dX7_paying_37 : decode cX7_paying 37 = .ok (.iload_n 2, 1) := by decide +kernel
theorem dX7_paying_38 : decode cX7_paying 38 = .ok (.ireturn, 1) := by decide +kernel
theorem dX8_init_0 : decode cX8_init 0 = .ok (.aload_n 0, 1) := by decide +kernel
theorem dX8_init_1 : decode cX8_init 1 = .ok (.invokespecial 1, 3) := by decide +kernel
theorem dX8_init_4 : decode cX8_init 4 = .ok (.aload_n 0, 1) := by decide +kernel
theorem dX8_init_5 : decode cX8_init 5 = .ok (.new 7, 3) := by decide +kernel
theorem dX8_init_8 : decode cX8_init 8 = .ok (.dup, 1) := by decide +kernel
theorem dX8_init_9 : decode cX8_init 9 = .ok (.invokespecial 9, 3) := by decide +kernel
theorem dX8_init_12 : decode cX8_init 12 = .ok (.putfield 10, 3) := by decide +kernel
theorem dX8_init_15 : decode cX8_init 15 = .ok (.aload_n 0, 1) := by decide +kernel
theorem dX8_init_16 : decode cX8_init 16 = .ok (.new 16, 3) := by decide +kernel
theorem dX8_init_19 : decode cX8_init 19 = .ok (.dup, 1) := by decide +kernel
theorem dX8_init_20 : decode cX8_init 20 = .ok (.invokespecial 18, 3) := by decide +kernel
theorem dX8_init_23 : decode cX8_init 23 = .ok (.putfield 19, 3) := by decide +kernel
theorem dX8_init_26 : decode cX8_init 26 = .ok (.aload_n 0, 1) := by decide +kernel
theorem dX8_init_27 : decode cX8_init 27 = .ok (.new 23, 3) := by decide +kernel
theorem dX8_init_30 : decode cX8_init 30 = .ok (.dup, 1) := by decide +kernel
theorem dX8_init_31 : decode cX8_init 31 = .ok (.invokespecial 25, 3) := by decide +kernel
theorem dX8_init_34 : decode cX8_init 34 = .ok (.putfield 26, 3) := by decide +kernel
theorem dX8_init_37 : decode cX8_init 37 = .ok (.aload_n 0, 1) := by decide +kernel
theorem dX8_init_38 : decode cX8_init 38 = .ok (.new 23, 3) := by decide +kernel
theorem dX8_init_41 : decode cX8_init 41 = .ok (.dup, 1) := by decide +kernel
theorem dX8_init_42 : decode cX8_init 42 = .ok (.invokespecial 25, 3) := by decide +kernel
theorem dX8_init_45 : decode cX8_init 45 = .ok (.putfield 30, 3) := by decide +kernel
theorem dX8_init_48 : decode cX8_init 48 = .ok (.aload_n 0, 1) := by decide +kernel
theorem dX8_init_49 : decode cX8_init 49 = .ok (.new 33, 3) := by decide +kernel
theorem dX8_init_52 : decode cX8_init 52 = .ok (.dup, 1) := by decide +kernel
theorem dX8_init_53 : decode cX8_init 53 = .ok (.invokespecial 35, 3) := by decide +kernel
theorem dX8_init_56 : decode cX8_init 56 = .ok (.putfield 36, 3) := by decide +kernel
theorem dX8_init_59 : decode cX8_init 59 = .ok (.aload_n 0, 1) := by decide +kernel
theorem dX8_init_60 : decode cX8_init 60 = .ok (.new 33, 3) := by decide +kernel
theorem dX8_init_63 : decode cX8_init 63 = .ok (.dup, 1) := by decide +kernel
theorem dX8_init_64 : decode cX8_init 64 = .ok (.invokespecial 35, 3) := by decide +kernel
theorem dX8_init_67 : decode cX8_init 67 = .ok (.putfield 40, 3) := by decide +kernel
theorem dX8_init_70 : decode cX8_init 70 = .ok (.aload_n 0, 1) := by decide +kernel
theorem dX8_init_71 : decode cX8_init 71 = .ok (.new 43, 3) := by decide +kernel
theorem dX8_init_74 : decode cX8_init 74 = .ok (.dup, 1) := by decide +kernel
theorem dX8_init_75 : decode cX8_init 75 = .ok (.bipush 8, 2) := by decide +kernel
theorem dX8_init_77 : decode cX8_init 77 = .ok (.invokespecial 45, 3) := by decide +kernel
theorem dX8_init_80 : decode cX8_init 80 = .ok (.putfield 48, 3) := by decide +kernel
theorem dX8_init_83 : decode cX8_init 83 = .ok (.aload_n 0, 1) := by decide +kernel
theorem dX8_init_84 : decode cX8_init 84 = .ok (.new 43, 3) := by decide +kernel
theorem dX8_init_87 : decode cX8_init 87 = .ok (.dup, 1) := by decide +kernel
theorem dX8_init_88 : decode cX8_init 88 = .ok (.iconst 2, 1) := by decide +kernel
theorem dX8_init_89 : decode cX8_init 89 = .ok (.invokespecial 45, 3) := by decide +kernel
theorem dX8_init_92 : decode cX8_init 92 = .ok (.putfield 52, 3) := by decide +kernel
theorem dX8_init_95 : decode cX8_init 95 = .ok (.aload_n 0, 1) := by decide +kernel
theorem dX8_init_96 : decode cX8_init 96 = .ok (.new 55, 3) := by decide +kernel
theorem dX8_init_99 : decode cX8_init 99 = .ok (.dup, 1) := by decide +kernel
theorem dX8_init_100 : decode cX8_init 100 = .ok (.invokespecial 57, 3) := by decide +kernel
theorem dX8_init_103 : decode cX8_init 103 = .ok (.putfield 58, 3) := by decide +kernel
theorem dX8_init_106 : decode cX8_init 106 = .ok (.aload_n 0, 1) := by decide +kernel
theorem dX8_init_107 : decode cX8_init 107 = .ok (.new 62, 3) := by decide +kernel
theorem dX8_init_110 : decode cX8_init 110 = .ok (.dup, 1) := by decide +kernel
theorem dX8_init_111 : decode cX8_init 111 = .ok (.invokespecial 64, 3) := by decide +kernel
theorem dX8_init_114 : decode cX8_init 114 = .ok (.putfield 65, 3) := by decide +kernel
theorem dX8_init_117 : decode cX8_init 117 = .ok (.aload_n 0, 1) := by decide +kernel
theorem dX8_init_118 : decode cX8_init 118 = .ok (.new 69, 3) := by decide +kernel
theorem dX8_init_121 : decode cX8_init 121 = .ok (.dup, 1) := by decide +kernel
theorem dX8_init_122 : decode cX8_init 122 = .ok (.invokespecial 71, 3) := by decide +kernel
theorem dX8_init_125 : decode cX8_init 125 = .ok (.putfield 72, 3) := by decide +kernel
theorem dX8_init_128 : decode cX8_init 128 = .ok (.iconst 0, 1) := by decide +kernel
theorem dX8_init_129 : decode cX8_init 129 = .ok (.istore_n 1, 1) := by decide +kernel
theorem dX8_init_130 : decode cX8_init 130 = .ok (.iload_n 1, 1) := by decide +kernel
theorem dX8_init_131 : decode cX8_init 131 = .ok (.ldc 76, 2) := by decide +kernel
theorem dX8_init_133 : decode cX8_init 133 = .ok (.invokevirtual 78, 3) := by decide +kernel
theorem dX8_init_136 : decode cX8_init 136 = .ok (.if_icmp .ge 23, 3) := by decide +kernel
theorem dX8_init_139 : decode cX8_init 139 = .ok (.aload_n 0, 1) := by decide +kernel
theorem dX8_init_140 : decode cX8_init 140 = .ok (.getfield 10, 3) := by decide +kernel
theorem dX8_init_143 : decode cX8_init 143 = .ok (.ldc 76, 2) := by decide +kernel
theorem dX8_init_145 : decode cX8_init 145 = .ok (.iload_n 1, 1) := by decide +kernel
theorem dX8_init_146 : decode cX8_init 146 = .ok (.invokevirtual 84, 3) := by decide +kernel
theorem dX8_init_149 : decode cX8_init 149 = .ok (.invokevirtual 88, 3) := by decide +kernel
theorem dX8_init_152 : decode cX8_init 152 = .ok (.pop, 1) := by decide +kernel
theorem dX8_init_153 : decode cX8_init 153 = .ok (.iinc 1 1, 3) := by decide +kernel
theorem dX8_init_156 : decode cX8_init 156 = .ok (.goto (-26), 3) := by decide +kernel
theorem dX8_init_159 : decode cX8_init 159 = .ok (.aload_n 0, 1) := by decide +kernel
theorem dX8_init_160 : decode cX8_init 160 = .ok (.getfield 19, 3) := by decide +kernel
theorem dX8_init_163 : decode cX8_init 163 = .ok (.aload_n 0, 1) := by decide +kernel
theorem dX8_init_164 : decode cX8_init 164 = .ok (.getfield 10, 3) := by decide +kernel
theorem dX8_init_167 : decode cX8_init 167 = .ok (.aload_n 0, 1) := by decide +kernel
theorem dX8_init_168 : decode cX8_init 168 = .ok (.getfield 26, 3) := by decide +kernel
theorem dX8_init_171 : decode cX8_init 171 = .ok (.invokevirtual 92, 3) := by decide +kernel
theorem dX8_init_174 : decode cX8_init 174 = .ok (.pop, 1) := by decide +kernel
theorem dX8_init_175 : decode cX8_init 175 = .ok (.aload_n 0, 1) := by decide +kernel
theorem dX8_init_176 : decode cX8_init 176 = .ok (.getfield 10, 3) := by decide +kernel
theorem dX8_init_179 : decode cX8_init 179 = .ok (.iconst 0, 1) := by decide +kernel
theorem dX8_init_180 : decode cX8_init 180 = .ok (.putfield 96, 3) := by decide +kernel
theorem dX8_init_183 : decode cX8_init 183 = .ok (.aload_n 0, 1) := by decide +kernel
theorem dX8_init_184 : decode cX8_init 184 = .ok (.getfield 36, 3) := by decide +kernel
theorem dX8_init_187 : decode cX8_init 187 = .ok (.aload_n 0, 1) := by decide +kernel
theorem dX8_init_188 : decode cX8_init 188 = .ok (.getfield 26, 3) := by decide +kernel
theorem dX8_init_191 : decode cX8_init 191 = .ok (.invokevirtual 99, 3) := by decide +kernel
theorem dX8_init_194 : decode cX8_init 194 = .ok (.return_, 1) := by decide +kernel
theorem dX8_write_0 : decode cX8_write 0 = .ok (.iload_n 1, 1) := by decide +kernel
theorem dX8_write_1 : decode cX8_write 1 = .ok (.bipush 32, 2) := by decide +kernel
theorem dX8_write_3 : decode cX8_write 3 = .ok (.bipush 126, 2) := by decide +kernel
theorem dX8_write_5 : decode cX8_write 5 = .ok (.invokestatic 103, 3) := by decide +kernel
theorem dX8_write_8 : decode cX8_write 8 = .ok (.ifCond .ne 5, 3) := by decide +kernel
theorem dX8_write_11 : decode cX8_write 11 = .ok (.iconst (-1), 1) := by decide +kernel
theorem dX8_write_12 : decode cX8_write 12 = .ok (.ireturn, 1) := by decide +kernel
theorem dX8_write_13 : decode cX8_write 13 = .ok (.aload_n 0, 1) := by decide +kernel
theorem dX8_write_14 : decode cX8_write 14 = .ok (.getfield 10, 3) := by decide +kernel
theorem dX8_write_17 : decode cX8_write 17 = .ok (.iload_n 1, 1) := by decide +kernel
theorem dX8_write_18 : decode cX8_write 18 = .ok (.invokevirtual 88, 3) := by decide +kernel
theorem dX8_write_21 : decode cX8_write 21 = .ok (.ifCond .eq 13, 3) := by decide +kernel
theorem dX8_write_24 : decode cX8_write 24 = .ok (.aload_n 0, 1) := by decide +kernel
theorem dX8_write_25 : decode cX8_write 25 = .ok (.getfield 10, 3) := by decide +kernel
theorem dX8_write_28 : decode cX8_write 28 = .ok (.getfield 96, 3) := by decide +kernel
theorem dX8_write_31 : decode cX8_write 31 = .ok (.goto 5, 3) := by decide +kernel
theorem dX8_write_34 : decode cX8_write 34 = .ok (.bipush (-3), 2) := by decide +kernel
theorem dX8_write_36 : decode cX8_write 36 = .ok (.ireturn, 1) := by decide +kernel
theorem dX8_wipe_0 : decode cX8_wipe 0 = .ok (.aload_n 0, 1) := by decide +kernel
theorem dX8_wipe_1 : decode cX8_wipe 1 = .ok (.getfield 10, 3) := by decide +kernel
theorem dX8_wipe_4 : decode cX8_wipe 4 = .ok (.getfield 96, 3) := by decide +kernel
theorem dX8_wipe_7 : decode cX8_wipe 7 = .ok (.istore_n 1, 1) := by decide +kernel
theorem dX8_wipe_8 : decode cX8_wipe 8 = .ok (.aload_n 0, 1) := by decide +kernel
theorem dX8_wipe_9 : decode cX8_wipe 9 = .ok (.getfield 10, 3) := by decide +kernel
theorem dX8_wipe_12 : decode cX8_wipe 12 = .ok (.iconst 0, 1) := by decide +kernel
theorem dX8_wipe_13 : decode cX8_wipe 13 = .ok (.putfield 96, 3) := by decide +kernel
theorem dX8_wipe_16 : decode cX8_wipe 16 = .ok (.iload_n 1, 1) := by decide +kernel
theorem dX8_wipe_17 : decode cX8_wipe 17 = .ok (.ireturn, 1) := by decide +kernel
theorem dX8_fault_0 : decode cX8_fault 0 = .ok (.aload_n 0, 1) := by decide +kernel
theorem dX8_fault_1 : decode cX8_fault 1 = .ok (.getfield 19, 3) := by decide +kernel
theorem dX8_fault_4 : decode cX8_fault 4 = .ok (.aload_n 0, 1) := by decide +kernel
theorem dX8_fault_5 : decode cX8_fault 5 = .ok (.getfield 10, 3) := by decide +kernel
theorem dX8_fault_8 : decode cX8_fault 8 = .ok (.aload_n 0, 1) := by decide +kernel
theorem dX8_fault_9 : decode cX8_fault 9 = .ok (.getfield 30, 3) := by decide +kernel
theorem dX8_fault_12 : decode cX8_fault 12 = .ok (.invokevirtual 92, 3) := by decide +kernel
theorem dX8_fault_15 : decode cX8_fault 15 = .ok (.ireturn, 1) := by decide +kernel
theorem dX8_lay_0 : decode cX8_lay 0 = .ok (.aload_n 0, 1) := by decide +kernel
theorem dX8_lay_1 : decode cX8_lay 1 = .ok (.getfield 19, 3) := by decide +kernel
theorem dX8_lay_4 : decode cX8_lay 4 = .ok (.aload_n 0, 1) := by decide +kernel
theorem dX8_lay_5 : decode cX8_lay 5 = .ok (.getfield 10, 3) := by decide +kernel
theorem dX8_lay_8 : decode cX8_lay 8 = .ok (.aload_n 0, 1) := by decide +kernel
theorem dX8_lay_9 : decode cX8_lay 9 = .ok (.getfield 30, 3) := by decide +kernel
theorem dX8_lay_12 : decode cX8_lay 12 = .ok (.invokevirtual 92, 3) := by decide +kernel
theorem dX8_lay_15 : decode cX8_lay 15 = .ok (.bipush (-4), 2) := by decide +kernel
theorem dX8_lay_17 : decode cX8_lay 17 = .ok (.if_icmp .ne 13, 3) := by decide +kernel
theorem dX8_lay_20 : decode cX8_lay 20 = .ok (.aload_n 0, 1) := by decide +kernel
theorem dX8_lay_21 : decode cX8_lay 21 = .ok (.getfield 30, 3) := by decide +kernel
theorem dX8_lay_24 : decode cX8_lay 24 = .ok (.getfield 107, 3) := by decide +kernel
theorem dX8_lay_27 : decode cX8_lay 27 = .ok (.ifCond .ne 6, 3) := by decide +kernel
theorem dX8_lay_30 : decode cX8_lay 30 = .ok (.bipush (-2), 2) := by decide +kernel
theorem dX8_lay_32 : decode cX8_lay 32 = .ok (.ireturn, 1) := by decide +kernel
theorem dX8_lay_33 : decode cX8_lay 33 = .ok (.aload_n 0, 1) := by decide +kernel
theorem dX8_lay_34 : decode cX8_lay 34 = .ok (.getfield 26, 3) := by decide +kernel
theorem dX8_lay_37 : decode cX8_lay 37 = .ok (.astore_n 1, 1) := by decide +kernel
theorem dX8_lay_38 : decode cX8_lay 38 = .ok (.aload_n 0, 1) := by decide +kernel
theorem dX8_lay_39 : decode cX8_lay 39 = .ok (.aload_n 0, 1) := by decide +kernel
theorem dX8_lay_40 : decode cX8_lay 40 = .ok (.getfield 30, 3) := by decide +kernel
theorem dX8_lay_43 : decode cX8_lay 43 = .ok (.putfield 26, 3) := by decide +kernel
theorem dX8_lay_46 : decode cX8_lay 46 = .ok (.aload_n 0, 1) := by decide +kernel
theorem dX8_lay_47 : decode cX8_lay 47 = .ok (.aload_n 1, 1) := by decide +kernel
theorem dX8_lay_48 : decode cX8_lay 48 = .ok (.putfield 30, 3) := by decide +kernel
theorem dX8_lay_51 : decode cX8_lay 51 = .ok (.aload_n 0, 1) := by decide +kernel
theorem dX8_lay_52 : decode cX8_lay 52 = .ok (.getfield 36, 3) := by decide +kernel
theorem dX8_lay_55 : decode cX8_lay 55 = .ok (.aload_n 0, 1) := by decide +kernel
theorem dX8_lay_56 : decode cX8_lay 56 = .ok (.getfield 26, 3) := by decide +kernel
theorem dX8_lay_59 : decode cX8_lay 59 = .ok (.invokevirtual 99, 3) := by decide +kernel
theorem dX8_lay_62 : decode cX8_lay 62 = .ok (.aload_n 0, 1) := by decide +kernel
theorem dX8_lay_63 : decode cX8_lay 63 = .ok (.getfield 58, 3) := by decide +kernel
theorem dX8_lay_66 : decode cX8_lay 66 = .ok (.iconst 0, 1) := by decide +kernel
theorem dX8_lay_67 : decode cX8_lay 67 = .ok (.putfield 110, 3) := by decide +kernel
theorem dX8_lay_70 : decode cX8_lay 70 = .ok (.aload_n 0, 1) := by decide +kernel
theorem dX8_lay_71 : decode cX8_lay 71 = .ok (.getfield 48, 3) := by decide +kernel
theorem dX8_lay_74 : decode cX8_lay 74 = .ok (.iconst 0, 1) := by decide +kernel
theorem dX8_lay_75 : decode cX8_lay 75 = .ok (.putfield 113, 3) := by decide +kernel
theorem dX8_lay_78 : decode cX8_lay 78 = .ok (.aload_n 0, 1) := by decide +kernel
theorem dX8_lay_79 : decode cX8_lay 79 = .ok (.getfield 52, 3) := by decide +kernel
theorem dX8_lay_82 : decode cX8_lay 82 = .ok (.iconst 0, 1) := by decide +kernel
theorem dX8_lay_83 : decode cX8_lay 83 = .ok (.putfield 113, 3) := by decide +kernel
theorem dX8_lay_86 : decode cX8_lay 86 = .ok (.aload_n 0, 1) := by decide +kernel
theorem dX8_lay_87 : decode cX8_lay 87 = .ok (.getfield 26, 3) := by decide +kernel
theorem dX8_lay_90 : decode cX8_lay 90 = .ok (.getfield 107, 3) := by decide +kernel
theorem dX8_lay_93 : decode cX8_lay 93 = .ok (.ireturn, 1) := by decide +kernel
theorem dX8_tenant_0 : decode cX8_tenant 0 = .ok (.aload_n 0, 1) := by decide +kernel
theorem dX8_tenant_1 : decode cX8_tenant 1 = .ok (.iload_n 1, 1) := by decide +kernel
theorem dX8_tenant_2 : decode cX8_tenant 2 = .ok (.invokevirtual 114, 3) := by decide +kernel
theorem dX8_tenant_5 : decode cX8_tenant 5 = .ok (.ifCond .ne 5, 3) := by decide +kernel
theorem dX8_tenant_8 : decode cX8_tenant 8 = .ok (.iconst (-1), 1) := by decide +kernel
theorem dX8_tenant_9 : decode cX8_tenant 9 = .ok (.ireturn, 1) := by decide +kernel
theorem dX8_tenant_10 : decode cX8_tenant 10 = .ok (.iload_n 2, 1) := by decide +kernel
theorem dX8_tenant_11 : decode cX8_tenant 11 = .ok (.tableswitch 126 0 6 #[41, 51, 61, 71, 81, 91, 101], 41) := by decide +kernel
theorem dX8_tenant_52 : decode cX8_tenant 52 = .ok (.aload_n 0, 1) := by decide +kernel
theorem dX8_tenant_53 : decode cX8_tenant 53 = .ok (.getfield 26, 3) := by decide +kernel
theorem dX8_tenant_56 : decode cX8_tenant 56 = .ok (.getfield 117, 3) := by decide +kernel
theorem dX8_tenant_59 : decode cX8_tenant 59 = .ok (.iload_n 1, 1) := by decide +kernel
theorem dX8_tenant_60 : decode cX8_tenant 60 = .ok (.iaload, 1) := by decide +kernel
theorem dX8_tenant_61 : decode cX8_tenant 61 = .ok (.ireturn, 1) := by decide +kernel
theorem dX8_tenant_62 : decode cX8_tenant 62 = .ok (.aload_n 0, 1) := by decide +kernel
theorem dX8_tenant_63 : decode cX8_tenant 63 = .ok (.getfield 36, 3) := by decide +kernel
theorem dX8_tenant_66 : decode cX8_tenant 66 = .ok (.getfield 121, 3) := by decide +kernel
theorem dX8_tenant_69 : decode cX8_tenant 69 = .ok (.iload_n 1, 1) := by decide +kernel
theorem dX8_tenant_70 : decode cX8_tenant 70 = .ok (.iaload, 1) := by decide +kernel
theorem dX8_tenant_71 : decode cX8_tenant 71 = .ok (.ireturn, 1) := by decide +kernel
theorem dX8_tenant_72 : decode cX8_tenant 72 = .ok (.aload_n 0, 1) := by decide +kernel
theorem dX8_tenant_73 : decode cX8_tenant 73 = .ok (.getfield 36, 3) := by decide +kernel
theorem dX8_tenant_76 : decode cX8_tenant 76 = .ok (.getfield 124, 3) := by decide +kernel
theorem dX8_tenant_79 : decode cX8_tenant 79 = .ok (.iload_n 1, 1) := by decide +kernel
theorem dX8_tenant_80 : decode cX8_tenant 80 = .ok (.iaload, 1) := by decide +kernel
theorem dX8_tenant_81 : decode cX8_tenant 81 = .ok (.ireturn, 1) := by decide +kernel
theorem dX8_tenant_82 : decode cX8_tenant 82 = .ok (.aload_n 0, 1) := by decide +kernel
theorem dX8_tenant_83 : decode cX8_tenant 83 = .ok (.getfield 26, 3) := by decide +kernel
theorem dX8_tenant_86 : decode cX8_tenant 86 = .ok (.getfield 127, 3) := by decide +kernel
theorem dX8_tenant_89 : decode cX8_tenant 89 = .ok (.iload_n 1, 1) := by decide +kernel
theorem dX8_tenant_90 : decode cX8_tenant 90 = .ok (.iaload, 1) := by decide +kernel
theorem dX8_tenant_91 : decode cX8_tenant 91 = .ok (.ireturn, 1) := by decide +kernel
theorem dX8_tenant_92 : decode cX8_tenant 92 = .ok (.aload_n 0, 1) := by decide +kernel
theorem dX8_tenant_93 : decode cX8_tenant 93 = .ok (.getfield 26, 3) := by decide +kernel
theorem dX8_tenant_96 : decode cX8_tenant 96 = .ok (.getfield 130, 3) := by decide +kernel
theorem dX8_tenant_99 : decode cX8_tenant 99 = .ok (.iload_n 1, 1) := by decide +kernel
theorem dX8_tenant_100 : decode cX8_tenant 100 = .ok (.iaload, 1) := by decide +kernel
theorem dX8_tenant_101 : decode cX8_tenant 101 = .ok (.ireturn, 1) := by decide +kernel
theorem dX8_tenant_102 : decode cX8_tenant 102 = .ok (.aload_n 0, 1) := by decide +kernel
theorem dX8_tenant_103 : decode cX8_tenant 103 = .ok (.getfield 36, 3) := by decide +kernel
theorem dX8_tenant_106 : decode cX8_tenant 106 = .ok (.getfield 133, 3) := by decide +kernel
theorem dX8_tenant_109 : decode cX8_tenant 109 = .ok (.iload_n 1, 1) := by decide +kernel
theorem dX8_tenant_110 : decode cX8_tenant 110 = .ok (.iaload, 1) := by decide +kernel
theorem dX8_tenant_111 : decode cX8_tenant 111 = .ok (.ireturn, 1) := by decide +kernel
theorem dX8_tenant_112 : decode cX8_tenant 112 = .ok (.aload_n 0, 1) := by decide +kernel
theorem dX8_tenant_113 : decode cX8_tenant 113 = .ok (.getfield 36, 3) := by decide +kernel
theorem dX8_tenant_116 : decode cX8_tenant 116 = .ok (.getfield 133, 3) := by decide +kernel
theorem dX8_tenant_119 : decode cX8_tenant 119 = .ok (.iload_n 1, 1) := by decide +kernel
theorem dX8_tenant_120 : decode cX8_tenant 120 = .ok (.iaload, 1) := by decide +kernel
theorem dX8_tenant_121 : decode cX8_tenant 121 = .ok (.aload_n 0, 1) := by decide +kernel
theorem dX8_tenant_122 : decode cX8_tenant 122 = .ok (.getfield 26, 3) := by decide +kernel
theorem dX8_tenant_125 : decode cX8_tenant 125 = .ok (.getfield 136, 3) := by decide +kernel
theorem dX8_tenant_128 : decode cX8_tenant 128 = .ok (.if_icmp .le 7, 3) := by decide +kernel
theorem dX8_tenant_131 : decode cX8_tenant 131 = .ok (.iconst 1, 1) := by decide +kernel
theorem dX8_tenant_132 : decode cX8_tenant 132 = .ok (.goto 4, 3) := by decide +kernel
theorem dX8_tenant_135 : decode cX8_tenant 135 = .ok (.iconst 0, 1) := by decide +kernel
theorem dX8_tenant_136 : decode cX8_tenant 136 = .ok (.ireturn, 1) := by decide +kernel
theorem dX8_tenant_137 : decode cX8_tenant 137 = .ok (.iconst (-1), 1) := by decide +kernel
theorem dX8_tenant_138 : decode cX8_tenant 138 = .ok (.ireturn, 1) := by decide +kernel
theorem dX8_ship_0 : decode cX8_ship 0 = .ok (.aload_n 0, 1) := by decide +kernel
theorem dX8_ship_1 : decode cX8_ship 1 = .ok (.iload_n 1, 1) := by decide +kernel
theorem dX8_ship_2 : decode cX8_ship 2 = .ok (.invokevirtual 139, 3) := by decide +kernel
theorem dX8_ship_5 : decode cX8_ship 5 = .ok (.ifCond .eq 12, 3) := by decide +kernel
theorem dX8_ship_8 : decode cX8_ship 8 = .ok (.iload_n 2, 1) := by decide +kernel
theorem dX8_ship_9 : decode cX8_ship 9 = .ok (.iconst 0, 1) := by decide +kernel
theorem dX8_ship_10 : decode cX8_ship 10 = .ok (.iconst 1, 1) := by decide +kernel
theorem dX8_ship_11 : decode cX8_ship 11 = .ok (.invokestatic 103, 3) := by decide +kernel
theorem dX8_ship_14 : decode cX8_ship 14 = .ok (.ifCond .ne 5, 3) := by decide +kernel
theorem dX8_ship_17 : decode cX8_ship 17 = .ok (.iconst (-1), 1) := by decide +kernel
theorem dX8_ship_18 : decode cX8_ship 18 = .ok (.ireturn, 1) := by decide +kernel
theorem dX8_ship_19 : decode cX8_ship 19 = .ok (.iload_n 2, 1) := by decide +kernel
theorem dX8_ship_20 : decode cX8_ship 20 = .ok (.ifCond .ne 15, 3) := by decide +kernel
theorem dX8_ship_23 : decode cX8_ship 23 = .ok (.aload_n 0, 1) := by decide +kernel
theorem dX8_ship_24 : decode cX8_ship 24 = .ok (.getfield 26, 3) := by decide +kernel
theorem dX8_ship_27 : decode cX8_ship 27 = .ok (.getfield 142, 3) := by decide +kernel
theorem dX8_ship_30 : decode cX8_ship 30 = .ok (.iload_n 1, 1) := by decide +kernel
theorem dX8_ship_31 : decode cX8_ship 31 = .ok (.iaload, 1) := by decide +kernel
theorem dX8_ship_32 : decode cX8_ship 32 = .ok (.goto 12, 3) := by decide +kernel
theorem dX8_ship_35 : decode cX8_ship 35 = .ok (.aload_n 0, 1) := by decide +kernel
theorem dX8_ship_36 : decode cX8_ship 36 = .ok (.getfield 26, 3) := by decide +kernel
theorem dX8_ship_39 : decode cX8_ship 39 = .ok (.getfield 145, 3) := by decide +kernel
theorem dX8_ship_42 : decode cX8_ship 42 = .ok (.iload_n 1, 1) := by decide +kernel
theorem dX8_ship_43 : decode cX8_ship 43 = .ok (.iaload, 1) := by decide +kernel
theorem dX8_ship_44 : decode cX8_ship 44 = .ok (.ireturn, 1) := by decide +kernel
theorem dX8_stripe_0 : decode cX8_stripe 0 = .ok (.iload_n 1, 1) := by decide +kernel
theorem dX8_stripe_1 : decode cX8_stripe 1 = .ok (.invokestatic 148, 3) := by decide +kernel
theorem dX8_stripe_4 : decode cX8_stripe 4 = .ok (.ifCond .eq 12, 3) := by decide +kernel
theorem dX8_stripe_7 : decode cX8_stripe 7 = .ok (.iload_n 2, 1) := by decide +kernel
theorem dX8_stripe_8 : decode cX8_stripe 8 = .ok (.iconst 0, 1) := by decide +kernel
theorem dX8_stripe_9 : decode cX8_stripe 9 = .ok (.iconst 2, 1) := by decide +kernel
theorem dX8_stripe_10 : decode cX8_stripe 10 = .ok (.invokestatic 103, 3) := by decide +kernel
theorem dX8_stripe_13 : decode cX8_stripe 13 = .ok (.ifCond .ne 5, 3) := by decide +kernel
theorem dX8_stripe_16 : decode cX8_stripe 16 = .ok (.iconst (-1), 1) := by decide +kernel
theorem dX8_stripe_17 : decode cX8_stripe 17 = .ok (.ireturn, 1) := by decide +kernel
theorem dX8_stripe_18 : decode cX8_stripe 18 = .ok (.iload_n 2, 1) := by decide +kernel
end
section
theorem dX8_stripe_19 : decode cX8_stripe 19 = .ok (.iconst 2, 1) := by decide +kernel
theorem dX8_stripe_20 : decode cX8_stripe 20 = .ok (.if_icmp .ne 15, 3) := by decide +kernel
theorem dX8_stripe_23 : decode cX8_stripe 23 = .ok (.aload_n 0, 1) := by decide +kernel
theorem dX8_stripe_24 : decode cX8_stripe 24 = .ok (.getfield 36, 3) := by decide +kernel
theorem dX8_stripe_27 : decode cX8_stripe 27 = .ok (.getfield 151, 3) := by decide +kernel
theorem dX8_stripe_30 : decode cX8_stripe 30 = .ok (.iload_n 1, 1) := by decide +kernel
theorem dX8_stripe_31 : decode cX8_stripe 31 = .ok (.ishr, 1) := by decide +kernel
theorem dX8_stripe_32 : decode cX8_stripe 32 = .ok (.iconst 1, 1) := by decide +kernel
theorem dX8_stripe_33 : decode cX8_stripe 33 = .ok (.iand, 1) := by decide +kernel
theorem dX8_stripe_34 : decode cX8_stripe 34 = .ok (.ireturn, 1) := by decide +kernel
theorem dX8_stripe_35 : decode cX8_stripe 35 = .ok (.aload_n 0, 1) := by decide +kernel
theorem dX8_stripe_36 : decode cX8_stripe 36 = .ok (.invokevirtual 154, 3) := by decide +kernel
theorem dX8_stripe_39 : decode cX8_stripe 39 = .ok (.iload_n 2, 1) := by decide +kernel
theorem dX8_stripe_40 : decode cX8_stripe 40 = .ok (.ifCond .ne 14, 3) := by decide +kernel
theorem dX8_stripe_43 : decode cX8_stripe 43 = .ok (.aload_n 0, 1) := by decide +kernel
theorem dX8_stripe_44 : decode cX8_stripe 44 = .ok (.getfield 65, 3) := by decide +kernel
theorem dX8_stripe_47 : decode cX8_stripe 47 = .ok (.iload_n 1, 1) := by decide +kernel
theorem dX8_stripe_48 : decode cX8_stripe 48 = .ok (.invokevirtual 157, 3) := by decide +kernel
theorem dX8_stripe_51 : decode cX8_stripe 51 = .ok (.goto 11, 3) := by decide +kernel
theorem dX8_stripe_54 : decode cX8_stripe 54 = .ok (.aload_n 0, 1) := by decide +kernel
theorem dX8_stripe_55 : decode cX8_stripe 55 = .ok (.getfield 65, 3) := by decide +kernel
theorem dX8_stripe_58 : decode cX8_stripe 58 = .ok (.iload_n 1, 1) := by decide +kernel
theorem dX8_stripe_59 : decode cX8_stripe 59 = .ok (.invokevirtual 161, 3) := by decide +kernel
theorem dX8_stripe_62 : decode cX8_stripe 62 = .ok (.ireturn, 1) := by decide +kernel
theorem dX8_pass_0 : decode cX8_pass 0 = .ok (.iload_n 1, 1) := by decide +kernel
theorem dX8_pass_1 : decode cX8_pass 1 = .ok (.iconst 1, 1) := by decide +kernel
theorem dX8_pass_2 : decode cX8_pass 2 = .ok (.bipush 30, 2) := by decide +kernel
theorem dX8_pass_4 : decode cX8_pass 4 = .ok (.invokestatic 103, 3) := by decide +kernel
theorem dX8_pass_7 : decode cX8_pass 7 = .ok (.ifCond .ne 5, 3) := by decide +kernel
theorem dX8_pass_10 : decode cX8_pass 10 = .ok (.iconst (-1), 1) := by decide +kernel
theorem dX8_pass_11 : decode cX8_pass 11 = .ok (.ireturn, 1) := by decide +kernel
theorem dX8_pass_12 : decode cX8_pass 12 = .ok (.aload_n 0, 1) := by decide +kernel
theorem dX8_pass_13 : decode cX8_pass 13 = .ok (.getfield 36, 3) := by decide +kernel
theorem dX8_pass_16 : decode cX8_pass 16 = .ok (.getfield 164, 3) := by decide +kernel
theorem dX8_pass_19 : decode cX8_pass 19 = .ok (.iload_n 1, 1) := by decide +kernel
theorem dX8_pass_20 : decode cX8_pass 20 = .ok (.iadd, 1) := by decide +kernel
theorem dX8_pass_21 : decode cX8_pass 21 = .ok (.sipush 999, 3) := by decide +kernel
theorem dX8_pass_24 : decode cX8_pass 24 = .ok (.if_icmp .le 6, 3) := by decide +kernel
theorem dX8_pass_27 : decode cX8_pass 27 = .ok (.bipush (-2), 2) := by decide +kernel
theorem dX8_pass_29 : decode cX8_pass 29 = .ok (.ireturn, 1) := by decide +kernel
theorem dX8_pass_30 : decode cX8_pass 30 = .ok (.aload_n 0, 1) := by decide +kernel
theorem dX8_pass_31 : decode cX8_pass 31 = .ok (.getfield 48, 3) := by decide +kernel
theorem dX8_pass_34 : decode cX8_pass 34 = .ok (.aload_n 0, 1) := by decide +kernel
theorem dX8_pass_35 : decode cX8_pass 35 = .ok (.getfield 36, 3) := by decide +kernel
theorem dX8_pass_38 : decode cX8_pass 38 = .ok (.invokevirtual 167, 3) := by decide +kernel
theorem dX8_pass_41 : decode cX8_pass 41 = .ok (.aload_n 0, 1) := by decide +kernel
theorem dX8_pass_42 : decode cX8_pass 42 = .ok (.getfield 36, 3) := by decide +kernel
theorem dX8_pass_45 : decode cX8_pass 45 = .ok (.aload_n 0, 1) := by decide +kernel
theorem dX8_pass_46 : decode cX8_pass 46 = .ok (.getfield 26, 3) := by decide +kernel
theorem dX8_pass_49 : decode cX8_pass 49 = .ok (.iload_n 1, 1) := by decide +kernel
theorem dX8_pass_50 : decode cX8_pass 50 = .ok (.invokevirtual 171, 3) := by decide +kernel
theorem dX8_pass_53 : decode cX8_pass 53 = .ok (.aload_n 0, 1) := by decide +kernel
theorem dX8_pass_54 : decode cX8_pass 54 = .ok (.getfield 36, 3) := by decide +kernel
theorem dX8_pass_57 : decode cX8_pass 57 = .ok (.getfield 164, 3) := by decide +kernel
theorem dX8_pass_60 : decode cX8_pass 60 = .ok (.ireturn, 1) := by decide +kernel
theorem dX8_pay_0 : decode cX8_pay 0 = .ok (.aload_n 0, 1) := by decide +kernel
theorem dX8_pay_1 : decode cX8_pay 1 = .ok (.iload_n 1, 1) := by decide +kernel
theorem dX8_pay_2 : decode cX8_pay 2 = .ok (.invokevirtual 114, 3) := by decide +kernel
theorem dX8_pay_5 : decode cX8_pay 5 = .ok (.ifCond .eq 13, 3) := by decide +kernel
theorem dX8_pay_8 : decode cX8_pay 8 = .ok (.iload_n 2, 1) := by decide +kernel
theorem dX8_pay_9 : decode cX8_pay 9 = .ok (.iconst 1, 1) := by decide +kernel
theorem dX8_pay_10 : decode cX8_pay 10 = .ok (.bipush 99, 2) := by decide +kernel
theorem dX8_pay_12 : decode cX8_pay 12 = .ok (.invokestatic 103, 3) := by decide +kernel
theorem dX8_pay_15 : decode cX8_pay 15 = .ok (.ifCond .ne 5, 3) := by decide +kernel
theorem dX8_pay_18 : decode cX8_pay 18 = .ok (.iconst (-1), 1) := by decide +kernel
theorem dX8_pay_19 : decode cX8_pay 19 = .ok (.ireturn, 1) := by decide +kernel
theorem dX8_pay_20 : decode cX8_pay 20 = .ok (.aload_n 0, 1) := by decide +kernel
theorem dX8_pay_21 : decode cX8_pay 21 = .ok (.getfield 48, 3) := by decide +kernel
theorem dX8_pay_24 : decode cX8_pay 24 = .ok (.aload_n 0, 1) := by decide +kernel
theorem dX8_pay_25 : decode cX8_pay 25 = .ok (.getfield 36, 3) := by decide +kernel
theorem dX8_pay_28 : decode cX8_pay 28 = .ok (.invokevirtual 167, 3) := by decide +kernel
theorem dX8_pay_31 : decode cX8_pay 31 = .ok (.aload_n 0, 1) := by decide +kernel
theorem dX8_pay_32 : decode cX8_pay 32 = .ok (.getfield 36, 3) := by decide +kernel
theorem dX8_pay_35 : decode cX8_pay 35 = .ok (.getfield 133, 3) := by decide +kernel
theorem dX8_pay_38 : decode cX8_pay 38 = .ok (.iload_n 1, 1) := by decide +kernel
theorem dX8_pay_39 : decode cX8_pay 39 = .ok (.iconst 0, 1) := by decide +kernel
theorem dX8_pay_40 : decode cX8_pay 40 = .ok (.aload_n 0, 1) := by decide +kernel
theorem dX8_pay_41 : decode cX8_pay 41 = .ok (.getfield 36, 3) := by decide +kernel
theorem dX8_pay_44 : decode cX8_pay 44 = .ok (.getfield 133, 3) := by decide +kernel
theorem dX8_pay_47 : decode cX8_pay 47 = .ok (.iload_n 1, 1) := by decide +kernel
theorem dX8_pay_48 : decode cX8_pay 48 = .ok (.iaload, 1) := by decide +kernel
theorem dX8_pay_49 : decode cX8_pay 49 = .ok (.iload_n 2, 1) := by decide +kernel
theorem dX8_pay_50 : decode cX8_pay 50 = .ok (.isub, 1) := by decide +kernel
theorem dX8_pay_51 : decode cX8_pay 51 = .ok (.invokestatic 175, 3) := by decide +kernel
theorem dX8_pay_54 : decode cX8_pay 54 = .ok (.iastore, 1) := by decide +kernel
theorem dX8_pay_55 : decode cX8_pay 55 = .ok (.aload_n 0, 1) := by decide +kernel
theorem dX8_pay_56 : decode cX8_pay 56 = .ok (.getfield 36, 3) := by decide +kernel
theorem dX8_pay_59 : decode cX8_pay 59 = .ok (.getfield 133, 3) := by decide +kernel
theorem dX8_pay_62 : decode cX8_pay 62 = .ok (.iload_n 1, 1) := by decide +kernel
theorem dX8_pay_63 : decode cX8_pay 63 = .ok (.iaload, 1) := by decide +kernel
theorem dX8_pay_64 : decode cX8_pay 64 = .ok (.ireturn, 1) := by decide +kernel
theorem dX8_change_0 : decode cX8_change 0 = .ok (.aload_n 0, 1) := by decide +kernel
theorem dX8_change_1 : decode cX8_change 1 = .ok (.iload_n 1, 1) := by decide +kernel
theorem dX8_change_2 : decode cX8_change 2 = .ok (.invokevirtual 114, 3) := by decide +kernel
theorem dX8_change_5 : decode cX8_change 5 = .ok (.ifCond .eq 16, 3) := by decide +kernel
theorem dX8_change_8 : decode cX8_change 8 = .ok (.aload_n 0, 1) := by decide +kernel
theorem dX8_change_9 : decode cX8_change 9 = .ok (.iload_n 2, 1) := by decide +kernel
theorem dX8_change_10 : decode cX8_change 10 = .ok (.invokevirtual 114, 3) := by decide +kernel
theorem dX8_change_13 : decode cX8_change 13 = .ok (.ifCond .eq 8, 3) := by decide +kernel
theorem dX8_change_16 : decode cX8_change 16 = .ok (.iload_n 1, 1) := by decide +kernel
theorem dX8_change_17 : decode cX8_change 17 = .ok (.iload_n 2, 1) := by decide +kernel
theorem dX8_change_18 : decode cX8_change 18 = .ok (.if_icmp .ne 5, 3) := by decide +kernel
theorem dX8_change_21 : decode cX8_change 21 = .ok (.iconst (-1), 1) := by decide +kernel
theorem dX8_change_22 : decode cX8_change 22 = .ok (.ireturn, 1) := by decide +kernel
theorem dX8_change_23 : decode cX8_change 23 = .ok (.aload_n 0, 1) := by decide +kernel
theorem dX8_change_24 : decode cX8_change 24 = .ok (.getfield 48, 3) := by decide +kernel
theorem dX8_change_27 : decode cX8_change 27 = .ok (.aload_n 0, 1) := by decide +kernel
theorem dX8_change_28 : decode cX8_change 28 = .ok (.getfield 36, 3) := by decide +kernel
theorem dX8_change_31 : decode cX8_change 31 = .ok (.invokevirtual 167, 3) := by decide +kernel
theorem dX8_change_34 : decode cX8_change 34 = .ok (.aload_n 0, 1) := by decide +kernel
theorem dX8_change_35 : decode cX8_change 35 = .ok (.getfield 36, 3) := by decide +kernel
theorem dX8_change_38 : decode cX8_change 38 = .ok (.getfield 121, 3) := by decide +kernel
theorem dX8_change_41 : decode cX8_change 41 = .ok (.iload_n 1, 1) := by decide +kernel
theorem dX8_change_42 : decode cX8_change 42 = .ok (.iload_n 2, 1) := by decide +kernel
theorem dX8_change_43 : decode cX8_change 43 = .ok (.invokestatic 181, 3) := by decide +kernel
theorem dX8_change_46 : decode cX8_change 46 = .ok (.aload_n 0, 1) := by decide +kernel
theorem dX8_change_47 : decode cX8_change 47 = .ok (.getfield 36, 3) := by decide +kernel
theorem dX8_change_50 : decode cX8_change 50 = .ok (.getfield 124, 3) := by decide +kernel
theorem dX8_change_53 : decode cX8_change 53 = .ok (.iload_n 1, 1) := by decide +kernel
theorem dX8_change_54 : decode cX8_change 54 = .ok (.iload_n 2, 1) := by decide +kernel
theorem dX8_change_55 : decode cX8_change 55 = .ok (.invokestatic 181, 3) := by decide +kernel
theorem dX8_change_58 : decode cX8_change 58 = .ok (.aload_n 0, 1) := by decide +kernel
theorem dX8_change_59 : decode cX8_change 59 = .ok (.getfield 36, 3) := by decide +kernel
theorem dX8_change_62 : decode cX8_change 62 = .ok (.getfield 121, 3) := by decide +kernel
theorem dX8_change_65 : decode cX8_change 65 = .ok (.iload_n 1, 1) := by decide +kernel
theorem dX8_change_66 : decode cX8_change 66 = .ok (.iaload, 1) := by decide +kernel
theorem dX8_change_67 : decode cX8_change 67 = .ok (.ireturn, 1) := by decide +kernel
theorem dX8_smoke_0 : decode cX8_smoke 0 = .ok (.iload_n 1, 1) := by decide +kernel
theorem dX8_smoke_1 : decode cX8_smoke 1 = .ok (.invokestatic 148, 3) := by decide +kernel
theorem dX8_smoke_4 : decode cX8_smoke 4 = .ok (.ifCond .ne 5, 3) := by decide +kernel
theorem dX8_smoke_7 : decode cX8_smoke 7 = .ok (.iconst (-1), 1) := by decide +kernel
theorem dX8_smoke_8 : decode cX8_smoke 8 = .ok (.ireturn, 1) := by decide +kernel
theorem dX8_smoke_9 : decode cX8_smoke 9 = .ok (.aload_n 0, 1) := by decide +kernel
theorem dX8_smoke_10 : decode cX8_smoke 10 = .ok (.getfield 48, 3) := by decide +kernel
theorem dX8_smoke_13 : decode cX8_smoke 13 = .ok (.aload_n 0, 1) := by decide +kernel
theorem dX8_smoke_14 : decode cX8_smoke 14 = .ok (.getfield 36, 3) := by decide +kernel
theorem dX8_smoke_17 : decode cX8_smoke 17 = .ok (.invokevirtual 167, 3) := by decide +kernel
theorem dX8_smoke_20 : decode cX8_smoke 20 = .ok (.aload_n 0, 1) := by decide +kernel
theorem dX8_smoke_21 : decode cX8_smoke 21 = .ok (.getfield 36, 3) := by decide +kernel
theorem dX8_smoke_24 : decode cX8_smoke 24 = .ok (.dup, 1) := by decide +kernel
theorem dX8_smoke_25 : decode cX8_smoke 25 = .ok (.getfield 151, 3) := by decide +kernel
theorem dX8_smoke_28 : decode cX8_smoke 28 = .ok (.iconst 1, 1) := by decide +kernel
theorem dX8_smoke_29 : decode cX8_smoke 29 = .ok (.iload_n 1, 1) := by decide +kernel
theorem dX8_smoke_30 : decode cX8_smoke 30 = .ok (.ishl, 1) := by decide +kernel
theorem dX8_smoke_31 : decode cX8_smoke 31 = .ok (.ixor, 1) := by decide +kernel
theorem dX8_smoke_32 : decode cX8_smoke 32 = .ok (.putfield 151, 3) := by decide +kernel
theorem dX8_smoke_35 : decode cX8_smoke 35 = .ok (.aload_n 0, 1) := by decide +kernel
theorem dX8_smoke_36 : decode cX8_smoke 36 = .ok (.getfield 36, 3) := by decide +kernel
theorem dX8_smoke_39 : decode cX8_smoke 39 = .ok (.getfield 151, 3) := by decide +kernel
theorem dX8_smoke_42 : decode cX8_smoke 42 = .ok (.iload_n 1, 1) := by decide +kernel
theorem dX8_smoke_43 : decode cX8_smoke 43 = .ok (.ishr, 1) := by decide +kernel
theorem dX8_smoke_44 : decode cX8_smoke 44 = .ok (.iconst 1, 1) := by decide +kernel
theorem dX8_smoke_45 : decode cX8_smoke 45 = .ok (.iand, 1) := by decide +kernel
theorem dX8_smoke_46 : decode cX8_smoke 46 = .ok (.ireturn, 1) := by decide +kernel
theorem dX8_undo_0 : decode cX8_undo 0 = .ok (.aload_n 0, 1) := by decide +kernel
theorem dX8_undo_1 : decode cX8_undo 1 = .ok (.getfield 48, 3) := by decide +kernel
theorem dX8_undo_4 : decode cX8_undo 4 = .ok (.aload_n 0, 1) := by decide +kernel
theorem dX8_undo_5 : decode cX8_undo 5 = .ok (.getfield 36, 3) := by decide +kernel
theorem dX8_undo_8 : decode cX8_undo 8 = .ok (.invokevirtual 185, 3) := by decide +kernel
theorem dX8_undo_11 : decode cX8_undo 11 = .ok (.ifCond .eq 13, 3) := by decide +kernel
theorem dX8_undo_14 : decode cX8_undo 14 = .ok (.aload_n 0, 1) := by decide +kernel
theorem dX8_undo_15 : decode cX8_undo 15 = .ok (.getfield 48, 3) := by decide +kernel
theorem dX8_undo_18 : decode cX8_undo 18 = .ok (.getfield 113, 3) := by decide +kernel
theorem dX8_undo_21 : decode cX8_undo 21 = .ok (.goto 5, 3) := by decide +kernel
theorem dX8_undo_24 : decode cX8_undo 24 = .ok (.bipush (-2), 2) := by decide +kernel
theorem dX8_undo_26 : decode cX8_undo 26 = .ok (.ireturn, 1) := by decide +kernel
theorem dX8_seen_0 : decode cX8_seen 0 = .ok (.iload_n 1, 1) := by decide +kernel
theorem dX8_seen_1 : decode cX8_seen 1 = .ok (.invokestatic 148, 3) := by decide +kernel
theorem dX8_seen_4 : decode cX8_seen 4 = .ok (.ifCond .eq 10, 3) := by decide +kernel
theorem dX8_seen_7 : decode cX8_seen 7 = .ok (.iload_n 2, 1) := by decide +kernel
theorem dX8_seen_8 : decode cX8_seen 8 = .ok (.invokestatic 189, 3) := by decide +kernel
theorem dX8_seen_11 : decode cX8_seen 11 = .ok (.ifCond .ne 5, 3) := by decide +kernel
theorem dX8_seen_14 : decode cX8_seen 14 = .ok (.iconst (-1), 1) := by decide +kernel
theorem dX8_seen_15 : decode cX8_seen 15 = .ok (.ireturn, 1) := by decide +kernel
theorem dX8_seen_16 : decode cX8_seen 16 = .ok (.aload_n 0, 1) := by decide +kernel
theorem dX8_seen_17 : decode cX8_seen 17 = .ok (.invokevirtual 154, 3) := by decide +kernel
theorem dX8_seen_20 : decode cX8_seen 20 = .ok (.aload_n 0, 1) := by decide +kernel
theorem dX8_seen_21 : decode cX8_seen 21 = .ok (.getfield 65, 3) := by decide +kernel
theorem dX8_seen_24 : decode cX8_seen 24 = .ok (.iload_n 1, 1) := by decide +kernel
theorem dX8_seen_25 : decode cX8_seen 25 = .ok (.invokevirtual 157, 3) := by decide +kernel
theorem dX8_seen_28 : decode cX8_seen 28 = .ok (.iload_n 2, 1) := by decide +kernel
theorem dX8_seen_29 : decode cX8_seen 29 = .ok (.invokestatic 192, 3) := by decide +kernel
theorem dX8_seen_32 : decode cX8_seen 32 = .ok (.if_icmp .ge 7, 3) := by decide +kernel
theorem dX8_seen_35 : decode cX8_seen 35 = .ok (.iconst 1, 1) := by decide +kernel
theorem dX8_seen_36 : decode cX8_seen 36 = .ok (.goto 4, 3) := by decide +kernel
theorem dX8_seen_39 : decode cX8_seen 39 = .ok (.iconst 0, 1) := by decide +kernel
theorem dX8_seen_40 : decode cX8_seen 40 = .ok (.ireturn, 1) := by decide +kernel
theorem dX8_sign_0 : decode cX8_sign 0 = .ok (.aload_n 0, 1) := by decide +kernel
theorem dX8_sign_1 : decode cX8_sign 1 = .ok (.iload_n 1, 1) := by decide +kernel
theorem dX8_sign_2 : decode cX8_sign 2 = .ok (.invokevirtual 139, 3) := by decide +kernel
theorem dX8_sign_5 : decode cX8_sign 5 = .ok (.ifCond .eq 10, 3) := by decide +kernel
theorem dX8_sign_8 : decode cX8_sign 8 = .ok (.iload_n 2, 1) := by decide +kernel
theorem dX8_sign_9 : decode cX8_sign 9 = .ok (.invokestatic 189, 3) := by decide +kernel
theorem dX8_sign_12 : decode cX8_sign 12 = .ok (.ifCond .ne 5, 3) := by decide +kernel
theorem dX8_sign_15 : decode cX8_sign 15 = .ok (.iconst (-1), 1) := by decide +kernel
theorem dX8_sign_16 : decode cX8_sign 16 = .ok (.ireturn, 1) := by decide +kernel
theorem dX8_sign_17 : decode cX8_sign 17 = .ok (.aload_n 0, 1) := by decide +kernel
theorem dX8_sign_18 : decode cX8_sign 18 = .ok (.invokevirtual 154, 3) := by decide +kernel
theorem dX8_sign_21 : decode cX8_sign 21 = .ok (.aload_n 0, 1) := by decide +kernel
theorem dX8_sign_22 : decode cX8_sign 22 = .ok (.getfield 65, 3) := by decide +kernel
theorem dX8_sign_25 : decode cX8_sign 25 = .ok (.aload_n 0, 1) := by decide +kernel
theorem dX8_sign_26 : decode cX8_sign 26 = .ok (.getfield 26, 3) := by decide +kernel
theorem dX8_sign_29 : decode cX8_sign 29 = .ok (.getfield 195, 3) := by decide +kernel
theorem dX8_sign_32 : decode cX8_sign 32 = .ok (.iload_n 1, 1) := by decide +kernel
theorem dX8_sign_33 : decode cX8_sign 33 = .ok (.iaload, 1) := by decide +kernel
theorem dX8_sign_34 : decode cX8_sign 34 = .ok (.iload_n 2, 1) := by decide +kernel
theorem dX8_sign_35 : decode cX8_sign 35 = .ok (.invokevirtual 198, 3) := by decide +kernel
theorem dX8_sign_38 : decode cX8_sign 38 = .ok (.ireturn, 1) := by decide +kernel
theorem dX8_fleet_0 : decode cX8_fleet 0 = .ok (.iload_n 1, 1) := by decide +kernel
theorem dX8_fleet_1 : decode cX8_fleet 1 = .ok (.iconst (-1), 1) := by decide +kernel
theorem dX8_fleet_2 : decode cX8_fleet 2 = .ok (.if_icmp .eq 12, 3) := by decide +kernel
theorem dX8_fleet_5 : decode cX8_fleet 5 = .ok (.iload_n 1, 1) := by decide +kernel
theorem dX8_fleet_6 : decode cX8_fleet 6 = .ok (.invokestatic 189, 3) := by decide +kernel
theorem dX8_fleet_9 : decode cX8_fleet 9 = .ok (.ifCond .ne 5, 3) := by decide +kernel
theorem dX8_fleet_12 : decode cX8_fleet 12 = .ok (.iconst (-1), 1) := by decide +kernel
theorem dX8_fleet_13 : decode cX8_fleet 13 = .ok (.ireturn, 1) := by decide +kernel
theorem dX8_fleet_14 : decode cX8_fleet 14 = .ok (.aload_n 0, 1) := by decide +kernel
theorem dX8_fleet_15 : decode cX8_fleet 15 = .ok (.invokevirtual 154, 3) := by decide +kernel
theorem dX8_fleet_18 : decode cX8_fleet 18 = .ok (.iload_n 1, 1) := by decide +kernel
theorem dX8_fleet_19 : decode cX8_fleet 19 = .ok (.iconst (-1), 1) := by decide +kernel
theorem dX8_fleet_20 : decode cX8_fleet 20 = .ok (.if_icmp .ne 17, 3) := by decide +kernel
theorem dX8_fleet_23 : decode cX8_fleet 23 = .ok (.aload_n 0, 1) := by decide +kernel
theorem dX8_fleet_24 : decode cX8_fleet 24 = .ok (.getfield 65, 3) := by decide +kernel
theorem dX8_fleet_27 : decode cX8_fleet 27 = .ok (.aload_n 0, 1) := by decide +kernel
theorem dX8_fleet_28 : decode cX8_fleet 28 = .ok (.getfield 26, 3) := by decide +kernel
theorem dX8_fleet_31 : decode cX8_fleet 31 = .ok (.invokevirtual 201, 3) := by decide +kernel
theorem dX8_fleet_34 : decode cX8_fleet 34 = .ok (.goto 15, 3) := by decide +kernel
theorem dX8_fleet_37 : decode cX8_fleet 37 = .ok (.aload_n 0, 1) := by decide +kernel
theorem dX8_fleet_38 : decode cX8_fleet 38 = .ok (.getfield 65, 3) := by decide +kernel
theorem dX8_fleet_41 : decode cX8_fleet 41 = .ok (.aload_n 0, 1) := by decide +kernel
theorem dX8_fleet_42 : decode cX8_fleet 42 = .ok (.getfield 26, 3) := by decide +kernel
theorem dX8_fleet_45 : decode cX8_fleet 45 = .ok (.iload_n 1, 1) := by decide +kernel
theorem dX8_fleet_46 : decode cX8_fleet 46 = .ok (.invokevirtual 205, 3) := by decide +kernel
theorem dX8_fleet_49 : decode cX8_fleet 49 = .ok (.ireturn, 1) := by decide +kernel
theorem dX8_order_0 : decode cX8_order 0 = .ok (.iload_n 1, 1) := by decide +kernel
theorem dX8_order_1 : decode cX8_order 1 = .ok (.iconst (-1), 1) := by decide +kernel
theorem dX8_order_2 : decode cX8_order 2 = .ok (.if_icmp .eq 13, 3) := by decide +kernel
theorem dX8_order_5 : decode cX8_order 5 = .ok (.aload_n 0, 1) := by decide +kernel
theorem dX8_order_6 : decode cX8_order 6 = .ok (.iload_n 1, 1) := by decide +kernel
theorem dX8_order_7 : decode cX8_order 7 = .ok (.invokevirtual 114, 3) := by decide +kernel
theorem dX8_order_10 : decode cX8_order 10 = .ok (.ifCond .ne 5, 3) := by decide +kernel
theorem dX8_order_13 : decode cX8_order 13 = .ok (.iconst (-1), 1) := by decide +kernel
theorem dX8_order_14 : decode cX8_order 14 = .ok (.ireturn, 1) := by decide +kernel
theorem dX8_order_15 : decode cX8_order 15 = .ok (.aload_n 0, 1) := by decide +kernel
theorem dX8_order_16 : decode cX8_order 16 = .ok (.getfield 72, 3) := by decide +kernel
theorem dX8_order_19 : decode cX8_order 19 = .ok (.aload_n 0, 1) := by decide +kernel
theorem dX8_order_20 : decode cX8_order 20 = .ok (.getfield 26, 3) := by decide +kernel
theorem dX8_order_23 : decode cX8_order 23 = .ok (.aload_n 0, 1) := by decide +kernel
theorem dX8_order_24 : decode cX8_order 24 = .ok (.getfield 36, 3) := by decide +kernel
theorem dX8_order_27 : decode cX8_order 27 = .ok (.aload_n 0, 1) := by decide +kernel
theorem dX8_order_28 : decode cX8_order 28 = .ok (.getfield 65, 3) := by decide +kernel
theorem dX8_order_31 : decode cX8_order 31 = .ok (.invokevirtual 209, 3) := by decide +kernel
theorem dX8_order_34 : decode cX8_order 34 = .ok (.iload_n 1, 1) := by decide +kernel
theorem dX8_order_35 : decode cX8_order 35 = .ok (.iconst (-1), 1) := by decide +kernel
theorem dX8_order_36 : decode cX8_order 36 = .ok (.if_icmp .ne 13, 3) := by decide +kernel
theorem dX8_order_39 : decode cX8_order 39 = .ok (.aload_n 0, 1) := by decide +kernel
theorem dX8_order_40 : decode cX8_order 40 = .ok (.getfield 72, 3) := by decide +kernel
theorem dX8_order_43 : decode cX8_order 43 = .ok (.getfield 213, 3) := by decide +kernel
theorem dX8_order_46 : decode cX8_order 46 = .ok (.goto 12, 3) := by decide +kernel
theorem dX8_order_49 : decode cX8_order 49 = .ok (.aload_n 0, 1) := by decide +kernel
theorem dX8_order_50 : decode cX8_order 50 = .ok (.getfield 72, 3) := by decide +kernel
theorem dX8_order_53 : decode cX8_order 53 = .ok (.getfield 216, 3) := by decide +kernel
theorem dX8_order_56 : decode cX8_order 56 = .ok (.iload_n 1, 1) := by decide +kernel
theorem dX8_order_57 : decode cX8_order 57 = .ok (.iaload, 1) := by decide +kernel
theorem dX8_order_58 : decode cX8_order 58 = .ok (.ireturn, 1) := by decide +kernel
theorem dX8_needed_0 : decode cX8_needed 0 = .ok (.iload_n 1, 1) := by decide +kernel
theorem dX8_needed_1 : decode cX8_needed 1 = .ok (.invokestatic 189, 3) := by decide +kernel
theorem dX8_needed_4 : decode cX8_needed 4 = .ok (.ifCond .ne 5, 3) := by decide +kernel
theorem dX8_needed_7 : decode cX8_needed 7 = .ok (.iconst (-1), 1) := by decide +kernel
theorem dX8_needed_8 : decode cX8_needed 8 = .ok (.ireturn, 1) := by decide +kernel
theorem dX8_needed_9 : decode cX8_needed 9 = .ok (.aload_n 0, 1) := by decide +kernel
theorem dX8_needed_10 : decode cX8_needed 10 = .ok (.invokevirtual 154, 3) := by decide +kernel
theorem dX8_needed_13 : decode cX8_needed 13 = .ok (.aload_n 0, 1) := by decide +kernel
theorem dX8_needed_14 : decode cX8_needed 14 = .ok (.getfield 36, 3) := by decide +kernel
theorem dX8_needed_17 : decode cX8_needed 17 = .ok (.aload_n 0, 1) := by decide +kernel
theorem dX8_needed_18 : decode cX8_needed 18 = .ok (.getfield 26, 3) := by decide +kernel
theorem dX8_needed_21 : decode cX8_needed 21 = .ok (.invokevirtual 219, 3) := by decide +kernel
theorem dX8_needed_24 : decode cX8_needed 24 = .ok (.istore_n 2, 1) := by decide +kernel
theorem dX8_needed_25 : decode cX8_needed 25 = .ok (.aload_n 0, 1) := by decide +kernel
theorem dX8_needed_26 : decode cX8_needed 26 = .ok (.getfield 65, 3) := by decide +kernel
theorem dX8_needed_29 : decode cX8_needed 29 = .ok (.aload_n 0, 1) := by decide +kernel
theorem dX8_needed_30 : decode cX8_needed 30 = .ok (.getfield 26, 3) := by decide +kernel
theorem dX8_needed_33 : decode cX8_needed 33 = .ok (.iload_n 1, 1) := by decide +kernel
theorem dX8_needed_34 : decode cX8_needed 34 = .ok (.invokevirtual 205, 3) := by decide +kernel
theorem dX8_needed_37 : decode cX8_needed 37 = .ok (.invokestatic 222, 3) := by decide +kernel
theorem dX8_needed_40 : decode cX8_needed 40 = .ok (.istore_n 3, 1) := by decide +kernel
theorem dX8_needed_41 : decode cX8_needed 41 = .ok (.iconst 0, 1) := by decide +kernel
theorem dX8_needed_42 : decode cX8_needed 42 = .ok (.istore 4, 2) := by decide +kernel
theorem dX8_needed_44 : decode cX8_needed 44 = .ok (.iconst 0, 1) := by decide +kernel
theorem dX8_needed_45 : decode cX8_needed 45 = .ok (.istore 5, 2) := by decide +kernel
theorem dX8_needed_47 : decode cX8_needed 47 = .ok (.iload 5, 2) := by decide +kernel
theorem dX8_needed_49 : decode cX8_needed 49 = .ok (.aload_n 0, 1) := by decide +kernel
theorem dX8_needed_50 : decode cX8_needed 50 = .ok (.getfield 26, 3) := by decide +kernel
theorem dX8_needed_53 : decode cX8_needed 53 = .ok (.getfield 107, 3) := by decide +kernel
theorem dX8_needed_56 : decode cX8_needed 56 = .ok (.if_icmp .ge 35, 3) := by decide +kernel
theorem dX8_needed_59 : decode cX8_needed 59 = .ok (.aload_n 0, 1) := by decide +kernel
theorem dX8_needed_60 : decode cX8_needed 60 = .ok (.iload_n 2, 1) := by decide +kernel
theorem dX8_needed_61 : decode cX8_needed 61 = .ok (.iconst 1, 1) := by decide +kernel
theorem dX8_needed_62 : decode cX8_needed 62 = .ok (.iload 5, 2) := by decide +kernel
theorem dX8_needed_64 : decode cX8_needed 64 = .ok (.ishl, 1) := by decide +kernel
theorem dX8_needed_65 : decode cX8_needed 65 = .ok (.iconst (-1), 1) := by decide +kernel
theorem dX8_needed_66 : decode cX8_needed 66 = .ok (.ixor, 1) := by decide +kernel
theorem dX8_needed_67 : decode cX8_needed 67 = .ok (.iand, 1) := by decide +kernel
theorem dX8_needed_68 : decode cX8_needed 68 = .ok (.iload_n 1, 1) := by decide +kernel
theorem dX8_needed_69 : decode cX8_needed 69 = .ok (.invokevirtual 227, 3) := by decide +kernel
theorem dX8_needed_72 : decode cX8_needed 72 = .ok (.iload_n 3, 1) := by decide +kernel
theorem dX8_needed_73 : decode cX8_needed 73 = .ok (.if_icmp .ge 12, 3) := by decide +kernel
theorem dX8_needed_76 : decode cX8_needed 76 = .ok (.iload 4, 2) := by decide +kernel
theorem dX8_needed_78 : decode cX8_needed 78 = .ok (.iconst 1, 1) := by decide +kernel
theorem dX8_needed_79 : decode cX8_needed 79 = .ok (.iload 5, 2) := by decide +kernel
theorem dX8_needed_81 : decode cX8_needed 81 = .ok (.ishl, 1) := by decide +kernel
theorem dX8_needed_82 : decode cX8_needed 82 = .ok (.ior, 1) := by decide +kernel
theorem dX8_needed_83 : decode cX8_needed 83 = .ok (.istore 4, 2) := by decide +kernel
theorem dX8_needed_85 : decode cX8_needed 85 = .ok (.iinc 5 1, 3) := by decide +kernel
theorem dX8_needed_88 : decode cX8_needed 88 = .ok (.goto (-41), 3) := by decide +kernel
theorem dX8_needed_91 : decode cX8_needed 91 = .ok (.iload 4, 2) := by decide +kernel
theorem dX8_needed_93 : decode cX8_needed 93 = .ok (.ireturn, 1) := by decide +kernel
theorem dX8_least_0 : decode cX8_least 0 = .ok (.iload_n 1, 1) := by decide +kernel
theorem dX8_least_1 : decode cX8_least 1 = .ok (.invokestatic 189, 3) := by decide +kernel
theorem dX8_least_4 : decode cX8_least 4 = .ok (.ifCond .ne 5, 3) := by decide +kernel
theorem dX8_least_7 : decode cX8_least 7 = .ok (.iconst (-1), 1) := by decide +kernel
theorem dX8_least_8 : decode cX8_least 8 = .ok (.ireturn, 1) := by decide +kernel
theorem dX8_least_9 : decode cX8_least 9 = .ok (.aload_n 0, 1) := by decide +kernel
theorem dX8_least_10 : decode cX8_least 10 = .ok (.invokevirtual 154, 3) := by decide +kernel
theorem dX8_least_13 : decode cX8_least 13 = .ok (.aload_n 0, 1) := by decide +kernel
theorem dX8_least_14 : decode cX8_least 14 = .ok (.getfield 36, 3) := by decide +kernel
theorem dX8_least_17 : decode cX8_least 17 = .ok (.aload_n 0, 1) := by decide +kernel
theorem dX8_least_18 : decode cX8_least 18 = .ok (.getfield 26, 3) := by decide +kernel
theorem dX8_least_21 : decode cX8_least 21 = .ok (.invokevirtual 219, 3) := by decide +kernel
theorem dX8_least_24 : decode cX8_least 24 = .ok (.istore_n 2, 1) := by decide +kernel
theorem dX8_least_25 : decode cX8_least 25 = .ok (.aload_n 0, 1) := by decide +kernel
theorem dX8_least_26 : decode cX8_least 26 = .ok (.getfield 65, 3) := by decide +kernel
theorem dX8_least_29 : decode cX8_least 29 = .ok (.aload_n 0, 1) := by decide +kernel
theorem dX8_least_30 : decode cX8_least 30 = .ok (.getfield 26, 3) := by decide +kernel
theorem dX8_least_33 : decode cX8_least 33 = .ok (.iload_n 1, 1) := by decide +kernel
theorem dX8_least_34 : decode cX8_least 34 = .ok (.invokevirtual 205, 3) := by decide +kernel
theorem dX8_least_37 : decode cX8_least 37 = .ok (.invokestatic 222, 3) := by decide +kernel
theorem dX8_least_40 : decode cX8_least 40 = .ok (.istore_n 3, 1) := by decide +kernel
theorem dX8_least_41 : decode cX8_least 41 = .ok (.aload_n 0, 1) := by decide +kernel
theorem dX8_least_42 : decode cX8_least 42 = .ok (.getfield 26, 3) := by decide +kernel
theorem dX8_least_45 : decode cX8_least 45 = .ok (.invokevirtual 230, 3) := by decide +kernel
theorem dX8_least_48 : decode cX8_least 48 = .ok (.istore 4, 2) := by decide +kernel
theorem dX8_least_50 : decode cX8_least 50 = .ok (.iconst 0, 1) := by decide +kernel
theorem dX8_least_51 : decode cX8_least 51 = .ok (.istore 5, 2) := by decide +kernel
theorem dX8_least_53 : decode cX8_least 53 = .ok (.iload 5, 2) := by decide +kernel
theorem dX8_least_55 : decode cX8_least 55 = .ok (.aload_n 0, 1) := by decide +kernel
theorem dX8_least_56 : decode cX8_least 56 = .ok (.getfield 26, 3) := by decide +kernel
theorem dX8_least_59 : decode cX8_least 59 = .ok (.invokevirtual 230, 3) := by decide +kernel
theorem dX8_least_62 : decode cX8_least 62 = .ok (.if_icmp .gt 51, 3) := by decide +kernel
theorem dX8_least_65 : decode cX8_least 65 = .ok (.iload 5, 2) := by decide +kernel
theorem dX8_least_67 : decode cX8_least 67 = .ok (.invokestatic 222, 3) := by decide +kernel
theorem dX8_least_70 : decode cX8_least 70 = .ok (.iload 4, 2) := by decide +kernel
theorem dX8_least_72 : decode cX8_least 72 = .ok (.invokestatic 222, 3) := by decide +kernel
theorem dX8_least_75 : decode cX8_least 75 = .ok (.if_icmp .ge 7, 3) := by decide +kernel
theorem dX8_least_78 : decode cX8_least 78 = .ok (.iconst 1, 1) := by decide +kernel
theorem dX8_least_79 : decode cX8_least 79 = .ok (.goto 4, 3) := by decide +kernel
theorem dX8_least_82 : decode cX8_least 82 = .ok (.iconst 0, 1) := by decide +kernel
theorem dX8_least_83 : decode cX8_least 83 = .ok (.istore 6, 2) := by decide +kernel
theorem dX8_least_85 : decode cX8_least 85 = .ok (.iload 6, 2) := by decide +kernel
theorem dX8_least_87 : decode cX8_least 87 = .ok (.ifCond .eq 20, 3) := by decide +kernel
theorem dX8_least_90 : decode cX8_least 90 = .ok (.aload_n 0, 1) := by decide +kernel
theorem dX8_least_91 : decode cX8_least 91 = .ok (.iload_n 2, 1) := by decide +kernel
theorem dX8_least_92 : decode cX8_least 92 = .ok (.iload 5, 2) := by decide +kernel
theorem dX8_least_94 : decode cX8_least 94 = .ok (.iand, 1) := by decide +kernel
theorem dX8_least_95 : decode cX8_least 95 = .ok (.iload_n 1, 1) := by decide +kernel
theorem dX8_least_96 : decode cX8_least 96 = .ok (.invokevirtual 227, 3) := by decide +kernel
theorem dX8_least_99 : decode cX8_least 99 = .ok (.iload_n 3, 1) := by decide +kernel
theorem dX8_least_100 : decode cX8_least 100 = .ok (.if_icmp .lt 7, 3) := by decide +kernel
theorem dX8_least_103 : decode cX8_least 103 = .ok (.iload 5, 2) := by decide +kernel
theorem dX8_least_105 : decode cX8_least 105 = .ok (.istore 4, 2) := by decide +kernel
theorem dX8_least_107 : decode cX8_least 107 = .ok (.iinc 5 1, 3) := by decide +kernel
theorem dX8_least_110 : decode cX8_least 110 = .ok (.goto (-57), 3) := by decide +kernel
theorem dX8_least_113 : decode cX8_least 113 = .ok (.iload 4, 2) := by decide +kernel
theorem dX8_least_115 : decode cX8_least 115 = .ok (.ireturn, 1) := by decide +kernel
theorem dX8_rock_0 : decode cX8_rock 0 = .ok (.iload_n 1, 1) := by decide +kernel
theorem dX8_rock_1 : decode cX8_rock 1 = .ok (.iconst 0, 1) := by decide +kernel
theorem dX8_rock_2 : decode cX8_rock 2 = .ok (.iconst 1, 1) := by decide +kernel
theorem dX8_rock_3 : decode cX8_rock 3 = .ok (.invokestatic 103, 3) := by decide +kernel
theorem dX8_rock_6 : decode cX8_rock 6 = .ok (.ifCond .ne 5, 3) := by decide +kernel
theorem dX8_rock_9 : decode cX8_rock 9 = .ok (.iconst (-1), 1) := by decide +kernel
theorem dX8_rock_10 : decode cX8_rock 10 = .ok (.ireturn, 1) := by decide +kernel
theorem dX8_rock_11 : decode cX8_rock 11 = .ok (.aload_n 0, 1) := by decide +kernel
theorem dX8_rock_12 : decode cX8_rock 12 = .ok (.invokevirtual 154, 3) := by decide +kernel
theorem dX8_rock_15 : decode cX8_rock 15 = .ok (.aload_n 0, 1) := by decide +kernel
theorem dX8_rock_16 : decode cX8_rock 16 = .ok (.getfield 65, 3) := by decide +kernel
theorem dX8_rock_19 : decode cX8_rock 19 = .ok (.getfield 233, 3) := by decide +kernel
theorem dX8_rock_22 : decode cX8_rock 22 = .ok (.aload_n 0, 1) := by decide +kernel
theorem dX8_rock_23 : decode cX8_rock 23 = .ok (.getfield 36, 3) := by decide +kernel
theorem dX8_rock_26 : decode cX8_rock 26 = .ok (.getfield 151, 3) := by decide +kernel
theorem dX8_rock_29 : decode cX8_rock 29 = .ok (.iconst (-1), 1) := by decide +kernel
theorem dX8_rock_30 : decode cX8_rock 30 = .ok (.ixor, 1) := by decide +kernel
theorem dX8_rock_31 : decode cX8_rock 31 = .ok (.iand, 1) := by decide +kernel
theorem dX8_rock_32 : decode cX8_rock 32 = .ok (.istore_n 2, 1) := by decide +kernel
theorem dX8_rock_33 : decode cX8_rock 33 = .ok (.aload_n 0, 1) := by decide +kernel
theorem dX8_rock_34 : decode cX8_rock 34 = .ok (.getfield 36, 3) := by decide +kernel
theorem dX8_rock_37 : decode cX8_rock 37 = .ok (.aload_n 0, 1) := by decide +kernel
theorem dX8_rock_38 : decode cX8_rock 38 = .ok (.getfield 26, 3) := by decide +kernel
theorem dX8_rock_41 : decode cX8_rock 41 = .ok (.invokevirtual 219, 3) := by decide +kernel
theorem dX8_rock_44 : decode cX8_rock 44 = .ok (.istore_n 3, 1) := by decide +kernel
theorem dX8_rock_45 : decode cX8_rock 45 = .ok (.bipush (-4), 2) := by decide +kernel
theorem dX8_rock_47 : decode cX8_rock 47 = .ok (.istore 4, 2) := by decide +kernel
theorem dX8_rock_49 : decode cX8_rock 49 = .ok (.bipush (-4), 2) := by decide +kernel
theorem dX8_rock_51 : decode cX8_rock 51 = .ok (.istore 5, 2) := by decide +kernel
theorem dX8_rock_53 : decode cX8_rock 53 = .ok (.iconst 0, 1) := by decide +kernel
theorem dX8_rock_54 : decode cX8_rock 54 = .ok (.istore 6, 2) := by decide +kernel
theorem dX8_rock_56 : decode cX8_rock 56 = .ok (.iload 6, 2) := by decide +kernel
theorem dX8_rock_58 : decode cX8_rock 58 = .ok (.bipush 24, 2) := by decide +kernel
theorem dX8_rock_60 : decode cX8_rock 60 = .ok (.if_icmp .ge 78, 3) := by decide +kernel
theorem dX8_rock_63 : decode cX8_rock 63 = .ok (.iload_n 2, 1) := by decide +kernel
theorem dX8_rock_64 : decode cX8_rock 64 = .ok (.iload 6, 2) := by decide +kernel
theorem dX8_rock_66 : decode cX8_rock 66 = .ok (.ishr, 1) := by decide +kernel
theorem dX8_rock_67 : decode cX8_rock 67 = .ok (.iconst 1, 1) := by decide +kernel
theorem dX8_rock_68 : decode cX8_rock 68 = .ok (.iand, 1) := by decide +kernel
theorem dX8_rock_69 : decode cX8_rock 69 = .ok (.iconst 1, 1) := by decide +kernel
theorem dX8_rock_70 : decode cX8_rock 70 = .ok (.if_icmp .ne 62, 3) := by decide +kernel
theorem dX8_rock_73 : decode cX8_rock 73 = .ok (.aload_n 0, 1) := by decide +kernel
theorem dX8_rock_74 : decode cX8_rock 74 = .ok (.getfield 65, 3) := by decide +kernel
theorem dX8_rock_77 : decode cX8_rock 77 = .ok (.aload_n 0, 1) := by decide +kernel
theorem dX8_rock_78 : decode cX8_rock 78 = .ok (.getfield 26, 3) := by decide +kernel
theorem dX8_rock_81 : decode cX8_rock 81 = .ok (.iload_n 3, 1) := by decide +kernel
theorem dX8_rock_82 : decode cX8_rock 82 = .ok (.aload_n 0, 1) := by decide +kernel
theorem dX8_rock_83 : decode cX8_rock 83 = .ok (.getfield 36, 3) := by decide +kernel
theorem dX8_rock_86 : decode cX8_rock 86 = .ok (.getfield 151, 3) := by decide +kernel
theorem dX8_rock_89 : decode cX8_rock 89 = .ok (.iconst 1, 1) := by decide +kernel
theorem dX8_rock_90 : decode cX8_rock 90 = .ok (.iload 6, 2) := by decide +kernel
theorem dX8_rock_92 : decode cX8_rock 92 = .ok (.ishl, 1) := by decide +kernel
theorem dX8_rock_93 : decode cX8_rock 93 = .ok (.ior, 1) := by decide +kernel
theorem dX8_rock_94 : decode cX8_rock 94 = .ok (.invokevirtual 236, 3) := by decide +kernel
theorem dX8_rock_97 : decode cX8_rock 97 = .ok (.aload_n 0, 1) := by decide +kernel
theorem dX8_rock_98 : decode cX8_rock 98 = .ok (.getfield 65, 3) := by decide +kernel
theorem dX8_rock_101 : decode cX8_rock 101 = .ok (.aload_n 0, 1) := by decide +kernel
theorem dX8_rock_102 : decode cX8_rock 102 = .ok (.getfield 26, 3) := by decide +kernel
theorem dX8_rock_105 : decode cX8_rock 105 = .ok (.invokevirtual 240, 3) := by decide +kernel
theorem dX8_rock_108 : decode cX8_rock 108 = .ok (.istore 7, 2) := by decide +kernel
theorem dX8_rock_110 : decode cX8_rock 110 = .ok (.iload 4, 2) := by decide +kernel
theorem dX8_rock_112 : decode cX8_rock 112 = .ok (.bipush (-4), 2) := by decide +kernel
theorem dX8_rock_114 : decode cX8_rock 114 = .ok (.if_icmp .eq 10, 3) := by decide +kernel
theorem dX8_rock_117 : decode cX8_rock 117 = .ok (.iload 7, 2) := by decide +kernel
theorem dX8_rock_119 : decode cX8_rock 119 = .ok (.iload 5, 2) := by decide +kernel
theorem dX8_rock_121 : decode cX8_rock 121 = .ok (.if_icmp .ge 11, 3) := by decide +kernel
theorem dX8_rock_124 : decode cX8_rock 124 = .ok (.iload 6, 2) := by decide +kernel
theorem dX8_rock_126 : decode cX8_rock 126 = .ok (.istore 4, 2) := by decide +kernel
theorem dX8_rock_128 : decode cX8_rock 128 = .ok (.iload 7, 2) := by decide +kernel
theorem dX8_rock_130 : decode cX8_rock 130 = .ok (.istore 5, 2) := by decide +kernel
theorem dX8_rock_132 : decode cX8_rock 132 = .ok (.iinc 6 1, 3) := by decide +kernel
theorem dX8_rock_135 : decode cX8_rock 135 = .ok (.goto (-79), 3) := by decide +kernel
theorem dX8_rock_138 : decode cX8_rock 138 = .ok (.iload_n 1, 1) := by decide +kernel
theorem dX8_rock_139 : decode cX8_rock 139 = .ok (.ifCond .ne 8, 3) := by decide +kernel
theorem dX8_rock_142 : decode cX8_rock 142 = .ok (.iload 4, 2) := by decide +kernel
theorem dX8_rock_144 : decode cX8_rock 144 = .ok (.goto 5, 3) := by decide +kernel
theorem dX8_rock_147 : decode cX8_rock 147 = .ok (.iload 5, 2) := by decide +kernel
theorem dX8_rock_149 : decode cX8_rock 149 = .ok (.ireturn, 1) := by decide +kernel
theorem dX8_row_0 : decode cX8_row 0 = .ok (.iload_n 1, 1) := by decide +kernel
theorem dX8_row_1 : decode cX8_row 1 = .ok (.invokestatic 243, 3) := by decide +kernel
theorem dX8_row_4 : decode cX8_row 4 = .ok (.ifCond .eq 27, 3) := by decide +kernel
theorem dX8_row_7 : decode cX8_row 7 = .ok (.iload_n 2, 1) := by decide +kernel
theorem dX8_row_8 : decode cX8_row 8 = .ok (.invokestatic 243, 3) := by decide +kernel
theorem dX8_row_11 : decode cX8_row 11 = .ok (.ifCond .eq 20, 3) := by decide +kernel
theorem dX8_row_14 : decode cX8_row 14 = .ok (.iload_n 3, 1) := by decide +kernel
theorem dX8_row_15 : decode cX8_row 15 = .ok (.invokestatic 243, 3) := by decide +kernel
theorem dX8_row_18 : decode cX8_row 18 = .ok (.ifCond .eq 13, 3) := by decide +kernel
theorem dX8_row_21 : decode cX8_row 21 = .ok (.iload 4, 2) := by decide +kernel
theorem dX8_row_23 : decode cX8_row 23 = .ok (.iconst 0, 1) := by decide +kernel
theorem dX8_row_24 : decode cX8_row 24 = .ok (.iconst 1, 1) := by decide +kernel
theorem dX8_row_25 : decode cX8_row 25 = .ok (.invokestatic 103, 3) := by decide +kernel
theorem dX8_row_28 : decode cX8_row 28 = .ok (.ifCond .ne 5, 3) := by decide +kernel
theorem dX8_row_31 : decode cX8_row 31 = .ok (.iconst (-1), 1) := by decide +kernel
theorem dX8_row_32 : decode cX8_row 32 = .ok (.ireturn, 1) := by decide +kernel
theorem dX8_row_33 : decode cX8_row 33 = .ok (.aload_n 0, 1) := by decide +kernel
theorem dX8_row_34 : decode cX8_row 34 = .ok (.invokevirtual 154, 3) := by decide +kernel
theorem dX8_row_37 : decode cX8_row 37 = .ok (.iconst 0, 1) := by decide +kernel
theorem dX8_row_38 : decode cX8_row 38 = .ok (.istore 5, 2) := by decide +kernel
theorem dX8_row_40 : decode cX8_row 40 = .ok (.bipush (-4), 2) := by decide +kernel
theorem dX8_row_42 : decode cX8_row 42 = .ok (.istore 6, 2) := by decide +kernel
theorem dX8_row_44 : decode cX8_row 44 = .ok (.bipush 23, 2) := by decide +kernel
theorem dX8_row_46 : decode cX8_row 46 = .ok (.istore 7, 2) := by decide +kernel
theorem dX8_row_48 : decode cX8_row 48 = .ok (.iload 7, 2) := by decide +kernel
theorem dX8_row_50 : decode cX8_row 50 = .ok (.ifCond .lt 65, 3) := by decide +kernel
theorem dX8_row_53 : decode cX8_row 53 = .ok (.aload_n 0, 1) := by decide +kernel
theorem dX8_row_54 : decode cX8_row 54 = .ok (.getfield 65, 3) := by decide +kernel
theorem dX8_row_57 : decode cX8_row 57 = .ok (.iload 7, 2) := by decide +kernel
theorem dX8_row_59 : decode cX8_row 59 = .ok (.invokevirtual 157, 3) := by decide +kernel
theorem dX8_row_62 : decode cX8_row 62 = .ok (.iload_n 1, 1) := by decide +kernel
theorem dX8_row_63 : decode cX8_row 63 = .ok (.if_icmp .ne 46, 3) := by decide +kernel
theorem dX8_row_66 : decode cX8_row 66 = .ok (.aload_n 0, 1) := by decide +kernel
theorem dX8_row_67 : decode cX8_row 67 = .ok (.getfield 65, 3) := by decide +kernel
theorem dX8_row_70 : decode cX8_row 70 = .ok (.iload 7, 2) := by decide +kernel
theorem dX8_row_72 : decode cX8_row 72 = .ok (.iconst 1, 1) := by decide +kernel
theorem dX8_row_73 : decode cX8_row 73 = .ok (.iadd, 1) := by decide +kernel
theorem dX8_row_74 : decode cX8_row 74 = .ok (.bipush 24, 2) := by decide +kernel
theorem dX8_row_76 : decode cX8_row 76 = .ok (.irem, 1) := by decide +kernel
theorem dX8_row_77 : decode cX8_row 77 = .ok (.invokevirtual 157, 3) := by decide +kernel
theorem dX8_row_80 : decode cX8_row 80 = .ok (.iload_n 2, 1) := by decide +kernel
theorem dX8_row_81 : decode cX8_row 81 = .ok (.if_icmp .ne 28, 3) := by decide +kernel
theorem dX8_row_84 : decode cX8_row 84 = .ok (.aload_n 0, 1) := by decide +kernel
theorem dX8_row_85 : decode cX8_row 85 = .ok (.getfield 65, 3) := by decide +kernel
theorem dX8_row_88 : decode cX8_row 88 = .ok (.iload 7, 2) := by decide +kernel
theorem dX8_row_90 : decode cX8_row 90 = .ok (.iconst 2, 1) := by decide +kernel
theorem dX8_row_91 : decode cX8_row 91 = .ok (.iadd, 1) := by decide +kernel
theorem dX8_row_92 : decode cX8_row 92 = .ok (.bipush 24, 2) := by decide +kernel
theorem dX8_row_94 : decode cX8_row 94 = .ok (.irem, 1) := by decide +kernel
theorem dX8_row_95 : decode cX8_row 95 = .ok (.invokevirtual 157, 3) := by decide +kernel
theorem dX8_row_98 : decode cX8_row 98 = .ok (.iload_n 3, 1) := by decide +kernel
theorem dX8_row_99 : decode cX8_row 99 = .ok (.if_icmp .ne 10, 3) := by decide +kernel
theorem dX8_row_102 : decode cX8_row 102 = .ok (.iinc 5 1, 3) := by decide +kernel
theorem dX8_row_105 : decode cX8_row 105 = .ok (.iload 7, 2) := by decide +kernel
theorem dX8_row_107 : decode cX8_row 107 = .ok (.istore 6, 2) := by decide +kernel
theorem dX8_row_109 : decode cX8_row 109 = .ok (.iinc 7 (-1), 3) := by decide +kernel
theorem dX8_row_112 : decode cX8_row 112 = .ok (.goto (-64), 3) := by decide +kernel
theorem dX8_row_115 : decode cX8_row 115 = .ok (.iload 4, 2) := by decide +kernel
theorem dX8_row_117 : decode cX8_row 117 = .ok (.ifCond .ne 8, 3) := by decide +kernel
theorem dX8_row_120 : decode cX8_row 120 = .ok (.iload 5, 2) := by decide +kernel
theorem dX8_row_122 : decode cX8_row 122 = .ok (.goto 5, 3) := by decide +kernel
theorem dX8_row_125 : decode cX8_row 125 = .ok (.iload 6, 2) := by decide +kernel
theorem dX8_row_127 : decode cX8_row 127 = .ok (.ireturn, 1) := by decide +kernel
theorem dX8_look_0 : decode cX8_look 0 = .ok (.iload_n 1, 1) := by decide +kernel
theorem dX8_look_1 : decode cX8_look 1 = .ok (.invokestatic 148, 3) := by decide +kernel
theorem dX8_look_4 : decode cX8_look 4 = .ok (.ifCond .eq 10, 3) := by decide +kernel
theorem dX8_look_7 : decode cX8_look 7 = .ok (.iload_n 2, 1) := by decide +kernel
theorem dX8_look_8 : decode cX8_look 8 = .ok (.invokestatic 243, 3) := by decide +kernel
theorem dX8_look_11 : decode cX8_look 11 = .ok (.ifCond .ne 5, 3) := by decide +kernel
theorem dX8_look_14 : decode cX8_look 14 = .ok (.iconst (-1), 1) := by decide +kernel
theorem dX8_look_15 : decode cX8_look 15 = .ok (.ireturn, 1) := by decide +kernel
theorem dX8_look_16 : decode cX8_look 16 = .ok (.aload_n 0, 1) := by decide +kernel
theorem dX8_look_17 : decode cX8_look 17 = .ok (.getfield 58, 3) := by decide +kernel
theorem dX8_look_20 : decode cX8_look 20 = .ok (.iload_n 1, 1) := by decide +kernel
theorem dX8_look_21 : decode cX8_look 21 = .ok (.iload_n 2, 1) := by decide +kernel
theorem dX8_look_22 : decode cX8_look 22 = .ok (.invokevirtual 246, 3) := by decide +kernel
theorem dX8_look_25 : decode cX8_look 25 = .ok (.ifCond .eq 13, 3) := by decide +kernel
theorem dX8_look_28 : decode cX8_look 28 = .ok (.aload_n 0, 1) := by decide +kernel
theorem dX8_look_29 : decode cX8_look 29 = .ok (.getfield 58, 3) := by decide +kernel
theorem dX8_look_32 : decode cX8_look 32 = .ok (.getfield 110, 3) := by decide +kernel
theorem dX8_look_35 : decode cX8_look 35 = .ok (.goto 5, 3) := by decide +kernel
theorem dX8_look_38 : decode cX8_look 38 = .ok (.bipush (-3), 2) := by decide +kernel
theorem dX8_look_40 : decode cX8_look 40 = .ok (.ireturn, 1) := by decide +kernel
theorem dX8_forget_0 : decode cX8_forget 0 = .ok (.aload_n 0, 1) := by decide +kernel
theorem dX8_forget_1 : decode cX8_forget 1 = .ok (.getfield 58, 3) := by decide +kernel
theorem dX8_forget_4 : decode cX8_forget 4 = .ok (.getfield 110, 3) := by decide +kernel
theorem dX8_forget_7 : decode cX8_forget 7 = .ok (.istore_n 1, 1) := by decide +kernel
theorem dX8_forget_8 : decode cX8_forget 8 = .ok (.aload_n 0, 1) := by decide +kernel
theorem dX8_forget_9 : decode cX8_forget 9 = .ok (.getfield 58, 3) := by decide +kernel
theorem dX8_forget_12 : decode cX8_forget 12 = .ok (.iconst 0, 1) := by decide +kernel
theorem dX8_forget_13 : decode cX8_forget 13 = .ok (.putfield 110, 3) := by decide +kernel
theorem dX8_forget_16 : decode cX8_forget 16 = .ok (.iload_n 1, 1) := by decide +kernel
theorem dX8_forget_17 : decode cX8_forget 17 = .ok (.ireturn, 1) := by decide +kernel
theorem dX8_behind_0 : decode cX8_behind 0 = .ok (.iload_n 1, 1) := by decide +kernel
theorem dX8_behind_1 : decode cX8_behind 1 = .ok (.iconst 0, 1) := by decide +kernel
theorem dX8_behind_2 : decode cX8_behind 2 = .ok (.iconst 1, 1) := by decide +kernel
theorem dX8_behind_3 : decode cX8_behind 3 = .ok (.invokestatic 103, 3) := by decide +kernel
theorem dX8_behind_6 : decode cX8_behind 6 = .ok (.ifCond .ne 5, 3) := by decide +kernel
theorem dX8_behind_9 : decode cX8_behind 9 = .ok (.iconst (-1), 1) := by decide +kernel
theorem dX8_behind_10 : decode cX8_behind 10 = .ok (.ireturn, 1) := by decide +kernel
theorem dX8_behind_11 : decode cX8_behind 11 = .ok (.aload_n 0, 1) := by decide +kernel
theorem dX8_behind_12 : decode cX8_behind 12 = .ok (.getfield 65, 3) := by decide +kernel
theorem dX8_behind_15 : decode cX8_behind 15 = .ok (.aload_n 0, 1) := by decide +kernel
theorem dX8_behind_16 : decode cX8_behind 16 = .ok (.getfield 26, 3) := by decide +kernel
theorem dX8_behind_19 : decode cX8_behind 19 = .ok (.aload_n 0, 1) := by decide +kernel
theorem dX8_behind_20 : decode cX8_behind 20 = .ok (.getfield 36, 3) := by decide +kernel
theorem dX8_behind_23 : decode cX8_behind 23 = .ok (.invokevirtual 249, 3) := by decide +kernel
theorem dX8_behind_26 : decode cX8_behind 26 = .ok (.aload_n 0, 1) := by decide +kernel
theorem dX8_behind_27 : decode cX8_behind 27 = .ok (.getfield 26, 3) := by decide +kernel
theorem dX8_behind_30 : decode cX8_behind 30 = .ok (.invokevirtual 230, 3) := by decide +kernel
theorem dX8_behind_33 : decode cX8_behind 33 = .ok (.istore_n 2, 1) := by decide +kernel
theorem dX8_behind_34 : decode cX8_behind 34 = .ok (.iconst 0, 1) := by decide +kernel
theorem dX8_behind_35 : decode cX8_behind 35 = .ok (.istore_n 3, 1) := by decide +kernel
theorem dX8_behind_36 : decode cX8_behind 36 = .ok (.bipush (-4), 2) := by decide +kernel
theorem dX8_behind_38 : decode cX8_behind 38 = .ok (.istore 4, 2) := by decide +kernel
theorem dX8_behind_40 : decode cX8_behind 40 = .ok (.iload_n 2, 1) := by decide +kernel
theorem dX8_behind_41 : decode cX8_behind 41 = .ok (.istore 5, 2) := by decide +kernel
theorem dX8_behind_43 : decode cX8_behind 43 = .ok (.iload 5, 2) := by decide +kernel
theorem dX8_behind_45 : decode cX8_behind 45 = .ok (.ifCond .lt 54, 3) := by decide +kernel
theorem dX8_behind_48 : decode cX8_behind 48 = .ok (.aload_n 0, 1) := by decide +kernel
theorem dX8_behind_49 : decode cX8_behind 49 = .ok (.getfield 65, 3) := by decide +kernel
theorem dX8_behind_52 : decode cX8_behind 52 = .ok (.aload_n 0, 1) := by decide +kernel
theorem dX8_behind_53 : decode cX8_behind 53 = .ok (.getfield 26, 3) := by decide +kernel
theorem dX8_behind_56 : decode cX8_behind 56 = .ok (.iload_n 2, 1) := by decide +kernel
theorem dX8_behind_57 : decode cX8_behind 57 = .ok (.iload 5, 2) := by decide +kernel
theorem dX8_behind_59 : decode cX8_behind 59 = .ok (.iconst (-1), 1) := by decide +kernel
theorem dX8_behind_60 : decode cX8_behind 60 = .ok (.ixor, 1) := by decide +kernel
theorem dX8_behind_61 : decode cX8_behind 61 = .ok (.iand, 1) := by decide +kernel
theorem dX8_behind_62 : decode cX8_behind 62 = .ok (.aload_n 0, 1) := by decide +kernel
theorem dX8_behind_63 : decode cX8_behind 63 = .ok (.getfield 36, 3) := by decide +kernel
theorem dX8_behind_66 : decode cX8_behind 66 = .ok (.getfield 151, 3) := by decide +kernel
theorem dX8_behind_69 : decode cX8_behind 69 = .ok (.invokevirtual 236, 3) := by decide +kernel
theorem dX8_behind_72 : decode cX8_behind 72 = .ok (.aload_n 0, 1) := by decide +kernel
theorem dX8_behind_73 : decode cX8_behind 73 = .ok (.getfield 58, 3) := by decide +kernel
theorem dX8_behind_76 : decode cX8_behind 76 = .ok (.aload_n 0, 1) := by decide +kernel
theorem dX8_behind_77 : decode cX8_behind 77 = .ok (.getfield 65, 3) := by decide +kernel
theorem dX8_behind_80 : decode cX8_behind 80 = .ok (.invokevirtual 253, 3) := by decide +kernel
theorem dX8_behind_83 : decode cX8_behind 83 = .ok (.ifCond .eq 10, 3) := by decide +kernel
theorem dX8_behind_86 : decode cX8_behind 86 = .ok (.iinc 3 1, 3) := by decide +kernel
theorem dX8_behind_89 : decode cX8_behind 89 = .ok (.iload 5, 2) := by decide +kernel
theorem dX8_behind_91 : decode cX8_behind 91 = .ok (.istore 4, 2) := by decide +kernel
theorem dX8_behind_93 : decode cX8_behind 93 = .ok (.iinc 5 (-1), 3) := by decide +kernel
theorem dX8_behind_96 : decode cX8_behind 96 = .ok (.goto (-53), 3) := by decide +kernel
theorem dX8_behind_99 : decode cX8_behind 99 = .ok (.iload_n 1, 1) := by decide +kernel
theorem dX8_behind_100 : decode cX8_behind 100 = .ok (.ifCond .ne 7, 3) := by decide +kernel
theorem dX8_behind_103 : decode cX8_behind 103 = .ok (.iload_n 3, 1) := by decide +kernel
theorem dX8_behind_104 : decode cX8_behind 104 = .ok (.goto 5, 3) := by decide +kernel
theorem dX8_behind_107 : decode cX8_behind 107 = .ok (.iload 4, 2) := by decide +kernel
theorem dX8_behind_109 : decode cX8_behind 109 = .ok (.ireturn, 1) := by decide +kernel
theorem dX8_panes_0 : decode cX8_panes 0 = .ok (.aload_n 0, 1) := by decide +kernel
theorem dX8_panes_1 : decode cX8_panes 1 = .ok (.invokevirtual 154, 3) := by decide +kernel
theorem dX8_panes_4 : decode cX8_panes 4 = .ok (.aload_n 0, 1) := by decide +kernel
theorem dX8_panes_5 : decode cX8_panes 5 = .ok (.getfield 58, 3) := by decide +kernel
theorem dX8_panes_8 : decode cX8_panes 8 = .ok (.invokevirtual 257, 3) := by decide +kernel
theorem dX8_panes_11 : decode cX8_panes 11 = .ok (.aload_n 0, 1) := by decide +kernel
theorem dX8_panes_12 : decode cX8_panes 12 = .ok (.getfield 65, 3) := by decide +kernel
theorem dX8_panes_15 : decode cX8_panes 15 = .ok (.getfield 233, 3) := by decide +kernel
theorem dX8_panes_18 : decode cX8_panes 18 = .ok (.iand, 1) := by decide +kernel
theorem dX8_panes_19 : decode cX8_panes 19 = .ok (.invokestatic 222, 3) := by decide +kernel
theorem dX8_panes_22 : decode cX8_panes 22 = .ok (.ireturn, 1) := by decide +kernel
theorem dX8_odds_0 : decode cX8_odds 0 = .ok (.aload_n 0, 1) := by decide +kernel
theorem dX8_odds_1 : decode cX8_odds 1 = .ok (.iload_n 1, 1) := by decide +kernel
theorem dX8_odds_2 : decode cX8_odds 2 = .ok (.invokevirtual 139, 3) := by decide +kernel
theorem dX8_odds_5 : decode cX8_odds 5 = .ok (.ifCond .eq 12, 3) := by decide +kernel
theorem dX8_odds_8 : decode cX8_odds 8 = .ok (.iload_n 2, 1) := by decide +kernel
theorem dX8_odds_9 : decode cX8_odds 9 = .ok (.iconst 0, 1) := by decide +kernel
theorem dX8_odds_10 : decode cX8_odds 10 = .ok (.iconst 1, 1) := by decide +kernel
theorem dX8_odds_11 : decode cX8_odds 11 = .ok (.invokestatic 103, 3) := by decide +kernel
theorem dX8_odds_14 : decode cX8_odds 14 = .ok (.ifCond .ne 5, 3) := by decide +kernel
theorem dX8_odds_17 : decode cX8_odds 17 = .ok (.iconst (-1), 1) := by decide +kernel
theorem dX8_odds_18 : decode cX8_odds 18 = .ok (.ireturn, 1) := by decide +kernel
theorem dX8_odds_19 : decode cX8_odds 19 = .ok (.aload_n 0, 1) := by decide +kernel
theorem dX8_odds_20 : decode cX8_odds 20 = .ok (.invokevirtual 154, 3) := by decide +kernel
theorem dX8_odds_23 : decode cX8_odds 23 = .ok (.aload_n 0, 1) := by decide +kernel
theorem dX8_odds_24 : decode cX8_odds 24 = .ok (.iconst 1, 1) := by decide +kernel
theorem dX8_odds_25 : decode cX8_odds 25 = .ok (.iload_n 1, 1) := by decide +kernel
theorem dX8_odds_26 : decode cX8_odds 26 = .ok (.ishl, 1) := by decide +kernel
theorem dX8_odds_27 : decode cX8_odds 27 = .ok (.invokevirtual 260, 3) := by decide +kernel
theorem dX8_odds_30 : decode cX8_odds 30 = .ok (.iload_n 2, 1) := by decide +kernel
theorem dX8_odds_31 : decode cX8_odds 31 = .ok (.invokestatic 263, 3) := by decide +kernel
theorem dX8_odds_34 : decode cX8_odds 34 = .ok (.ireturn, 1) := by decide +kernel
theorem dX8_mean_0 : decode cX8_mean 0 = .ok (.iload_n 1, 1) := by decide +kernel
theorem dX8_mean_1 : decode cX8_mean 1 = .ok (.iconst 0, 1) := by decide +kernel
theorem dX8_mean_2 : decode cX8_mean 2 = .ok (.iconst 1, 1) := by decide +kernel
theorem dX8_mean_3 : decode cX8_mean 3 = .ok (.invokestatic 103, 3) := by decide +kernel
theorem dX8_mean_6 : decode cX8_mean 6 = .ok (.ifCond .ne 5, 3) := by decide +kernel
theorem dX8_mean_9 : decode cX8_mean 9 = .ok (.iconst (-1), 1) := by decide +kernel
theorem dX8_mean_10 : decode cX8_mean 10 = .ok (.ireturn, 1) := by decide +kernel
theorem dX8_mean_11 : decode cX8_mean 11 = .ok (.aload_n 0, 1) := by decide +kernel
theorem dX8_mean_12 : decode cX8_mean 12 = .ok (.invokevirtual 154, 3) := by decide +kernel
theorem dX8_mean_15 : decode cX8_mean 15 = .ok (.aload_n 0, 1) := by decide +kernel
theorem dX8_mean_16 : decode cX8_mean 16 = .ok (.aload_n 0, 1) := by decide +kernel
theorem dX8_mean_17 : decode cX8_mean 17 = .ok (.getfield 26, 3) := by decide +kernel
theorem dX8_mean_20 : decode cX8_mean 20 = .ok (.invokevirtual 266, 3) := by decide +kernel
theorem dX8_mean_23 : decode cX8_mean 23 = .ok (.invokevirtual 260, 3) := by decide +kernel
theorem dX8_mean_26 : decode cX8_mean 26 = .ok (.iload_n 1, 1) := by decide +kernel
theorem dX8_mean_27 : decode cX8_mean 27 = .ok (.invokestatic 263, 3) := by decide +kernel
theorem dX8_mean_30 : decode cX8_mean 30 = .ok (.ireturn, 1) := by decide +kernel
theorem dX8_owed_0 : decode cX8_owed 0 = .ok (.iload_n 1, 1) := by decide +kernel
theorem dX8_owed_1 : decode cX8_owed 1 = .ok (.iconst 0, 1) := by decide +kernel
theorem dX8_owed_2 : decode cX8_owed 2 = .ok (.iconst 1, 1) := by decide +kernel
theorem dX8_owed_3 : decode cX8_owed 3 = .ok (.invokestatic 103, 3) := by decide +kernel
theorem dX8_owed_6 : decode cX8_owed 6 = .ok (.ifCond .ne 5, 3) := by decide +kernel
theorem dX8_owed_9 : decode cX8_owed 9 = .ok (.iconst (-1), 1) := by decide +kernel
theorem dX8_owed_10 : decode cX8_owed 10 = .ok (.ireturn, 1) := by decide +kernel
theorem dX8_owed_11 : decode cX8_owed 11 = .ok (.iconst 0, 1) := by decide +kernel
theorem dX8_owed_12 : decode cX8_owed 12 = .ok (.istore_n 2, 1) := by decide +kernel
theorem dX8_owed_13 : decode cX8_owed 13 = .ok (.iconst 0, 1) := by decide +kernel
theorem dX8_owed_14 : decode cX8_owed 14 = .ok (.istore_n 3, 1) := by decide +kernel
theorem dX8_owed_15 : decode cX8_owed 15 = .ok (.iload_n 3, 1) := by decide +kernel
theorem dX8_owed_16 : decode cX8_owed 16 = .ok (.aload_n 0, 1) := by decide +kernel
theorem dX8_owed_17 : decode cX8_owed 17 = .ok (.getfield 26, 3) := by decide +kernel
theorem dX8_owed_20 : decode cX8_owed 20 = .ok (.getfield 107, 3) := by decide +kernel
theorem dX8_owed_23 : decode cX8_owed 23 = .ok (.if_icmp .ge 37, 3) := by decide +kernel
theorem dX8_owed_26 : decode cX8_owed 26 = .ok (.iload_n 2, 1) := by decide +kernel
theorem dX8_owed_27 : decode cX8_owed 27 = .ok (.iload_n 1, 1) := by decide +kernel
theorem dX8_owed_28 : decode cX8_owed 28 = .ok (.ifCond .ne 15, 3) := by decide +kernel
theorem dX8_owed_31 : decode cX8_owed 31 = .ok (.aload_n 0, 1) := by decide +kernel
theorem dX8_owed_32 : decode cX8_owed 32 = .ok (.getfield 36, 3) := by decide +kernel
theorem dX8_owed_35 : decode cX8_owed 35 = .ok (.getfield 133, 3) := by decide +kernel
theorem dX8_owed_38 : decode cX8_owed 38 = .ok (.iload_n 3, 1) := by decide +kernel
theorem dX8_owed_39 : decode cX8_owed 39 = .ok (.iaload, 1) := by decide +kernel
theorem dX8_owed_40 : decode cX8_owed 40 = .ok (.goto 12, 3) := by decide +kernel
theorem dX8_owed_43 : decode cX8_owed 43 = .ok (.aload_n 0, 1) := by decide +kernel
theorem dX8_owed_44 : decode cX8_owed 44 = .ok (.getfield 26, 3) := by decide +kernel
theorem dX8_owed_47 : decode cX8_owed 47 = .ok (.getfield 127, 3) := by decide +kernel
theorem dX8_owed_50 : decode cX8_owed 50 = .ok (.iload_n 3, 1) := by decide +kernel
theorem dX8_owed_51 : decode cX8_owed 51 = .ok (.iaload, 1) := by decide +kernel
theorem dX8_owed_52 : decode cX8_owed 52 = .ok (.iadd, 1) := by decide +kernel
theorem dX8_owed_53 : decode cX8_owed 53 = .ok (.istore_n 2, 1) := by decide +kernel
theorem dX8_owed_54 : decode cX8_owed 54 = .ok (.iinc 3 1, 3) := by decide +kernel
theorem dX8_owed_57 : decode cX8_owed 57 = .ok (.goto (-42), 3) := by decide +kernel
theorem dX8_owed_60 : decode cX8_owed 60 = .ok (.iload_n 2, 1) := by decide +kernel
theorem dX8_owed_61 : decode cX8_owed 61 = .ok (.ireturn, 1) := by decide +kernel
theorem dX8_weeks_0 : decode cX8_weeks 0 = .ok (.iload_n 1, 1) := by decide +kernel
theorem dX8_weeks_1 : decode cX8_weeks 1 = .ok (.iconst 0, 1) := by decide +kernel
theorem dX8_weeks_2 : decode cX8_weeks 2 = .ok (.sipush 9999, 3) := by decide +kernel
theorem dX8_weeks_5 : decode cX8_weeks 5 = .ok (.invokestatic 103, 3) := by decide +kernel
theorem dX8_weeks_8 : decode cX8_weeks 8 = .ok (.ifCond .eq 22, 3) := by decide +kernel
theorem dX8_weeks_11 : decode cX8_weeks 11 = .ok (.iload_n 2, 1) := by decide +kernel
theorem dX8_weeks_12 : decode cX8_weeks 12 = .ok (.iconst 1, 1) := by decide +kernel
theorem dX8_weeks_13 : decode cX8_weeks 13 = .ok (.bipush 60, 2) := by decide +kernel
theorem dX8_weeks_15 : decode cX8_weeks 15 = .ok (.invokestatic 103, 3) := by decide +kernel
theorem dX8_weeks_18 : decode cX8_weeks 18 = .ok (.ifCond .eq 12, 3) := by decide +kernel
theorem dX8_weeks_21 : decode cX8_weeks 21 = .ok (.iload_n 3, 1) := by decide +kernel
theorem dX8_weeks_22 : decode cX8_weeks 22 = .ok (.iconst 0, 1) := by decide +kernel
theorem dX8_weeks_23 : decode cX8_weeks 23 = .ok (.iconst 1, 1) := by decide +kernel
theorem dX8_weeks_24 : decode cX8_weeks 24 = .ok (.invokestatic 103, 3) := by decide +kernel
theorem dX8_weeks_27 : decode cX8_weeks 27 = .ok (.ifCond .ne 5, 3) := by decide +kernel
theorem dX8_weeks_30 : decode cX8_weeks 30 = .ok (.iconst (-1), 1) := by decide +kernel
theorem dX8_weeks_31 : decode cX8_weeks 31 = .ok (.ireturn, 1) := by decide +kernel
theorem dX8_weeks_32 : decode cX8_weeks 32 = .ok (.aload_n 0, 1) := by decide +kernel
theorem dX8_weeks_33 : decode cX8_weeks 33 = .ok (.getfield 40, 3) := by decide +kernel
theorem dX8_weeks_36 : decode cX8_weeks 36 = .ok (.aload_n 0, 1) := by decide +kernel
theorem dX8_weeks_37 : decode cX8_weeks 37 = .ok (.getfield 36, 3) := by decide +kernel
theorem dX8_weeks_40 : decode cX8_weeks 40 = .ok (.invokevirtual 269, 3) := by decide +kernel
theorem dX8_weeks_43 : decode cX8_weeks 43 = .ok (.iconst 0, 1) := by decide +kernel
theorem dX8_weeks_44 : decode cX8_weeks 44 = .ok (.istore 4, 2) := by decide +kernel
theorem dX8_weeks_46 : decode cX8_weeks 46 = .ok (.iconst 0, 1) := by decide +kernel
theorem dX8_weeks_47 : decode cX8_weeks 47 = .ok (.istore 5, 2) := by decide +kernel
theorem dX8_weeks_49 : decode cX8_weeks 49 = .ok (.iconst 0, 1) := by decide +kernel
theorem dX8_weeks_50 : decode cX8_weeks 50 = .ok (.istore 6, 2) := by decide +kernel
theorem dX8_weeks_52 : decode cX8_weeks 52 = .ok (.iload 6, 2) := by decide +kernel
theorem dX8_weeks_54 : decode cX8_weeks 54 = .ok (.iload_n 2, 1) := by decide +kernel
theorem dX8_weeks_55 : decode cX8_weeks 55 = .ok (.if_icmp .ge 73, 3) := by decide +kernel
theorem dX8_weeks_58 : decode cX8_weeks 58 = .ok (.aload_n 0, 1) := by decide +kernel
theorem dX8_weeks_59 : decode cX8_weeks 59 = .ok (.aload_n 0, 1) := by decide +kernel
theorem dX8_weeks_60 : decode cX8_weeks 60 = .ok (.getfield 40, 3) := by decide +kernel
theorem dX8_weeks_63 : decode cX8_weeks 63 = .ok (.invokevirtual 272, 3) := by decide +kernel
theorem dX8_weeks_66 : decode cX8_weeks 66 = .ok (.aload_n 0, 1) := by decide +kernel
theorem dX8_weeks_67 : decode cX8_weeks 67 = .ok (.getfield 65, 3) := by decide +kernel
theorem dX8_weeks_70 : decode cX8_weeks 70 = .ok (.aload_n 0, 1) := by decide +kernel
theorem dX8_weeks_71 : decode cX8_weeks 71 = .ok (.getfield 26, 3) := by decide +kernel
theorem dX8_weeks_74 : decode cX8_weeks 74 = .ok (.iload_n 1, 1) := by decide +kernel
theorem dX8_weeks_75 : decode cX8_weeks 75 = .ok (.iload 6, 2) := by decide +kernel
theorem dX8_weeks_77 : decode cX8_weeks 77 = .ok (.invokestatic 275, 3) := by decide +kernel
theorem dX8_weeks_80 : decode cX8_weeks 80 = .ok (.invokevirtual 205, 3) := by decide +kernel
theorem dX8_weeks_83 : decode cX8_weeks 83 = .ok (.invokestatic 222, 3) := by decide +kernel
theorem dX8_weeks_86 : decode cX8_weeks 86 = .ok (.istore 7, 2) := by decide +kernel
theorem dX8_weeks_88 : decode cX8_weeks 88 = .ok (.iload 5, 2) := by decide +kernel
theorem dX8_weeks_90 : decode cX8_weeks 90 = .ok (.iload 7, 2) := by decide +kernel
theorem dX8_weeks_92 : decode cX8_weeks 92 = .ok (.iadd, 1) := by decide +kernel
theorem dX8_weeks_93 : decode cX8_weeks 93 = .ok (.istore 5, 2) := by decide +kernel
theorem dX8_weeks_95 : decode cX8_weeks 95 = .ok (.iload 7, 2) := by decide +kernel
theorem dX8_weeks_97 : decode cX8_weeks 97 = .ok (.aload_n 0, 1) := by decide +kernel
theorem dX8_weeks_98 : decode cX8_weeks 98 = .ok (.getfield 26, 3) := by decide +kernel
theorem dX8_weeks_101 : decode cX8_weeks 101 = .ok (.getfield 278, 3) := by decide +kernel
theorem dX8_weeks_104 : decode cX8_weeks 104 = .ok (.if_icmp .ne 6, 3) := by decide +kernel
theorem dX8_weeks_107 : decode cX8_weeks 107 = .ok (.iinc 4 1, 3) := by decide +kernel
theorem dX8_weeks_110 : decode cX8_weeks 110 = .ok (.aload_n 0, 1) := by decide +kernel
theorem dX8_weeks_111 : decode cX8_weeks 111 = .ok (.getfield 40, 3) := by decide +kernel
theorem dX8_weeks_114 : decode cX8_weeks 114 = .ok (.aload_n 0, 1) := by decide +kernel
theorem dX8_weeks_115 : decode cX8_weeks 115 = .ok (.getfield 26, 3) := by decide +kernel
theorem dX8_weeks_118 : decode cX8_weeks 118 = .ok (.iconst 1, 1) := by decide +kernel
theorem dX8_weeks_119 : decode cX8_weeks 119 = .ok (.invokevirtual 171, 3) := by decide +kernel
theorem dX8_weeks_122 : decode cX8_weeks 122 = .ok (.iinc 6 1, 3) := by decide +kernel
theorem dX8_weeks_125 : decode cX8_weeks 125 = .ok (.goto (-73), 3) := by decide +kernel
theorem dX8_weeks_128 : decode cX8_weeks 128 = .ok (.iload_n 3, 1) := by decide +kernel
theorem dX8_weeks_129 : decode cX8_weeks 129 = .ok (.ifCond .ne 8, 3) := by decide +kernel
theorem dX8_weeks_132 : decode cX8_weeks 132 = .ok (.iload 4, 2) := by decide +kernel
theorem dX8_weeks_134 : decode cX8_weeks 134 = .ok (.goto 5, 3) := by decide +kernel
theorem dX8_weeks_137 : decode cX8_weeks 137 = .ok (.iload 5, 2) := by decide +kernel
theorem dX8_weeks_139 : decode cX8_weeks 139 = .ok (.ireturn, 1) := by decide +kernel
theorem dX8_keep_0 : decode cX8_keep 0 = .ok (.aload_n 0, 1) := by decide +kernel
theorem dX8_keep_1 : decode cX8_keep 1 = .ok (.getfield 52, 3) := by decide +kernel
theorem dX8_keep_4 : decode cX8_keep 4 = .ok (.getfield 113, 3) := by decide +kernel
theorem dX8_keep_7 : decode cX8_keep 7 = .ok (.iconst 2, 1) := by decide +kernel
theorem dX8_keep_8 : decode cX8_keep 8 = .ok (.if_icmp .ne 6, 3) := by decide +kernel
theorem dX8_keep_11 : decode cX8_keep 11 = .ok (.bipush (-3), 2) := by decide +kernel
theorem dX8_keep_13 : decode cX8_keep 13 = .ok (.ireturn, 1) := by decide +kernel
theorem dX8_keep_14 : decode cX8_keep 14 = .ok (.aload_n 0, 1) := by decide +kernel
theorem dX8_keep_15 : decode cX8_keep 15 = .ok (.getfield 52, 3) := by decide +kernel
theorem dX8_keep_18 : decode cX8_keep 18 = .ok (.aload_n 0, 1) := by decide +kernel
theorem dX8_keep_19 : decode cX8_keep 19 = .ok (.getfield 36, 3) := by decide +kernel
theorem dX8_keep_22 : decode cX8_keep 22 = .ok (.invokevirtual 167, 3) := by decide +kernel
theorem dX8_keep_25 : decode cX8_keep 25 = .ok (.aload_n 0, 1) := by decide +kernel
theorem dX8_keep_26 : decode cX8_keep 26 = .ok (.getfield 52, 3) := by decide +kernel
theorem dX8_keep_29 : decode cX8_keep 29 = .ok (.getfield 113, 3) := by decide +kernel
theorem dX8_keep_32 : decode cX8_keep 32 = .ok (.ireturn, 1) := by decide +kernel
theorem dX8_back_0 : decode cX8_back 0 = .ok (.aload_n 0, 1) := by decide +kernel
theorem dX8_back_1 : decode cX8_back 1 = .ok (.getfield 52, 3) := by decide +kernel
theorem dX8_back_4 : decode cX8_back 4 = .ok (.aload_n 0, 1) := by decide +kernel
theorem dX8_back_5 : decode cX8_back 5 = .ok (.getfield 36, 3) := by decide +kernel
theorem dX8_back_8 : decode cX8_back 8 = .ok (.invokevirtual 185, 3) := by decide +kernel
theorem dX8_back_11 : decode cX8_back 11 = .ok (.ifCond .ne 6, 3) := by decide +kernel
theorem dX8_back_14 : decode cX8_back 14 = .ok (.bipush (-2), 2) := by decide +kernel
theorem dX8_back_16 : decode cX8_back 16 = .ok (.ireturn, 1) := by decide +kernel
theorem dX8_back_17 : decode cX8_back 17 = .ok (.aload_n 0, 1) := by decide +kernel
theorem dX8_back_18 : decode cX8_back 18 = .ok (.getfield 48, 3) := by decide +kernel
theorem dX8_back_21 : decode cX8_back 21 = .ok (.iconst 0, 1) := by decide +kernel
theorem dX8_back_22 : decode cX8_back 22 = .ok (.putfield 113, 3) := by decide +kernel
theorem dX8_back_25 : decode cX8_back 25 = .ok (.aload_n 0, 1) := by decide +kernel
theorem dX8_back_26 : decode cX8_back 26 = .ok (.getfield 52, 3) := by decide +kernel
theorem dX8_back_29 : decode cX8_back 29 = .ok (.getfield 113, 3) := by decide +kernel
theorem dX8_back_32 : decode cX8_back 32 = .ok (.ireturn, 1) := by decide +kernel
theorem dX8_count_0 : decode cX8_count 0 = .ok (.iload_n 1, 1) := by decide +kernel
theorem dX8_count_1 : decode cX8_count 1 = .ok (.tableswitch 141 0 8 #[51, 59, 67, 75, 86, 109, 117, 125, 133], 51) := by decide +kernel
theorem dX8_count_52 : decode cX8_count 52 = .ok (.aload_n 0, 1) := by decide +kernel
theorem dX8_count_53 : decode cX8_count 53 = .ok (.getfield 26, 3) := by decide +kernel
theorem dX8_count_56 : decode cX8_count 56 = .ok (.getfield 107, 3) := by decide +kernel
theorem dX8_count_59 : decode cX8_count 59 = .ok (.ireturn, 1) := by decide +kernel
theorem dX8_count_60 : decode cX8_count 60 = .ok (.aload_n 0, 1) := by decide +kernel
theorem dX8_count_61 : decode cX8_count 61 = .ok (.getfield 26, 3) := by decide +kernel
theorem dX8_count_64 : decode cX8_count 64 = .ok (.getfield 278, 3) := by decide +kernel
theorem dX8_count_67 : decode cX8_count 67 = .ok (.ireturn, 1) := by decide +kernel
theorem dX8_count_68 : decode cX8_count 68 = .ok (.aload_n 0, 1) := by decide +kernel
theorem dX8_count_69 : decode cX8_count 69 = .ok (.getfield 36, 3) := by decide +kernel
theorem dX8_count_72 : decode cX8_count 72 = .ok (.getfield 164, 3) := by decide +kernel
theorem dX8_count_75 : decode cX8_count 75 = .ok (.ireturn, 1) := by decide +kernel
theorem dX8_count_76 : decode cX8_count 76 = .ok (.aload_n 0, 1) := by decide +kernel
theorem dX8_count_77 : decode cX8_count 77 = .ok (.getfield 36, 3) := by decide +kernel
theorem dX8_count_80 : decode cX8_count 80 = .ok (.getfield 151, 3) := by decide +kernel
theorem dX8_count_83 : decode cX8_count 83 = .ok (.invokestatic 222, 3) := by decide +kernel
theorem dX8_count_86 : decode cX8_count 86 = .ok (.ireturn, 1) := by decide +kernel
theorem dX8_count_87 : decode cX8_count 87 = .ok (.aload_n 0, 1) := by decide +kernel
theorem dX8_count_88 : decode cX8_count 88 = .ok (.getfield 26, 3) := by decide +kernel
theorem dX8_count_91 : decode cX8_count 91 = .ok (.getfield 107, 3) := by decide +kernel
theorem dX8_count_94 : decode cX8_count 94 = .ok (.aload_n 0, 1) := by decide +kernel
theorem dX8_count_95 : decode cX8_count 95 = .ok (.getfield 36, 3) := by decide +kernel
theorem dX8_count_98 : decode cX8_count 98 = .ok (.aload_n 0, 1) := by decide +kernel
theorem dX8_count_99 : decode cX8_count 99 = .ok (.getfield 26, 3) := by decide +kernel
theorem dX8_count_102 : decode cX8_count 102 = .ok (.invokevirtual 219, 3) := by decide +kernel
theorem dX8_count_105 : decode cX8_count 105 = .ok (.invokestatic 222, 3) := by decide +kernel
theorem dX8_count_108 : decode cX8_count 108 = .ok (.isub, 1) := by decide +kernel
theorem dX8_count_109 : decode cX8_count 109 = .ok (.ireturn, 1) := by decide +kernel
theorem dX8_count_110 : decode cX8_count 110 = .ok (.aload_n 0, 1) := by decide +kernel
theorem dX8_count_111 : decode cX8_count 111 = .ok (.getfield 58, 3) := by decide +kernel
theorem dX8_count_114 : decode cX8_count 114 = .ok (.getfield 110, 3) := by decide +kernel
theorem dX8_count_117 : decode cX8_count 117 = .ok (.ireturn, 1) := by decide +kernel
theorem dX8_count_118 : decode cX8_count 118 = .ok (.aload_n 0, 1) := by decide +kernel
theorem dX8_count_119 : decode cX8_count 119 = .ok (.getfield 48, 3) := by decide +kernel
theorem dX8_count_122 : decode cX8_count 122 = .ok (.getfield 113, 3) := by decide +kernel
theorem dX8_count_125 : decode cX8_count 125 = .ok (.ireturn, 1) := by decide +kernel
theorem dX8_count_126 : decode cX8_count 126 = .ok (.aload_n 0, 1) := by decide +kernel
theorem dX8_count_127 : decode cX8_count 127 = .ok (.getfield 52, 3) := by decide +kernel
theorem dX8_count_130 : decode cX8_count 130 = .ok (.getfield 113, 3) := by decide +kernel
theorem dX8_count_133 : decode cX8_count 133 = .ok (.ireturn, 1) := by decide +kernel
theorem dX8_count_134 : decode cX8_count 134 = .ok (.aload_n 0, 1) := by decide +kernel
theorem dX8_count_135 : decode cX8_count 135 = .ok (.getfield 10, 3) := by decide +kernel
theorem dX8_count_138 : decode cX8_count 138 = .ok (.getfield 96, 3) := by decide +kernel
theorem dX8_count_141 : decode cX8_count 141 = .ok (.ireturn, 1) := by decide +kernel
theorem dX8_count_142 : decode cX8_count 142 = .ok (.iconst (-1), 1) := by decide +kernel
theorem dX8_count_143 : decode cX8_count 143 = .ok (.ireturn, 1) := by decide +kernel
theorem dX8_within_0 : decode cX8_within 0 = .ok (.iload_n 0, 1) := by decide +kernel
theorem dX8_within_1 : decode cX8_within 1 = .ok (.iload_n 1, 1) := by decide +kernel
theorem dX8_within_2 : decode cX8_within 2 = .ok (.if_icmp .lt 12, 3) := by decide +kernel
theorem dX8_within_5 : decode cX8_within 5 = .ok (.iload_n 0, 1) := by decide +kernel
theorem dX8_within_6 : decode cX8_within 6 = .ok (.iload_n 2, 1) := by decide +kernel
theorem dX8_within_7 : decode cX8_within 7 = .ok (.if_icmp .gt 7, 3) := by decide +kernel
theorem dX8_within_10 : decode cX8_within 10 = .ok (.iconst 1, 1) := by decide +kernel
theorem dX8_within_11 : decode cX8_within 11 = .ok (.goto 4, 3) := by decide +kernel
theorem dX8_within_14 : decode cX8_within 14 = .ok (.iconst 0, 1) := by decide +kernel
theorem dX8_within_15 : decode cX8_within 15 = .ok (.ireturn, 1) := by decide +kernel
theorem dX8_isStripe_0 : decode cX8_isStripe 0 = .ok (.iload_n 0, 1) := by decide +kernel
theorem dX8_isStripe_1 : decode cX8_isStripe 1 = .ok (.iconst 0, 1) := by decide +kernel
theorem dX8_isStripe_2 : decode cX8_isStripe 2 = .ok (.bipush 23, 2) := by decide +kernel
theorem dX8_isStripe_4 : decode cX8_isStripe 4 = .ok (.invokestatic 103, 3) := by decide +kernel
theorem dX8_isStripe_7 : decode cX8_isStripe 7 = .ok (.ireturn, 1) := by decide +kernel
theorem dX8_isFog_0 : decode cX8_isFog 0 = .ok (.iload_n 0, 1) := by decide +kernel
theorem dX8_isFog_1 : decode cX8_isFog 1 = .ok (.iconst 0, 1) := by decide +kernel
theorem dX8_isFog_2 : decode cX8_isFog 2 = .ok (.iconst 3, 1) := by decide +kernel
theorem dX8_isFog_3 : decode cX8_isFog 3 = .ok (.invokestatic 103, 3) := by decide +kernel
theorem dX8_isFog_6 : decode cX8_isFog 6 = .ok (.ireturn, 1) := by decide +kernel
theorem dX8_isColourOrDark_0 : decode cX8_isColourOrDark 0 = .ok (.iload_n 0, 1) := by decide +kernel
theorem dX8_isColourOrDark_1 : decode cX8_isColourOrDark 1 = .ok (.iconst 0, 1) := by decide +kernel
theorem dX8_isColourOrDark_2 : decode cX8_isColourOrDark 2 = .ok (.iconst 4, 1) := by decide +kernel
theorem dX8_isColourOrDark_3 : decode cX8_isColourOrDark 3 = .ok (.invokestatic 103, 3) := by decide +kernel
theorem dX8_isColourOrDark_6 : decode cX8_isColourOrDark 6 = .ok (.ireturn, 1) := by decide +kernel
theorem dX8_isTenant_0 : decode cX8_isTenant 0 = .ok (.iload_n 1, 1) := by decide +kernel
theorem dX8_isTenant_1 : decode cX8_isTenant 1 = .ok (.iconst 0, 1) := by decide +kernel
theorem dX8_isTenant_2 : decode cX8_isTenant 2 = .ok (.aload_n 0, 1) := by decide +kernel
theorem dX8_isTenant_3 : decode cX8_isTenant 3 = .ok (.getfield 26, 3) := by decide +kernel
theorem dX8_isTenant_6 : decode cX8_isTenant 6 = .ok (.getfield 107, 3) := by decide +kernel
theorem dX8_isTenant_9 : decode cX8_isTenant 9 = .ok (.iconst 1, 1) := by decide +kernel
theorem dX8_isTenant_10 : decode cX8_isTenant 10 = .ok (.isub, 1) := by decide +kernel
theorem dX8_isTenant_11 : decode cX8_isTenant 11 = .ok (.invokestatic 103, 3) := by decide +kernel
theorem dX8_isTenant_14 : decode cX8_isTenant 14 = .ok (.ireturn, 1) := by decide +kernel
theorem dX8_isShip_0 : decode cX8_isShip 0 = .ok (.iload_n 1, 1) := by decide +kernel
theorem dX8_isShip_1 : decode cX8_isShip 1 = .ok (.iconst 0, 1) := by decide +kernel
theorem dX8_isShip_2 : decode cX8_isShip 2 = .ok (.aload_n 0, 1) := by decide +kernel
theorem dX8_isShip_3 : decode cX8_isShip 3 = .ok (.getfield 26, 3) := by decide +kernel
theorem dX8_isShip_6 : decode cX8_isShip 6 = .ok (.getfield 278, 3) := by decide +kernel
theorem dX8_isShip_9 : decode cX8_isShip 9 = .ok (.iconst 1, 1) := by decide +kernel
theorem dX8_isShip_10 : decode cX8_isShip 10 = .ok (.isub, 1) := by decide +kernel
theorem dX8_isShip_11 : decode cX8_isShip 11 = .ok (.invokestatic 103, 3) := by decide +kernel
theorem dX8_isShip_14 : decode cX8_isShip 14 = .ok (.ireturn, 1) := by decide +kernel
theorem dX8_coloursSeenIn_0 : decode cX8_coloursSeenIn 0 = .ok (.iconst 4, 1) := by decide +kernel
theorem dX8_coloursSeenIn_1 : decode cX8_coloursSeenIn 1 = .ok (.iload_n 0, 1) := by decide +kernel
theorem dX8_coloursSeenIn_2 : decode cX8_coloursSeenIn 2 = .ok (.isub, 1) := by decide +kernel
theorem dX8_coloursSeenIn_3 : decode cX8_coloursSeenIn 3 = .ok (.ireturn, 1) := by decide +kernel
theorem dX8_swap_0 : decode cX8_swap 0 = .ok (.aload_n 0, 1) := by decide +kernel
theorem dX8_swap_1 : decode cX8_swap 1 = .ok (.iload_n 1, 1) := by decide +kernel
theorem dX8_swap_2 : decode cX8_swap 2 = .ok (.iaload, 1) := by decide +kernel
theorem dX8_swap_3 : decode cX8_swap 3 = .ok (.istore_n 3, 1) := by decide +kernel
theorem dX8_swap_4 : decode cX8_swap 4 = .ok (.aload_n 0, 1) := by decide +kernel
theorem dX8_swap_5 : decode cX8_swap 5 = .ok (.iload_n 1, 1) := by decide +kernel
theorem dX8_swap_6 : decode cX8_swap 6 = .ok (.aload_n 0, 1) := by decide +kernel
theorem dX8_swap_7 : decode cX8_swap 7 = .ok (.iload_n 2, 1) := by decide +kernel
theorem dX8_swap_8 : decode cX8_swap 8 = .ok (.iaload, 1) := by decide +kernel
theorem dX8_swap_9 : decode cX8_swap 9 = .ok (.iastore, 1) := by decide +kernel
theorem dX8_swap_10 : decode cX8_swap 10 = .ok (.aload_n 0, 1) := by decide +kernel
theorem dX8_swap_11 : decode cX8_swap 11 = .ok (.iload_n 2, 1) := by decide +kernel
theorem dX8_swap_12 : decode cX8_swap 12 = .ok (.iload_n 3, 1) := by decide +kernel
theorem dX8_swap_13 : decode cX8_swap 13 = .ok (.iastore, 1) := by decide +kernel
theorem dX8_swap_14 : decode cX8_swap 14 = .ok (.return_, 1) := by decide +kernel
theorem dX8_stripesFrom_0 : decode cX8_stripesFrom 0 = .ok (.iload_n 1, 1) := by decide +kernel
theorem dX8_stripesFrom_1 : decode cX8_stripesFrom 1 = .ok (.i2l, 1) := by decide +kernel
theorem dX8_stripesFrom_2 : decode cX8_stripesFrom 2 = .ok (.iload_n 0, 1) := by decide +kernel
theorem dX8_stripesFrom_3 : decode cX8_stripesFrom 3 = .ok (.lshl, 1) := by decide +kernel
theorem dX8_stripesFrom_4 : decode cX8_stripesFrom 4 = .ok (.lstore_n 2, 1) := by decide +kernel
theorem dX8_stripesFrom_5 : decode cX8_stripesFrom 5 = .ok (.lload_n 2, 1) := by decide +kernel
theorem dX8_stripesFrom_6 : decode cX8_stripesFrom 6 = .ok (.lload_n 2, 1) := by decide +kernel
theorem dX8_stripesFrom_7 : decode cX8_stripesFrom 7 = .ok (.bipush 24, 2) := by decide +kernel
theorem dX8_stripesFrom_9 : decode cX8_stripesFrom 9 = .ok (.lushr, 1) := by decide +kernel
theorem dX8_stripesFrom_10 : decode cX8_stripesFrom 10 = .ok (.lor, 1) := by decide +kernel
theorem dX8_stripesFrom_11 : decode cX8_stripesFrom 11 = .ok (.ldc2_w 281, 3) := by decide +kernel
theorem dX8_stripesFrom_14 : decode cX8_stripesFrom 14 = .ok (.land, 1) := by decide +kernel
theorem dX8_stripesFrom_15 : decode cX8_stripesFrom 15 = .ok (.l2i, 1) := by decide +kernel
theorem dX8_stripesFrom_16 : decode cX8_stripesFrom 16 = .ok (.ireturn, 1) := by decide +kernel
theorem dX8_drawnFog_0 : decode cX8_drawnFog 0 = .ok (.ldc2_w 283, 3) := by decide +kernel
theorem dX8_drawnFog_3 : decode cX8_drawnFog 3 = .ok (.iload_n 0, 1) := by decide +kernel
theorem dX8_drawnFog_4 : decode cX8_drawnFog 4 = .ok (.i2l, 1) := by decide +kernel
theorem dX8_drawnFog_5 : decode cX8_drawnFog 5 = .ok (.lmul, 1) := by decide +kernel
theorem dX8_drawnFog_6 : decode cX8_drawnFog 6 = .ok (.ldc2_w 285, 3) := by decide +kernel
theorem dX8_drawnFog_9 : decode cX8_drawnFog 9 = .ok (.iload_n 1, 1) := by decide +kernel
theorem dX8_drawnFog_10 : decode cX8_drawnFog 10 = .ok (.i2l, 1) := by decide +kernel
theorem dX8_drawnFog_11 : decode cX8_drawnFog 11 = .ok (.lmul, 1) := by decide +kernel
theorem dX8_drawnFog_12 : decode cX8_drawnFog 12 = .ok (.ladd, 1) := by decide +kernel
theorem dX8_drawnFog_13 : decode cX8_drawnFog 13 = .ok (.lconst 1, 1) := by decide +kernel
theorem dX8_drawnFog_14 : decode cX8_drawnFog 14 = .ok (.ladd, 1) := by decide +kernel
theorem dX8_drawnFog_15 : decode cX8_drawnFog 15 = .ok (.lstore_n 2, 1) := by decide +kernel
theorem dX8_drawnFog_16 : decode cX8_drawnFog 16 = .ok (.lload_n 2, 1) := by decide +kernel
theorem dX8_drawnFog_17 : decode cX8_drawnFog 17 = .ok (.lload_n 2, 1) := by decide +kernel
theorem dX8_drawnFog_18 : decode cX8_drawnFog 18 = .ok (.lmul, 1) := by decide +kernel
theorem dX8_drawnFog_19 : decode cX8_drawnFog 19 = .ok (.ldc2_w 287, 3) := by decide +kernel
theorem dX8_drawnFog_22 : decode cX8_drawnFog 22 = .ok (.lrem, 1) := by decide +kernel
theorem dX8_drawnFog_23 : decode cX8_drawnFog 23 = .ok (.ldc2_w 289, 3) := by decide +kernel
theorem dX8_drawnFog_26 : decode cX8_drawnFog 26 = .ok (.ldiv, 1) := by decide +kernel
theorem dX8_drawnFog_27 : decode cX8_drawnFog 27 = .ok (.lstore 4, 2) := by decide +kernel
theorem dX8_drawnFog_29 : decode cX8_drawnFog 29 = .ok (.lload 4, 2) := by decide +kernel
theorem dX8_drawnFog_31 : decode cX8_drawnFog 31 = .ok (.ldc2_w 289, 3) := by decide +kernel
theorem dX8_drawnFog_34 : decode cX8_drawnFog 34 = .ok (.lrem, 1) := by decide +kernel
theorem dX8_drawnFog_35 : decode cX8_drawnFog 35 = .ok (.l2i, 1) := by decide +kernel
theorem dX8_drawnFog_36 : decode cX8_drawnFog 36 = .ok (.ireturn, 1) := by decide +kernel
theorem dX8_partOfTenths_0 : decode cX8_partOfTenths 0 = .ok (.iconst 1, 1) := by decide +kernel
theorem dX8_partOfTenths_1 : decode cX8_partOfTenths 1 = .ok (.istore_n 2, 1) := by decide +kernel
theorem dX8_partOfTenths_2 : decode cX8_partOfTenths 2 = .ok (.iconst 2, 1) := by decide +kernel
theorem dX8_partOfTenths_3 : decode cX8_partOfTenths 3 = .ok (.istore_n 3, 1) := by decide +kernel
theorem dX8_partOfTenths_4 : decode cX8_partOfTenths 4 = .ok (.iload_n 3, 1) := by decide +kernel
theorem dX8_partOfTenths_5 : decode cX8_partOfTenths 5 = .ok (.bipush 10, 2) := by decide +kernel
theorem dX8_partOfTenths_7 : decode cX8_partOfTenths 7 = .ok (.if_icmp .gt 24, 3) := by decide +kernel
theorem dX8_partOfTenths_10 : decode cX8_partOfTenths 10 = .ok (.iload_n 0, 1) := by decide +kernel
theorem dX8_partOfTenths_11 : decode cX8_partOfTenths 11 = .ok (.iload_n 3, 1) := by decide +kernel
theorem dX8_partOfTenths_12 : decode cX8_partOfTenths 12 = .ok (.irem, 1) := by decide +kernel
theorem dX8_partOfTenths_13 : decode cX8_partOfTenths 13 = .ok (.ifCond .ne 12, 3) := by decide +kernel
theorem dX8_partOfTenths_16 : decode cX8_partOfTenths 16 = .ok (.bipush 10, 2) := by decide +kernel
theorem dX8_partOfTenths_18 : decode cX8_partOfTenths 18 = .ok (.iload_n 3, 1) := by decide +kernel
theorem dX8_partOfTenths_19 : decode cX8_partOfTenths 19 = .ok (.irem, 1) := by decide +kernel
theorem dX8_partOfTenths_20 : decode cX8_partOfTenths 20 = .ok (.ifCond .ne 5, 3) := by decide +kernel
theorem dX8_partOfTenths_23 : decode cX8_partOfTenths 23 = .ok (.iload_n 3, 1) := by decide +kernel
theorem dX8_partOfTenths_24 : decode cX8_partOfTenths 24 = .ok (.istore_n 2, 1) := by decide +kernel
theorem dX8_partOfTenths_25 : decode cX8_partOfTenths 25 = .ok (.iinc 3 1, 3) := by decide +kernel
theorem dX8_partOfTenths_28 : decode cX8_partOfTenths 28 = .ok (.goto (-24), 3) := by decide +kernel
theorem dX8_partOfTenths_31 : decode cX8_partOfTenths 31 = .ok (.iload_n 1, 1) := by decide +kernel
theorem dX8_partOfTenths_32 : decode cX8_partOfTenths 32 = .ok (.ifCond .ne 9, 3) := by decide +kernel
theorem dX8_partOfTenths_35 : decode cX8_partOfTenths 35 = .ok (.iload_n 0, 1) := by decide +kernel
theorem dX8_partOfTenths_36 : decode cX8_partOfTenths 36 = .ok (.iload_n 2, 1) := by decide +kernel
theorem dX8_partOfTenths_37 : decode cX8_partOfTenths 37 = .ok (.idiv, 1) := by decide +kernel
theorem dX8_partOfTenths_38 : decode cX8_partOfTenths 38 = .ok (.goto 7, 3) := by decide +kernel
theorem dX8_partOfTenths_41 : decode cX8_partOfTenths 41 = .ok (.bipush 10, 2) := by decide +kernel
theorem dX8_partOfTenths_43 : decode cX8_partOfTenths 43 = .ok (.iload_n 2, 1) := by decide +kernel
theorem dX8_partOfTenths_44 : decode cX8_partOfTenths 44 = .ok (.idiv, 1) := by decide +kernel
theorem dX8_partOfTenths_45 : decode cX8_partOfTenths 45 = .ok (.ireturn, 1) := by decide +kernel
theorem dX8_lightAsNow_0 : decode cX8_lightAsNow 0 = .ok (.aload_n 0, 1) := by decide +kernel
theorem dX8_lightAsNow_1 : decode cX8_lightAsNow 1 = .ok (.aload_n 0, 1) := by decide +kernel
theorem dX8_lightAsNow_2 : decode cX8_lightAsNow 2 = .ok (.getfield 36, 3) := by decide +kernel
theorem dX8_lightAsNow_5 : decode cX8_lightAsNow 5 = .ok (.invokevirtual 272, 3) := by decide +kernel
theorem dX8_lightAsNow_8 : decode cX8_lightAsNow 8 = .ok (.return_, 1) := by decide +kernel
theorem dX8_lightAs_0 : decode cX8_lightAs 0 = .ok (.aload_n 0, 1) := by decide +kernel
theorem dX8_lightAs_1 : decode cX8_lightAs 1 = .ok (.getfield 65, 3) := by decide +kernel
theorem dX8_lightAs_4 : decode cX8_lightAs 4 = .ok (.aload_n 0, 1) := by decide +kernel
theorem dX8_lightAs_5 : decode cX8_lightAs 5 = .ok (.getfield 26, 3) := by decide +kernel
theorem dX8_lightAs_8 : decode cX8_lightAs 8 = .ok (.aload_n 1, 1) := by decide +kernel
theorem dX8_lightAs_9 : decode cX8_lightAs 9 = .ok (.invokevirtual 249, 3) := by decide +kernel
theorem dX8_lightAs_12 : decode cX8_lightAs 12 = .ok (.aload_n 0, 1) := by decide +kernel
theorem dX8_lightAs_13 : decode cX8_lightAs 13 = .ok (.getfield 65, 3) := by decide +kernel
theorem dX8_lightAs_16 : decode cX8_lightAs 16 = .ok (.aload_n 0, 1) := by decide +kernel
theorem dX8_lightAs_17 : decode cX8_lightAs 17 = .ok (.getfield 26, 3) := by decide +kernel
theorem dX8_lightAs_20 : decode cX8_lightAs 20 = .ok (.aload_n 1, 1) := by decide +kernel
theorem dX8_lightAs_21 : decode cX8_lightAs 21 = .ok (.aload_n 0, 1) := by decide +kernel
theorem dX8_lightAs_22 : decode cX8_lightAs 22 = .ok (.getfield 26, 3) := by decide +kernel
theorem dX8_lightAs_25 : decode cX8_lightAs 25 = .ok (.invokevirtual 219, 3) := by decide +kernel
theorem dX8_lightAs_28 : decode cX8_lightAs 28 = .ok (.aload_n 1, 1) := by decide +kernel
theorem dX8_lightAs_29 : decode cX8_lightAs 29 = .ok (.getfield 151, 3) := by decide +kernel
theorem dX8_lightAs_32 : decode cX8_lightAs 32 = .ok (.invokevirtual 236, 3) := by decide +kernel
theorem dX8_lightAs_35 : decode cX8_lightAs 35 = .ok (.return_, 1) := by decide +kernel
theorem dX8_sureByLightOf_0 : decode cX8_sureByLightOf 0 = .ok (.aload_n 0, 1) := by decide +kernel
theorem dX8_sureByLightOf_1 : decode cX8_sureByLightOf 1 = .ok (.getfield 65, 3) := by decide +kernel
theorem dX8_sureByLightOf_4 : decode cX8_sureByLightOf 4 = .ok (.aload_n 0, 1) := by decide +kernel
theorem dX8_sureByLightOf_5 : decode cX8_sureByLightOf 5 = .ok (.getfield 26, 3) := by decide +kernel
theorem dX8_sureByLightOf_8 : decode cX8_sureByLightOf 8 = .ok (.iload_n 1, 1) := by decide +kernel
theorem dX8_sureByLightOf_9 : decode cX8_sureByLightOf 9 = .ok (.aload_n 0, 1) := by decide +kernel
theorem dX8_sureByLightOf_10 : decode cX8_sureByLightOf 10 = .ok (.getfield 36, 3) := by decide +kernel
theorem dX8_sureByLightOf_13 : decode cX8_sureByLightOf 13 = .ok (.getfield 151, 3) := by decide +kernel
theorem dX8_sureByLightOf_16 : decode cX8_sureByLightOf 16 = .ok (.invokevirtual 236, 3) := by decide +kernel
theorem dX8_sureByLightOf_19 : decode cX8_sureByLightOf 19 = .ok (.aload_n 0, 1) := by decide +kernel
theorem dX8_sureByLightOf_20 : decode cX8_sureByLightOf 20 = .ok (.getfield 65, 3) := by decide +kernel
theorem dX8_sureByLightOf_23 : decode cX8_sureByLightOf 23 = .ok (.aload_n 0, 1) := by decide +kernel
theorem dX8_sureByLightOf_24 : decode cX8_sureByLightOf 24 = .ok (.getfield 26, 3) := by decide +kernel
theorem dX8_sureByLightOf_27 : decode cX8_sureByLightOf 27 = .ok (.iload_n 2, 1) := by decide +kernel
theorem dX8_sureByLightOf_28 : decode cX8_sureByLightOf 28 = .ok (.invokevirtual 205, 3) := by decide +kernel
theorem dX8_sureByLightOf_31 : decode cX8_sureByLightOf 31 = .ok (.invokestatic 222, 3) := by decide +kernel
theorem dX8_sureByLightOf_34 : decode cX8_sureByLightOf 34 = .ok (.ireturn, 1) := by decide +kernel
theorem dX8_sureTenths_0 : decode cX8_sureTenths 0 = .ok (.iconst 0, 1) := by decide +kernel
theorem dX8_sureTenths_1 : decode cX8_sureTenths 1 = .ok (.istore_n 2, 1) := by decide +kernel
theorem dX8_sureTenths_2 : decode cX8_sureTenths 2 = .ok (.iconst 0, 1) := by decide +kernel
theorem dX8_sureTenths_3 : decode cX8_sureTenths 3 = .ok (.istore_n 3, 1) := by decide +kernel
theorem dX8_sureTenths_4 : decode cX8_sureTenths 4 = .ok (.iload_n 3, 1) := by decide +kernel
theorem dX8_sureTenths_5 : decode cX8_sureTenths 5 = .ok (.iconst 4, 1) := by decide +kernel
theorem dX8_sureTenths_6 : decode cX8_sureTenths 6 = .ok (.if_icmp .ge 39, 3) := by decide +kernel
theorem dX8_sureTenths_9 : decode cX8_sureTenths 9 = .ok (.iload_n 2, 1) := by decide +kernel
theorem dX8_sureTenths_10 : decode cX8_sureTenths 10 = .ok (.aload_n 0, 1) := by decide +kernel
theorem dX8_sureTenths_11 : decode cX8_sureTenths 11 = .ok (.getfield 26, 3) := by decide +kernel
theorem dX8_sureTenths_14 : decode cX8_sureTenths 14 = .ok (.getfield 291, 3) := by decide +kernel
theorem dX8_sureTenths_17 : decode cX8_sureTenths 17 = .ok (.iload_n 3, 1) := by decide +kernel
theorem dX8_sureTenths_18 : decode cX8_sureTenths 18 = .ok (.iaload, 1) := by decide +kernel
theorem dX8_sureTenths_19 : decode cX8_sureTenths 19 = .ok (.aload_n 0, 1) := by decide +kernel
theorem dX8_sureTenths_20 : decode cX8_sureTenths 20 = .ok (.getfield 65, 3) := by decide +kernel
theorem dX8_sureTenths_23 : decode cX8_sureTenths 23 = .ok (.aload_n 0, 1) := by decide +kernel
theorem dX8_sureTenths_24 : decode cX8_sureTenths 24 = .ok (.getfield 26, 3) := by decide +kernel
theorem dX8_sureTenths_27 : decode cX8_sureTenths 27 = .ok (.iload_n 3, 1) := by decide +kernel
theorem dX8_sureTenths_28 : decode cX8_sureTenths 28 = .ok (.invokevirtual 205, 3) := by decide +kernel
theorem dX8_sureTenths_31 : decode cX8_sureTenths 31 = .ok (.iload_n 1, 1) := by decide +kernel
theorem dX8_sureTenths_32 : decode cX8_sureTenths 32 = .ok (.iand, 1) := by decide +kernel
theorem dX8_sureTenths_33 : decode cX8_sureTenths 33 = .ok (.invokestatic 222, 3) := by decide +kernel
theorem dX8_sureTenths_36 : decode cX8_sureTenths 36 = .ok (.imul, 1) := by decide +kernel
theorem dX8_sureTenths_37 : decode cX8_sureTenths 37 = .ok (.iadd, 1) := by decide +kernel
theorem dX8_sureTenths_38 : decode cX8_sureTenths 38 = .ok (.istore_n 2, 1) := by decide +kernel
theorem dX8_sureTenths_39 : decode cX8_sureTenths 39 = .ok (.iinc 3 1, 3) := by decide +kernel
theorem dX8_sureTenths_42 : decode cX8_sureTenths 42 = .ok (.goto (-38), 3) := by decide +kernel
theorem dX8_sureTenths_45 : decode cX8_sureTenths 45 = .ok (.iload_n 2, 1) := by decide +kernel
theorem dX8_sureTenths_46 : decode cX8_sureTenths 46 = .ok (.ireturn, 1) := by decide +kernel
theorem dX9_init_0 : decode cX9_init 0 = .ok (.aload_n 0, 1) := by decide +kernel
theorem dX9_init_1 : decode cX9_init 1 = .ok (.invokespecial 1, 3) := by decide +kernel
theorem dX9_init_4 : decode cX9_init 4 = .ok (.aload_n 0, 1) := by decide +kernel
theorem dX9_init_5 : decode cX9_init 5 = .ok (.bipush 18, 2) := by decide +kernel
theorem dX9_init_7 : decode cX9_init 7 = .ok (.newarray .int, 2) := by decide +kernel
theorem dX9_init_9 : decode cX9_init 9 = .ok (.putfield 7, 3) := by decide +kernel
theorem dX9_init_12 : decode cX9_init 12 = .ok (.aload_n 0, 1) := by decide +kernel
theorem dX9_init_13 : decode cX9_init 13 = .ok (.bipush 10, 2) := by decide +kernel
theorem dX9_init_15 : decode cX9_init 15 = .ok (.newarray .int, 2) := by decide +kernel
theorem dX9_init_17 : decode cX9_init 17 = .ok (.putfield 13, 3) := by decide +kernel
theorem dX9_init_20 : decode cX9_init 20 = .ok (.aload_n 0, 1) := by decide +kernel
theorem dX9_init_21 : decode cX9_init 21 = .ok (.iconst 4, 1) := by decide +kernel
theorem dX9_init_22 : decode cX9_init 22 = .ok (.newarray .int, 2) := by decide +kernel
theorem dX9_init_24 : decode cX9_init 24 = .ok (.putfield 16, 3) := by decide +kernel
theorem dX9_init_27 : decode cX9_init 27 = .ok (.aload_n 0, 1) := by decide +kernel
theorem dX9_init_28 : decode cX9_init 28 = .ok (.bipush 20, 2) := by decide +kernel
theorem dX9_init_30 : decode cX9_init 30 = .ok (.newarray .int, 2) := by decide +kernel
theorem dX9_init_32 : decode cX9_init 32 = .ok (.putfield 19, 3) := by decide +kernel
theorem dX9_init_35 : decode cX9_init 35 = .ok (.aload_n 0, 1) := by decide +kernel
theorem dX9_init_36 : decode cX9_init 36 = .ok (.sipush 160, 3) := by decide +kernel
theorem dX9_init_39 : decode cX9_init 39 = .ok (.newarray .int, 2) := by decide +kernel
theorem dX9_init_41 : decode cX9_init 41 = .ok (.putfield 22, 3) := by decide +kernel
theorem dX9_init_44 : decode cX9_init 44 = .ok (.aload_n 0, 1) := by decide +kernel
theorem dX9_init_45 : decode cX9_init 45 = .ok (.bipush 40, 2) := by decide +kernel
theorem dX9_init_47 : decode cX9_init 47 = .ok (.newarray .int, 2) := by decide +kernel
theorem dX9_init_49 : decode cX9_init 49 = .ok (.putfield 25, 3) := by decide +kernel
theorem dX9_init_52 : decode cX9_init 52 = .ok (.aload_n 0, 1) := by decide +kernel
theorem dX9_init_53 : decode cX9_init 53 = .ok (.bipush 16, 2) := by decide +kernel
theorem dX9_init_55 : decode cX9_init 55 = .ok (.newarray .int, 2) := by decide +kernel
theorem dX9_init_57 : decode cX9_init 57 = .ok (.putfield 28, 3) := by decide +kernel
theorem dX9_init_60 : decode cX9_init 60 = .ok (.aload_n 0, 1) := by decide +kernel
theorem dX9_init_61 : decode cX9_init 61 = .ok (.sipush 200, 3) := by decide +kernel
theorem dX9_init_64 : decode cX9_init 64 = .ok (.newarray .int, 2) := by decide +kernel
theorem dX9_init_66 : decode cX9_init 66 = .ok (.putfield 31, 3) := by decide +kernel
theorem dX9_init_69 : decode cX9_init 69 = .ok (.aload_n 0, 1) := by decide +kernel
theorem dX9_init_70 : decode cX9_init 70 = .ok (.iconst 5, 1) := by decide +kernel
theorem dX9_init_71 : decode cX9_init 71 = .ok (.newarray .int, 2) := by decide +kernel
theorem dX9_init_73 : decode cX9_init 73 = .ok (.putfield 34, 3) := by decide +kernel
theorem dX9_init_76 : decode cX9_init 76 = .ok (.aload_n 0, 1) := by decide +kernel
theorem dX9_init_77 : decode cX9_init 77 = .ok (.bipush 18, 2) := by decide +kernel
theorem dX9_init_79 : decode cX9_init 79 = .ok (.newarray .int, 2) := by decide +kernel
theorem dX9_init_81 : decode cX9_init 81 = .ok (.putfield 37, 3) := by decide +kernel
theorem dX9_init_84 : decode cX9_init 84 = .ok (.aload_n 0, 1) := by decide +kernel
theorem dX9_init_85 : decode cX9_init 85 = .ok (.bipush 10, 2) := by decide +kernel
theorem dX9_init_87 : decode cX9_init 87 = .ok (.newarray .int, 2) := by decide +kernel
theorem dX9_init_89 : decode cX9_init 89 = .ok (.putfield 40, 3) := by decide +kernel
theorem dX9_init_92 : decode cX9_init 92 = .ok (.aload_n 0, 1) := by decide +kernel
theorem dX9_init_93 : decode cX9_init 93 = .ok (.iconst 4, 1) := by decide +kernel
theorem dX9_init_94 : decode cX9_init 94 = .ok (.newarray .int, 2) := by decide +kernel
theorem dX9_init_96 : decode cX9_init 96 = .ok (.putfield 43, 3) := by decide +kernel
theorem dX9_init_99 : decode cX9_init 99 = .ok (.aload_n 0, 1) := by decide +kernel
theorem dX9_init_100 : decode cX9_init 100 = .ok (.bipush 20, 2) := by decide +kernel
theorem dX9_init_102 : decode cX9_init 102 = .ok (.newarray .int, 2) := by decide +kernel
theorem dX9_init_104 : decode cX9_init 104 = .ok (.putfield 46, 3) := by decide +kernel
theorem dX9_init_107 : decode cX9_init 107 = .ok (.aload_n 0, 1) := by decide +kernel
theorem dX9_init_108 : decode cX9_init 108 = .ok (.bipush 20, 2) := by decide +kernel
theorem dX9_init_110 : decode cX9_init 110 = .ok (.newarray .int, 2) := by decide +kernel
theorem dX9_init_112 : decode cX9_init 112 = .ok (.putfield 49, 3) := by decide +kernel
theorem dX9_init_115 : decode cX9_init 115 = .ok (.aload_n 0, 1) := by decide +kernel
theorem dX9_init_116 : decode cX9_init 116 = .ok (.bipush 24, 2) := by decide +kernel
theorem dX9_init_118 : decode cX9_init 118 = .ok (.newarray .int, 2) := by decide +kernel
theorem dX9_init_120 : decode cX9_init 120 = .ok (.putfield 52, 3) := by decide +kernel
theorem dX9_init_123 : decode cX9_init 123 = .ok (.aload_n 0, 1) := by decide +kernel
theorem dX9_init_124 : decode cX9_init 124 = .ok (.bipush 24, 2) := by decide +kernel
theorem dX9_init_126 : decode cX9_init 126 = .ok (.newarray .int, 2) := by decide +kernel
theorem dX9_init_128 : decode cX9_init 128 = .ok (.putfield 55, 3) := by decide +kernel
theorem dX9_init_131 : decode cX9_init 131 = .ok (.aload_n 0, 1) := by decide +kernel
theorem dX9_init_132 : decode cX9_init 132 = .ok (.bipush 6, 2) := by decide +kernel
theorem dX9_init_134 : decode cX9_init 134 = .ok (.newarray .int, 2) := by decide +kernel
theorem dX9_init_136 : decode cX9_init 136 = .ok (.putfield 58, 3) := by decide +kernel
theorem dX9_init_139 : decode cX9_init 139 = .ok (.aload_n 0, 1) := by decide +kernel
theorem dX9_init_140 : decode cX9_init 140 = .ok (.bipush 6, 2) := by decide +kernel
theorem dX9_init_142 : decode cX9_init 142 = .ok (.newarray .int, 2) := by decide +kernel
theorem dX9_init_144 : decode cX9_init 144 = .ok (.putfield 61, 3) := by decide +kernel
theorem dX9_init_147 : decode cX9_init 147 = .ok (.aload_n 0, 1) := by decide +kernel
theorem dX9_init_148 : decode cX9_init 148 = .ok (.invokevirtual 64, 3) := by decide +kernel
theorem dX9_init_151 : decode cX9_init 151 = .ok (.aload_n 0, 1) := by decide +kernel
theorem dX9_init_152 : decode cX9_init 152 = .ok (.iconst 0, 1) := by decide +kernel
theorem dX9_init_153 : decode cX9_init 153 = .ok (.iconst 0, 1) := by decide +kernel
theorem dX9_init_154 : decode cX9_init 154 = .ok (.bipush 6, 2) := by decide +kernel
theorem dX9_init_156 : decode cX9_init 156 = .ok (.iconst 5, 1) := by decide +kernel
theorem dX9_init_157 : decode cX9_init 157 = .ok (.iconst 0, 1) := by decide +kernel
theorem dX9_init_158 : decode cX9_init 158 = .ok (.invokevirtual 67, 3) := by decide +kernel
theorem dX9_init_161 : decode cX9_init 161 = .ok (.aload_n 0, 1) := by decide +kernel
theorem dX9_init_162 : decode cX9_init 162 = .ok (.iconst 1, 1) := by decide +kernel
theorem dX9_init_163 : decode cX9_init 163 = .ok (.bipush 6, 2) := by decide +kernel
theorem dX9_init_165 : decode cX9_init 165 = .ok (.iconst 4, 1) := by decide +kernel
theorem dX9_init_166 : decode cX9_init 166 = .ok (.iconst 3, 1) := by decide +kernel
theorem dX9_init_167 : decode cX9_init 167 = .ok (.iconst 1, 1) := by decide +kernel
theorem dX9_init_168 : decode cX9_init 168 = .ok (.invokevirtual 67, 3) := by decide +kernel
theorem dX9_init_171 : decode cX9_init 171 = .ok (.aload_n 0, 1) := by decide +kernel
theorem dX9_init_172 : decode cX9_init 172 = .ok (.iconst 2, 1) := by decide +kernel
theorem dX9_init_173 : decode cX9_init 173 = .ok (.bipush 9, 2) := by decide +kernel
theorem dX9_init_175 : decode cX9_init 175 = .ok (.iconst 5, 1) := by decide +kernel
theorem dX9_init_176 : decode cX9_init 176 = .ok (.bipush 8, 2) := by decide +kernel
theorem dX9_init_178 : decode cX9_init 178 = .ok (.iconst 2, 1) := by decide +kernel
theorem dX9_init_179 : decode cX9_init 179 = .ok (.invokevirtual 67, 3) := by decide +kernel
theorem dX9_init_182 : decode cX9_init 182 = .ok (.aload_n 0, 1) := by decide +kernel
theorem dX9_init_183 : decode cX9_init 183 = .ok (.iconst 3, 1) := by decide +kernel
theorem dX9_init_184 : decode cX9_init 184 = .ok (.bipush 16, 2) := by decide +kernel
theorem dX9_init_186 : decode cX9_init 186 = .ok (.bipush 6, 2) := by decide +kernel
theorem dX9_init_188 : decode cX9_init 188 = .ok (.iconst 1, 1) := by decide +kernel
theorem dX9_init_189 : decode cX9_init 189 = .ok (.iconst 0, 1) := by decide +kernel
theorem dX9_init_190 : decode cX9_init 190 = .ok (.invokevirtual 67, 3) := by decide +kernel
theorem dX9_init_193 : decode cX9_init 193 = .ok (.aload_n 0, 1) := by decide +kernel
theorem dX9_init_194 : decode cX9_init 194 = .ok (.iconst 1, 1) := by decide +kernel
theorem dX9_init_195 : decode cX9_init 195 = .ok (.bipush 20, 2) := by decide +kernel
theorem dX9_init_197 : decode cX9_init 197 = .ok (.iconst 2, 1) := by decide +kernel
theorem dX9_init_198 : decode cX9_init 198 = .ok (.iconst 2, 1) := by decide +kernel
theorem dX9_init_199 : decode cX9_init 199 = .ok (.iconst 3, 1) := by decide +kernel
theorem dX9_init_200 : decode cX9_init 200 = .ok (.invokevirtual 67, 3) := by decide +kernel
theorem dX9_init_203 : decode cX9_init 203 = .ok (.aload_n 0, 1) := by decide +kernel
theorem dX9_init_204 : decode cX9_init 204 = .ok (.iconst 0, 1) := by decide +kernel
theorem dX9_init_205 : decode cX9_init 205 = .ok (.bipush 6, 2) := by decide +kernel
theorem dX9_init_207 : decode cX9_init 207 = .ok (.invokevirtual 71, 3) := by decide +kernel
theorem dX9_init_210 : decode cX9_init 210 = .ok (.aload_n 0, 1) := by decide +kernel
theorem dX9_init_211 : decode cX9_init 211 = .ok (.bipush 8, 2) := by decide +kernel
theorem dX9_init_213 : decode cX9_init 213 = .ok (.iconst 4, 1) := by decide +kernel
theorem dX9_init_214 : decode cX9_init 214 = .ok (.invokevirtual 71, 3) := by decide +kernel
theorem dX9_init_217 : decode cX9_init 217 = .ok (.aload_n 0, 1) := by decide +kernel
theorem dX9_init_218 : decode cX9_init 218 = .ok (.bipush 15, 2) := by decide +kernel
theorem dX9_init_220 : decode cX9_init 220 = .ok (.iconst 5, 1) := by decide +kernel
theorem dX9_init_221 : decode cX9_init 221 = .ok (.invokevirtual 71, 3) := by decide +kernel
theorem dX9_init_224 : decode cX9_init 224 = .ok (.aload_n 0, 1) := by decide +kernel
theorem dX9_init_225 : decode cX9_init 225 = .ok (.bipush 22, 2) := by decide +kernel
theorem dX9_init_227 : decode cX9_init 227 = .ok (.iconst 4, 1) := by decide +kernel
theorem dX9_init_228 : decode cX9_init 228 = .ok (.invokevirtual 71, 3) := by decide +kernel
theorem dX9_init_231 : decode cX9_init 231 = .ok (.aload_n 0, 1) := by decide +kernel
theorem dX9_init_232 : decode cX9_init 232 = .ok (.invokevirtual 75, 3) := by decide +kernel
theorem dX9_init_235 : decode cX9_init 235 = .ok (.return_, 1) := by decide +kernel
theorem dX9_tells_0 : decode cX9_tells 0 = .ok (.aload_n 0, 1) := by decide +kernel
theorem dX9_tells_1 : decode cX9_tells 1 = .ok (.getfield 37, 3) := by decide +kernel
theorem dX9_tells_4 : decode cX9_tells 4 = .ok (.iconst 3, 1) := by decide +kernel
theorem dX9_tells_5 : decode cX9_tells 5 = .ok (.aload_n 0, 1) := by decide +kernel
theorem dX9_tells_6 : decode cX9_tells 6 = .ok (.getfield 78, 3) := by decide +kernel
theorem dX9_tells_9 : decode cX9_tells 9 = .ok (.imul, 1) := by decide +kernel
theorem dX9_tells_10 : decode cX9_tells 10 = .ok (.iload_n 1, 1) := by decide +kernel
theorem dX9_tells_11 : decode cX9_tells 11 = .ok (.iastore, 1) := by decide +kernel
theorem dX9_tells_12 : decode cX9_tells 12 = .ok (.aload_n 0, 1) := by decide +kernel
theorem dX9_tells_13 : decode cX9_tells 13 = .ok (.getfield 37, 3) := by decide +kernel
theorem dX9_tells_16 : decode cX9_tells 16 = .ok (.iconst 3, 1) := by decide +kernel
theorem dX9_tells_17 : decode cX9_tells 17 = .ok (.aload_n 0, 1) := by decide +kernel
theorem dX9_tells_18 : decode cX9_tells 18 = .ok (.getfield 78, 3) := by decide +kernel
theorem dX9_tells_21 : decode cX9_tells 21 = .ok (.imul, 1) := by decide +kernel
theorem dX9_tells_22 : decode cX9_tells 22 = .ok (.iconst 1, 1) := by decide +kernel
theorem dX9_tells_23 : decode cX9_tells 23 = .ok (.iadd, 1) := by decide +kernel
theorem dX9_tells_24 : decode cX9_tells 24 = .ok (.iload 4, 2) := by decide +kernel
theorem dX9_tells_26 : decode cX9_tells 26 = .ok (.iastore, 1) := by decide +kernel
theorem dX9_tells_27 : decode cX9_tells 27 = .ok (.aload_n 0, 1) := by decide +kernel
theorem dX9_tells_28 : decode cX9_tells 28 = .ok (.getfield 37, 3) := by decide +kernel
theorem dX9_tells_31 : decode cX9_tells 31 = .ok (.iconst 3, 1) := by decide +kernel
theorem dX9_tells_32 : decode cX9_tells 32 = .ok (.aload_n 0, 1) := by decide +kernel
theorem dX9_tells_33 : decode cX9_tells 33 = .ok (.getfield 78, 3) := by decide +kernel
theorem dX9_tells_36 : decode cX9_tells 36 = .ok (.imul, 1) := by decide +kernel
theorem dX9_tells_37 : decode cX9_tells 37 = .ok (.iconst 2, 1) := by decide +kernel
theorem dX9_tells_38 : decode cX9_tells 38 = .ok (.iadd, 1) := by decide +kernel
theorem dX9_tells_39 : decode cX9_tells 39 = .ok (.iload 5, 2) := by decide +kernel
theorem dX9_tells_41 : decode cX9_tells 41 = .ok (.iastore, 1) := by decide +kernel
theorem dX9_tells_42 : decode cX9_tells 42 = .ok (.aload_n 0, 1) := by decide +kernel
theorem dX9_tells_43 : decode cX9_tells 43 = .ok (.getfield 46, 3) := by decide +kernel
theorem dX9_tells_46 : decode cX9_tells 46 = .ok (.bipush 8, 2) := by decide +kernel
theorem dX9_tells_48 : decode cX9_tells 48 = .ok (.aload_n 0, 1) := by decide +kernel
theorem dX9_tells_49 : decode cX9_tells 49 = .ok (.getfield 78, 3) := by decide +kernel
theorem dX9_tells_52 : decode cX9_tells 52 = .ok (.iadd, 1) := by decide +kernel
theorem dX9_tells_53 : decode cX9_tells 53 = .ok (.iload_n 2, 1) := by decide +kernel
theorem dX9_tells_54 : decode cX9_tells 54 = .ok (.iastore, 1) := by decide +kernel
theorem dX9_tells_55 : decode cX9_tells 55 = .ok (.aload_n 0, 1) := by decide +kernel
theorem dX9_tells_56 : decode cX9_tells 56 = .ok (.getfield 46, 3) := by decide +kernel
theorem dX9_tells_59 : decode cX9_tells 59 = .ok (.bipush 14, 2) := by decide +kernel
theorem dX9_tells_61 : decode cX9_tells 61 = .ok (.aload_n 0, 1) := by decide +kernel
theorem dX9_tells_62 : decode cX9_tells 62 = .ok (.getfield 78, 3) := by decide +kernel
theorem dX9_tells_65 : decode cX9_tells 65 = .ok (.iadd, 1) := by decide +kernel
theorem dX9_tells_66 : decode cX9_tells 66 = .ok (.iload_n 3, 1) := by decide +kernel
theorem dX9_tells_67 : decode cX9_tells 67 = .ok (.iastore, 1) := by decide +kernel
theorem dX9_tells_68 : decode cX9_tells 68 = .ok (.aload_n 0, 1) := by decide +kernel
theorem dX9_tells_69 : decode cX9_tells 69 = .ok (.dup, 1) := by decide +kernel
theorem dX9_tells_70 : decode cX9_tells 70 = .ok (.getfield 78, 3) := by decide +kernel
theorem dX9_tells_73 : decode cX9_tells 73 = .ok (.iconst 1, 1) := by decide +kernel
theorem dX9_tells_74 : decode cX9_tells 74 = .ok (.iadd, 1) := by decide +kernel
theorem dX9_tells_75 : decode cX9_tells 75 = .ok (.putfield 78, 3) := by decide +kernel
theorem dX9_tells_78 : decode cX9_tells 78 = .ok (.return_, 1) := by decide +kernel
theorem dX9_tellsShip_0 : decode cX9_tellsShip 0 = .ok (.aload_n 0, 1) := by decide +kernel
theorem dX9_tellsShip_1 : decode cX9_tellsShip 1 = .ok (.getfield 40, 3) := by decide +kernel
theorem dX9_tellsShip_4 : decode cX9_tellsShip 4 = .ok (.iconst 2, 1) := by decide +kernel
theorem dX9_tellsShip_5 : decode cX9_tellsShip 5 = .ok (.aload_n 0, 1) := by decide +kernel
theorem dX9_tellsShip_6 : decode cX9_tellsShip 6 = .ok (.getfield 82, 3) := by decide +kernel
theorem dX9_tellsShip_9 : decode cX9_tellsShip 9 = .ok (.imul, 1) := by decide +kernel
theorem dX9_tellsShip_10 : decode cX9_tellsShip 10 = .ok (.iload_n 1, 1) := by decide +kernel
theorem dX9_tellsShip_11 : decode cX9_tellsShip 11 = .ok (.iastore, 1) := by decide +kernel
theorem dX9_tellsShip_12 : decode cX9_tellsShip 12 = .ok (.aload_n 0, 1) := by decide +kernel
theorem dX9_tellsShip_13 : decode cX9_tellsShip 13 = .ok (.getfield 40, 3) := by decide +kernel
theorem dX9_tellsShip_16 : decode cX9_tellsShip 16 = .ok (.iconst 2, 1) := by decide +kernel
theorem dX9_tellsShip_17 : decode cX9_tellsShip 17 = .ok (.aload_n 0, 1) := by decide +kernel
theorem dX9_tellsShip_18 : decode cX9_tellsShip 18 = .ok (.getfield 82, 3) := by decide +kernel
theorem dX9_tellsShip_21 : decode cX9_tellsShip 21 = .ok (.imul, 1) := by decide +kernel
theorem dX9_tellsShip_22 : decode cX9_tellsShip 22 = .ok (.iconst 1, 1) := by decide +kernel
theorem dX9_tellsShip_23 : decode cX9_tellsShip 23 = .ok (.iadd, 1) := by decide +kernel
theorem dX9_tellsShip_24 : decode cX9_tellsShip 24 = .ok (.iload_n 2, 1) := by decide +kernel
theorem dX9_tellsShip_25 : decode cX9_tellsShip 25 = .ok (.iastore, 1) := by decide +kernel
theorem dX9_tellsShip_26 : decode cX9_tellsShip 26 = .ok (.aload_n 0, 1) := by decide +kernel
theorem dX9_tellsShip_27 : decode cX9_tellsShip 27 = .ok (.dup, 1) := by decide +kernel
theorem dX9_tellsShip_28 : decode cX9_tellsShip 28 = .ok (.getfield 82, 3) := by decide +kernel
theorem dX9_tellsShip_31 : decode cX9_tellsShip 31 = .ok (.iconst 1, 1) := by decide +kernel
theorem dX9_tellsShip_32 : decode cX9_tellsShip 32 = .ok (.iadd, 1) := by decide +kernel
theorem dX9_tellsShip_33 : decode cX9_tellsShip 33 = .ok (.putfield 82, 3) := by decide +kernel
theorem dX9_tellsShip_36 : decode cX9_tellsShip 36 = .ok (.return_, 1) := by decide +kernel
theorem dX9_in_0 : decode cX9_in 0 = .ok (.iload_n 0, 1) := by decide +kernel
theorem dX9_in_1 : decode cX9_in 1 = .ok (.iload_n 1, 1) := by decide +kernel
theorem dX9_in_2 : decode cX9_in 2 = .ok (.if_icmp .lt 12, 3) := by decide +kernel
theorem dX9_in_5 : decode cX9_in 5 = .ok (.iload_n 0, 1) := by decide +kernel
theorem dX9_in_6 : decode cX9_in 6 = .ok (.iload_n 2, 1) := by decide +kernel
theorem dX9_in_7 : decode cX9_in 7 = .ok (.if_icmp .gt 7, 3) := by decide +kernel
theorem dX9_in_10 : decode cX9_in 10 = .ok (.iconst 1, 1) := by decide +kernel
theorem dX9_in_11 : decode cX9_in 11 = .ok (.goto 4, 3) := by decide +kernel
theorem dX9_in_14 : decode cX9_in 14 = .ok (.iconst 0, 1) := by decide +kernel
theorem dX9_in_15 : decode cX9_in 15 = .ok (.ireturn, 1) := by decide +kernel
theorem dX9_has_0 : decode cX9_has 0 = .ok (.iload_n 0, 1) := by decide +kernel
theorem dX9_has_1 : decode cX9_has 1 = .ok (.iload_n 1, 1) := by decide +kernel
theorem dX9_has_2 : decode cX9_has 2 = .ok (.ishr, 1) := by decide +kernel
theorem dX9_has_3 : decode cX9_has 3 = .ok (.iconst 1, 1) := by decide +kernel
theorem dX9_has_4 : decode cX9_has 4 = .ok (.iand, 1) := by decide +kernel
theorem dX9_has_5 : decode cX9_has 5 = .ok (.iconst 1, 1) := by decide +kernel
theorem dX9_has_6 : decode cX9_has 6 = .ok (.if_icmp .ne 7, 3) := by decide +kernel
theorem dX9_has_9 : decode cX9_has 9 = .ok (.iconst 1, 1) := by decide +kernel
theorem dX9_has_10 : decode cX9_has 10 = .ok (.goto 4, 3) := by decide +kernel
theorem dX9_has_13 : decode cX9_has 13 = .ok (.iconst 0, 1) := by decide +kernel
theorem dX9_has_14 : decode cX9_has 14 = .ok (.ireturn, 1) := by decide +kernel
theorem dX9_bits_0 : decode cX9_bits 0 = .ok (.iconst 0, 1) := by decide +kernel
theorem dX9_bits_1 : decode cX9_bits 1 = .ok (.istore_n 1, 1) := by decide +kernel
theorem dX9_bits_2 : decode cX9_bits 2 = .ok (.iconst 0, 1) := by decide +kernel
theorem dX9_bits_3 : decode cX9_bits 3 = .ok (.istore_n 2, 1) := by decide +kernel
theorem dX9_bits_4 : decode cX9_bits 4 = .ok (.iload_n 2, 1) := by decide +kernel
theorem dX9_bits_5 : decode cX9_bits 5 = .ok (.bipush 24, 2) := by decide +kernel
theorem dX9_bits_7 : decode cX9_bits 7 = .ok (.if_icmp .ge 17, 3) := by decide +kernel
theorem dX9_bits_10 : decode cX9_bits 10 = .ok (.iload_n 1, 1) := by decide +kernel
theorem dX9_bits_11 : decode cX9_bits 11 = .ok (.iload_n 0, 1) := by decide +kernel
theorem dX9_bits_12 : decode cX9_bits 12 = .ok (.iload_n 2, 1) := by decide +kernel
theorem dX9_bits_13 : decode cX9_bits 13 = .ok (.ishr, 1) := by decide +kernel
theorem dX9_bits_14 : decode cX9_bits 14 = .ok (.iconst 1, 1) := by decide +kernel
theorem dX9_bits_15 : decode cX9_bits 15 = .ok (.iand, 1) := by decide +kernel
theorem dX9_bits_16 : decode cX9_bits 16 = .ok (.iadd, 1) := by decide +kernel
theorem dX9_bits_17 : decode cX9_bits 17 = .ok (.istore_n 1, 1) := by decide +kernel
theorem dX9_bits_18 : decode cX9_bits 18 = .ok (.iinc 2 1, 3) := by decide +kernel
theorem dX9_bits_21 : decode cX9_bits 21 = .ok (.goto (-17), 3) := by decide +kernel
theorem dX9_bits_24 : decode cX9_bits 24 = .ok (.iload_n 1, 1) := by decide +kernel
theorem dX9_bits_25 : decode cX9_bits 25 = .ok (.ireturn, 1) := by decide +kernel
theorem dX9_isTenant_0 : decode cX9_isTenant 0 = .ok (.iload_n 1, 1) := by decide +kernel
theorem dX9_isTenant_1 : decode cX9_isTenant 1 = .ok (.iconst 0, 1) := by decide +kernel
theorem dX9_isTenant_2 : decode cX9_isTenant 2 = .ok (.aload_n 0, 1) := by decide +kernel
theorem dX9_isTenant_3 : decode cX9_isTenant 3 = .ok (.getfield 85, 3) := by decide +kernel
theorem dX9_isTenant_6 : decode cX9_isTenant 6 = .ok (.iconst 1, 1) := by decide +kernel
theorem dX9_isTenant_7 : decode cX9_isTenant 7 = .ok (.isub, 1) := by decide +kernel
theorem dX9_isTenant_8 : decode cX9_isTenant 8 = .ok (.invokestatic 88, 3) := by decide +kernel
theorem dX9_isTenant_11 : decode cX9_isTenant 11 = .ok (.ireturn, 1) := by decide +kernel
theorem dX9_isShip_0 : decode cX9_isShip 0 = .ok (.iload_n 1, 1) := by decide +kernel
theorem dX9_isShip_1 : decode cX9_isShip 1 = .ok (.iconst 0, 1) := by decide +kernel
theorem dX9_isShip_2 : decode cX9_isShip 2 = .ok (.aload_n 0, 1) := by decide +kernel
theorem dX9_isShip_3 : decode cX9_isShip 3 = .ok (.getfield 92, 3) := by decide +kernel
theorem dX9_isShip_6 : decode cX9_isShip 6 = .ok (.iconst 1, 1) := by decide +kernel
theorem dX9_isShip_7 : decode cX9_isShip 7 = .ok (.isub, 1) := by decide +kernel
theorem dX9_isShip_8 : decode cX9_isShip 8 = .ok (.invokestatic 88, 3) := by decide +kernel
theorem dX9_isShip_11 : decode cX9_isShip 11 = .ok (.ireturn, 1) := by decide +kernel
theorem dX9_isStripe_0 : decode cX9_isStripe 0 = .ok (.iload_n 0, 1) := by decide +kernel
theorem dX9_isStripe_1 : decode cX9_isStripe 1 = .ok (.iconst 0, 1) := by decide +kernel
theorem dX9_isStripe_2 : decode cX9_isStripe 2 = .ok (.bipush 23, 2) := by decide +kernel
theorem dX9_isStripe_4 : decode cX9_isStripe 4 = .ok (.invokestatic 88, 3) := by decide +kernel
theorem dX9_isStripe_7 : decode cX9_isStripe 7 = .ok (.ireturn, 1) := by decide +kernel
theorem dX9_isFog_0 : decode cX9_isFog 0 = .ok (.iload_n 0, 1) := by decide +kernel
theorem dX9_isFog_1 : decode cX9_isFog 1 = .ok (.iconst 0, 1) := by decide +kernel
theorem dX9_isFog_2 : decode cX9_isFog 2 = .ok (.iconst 3, 1) := by decide +kernel
theorem dX9_isFog_3 : decode cX9_isFog 3 = .ok (.invokestatic 88, 3) := by decide +kernel
theorem dX9_isFog_6 : decode cX9_isFog 6 = .ok (.ireturn, 1) := by decide +kernel
theorem dX9_write_0 : decode cX9_write 0 = .ok (.iload_n 1, 1) := by decide +kernel
theorem dX9_write_1 : decode cX9_write 1 = .ok (.bipush 32, 2) := by decide +kernel
theorem dX9_write_3 : decode cX9_write 3 = .ok (.bipush 126, 2) := by decide +kernel
theorem dX9_write_5 : decode cX9_write 5 = .ok (.invokestatic 88, 3) := by decide +kernel
theorem dX9_write_8 : decode cX9_write 8 = .ok (.ifCond .ne 5, 3) := by decide +kernel
theorem dX9_write_11 : decode cX9_write 11 = .ok (.iconst (-1), 1) := by decide +kernel
theorem dX9_write_12 : decode cX9_write 12 = .ok (.ireturn, 1) := by decide +kernel
theorem dX9_write_13 : decode cX9_write 13 = .ok (.aload_n 0, 1) := by decide +kernel
theorem dX9_write_14 : decode cX9_write 14 = .ok (.getfield 95, 3) := by decide +kernel
theorem dX9_write_17 : decode cX9_write 17 = .ok (.sipush 200, 3) := by decide +kernel
theorem dX9_write_20 : decode cX9_write 20 = .ok (.if_icmp .ne 6, 3) := by decide +kernel
theorem dX9_write_23 : decode cX9_write 23 = .ok (.bipush (-3), 2) := by decide +kernel
theorem dX9_write_25 : decode cX9_write 25 = .ok (.ireturn, 1) := by decide +kernel
theorem dX9_write_26 : decode cX9_write 26 = .ok (.aload_n 0, 1) := by decide +kernel
theorem dX9_write_27 : decode cX9_write 27 = .ok (.getfield 31, 3) := by decide +kernel
theorem dX9_write_30 : decode cX9_write 30 = .ok (.aload_n 0, 1) := by decide +kernel
theorem dX9_write_31 : decode cX9_write 31 = .ok (.getfield 95, 3) := by decide +kernel
theorem dX9_write_34 : decode cX9_write 34 = .ok (.iload_n 1, 1) := by decide +kernel
theorem dX9_write_35 : decode cX9_write 35 = .ok (.iastore, 1) := by decide +kernel
theorem dX9_write_36 : decode cX9_write 36 = .ok (.aload_n 0, 1) := by decide +kernel
theorem dX9_write_37 : decode cX9_write 37 = .ok (.dup, 1) := by decide +kernel
theorem dX9_write_38 : decode cX9_write 38 = .ok (.getfield 95, 3) := by decide +kernel
theorem dX9_write_41 : decode cX9_write 41 = .ok (.iconst 1, 1) := by decide +kernel
theorem dX9_write_42 : decode cX9_write 42 = .ok (.iadd, 1) := by decide +kernel
theorem dX9_write_43 : decode cX9_write 43 = .ok (.putfield 95, 3) := by decide +kernel
theorem dX9_write_46 : decode cX9_write 46 = .ok (.aload_n 0, 1) := by decide +kernel
theorem dX9_write_47 : decode cX9_write 47 = .ok (.getfield 95, 3) := by decide +kernel
theorem dX9_write_50 : decode cX9_write 50 = .ok (.ireturn, 1) := by decide +kernel
theorem dX9_wipe_0 : decode cX9_wipe 0 = .ok (.aload_n 0, 1) := by decide +kernel
theorem dX9_wipe_1 : decode cX9_wipe 1 = .ok (.getfield 95, 3) := by decide +kernel
theorem dX9_wipe_4 : decode cX9_wipe 4 = .ok (.istore_n 1, 1) := by decide +kernel
theorem dX9_wipe_5 : decode cX9_wipe 5 = .ok (.aload_n 0, 1) := by decide +kernel
theorem dX9_wipe_6 : decode cX9_wipe 6 = .ok (.iconst 0, 1) := by decide +kernel
theorem dX9_wipe_7 : decode cX9_wipe 7 = .ok (.putfield 95, 3) := by decide +kernel
theorem dX9_wipe_10 : decode cX9_wipe 10 = .ok (.iload_n 1, 1) := by decide +kernel
theorem dX9_wipe_11 : decode cX9_wipe 11 = .ok (.ireturn, 1) := by decide +kernel
theorem dX9_letterAt_0 : decode cX9_letterAt 0 = .ok (.iload_n 1, 1) := by decide +kernel
theorem dX9_letterAt_1 : decode cX9_letterAt 1 = .ok (.aload_n 0, 1) := by decide +kernel
theorem dX9_letterAt_2 : decode cX9_letterAt 2 = .ok (.getfield 95, 3) := by decide +kernel
theorem dX9_letterAt_5 : decode cX9_letterAt 5 = .ok (.if_icmp .ge 12, 3) := by decide +kernel
theorem dX9_letterAt_8 : decode cX9_letterAt 8 = .ok (.aload_n 0, 1) := by decide +kernel
theorem dX9_letterAt_9 : decode cX9_letterAt 9 = .ok (.getfield 31, 3) := by decide +kernel
theorem dX9_letterAt_12 : decode cX9_letterAt 12 = .ok (.iload_n 1, 1) := by decide +kernel
theorem dX9_letterAt_13 : decode cX9_letterAt 13 = .ok (.iaload, 1) := by decide +kernel
theorem dX9_letterAt_14 : decode cX9_letterAt 14 = .ok (.goto 4, 3) := by decide +kernel
theorem dX9_letterAt_17 : decode cX9_letterAt 17 = .ok (.iconst (-1), 1) := by decide +kernel
theorem dX9_letterAt_18 : decode cX9_letterAt 18 = .ok (.ireturn, 1) := by decide +kernel
theorem dX9_isFigure_0 : decode cX9_isFigure 0 = .ok (.iload_n 0, 1) := by decide +kernel
theorem dX9_isFigure_1 : decode cX9_isFigure 1 = .ok (.bipush 48, 2) := by decide +kernel
theorem dX9_isFigure_3 : decode cX9_isFigure 3 = .ok (.bipush 57, 2) := by decide +kernel
theorem dX9_isFigure_5 : decode cX9_isFigure 5 = .ok (.invokestatic 88, 3) := by decide +kernel
theorem dX9_isFigure_8 : decode cX9_isFigure 8 = .ok (.ireturn, 1) := by decide +kernel
theorem dX9_readNumbers_0 : decode cX9_readNumbers 0 = .ok (.iconst 0, 1) := by decide +kernel
theorem dX9_readNumbers_1 : decode cX9_readNumbers 1 = .ok (.istore_n 2, 1) := by decide +kernel
theorem dX9_readNumbers_2 : decode cX9_readNumbers 2 = .ok (.iload_n 2, 1) := by decide +kernel
theorem dX9_readNumbers_3 : decode cX9_readNumbers 3 = .ok (.iload_n 1, 1) := by decide +kernel
theorem dX9_readNumbers_4 : decode cX9_readNumbers 4 = .ok (.if_icmp .ge 140, 3) := by decide +kernel
theorem dX9_readNumbers_7 : decode cX9_readNumbers 7 = .ok (.aload_n 0, 1) := by decide +kernel
theorem dX9_readNumbers_8 : decode cX9_readNumbers 8 = .ok (.aload_n 0, 1) := by decide +kernel
theorem dX9_readNumbers_9 : decode cX9_readNumbers 9 = .ok (.getfield 98, 3) := by decide +kernel
theorem dX9_readNumbers_12 : decode cX9_readNumbers 12 = .ok (.invokevirtual 101, 3) := by decide +kernel
theorem dX9_readNumbers_15 : decode cX9_readNumbers 15 = .ok (.invokestatic 105, 3) := by decide +kernel
theorem dX9_readNumbers_18 : decode cX9_readNumbers 18 = .ok (.ifCond .ne 5, 3) := by decide +kernel
theorem dX9_readNumbers_21 : decode cX9_readNumbers 21 = .ok (.iconst 0, 1) := by decide +kernel
theorem dX9_readNumbers_22 : decode cX9_readNumbers 22 = .ok (.ireturn, 1) := by decide +kernel
theorem dX9_readNumbers_23 : decode cX9_readNumbers 23 = .ok (.aload_n 0, 1) := by decide +kernel
theorem dX9_readNumbers_24 : decode cX9_readNumbers 24 = .ok (.getfield 34, 3) := by decide +kernel
theorem dX9_readNumbers_27 : decode cX9_readNumbers 27 = .ok (.iload_n 2, 1) := by decide +kernel
theorem dX9_readNumbers_28 : decode cX9_readNumbers 28 = .ok (.aload_n 0, 1) := by decide +kernel
theorem dX9_readNumbers_29 : decode cX9_readNumbers 29 = .ok (.aload_n 0, 1) := by decide +kernel
theorem dX9_readNumbers_30 : decode cX9_readNumbers 30 = .ok (.getfield 98, 3) := by decide +kernel
theorem dX9_readNumbers_33 : decode cX9_readNumbers 33 = .ok (.invokevirtual 101, 3) := by decide +kernel
theorem dX9_readNumbers_36 : decode cX9_readNumbers 36 = .ok (.bipush 48, 2) := by decide +kernel
theorem dX9_readNumbers_38 : decode cX9_readNumbers 38 = .ok (.isub, 1) := by decide +kernel
theorem dX9_readNumbers_39 : decode cX9_readNumbers 39 = .ok (.iastore, 1) := by decide +kernel
theorem dX9_readNumbers_40 : decode cX9_readNumbers 40 = .ok (.aload_n 0, 1) := by decide +kernel
theorem dX9_readNumbers_41 : decode cX9_readNumbers 41 = .ok (.dup, 1) := by decide +kernel
theorem dX9_readNumbers_42 : decode cX9_readNumbers 42 = .ok (.getfield 98, 3) := by decide +kernel
theorem dX9_readNumbers_45 : decode cX9_readNumbers 45 = .ok (.iconst 1, 1) := by decide +kernel
theorem dX9_readNumbers_46 : decode cX9_readNumbers 46 = .ok (.iadd, 1) := by decide +kernel
theorem dX9_readNumbers_47 : decode cX9_readNumbers 47 = .ok (.putfield 98, 3) := by decide +kernel
theorem dX9_readNumbers_50 : decode cX9_readNumbers 50 = .ok (.aload_n 0, 1) := by decide +kernel
theorem dX9_readNumbers_51 : decode cX9_readNumbers 51 = .ok (.aload_n 0, 1) := by decide +kernel
theorem dX9_readNumbers_52 : decode cX9_readNumbers 52 = .ok (.getfield 98, 3) := by decide +kernel
theorem dX9_readNumbers_55 : decode cX9_readNumbers 55 = .ok (.invokevirtual 101, 3) := by decide +kernel
theorem dX9_readNumbers_58 : decode cX9_readNumbers 58 = .ok (.invokestatic 105, 3) := by decide +kernel
theorem dX9_readNumbers_61 : decode cX9_readNumbers 61 = .ok (.ifCond .eq 40, 3) := by decide +kernel
theorem dX9_readNumbers_64 : decode cX9_readNumbers 64 = .ok (.aload_n 0, 1) := by decide +kernel
theorem dX9_readNumbers_65 : decode cX9_readNumbers 65 = .ok (.getfield 34, 3) := by decide +kernel
theorem dX9_readNumbers_68 : decode cX9_readNumbers 68 = .ok (.iload_n 2, 1) := by decide +kernel
theorem dX9_readNumbers_69 : decode cX9_readNumbers 69 = .ok (.bipush 10, 2) := by decide +kernel
theorem dX9_readNumbers_71 : decode cX9_readNumbers 71 = .ok (.aload_n 0, 1) := by decide +kernel
theorem dX9_readNumbers_72 : decode cX9_readNumbers 72 = .ok (.getfield 34, 3) := by decide +kernel
theorem dX9_readNumbers_75 : decode cX9_readNumbers 75 = .ok (.iload_n 2, 1) := by decide +kernel
theorem dX9_readNumbers_76 : decode cX9_readNumbers 76 = .ok (.iaload, 1) := by decide +kernel
theorem dX9_readNumbers_77 : decode cX9_readNumbers 77 = .ok (.imul, 1) := by decide +kernel
theorem dX9_readNumbers_78 : decode cX9_readNumbers 78 = .ok (.aload_n 0, 1) := by decide +kernel
theorem dX9_readNumbers_79 : decode cX9_readNumbers 79 = .ok (.aload_n 0, 1) := by decide +kernel
theorem dX9_readNumbers_80 : decode cX9_readNumbers 80 = .ok (.getfield 98, 3) := by decide +kernel
theorem dX9_readNumbers_83 : decode cX9_readNumbers 83 = .ok (.invokevirtual 101, 3) := by decide +kernel
theorem dX9_readNumbers_86 : decode cX9_readNumbers 86 = .ok (.iadd, 1) := by decide +kernel
theorem dX9_readNumbers_87 : decode cX9_readNumbers 87 = .ok (.bipush 48, 2) := by decide +kernel
theorem dX9_readNumbers_89 : decode cX9_readNumbers 89 = .ok (.isub, 1) := by decide +kernel
theorem dX9_readNumbers_90 : decode cX9_readNumbers 90 = .ok (.iastore, 1) := by decide +kernel
theorem dX9_readNumbers_91 : decode cX9_readNumbers 91 = .ok (.aload_n 0, 1) := by decide +kernel
theorem dX9_readNumbers_92 : decode cX9_readNumbers 92 = .ok (.dup, 1) := by decide +kernel
theorem dX9_readNumbers_93 : decode cX9_readNumbers 93 = .ok (.getfield 98, 3) := by decide +kernel
theorem dX9_readNumbers_96 : decode cX9_readNumbers 96 = .ok (.iconst 1, 1) := by decide +kernel
theorem dX9_readNumbers_97 : decode cX9_readNumbers 97 = .ok (.iadd, 1) := by decide +kernel
theorem dX9_readNumbers_98 : decode cX9_readNumbers 98 = .ok (.putfield 98, 3) := by decide +kernel
theorem dX9_readNumbers_101 : decode cX9_readNumbers 101 = .ok (.aload_n 0, 1) := by decide +kernel
theorem dX9_readNumbers_102 : decode cX9_readNumbers 102 = .ok (.aload_n 0, 1) := by decide +kernel
theorem dX9_readNumbers_103 : decode cX9_readNumbers 103 = .ok (.getfield 98, 3) := by decide +kernel
theorem dX9_readNumbers_106 : decode cX9_readNumbers 106 = .ok (.invokevirtual 101, 3) := by decide +kernel
theorem dX9_readNumbers_109 : decode cX9_readNumbers 109 = .ok (.iload_n 2, 1) := by decide +kernel
theorem dX9_readNumbers_110 : decode cX9_readNumbers 110 = .ok (.iload_n 1, 1) := by decide +kernel
theorem dX9_readNumbers_111 : decode cX9_readNumbers 111 = .ok (.iconst 1, 1) := by decide +kernel
theorem dX9_readNumbers_112 : decode cX9_readNumbers 112 = .ok (.isub, 1) := by decide +kernel
theorem dX9_readNumbers_113 : decode cX9_readNumbers 113 = .ok (.if_icmp .ge 8, 3) := by decide +kernel
theorem dX9_readNumbers_116 : decode cX9_readNumbers 116 = .ok (.bipush 44, 2) := by decide +kernel
theorem dX9_readNumbers_118 : decode cX9_readNumbers 118 = .ok (.goto 5, 3) := by decide +kernel
theorem dX9_readNumbers_121 : decode cX9_readNumbers 121 = .ok (.bipush 59, 2) := by decide +kernel
theorem dX9_readNumbers_123 : decode cX9_readNumbers 123 = .ok (.if_icmp .eq 5, 3) := by decide +kernel
theorem dX9_readNumbers_126 : decode cX9_readNumbers 126 = .ok (.iconst 0, 1) := by decide +kernel
theorem dX9_readNumbers_127 : decode cX9_readNumbers 127 = .ok (.ireturn, 1) := by decide +kernel
theorem dX9_readNumbers_128 : decode cX9_readNumbers 128 = .ok (.aload_n 0, 1) := by decide +kernel
theorem dX9_readNumbers_129 : decode cX9_readNumbers 129 = .ok (.dup, 1) := by decide +kernel
theorem dX9_readNumbers_130 : decode cX9_readNumbers 130 = .ok (.getfield 98, 3) := by decide +kernel
theorem dX9_readNumbers_133 : decode cX9_readNumbers 133 = .ok (.iconst 1, 1) := by decide +kernel
theorem dX9_readNumbers_134 : decode cX9_readNumbers 134 = .ok (.iadd, 1) := by decide +kernel
theorem dX9_readNumbers_135 : decode cX9_readNumbers 135 = .ok (.putfield 98, 3) := by decide +kernel
theorem dX9_readNumbers_138 : decode cX9_readNumbers 138 = .ok (.iinc 2 1, 3) := by decide +kernel
theorem dX9_readNumbers_141 : decode cX9_readNumbers 141 = .ok (.goto (-139), 3) := by decide +kernel
theorem dX9_readNumbers_144 : decode cX9_readNumbers 144 = .ok (.iconst 1, 1) := by decide +kernel
theorem dX9_readNumbers_145 : decode cX9_readNumbers 145 = .ok (.ireturn, 1) := by decide +kernel
theorem dX9_isTold_0 : decode cX9_isTold 0 = .ok (.aload_n 0, 1) := by decide +kernel
theorem dX9_isTold_1 : decode cX9_isTold 1 = .ok (.getfield 34, 3) := by decide +kernel
theorem dX9_isTold_4 : decode cX9_isTold 4 = .ok (.iload_n 1, 1) := by decide +kernel
theorem dX9_isTold_5 : decode cX9_isTold 5 = .ok (.iaload, 1) := by decide +kernel
theorem dX9_isTold_6 : decode cX9_isTold 6 = .ok (.iload_n 2, 1) := by decide +kernel
theorem dX9_isTold_7 : decode cX9_isTold 7 = .ok (.iload_n 3, 1) := by decide +kernel
theorem dX9_isTold_8 : decode cX9_isTold 8 = .ok (.invokestatic 88, 3) := by decide +kernel
theorem dX9_isTold_11 : decode cX9_isTold 11 = .ok (.ireturn, 1) := by decide +kernel
theorem dX9_put_0 : decode cX9_put 0 = .ok (.iconst 0, 1) := by decide +kernel
theorem dX9_put_1 : decode cX9_put 1 = .ok (.istore 4, 2) := by decide +kernel
theorem dX9_put_3 : decode cX9_put 3 = .ok (.iload 4, 2) := by decide +kernel
theorem dX9_put_5 : decode cX9_put 5 = .ok (.iload_n 3, 1) := by decide +kernel
theorem dX9_put_6 : decode cX9_put 6 = .ok (.if_icmp .ge 19, 3) := by decide +kernel
theorem dX9_put_9 : decode cX9_put 9 = .ok (.aload_n 0, 1) := by decide +kernel
theorem dX9_put_10 : decode cX9_put 10 = .ok (.iload_n 1, 1) := by decide +kernel
theorem dX9_put_11 : decode cX9_put 11 = .ok (.iload 4, 2) := by decide +kernel
theorem dX9_put_13 : decode cX9_put 13 = .ok (.iadd, 1) := by decide +kernel
theorem dX9_put_14 : decode cX9_put 14 = .ok (.aload_n 2, 1) := by decide +kernel
theorem dX9_put_15 : decode cX9_put 15 = .ok (.iload 4, 2) := by decide +kernel
theorem dX9_put_17 : decode cX9_put 17 = .ok (.iaload, 1) := by decide +kernel
theorem dX9_put_18 : decode cX9_put 18 = .ok (.iastore, 1) := by decide +kernel
theorem dX9_put_19 : decode cX9_put 19 = .ok (.iinc 4 1, 3) := by decide +kernel
theorem dX9_put_22 : decode cX9_put 22 = .ok (.goto (-19), 3) := by decide +kernel
theorem dX9_put_25 : decode cX9_put 25 = .ok (.return_, 1) := by decide +kernel
theorem dX9_clearTold_0 : decode cX9_clearTold 0 = .ok (.aload_n 0, 1) := by decide +kernel
theorem dX9_clearTold_1 : decode cX9_clearTold 1 = .ok (.iconst 0, 1) := by decide +kernel
theorem dX9_clearTold_2 : decode cX9_clearTold 2 = .ok (.putfield 78, 3) := by decide +kernel
theorem dX9_clearTold_5 : decode cX9_clearTold 5 = .ok (.aload_n 0, 1) := by decide +kernel
theorem dX9_clearTold_6 : decode cX9_clearTold 6 = .ok (.iconst 0, 1) := by decide +kernel
theorem dX9_clearTold_7 : decode cX9_clearTold 7 = .ok (.putfield 82, 3) := by decide +kernel
theorem dX9_clearTold_10 : decode cX9_clearTold 10 = .ok (.aload_n 0, 1) := by decide +kernel
theorem dX9_clearTold_11 : decode cX9_clearTold 11 = .ok (.iconst 4, 1) := by decide +kernel
theorem dX9_clearTold_12 : decode cX9_clearTold 12 = .ok (.iconst 3, 1) := by decide +kernel
theorem dX9_clearTold_13 : decode cX9_clearTold 13 = .ok (.iconst 2, 1) := by decide +kernel
theorem dX9_clearTold_14 : decode cX9_clearTold 14 = .ok (.invokevirtual 109, 3) := by decide +kernel
theorem dX9_clearTold_17 : decode cX9_clearTold 17 = .ok (.aload_n 0, 1) := by decide +kernel
theorem dX9_clearTold_18 : decode cX9_clearTold 18 = .ok (.bipush 20, 2) := by decide +kernel
theorem dX9_clearTold_20 : decode cX9_clearTold 20 = .ok (.putfield 113, 3) := by decide +kernel
theorem dX9_clearTold_23 : decode cX9_clearTold 23 = .ok (.iconst 0, 1) := by decide +kernel
theorem dX9_clearTold_24 : decode cX9_clearTold 24 = .ok (.istore_n 1, 1) := by decide +kernel
theorem dX9_clearTold_25 : decode cX9_clearTold 25 = .ok (.iload_n 1, 1) := by decide +kernel
theorem dX9_clearTold_26 : decode cX9_clearTold 26 = .ok (.bipush 20, 2) := by decide +kernel
theorem dX9_clearTold_28 : decode cX9_clearTold 28 = .ok (.if_icmp .ge 16, 3) := by decide +kernel
theorem dX9_clearTold_31 : decode cX9_clearTold 31 = .ok (.aload_n 0, 1) := by decide +kernel
theorem dX9_clearTold_32 : decode cX9_clearTold 32 = .ok (.getfield 46, 3) := by decide +kernel
theorem dX9_clearTold_35 : decode cX9_clearTold 35 = .ok (.iload_n 1, 1) := by decide +kernel
theorem dX9_clearTold_36 : decode cX9_clearTold 36 = .ok (.iconst 0, 1) := by decide +kernel
theorem dX9_clearTold_37 : decode cX9_clearTold 37 = .ok (.iastore, 1) := by decide +kernel
theorem dX9_clearTold_38 : decode cX9_clearTold 38 = .ok (.iinc 1 1, 3) := by decide +kernel
theorem dX9_clearTold_41 : decode cX9_clearTold 41 = .ok (.goto (-16), 3) := by decide +kernel
theorem dX9_clearTold_44 : decode cX9_clearTold 44 = .ok (.return_, 1) := by decide +kernel
theorem dX9_tellsFog_0 : decode cX9_tellsFog 0 = .ok (.aload_n 0, 1) := by decide +kernel
theorem dX9_tellsFog_1 : decode cX9_tellsFog 1 = .ok (.getfield 43, 3) := by decide +kernel
theorem dX9_tellsFog_4 : decode cX9_tellsFog 4 = .ok (.iconst 0, 1) := by decide +kernel
theorem dX9_tellsFog_5 : decode cX9_tellsFog 5 = .ok (.iload_n 1, 1) := by decide +kernel
theorem dX9_tellsFog_6 : decode cX9_tellsFog 6 = .ok (.iastore, 1) := by decide +kernel
theorem dX9_tellsFog_7 : decode cX9_tellsFog 7 = .ok (.aload_n 0, 1) := by decide +kernel
theorem dX9_tellsFog_8 : decode cX9_tellsFog 8 = .ok (.getfield 43, 3) := by decide +kernel
theorem dX9_tellsFog_11 : decode cX9_tellsFog 11 = .ok (.iconst 1, 1) := by decide +kernel
theorem dX9_tellsFog_12 : decode cX9_tellsFog 12 = .ok (.iload_n 2, 1) := by decide +kernel
theorem dX9_tellsFog_13 : decode cX9_tellsFog 13 = .ok (.iastore, 1) := by decide +kernel
theorem dX9_tellsFog_14 : decode cX9_tellsFog 14 = .ok (.aload_n 0, 1) := by decide +kernel
theorem dX9_tellsFog_15 : decode cX9_tellsFog 15 = .ok (.getfield 43, 3) := by decide +kernel
theorem dX9_tellsFog_18 : decode cX9_tellsFog 18 = .ok (.iconst 2, 1) := by decide +kernel
theorem dX9_tellsFog_19 : decode cX9_tellsFog 19 = .ok (.iload_n 3, 1) := by decide +kernel
theorem dX9_tellsFog_20 : decode cX9_tellsFog 20 = .ok (.iastore, 1) := by decide +kernel
theorem dX9_tellsFog_21 : decode cX9_tellsFog 21 = .ok (.aload_n 0, 1) := by decide +kernel
theorem dX9_tellsFog_22 : decode cX9_tellsFog 22 = .ok (.getfield 43, 3) := by decide +kernel
theorem dX9_tellsFog_25 : decode cX9_tellsFog 25 = .ok (.iconst 3, 1) := by decide +kernel
theorem dX9_tellsFog_26 : decode cX9_tellsFog 26 = .ok (.bipush 10, 2) := by decide +kernel
theorem dX9_tellsFog_28 : decode cX9_tellsFog 28 = .ok (.iload_n 1, 1) := by decide +kernel
theorem dX9_tellsFog_29 : decode cX9_tellsFog 29 = .ok (.isub, 1) := by decide +kernel
theorem dX9_tellsFog_30 : decode cX9_tellsFog 30 = .ok (.iload_n 2, 1) := by decide +kernel
theorem dX9_tellsFog_31 : decode cX9_tellsFog 31 = .ok (.isub, 1) := by decide +kernel
theorem dX9_tellsFog_32 : decode cX9_tellsFog 32 = .ok (.iload_n 3, 1) := by decide +kernel
theorem dX9_tellsFog_33 : decode cX9_tellsFog 33 = .ok (.isub, 1) := by decide +kernel
theorem dX9_tellsFog_34 : decode cX9_tellsFog 34 = .ok (.iastore, 1) := by decide +kernel
theorem dX9_tellsFog_35 : decode cX9_tellsFog 35 = .ok (.return_, 1) := by decide +kernel
theorem dX9_readTenantOf_0 : decode cX9_readTenantOf 0 = .ok (.aload_n 0, 1) := by decide +kernel
theorem dX9_readTenantOf_1 : decode cX9_readTenantOf 1 = .ok (.getfield 78, 3) := by decide +kernel
theorem dX9_readTenantOf_4 : decode cX9_readTenantOf 4 = .ok (.bipush 6, 2) := by decide +kernel
theorem dX9_readTenantOf_6 : decode cX9_readTenantOf 6 = .ok (.if_icmp .eq 64, 3) := by decide +kernel
theorem dX9_readTenantOf_9 : decode cX9_readTenantOf 9 = .ok (.aload_n 0, 1) := by decide +kernel
theorem dX9_readTenantOf_10 : decode cX9_readTenantOf 10 = .ok (.iconst 5, 1) := by decide +kernel
theorem dX9_readTenantOf_11 : decode cX9_readTenantOf 11 = .ok (.invokevirtual 116, 3) := by decide +kernel
theorem dX9_readTenantOf_14 : decode cX9_readTenantOf 14 = .ok (.ifCond .eq 56, 3) := by decide +kernel
theorem dX9_readTenantOf_17 : decode cX9_readTenantOf 17 = .ok (.aload_n 0, 1) := by decide +kernel
theorem dX9_readTenantOf_18 : decode cX9_readTenantOf 18 = .ok (.iconst 0, 1) := by decide +kernel
theorem dX9_readTenantOf_19 : decode cX9_readTenantOf 19 = .ok (.iconst 0, 1) := by decide +kernel
theorem dX9_readTenantOf_20 : decode cX9_readTenantOf 20 = .ok (.iconst 3, 1) := by decide +kernel
theorem dX9_readTenantOf_21 : decode cX9_readTenantOf 21 = .ok (.invokevirtual 119, 3) := by decide +kernel
theorem dX9_readTenantOf_24 : decode cX9_readTenantOf 24 = .ok (.ifCond .eq 46, 3) := by decide +kernel
theorem dX9_readTenantOf_27 : decode cX9_readTenantOf 27 = .ok (.aload_n 0, 1) := by decide +kernel
theorem dX9_readTenantOf_28 : decode cX9_readTenantOf 28 = .ok (.iconst 1, 1) := by decide +kernel
theorem dX9_readTenantOf_29 : decode cX9_readTenantOf 29 = .ok (.iconst 0, 1) := by decide +kernel
theorem dX9_readTenantOf_30 : decode cX9_readTenantOf 30 = .ok (.bipush 23, 2) := by decide +kernel
theorem dX9_readTenantOf_32 : decode cX9_readTenantOf 32 = .ok (.invokevirtual 119, 3) := by decide +kernel
theorem dX9_readTenantOf_35 : decode cX9_readTenantOf 35 = .ok (.ifCond .eq 35, 3) := by decide +kernel
theorem dX9_readTenantOf_38 : decode cX9_readTenantOf 38 = .ok (.aload_n 0, 1) := by decide +kernel
theorem dX9_readTenantOf_39 : decode cX9_readTenantOf 39 = .ok (.iconst 2, 1) := by decide +kernel
theorem dX9_readTenantOf_40 : decode cX9_readTenantOf 40 = .ok (.iconst 1, 1) := by decide +kernel
theorem dX9_readTenantOf_41 : decode cX9_readTenantOf 41 = .ok (.bipush 12, 2) := by decide +kernel
theorem dX9_readTenantOf_43 : decode cX9_readTenantOf 43 = .ok (.invokevirtual 119, 3) := by decide +kernel
theorem dX9_readTenantOf_46 : decode cX9_readTenantOf 46 = .ok (.ifCond .eq 24, 3) := by decide +kernel
theorem dX9_readTenantOf_49 : decode cX9_readTenantOf 49 = .ok (.aload_n 0, 1) := by decide +kernel
theorem dX9_readTenantOf_50 : decode cX9_readTenantOf 50 = .ok (.iconst 3, 1) := by decide +kernel
theorem dX9_readTenantOf_51 : decode cX9_readTenantOf 51 = .ok (.iconst 0, 1) := by decide +kernel
theorem dX9_readTenantOf_52 : decode cX9_readTenantOf 52 = .ok (.bipush 20, 2) := by decide +kernel
theorem dX9_readTenantOf_54 : decode cX9_readTenantOf 54 = .ok (.invokevirtual 119, 3) := by decide +kernel
theorem dX9_readTenantOf_57 : decode cX9_readTenantOf 57 = .ok (.ifCond .eq 13, 3) := by decide +kernel
theorem dX9_readTenantOf_60 : decode cX9_readTenantOf 60 = .ok (.aload_n 0, 1) := by decide +kernel
theorem dX9_readTenantOf_61 : decode cX9_readTenantOf 61 = .ok (.iconst 4, 1) := by decide +kernel
theorem dX9_readTenantOf_62 : decode cX9_readTenantOf 62 = .ok (.iconst 0, 1) := by decide +kernel
theorem dX9_readTenantOf_63 : decode cX9_readTenantOf 63 = .ok (.iconst 3, 1) := by decide +kernel
theorem dX9_readTenantOf_64 : decode cX9_readTenantOf 64 = .ok (.invokevirtual 119, 3) := by decide +kernel
theorem dX9_readTenantOf_67 : decode cX9_readTenantOf 67 = .ok (.ifCond .ne 5, 3) := by decide +kernel
theorem dX9_readTenantOf_70 : decode cX9_readTenantOf 70 = .ok (.iconst 0, 1) := by decide +kernel
theorem dX9_readTenantOf_71 : decode cX9_readTenantOf 71 = .ok (.ireturn, 1) := by decide +kernel
theorem dX9_readTenantOf_72 : decode cX9_readTenantOf 72 = .ok (.aload_n 0, 1) := by decide +kernel
theorem dX9_readTenantOf_73 : decode cX9_readTenantOf 73 = .ok (.aload_n 0, 1) := by decide +kernel
theorem dX9_readTenantOf_74 : decode cX9_readTenantOf 74 = .ok (.getfield 34, 3) := by decide +kernel
theorem dX9_readTenantOf_77 : decode cX9_readTenantOf 77 = .ok (.iconst 0, 1) := by decide +kernel
theorem dX9_readTenantOf_78 : decode cX9_readTenantOf 78 = .ok (.iaload, 1) := by decide +kernel
theorem dX9_readTenantOf_79 : decode cX9_readTenantOf 79 = .ok (.aload_n 0, 1) := by decide +kernel
theorem dX9_readTenantOf_80 : decode cX9_readTenantOf 80 = .ok (.getfield 34, 3) := by decide +kernel
theorem dX9_readTenantOf_83 : decode cX9_readTenantOf 83 = .ok (.iconst 1, 1) := by decide +kernel
theorem dX9_readTenantOf_84 : decode cX9_readTenantOf 84 = .ok (.iaload, 1) := by decide +kernel
theorem dX9_readTenantOf_85 : decode cX9_readTenantOf 85 = .ok (.aload_n 0, 1) := by decide +kernel
theorem dX9_readTenantOf_86 : decode cX9_readTenantOf 86 = .ok (.getfield 34, 3) := by decide +kernel
theorem dX9_readTenantOf_89 : decode cX9_readTenantOf 89 = .ok (.iconst 2, 1) := by decide +kernel
theorem dX9_readTenantOf_90 : decode cX9_readTenantOf 90 = .ok (.iaload, 1) := by decide +kernel
theorem dX9_readTenantOf_91 : decode cX9_readTenantOf 91 = .ok (.aload_n 0, 1) := by decide +kernel
theorem dX9_readTenantOf_92 : decode cX9_readTenantOf 92 = .ok (.getfield 34, 3) := by decide +kernel
theorem dX9_readTenantOf_95 : decode cX9_readTenantOf 95 = .ok (.iconst 3, 1) := by decide +kernel
theorem dX9_readTenantOf_96 : decode cX9_readTenantOf 96 = .ok (.iaload, 1) := by decide +kernel
theorem dX9_readTenantOf_97 : decode cX9_readTenantOf 97 = .ok (.aload_n 0, 1) := by decide +kernel
theorem dX9_readTenantOf_98 : decode cX9_readTenantOf 98 = .ok (.getfield 34, 3) := by decide +kernel
theorem dX9_readTenantOf_101 : decode cX9_readTenantOf 101 = .ok (.iconst 4, 1) := by decide +kernel
theorem dX9_readTenantOf_102 : decode cX9_readTenantOf 102 = .ok (.iaload, 1) := by decide +kernel
theorem dX9_readTenantOf_103 : decode cX9_readTenantOf 103 = .ok (.invokevirtual 67, 3) := by decide +kernel
theorem dX9_readTenantOf_106 : decode cX9_readTenantOf 106 = .ok (.iconst 1, 1) := by decide +kernel
theorem dX9_readTenantOf_107 : decode cX9_readTenantOf 107 = .ok (.ireturn, 1) := by decide +kernel
theorem dX9_readShipOf_0 : decode cX9_readShipOf 0 = .ok (.aload_n 0, 1) := by decide +kernel
theorem dX9_readShipOf_1 : decode cX9_readShipOf 1 = .ok (.getfield 82, 3) := by decide +kernel
theorem dX9_readShipOf_4 : decode cX9_readShipOf 4 = .ok (.iconst 5, 1) := by decide +kernel
theorem dX9_readShipOf_5 : decode cX9_readShipOf 5 = .ok (.if_icmp .eq 33, 3) := by decide +kernel
theorem dX9_readShipOf_8 : decode cX9_readShipOf 8 = .ok (.aload_n 0, 1) := by decide +kernel
theorem dX9_readShipOf_9 : decode cX9_readShipOf 9 = .ok (.iconst 2, 1) := by decide +kernel
theorem dX9_readShipOf_10 : decode cX9_readShipOf 10 = .ok (.invokevirtual 116, 3) := by decide +kernel
theorem dX9_readShipOf_13 : decode cX9_readShipOf 13 = .ok (.ifCond .eq 25, 3) := by decide +kernel
theorem dX9_readShipOf_16 : decode cX9_readShipOf 16 = .ok (.aload_n 0, 1) := by decide +kernel
theorem dX9_readShipOf_17 : decode cX9_readShipOf 17 = .ok (.iconst 0, 1) := by decide +kernel
theorem dX9_readShipOf_18 : decode cX9_readShipOf 18 = .ok (.iconst 0, 1) := by decide +kernel
theorem dX9_readShipOf_19 : decode cX9_readShipOf 19 = .ok (.bipush 23, 2) := by decide +kernel
theorem dX9_readShipOf_21 : decode cX9_readShipOf 21 = .ok (.invokevirtual 119, 3) := by decide +kernel
theorem dX9_readShipOf_24 : decode cX9_readShipOf 24 = .ok (.ifCond .eq 14, 3) := by decide +kernel
theorem dX9_readShipOf_27 : decode cX9_readShipOf 27 = .ok (.aload_n 0, 1) := by decide +kernel
theorem dX9_readShipOf_28 : decode cX9_readShipOf 28 = .ok (.iconst 1, 1) := by decide +kernel
theorem dX9_readShipOf_29 : decode cX9_readShipOf 29 = .ok (.iconst 1, 1) := by decide +kernel
end
section
theorem dX9_readShipOf_30 : decode cX9_readShipOf 30 = .ok (.bipush 12, 2) := by decide +kernel
theorem dX9_readShipOf_32 : decode cX9_readShipOf 32 = .ok (.invokevirtual 119, 3) := by decide +kernel
theorem dX9_readShipOf_35 : decode cX9_readShipOf 35 = .ok (.ifCond .ne 5, 3) := by decide +kernel
theorem dX9_readShipOf_38 : decode cX9_readShipOf 38 = .ok (.iconst 0, 1) := by decide +kernel
theorem dX9_readShipOf_39 : decode cX9_readShipOf 39 = .ok (.ireturn, 1) := by decide +kernel
theorem dX9_readShipOf_40 : decode cX9_readShipOf 40 = .ok (.aload_n 0, 1) := by decide +kernel
theorem dX9_readShipOf_41 : decode cX9_readShipOf 41 = .ok (.aload_n 0, 1) := by decide +kernel
theorem dX9_readShipOf_42 : decode cX9_readShipOf 42 = .ok (.getfield 34, 3) := by decide +kernel
theorem dX9_readShipOf_45 : decode cX9_readShipOf 45 = .ok (.iconst 0, 1) := by decide +kernel
theorem dX9_readShipOf_46 : decode cX9_readShipOf 46 = .ok (.iaload, 1) := by decide +kernel
theorem dX9_readShipOf_47 : decode cX9_readShipOf 47 = .ok (.aload_n 0, 1) := by decide +kernel
theorem dX9_readShipOf_48 : decode cX9_readShipOf 48 = .ok (.getfield 34, 3) := by decide +kernel
theorem dX9_readShipOf_51 : decode cX9_readShipOf 51 = .ok (.iconst 1, 1) := by decide +kernel
theorem dX9_readShipOf_52 : decode cX9_readShipOf 52 = .ok (.iaload, 1) := by decide +kernel
theorem dX9_readShipOf_53 : decode cX9_readShipOf 53 = .ok (.invokevirtual 71, 3) := by decide +kernel
theorem dX9_readShipOf_56 : decode cX9_readShipOf 56 = .ok (.iconst 1, 1) := by decide +kernel
theorem dX9_readShipOf_57 : decode cX9_readShipOf 57 = .ok (.ireturn, 1) := by decide +kernel
theorem dX9_readFogOf_0 : decode cX9_readFogOf 0 = .ok (.aload_n 0, 1) := by decide +kernel
theorem dX9_readFogOf_1 : decode cX9_readFogOf 1 = .ok (.iconst 3, 1) := by decide +kernel
theorem dX9_readFogOf_2 : decode cX9_readFogOf 2 = .ok (.invokevirtual 116, 3) := by decide +kernel
theorem dX9_readFogOf_5 : decode cX9_readFogOf 5 = .ok (.ifCond .eq 28, 3) := by decide +kernel
theorem dX9_readFogOf_8 : decode cX9_readFogOf 8 = .ok (.aload_n 0, 1) := by decide +kernel
theorem dX9_readFogOf_9 : decode cX9_readFogOf 9 = .ok (.getfield 34, 3) := by decide +kernel
theorem dX9_readFogOf_12 : decode cX9_readFogOf 12 = .ok (.iconst 0, 1) := by decide +kernel
theorem dX9_readFogOf_13 : decode cX9_readFogOf 13 = .ok (.iaload, 1) := by decide +kernel
theorem dX9_readFogOf_14 : decode cX9_readFogOf 14 = .ok (.aload_n 0, 1) := by decide +kernel
theorem dX9_readFogOf_15 : decode cX9_readFogOf 15 = .ok (.getfield 34, 3) := by decide +kernel
theorem dX9_readFogOf_18 : decode cX9_readFogOf 18 = .ok (.iconst 1, 1) := by decide +kernel
theorem dX9_readFogOf_19 : decode cX9_readFogOf 19 = .ok (.iaload, 1) := by decide +kernel
theorem dX9_readFogOf_20 : decode cX9_readFogOf 20 = .ok (.iadd, 1) := by decide +kernel
theorem dX9_readFogOf_21 : decode cX9_readFogOf 21 = .ok (.aload_n 0, 1) := by decide +kernel
theorem dX9_readFogOf_22 : decode cX9_readFogOf 22 = .ok (.getfield 34, 3) := by decide +kernel
theorem dX9_readFogOf_25 : decode cX9_readFogOf 25 = .ok (.iconst 2, 1) := by decide +kernel
theorem dX9_readFogOf_26 : decode cX9_readFogOf 26 = .ok (.iaload, 1) := by decide +kernel
theorem dX9_readFogOf_27 : decode cX9_readFogOf 27 = .ok (.iadd, 1) := by decide +kernel
theorem dX9_readFogOf_28 : decode cX9_readFogOf 28 = .ok (.bipush 10, 2) := by decide +kernel
theorem dX9_readFogOf_30 : decode cX9_readFogOf 30 = .ok (.if_icmp .le 5, 3) := by decide +kernel
theorem dX9_readFogOf_33 : decode cX9_readFogOf 33 = .ok (.iconst 0, 1) := by decide +kernel
theorem dX9_readFogOf_34 : decode cX9_readFogOf 34 = .ok (.ireturn, 1) := by decide +kernel
theorem dX9_readFogOf_35 : decode cX9_readFogOf 35 = .ok (.aload_n 0, 1) := by decide +kernel
theorem dX9_readFogOf_36 : decode cX9_readFogOf 36 = .ok (.aload_n 0, 1) := by decide +kernel
theorem dX9_readFogOf_37 : decode cX9_readFogOf 37 = .ok (.getfield 34, 3) := by decide +kernel
theorem dX9_readFogOf_40 : decode cX9_readFogOf 40 = .ok (.iconst 0, 1) := by decide +kernel
theorem dX9_readFogOf_41 : decode cX9_readFogOf 41 = .ok (.iaload, 1) := by decide +kernel
theorem dX9_readFogOf_42 : decode cX9_readFogOf 42 = .ok (.aload_n 0, 1) := by decide +kernel
theorem dX9_readFogOf_43 : decode cX9_readFogOf 43 = .ok (.getfield 34, 3) := by decide +kernel
theorem dX9_readFogOf_46 : decode cX9_readFogOf 46 = .ok (.iconst 1, 1) := by decide +kernel
theorem dX9_readFogOf_47 : decode cX9_readFogOf 47 = .ok (.iaload, 1) := by decide +kernel
theorem dX9_readFogOf_48 : decode cX9_readFogOf 48 = .ok (.aload_n 0, 1) := by decide +kernel
theorem dX9_readFogOf_49 : decode cX9_readFogOf 49 = .ok (.getfield 34, 3) := by decide +kernel
theorem dX9_readFogOf_52 : decode cX9_readFogOf 52 = .ok (.iconst 2, 1) := by decide +kernel
theorem dX9_readFogOf_53 : decode cX9_readFogOf 53 = .ok (.iaload, 1) := by decide +kernel
theorem dX9_readFogOf_54 : decode cX9_readFogOf 54 = .ok (.invokevirtual 109, 3) := by decide +kernel
theorem dX9_readFogOf_57 : decode cX9_readFogOf 57 = .ok (.iconst 1, 1) := by decide +kernel
theorem dX9_readFogOf_58 : decode cX9_readFogOf 58 = .ok (.ireturn, 1) := by decide +kernel
theorem dX9_readMostOf_0 : decode cX9_readMostOf 0 = .ok (.aload_n 0, 1) := by decide +kernel
theorem dX9_readMostOf_1 : decode cX9_readMostOf 1 = .ok (.iconst 1, 1) := by decide +kernel
theorem dX9_readMostOf_2 : decode cX9_readMostOf 2 = .ok (.invokevirtual 116, 3) := by decide +kernel
theorem dX9_readMostOf_5 : decode cX9_readMostOf 5 = .ok (.ifCond .eq 18, 3) := by decide +kernel
theorem dX9_readMostOf_8 : decode cX9_readMostOf 8 = .ok (.aload_n 0, 1) := by decide +kernel
theorem dX9_readMostOf_9 : decode cX9_readMostOf 9 = .ok (.iconst 0, 1) := by decide +kernel
theorem dX9_readMostOf_10 : decode cX9_readMostOf 10 = .ok (.iconst 0, 1) := by decide +kernel
theorem dX9_readMostOf_11 : decode cX9_readMostOf 11 = .ok (.bipush 60, 2) := by decide +kernel
theorem dX9_readMostOf_13 : decode cX9_readMostOf 13 = .ok (.invokevirtual 119, 3) := by decide +kernel
theorem dX9_readMostOf_16 : decode cX9_readMostOf 16 = .ok (.ifCond .eq 7, 3) := by decide +kernel
theorem dX9_readMostOf_19 : decode cX9_readMostOf 19 = .ok (.iconst 1, 1) := by decide +kernel
theorem dX9_readMostOf_20 : decode cX9_readMostOf 20 = .ok (.goto 4, 3) := by decide +kernel
theorem dX9_readMostOf_23 : decode cX9_readMostOf 23 = .ok (.iconst 0, 1) := by decide +kernel
theorem dX9_readMostOf_24 : decode cX9_readMostOf 24 = .ok (.istore_n 1, 1) := by decide +kernel
theorem dX9_readMostOf_25 : decode cX9_readMostOf 25 = .ok (.aload_n 0, 1) := by decide +kernel
theorem dX9_readMostOf_26 : decode cX9_readMostOf 26 = .ok (.iload_n 1, 1) := by decide +kernel
theorem dX9_readMostOf_27 : decode cX9_readMostOf 27 = .ok (.ifCond .eq 12, 3) := by decide +kernel
theorem dX9_readMostOf_30 : decode cX9_readMostOf 30 = .ok (.aload_n 0, 1) := by decide +kernel
theorem dX9_readMostOf_31 : decode cX9_readMostOf 31 = .ok (.getfield 34, 3) := by decide +kernel
theorem dX9_readMostOf_34 : decode cX9_readMostOf 34 = .ok (.iconst 0, 1) := by decide +kernel
theorem dX9_readMostOf_35 : decode cX9_readMostOf 35 = .ok (.iaload, 1) := by decide +kernel
theorem dX9_readMostOf_36 : decode cX9_readMostOf 36 = .ok (.goto 7, 3) := by decide +kernel
theorem dX9_readMostOf_39 : decode cX9_readMostOf 39 = .ok (.aload_n 0, 1) := by decide +kernel
theorem dX9_readMostOf_40 : decode cX9_readMostOf 40 = .ok (.getfield 113, 3) := by decide +kernel
theorem dX9_readMostOf_43 : decode cX9_readMostOf 43 = .ok (.putfield 113, 3) := by decide +kernel
theorem dX9_readMostOf_46 : decode cX9_readMostOf 46 = .ok (.iload_n 1, 1) := by decide +kernel
theorem dX9_readMostOf_47 : decode cX9_readMostOf 47 = .ok (.ireturn, 1) := by decide +kernel
theorem dX9_readItem_0 : decode cX9_readItem 0 = .ok (.aload_n 0, 1) := by decide +kernel
theorem dX9_readItem_1 : decode cX9_readItem 1 = .ok (.aload_n 0, 1) := by decide +kernel
theorem dX9_readItem_2 : decode cX9_readItem 2 = .ok (.getfield 98, 3) := by decide +kernel
theorem dX9_readItem_5 : decode cX9_readItem 5 = .ok (.invokevirtual 101, 3) := by decide +kernel
theorem dX9_readItem_8 : decode cX9_readItem 8 = .ok (.istore_n 1, 1) := by decide +kernel
theorem dX9_readItem_9 : decode cX9_readItem 9 = .ok (.aload_n 0, 1) := by decide +kernel
theorem dX9_readItem_10 : decode cX9_readItem 10 = .ok (.dup, 1) := by decide +kernel
theorem dX9_readItem_11 : decode cX9_readItem 11 = .ok (.getfield 98, 3) := by decide +kernel
theorem dX9_readItem_14 : decode cX9_readItem 14 = .ok (.iconst 1, 1) := by decide +kernel
theorem dX9_readItem_15 : decode cX9_readItem 15 = .ok (.iadd, 1) := by decide +kernel
theorem dX9_readItem_16 : decode cX9_readItem 16 = .ok (.putfield 98, 3) := by decide +kernel
theorem dX9_readItem_19 : decode cX9_readItem 19 = .ok (.iload_n 1, 1) := by decide +kernel
theorem dX9_readItem_20 : decode cX9_readItem 20 = .ok (.lookupswitch 64 #[(98, 59), (102, 54), (115, 49), (116, 44)], 44) := by decide +kernel
theorem dX9_readItem_64 : decode cX9_readItem 64 = .ok (.aload_n 0, 1) := by decide +kernel
theorem dX9_readItem_65 : decode cX9_readItem 65 = .ok (.invokevirtual 122, 3) := by decide +kernel
theorem dX9_readItem_68 : decode cX9_readItem 68 = .ok (.ireturn, 1) := by decide +kernel
theorem dX9_readItem_69 : decode cX9_readItem 69 = .ok (.aload_n 0, 1) := by decide +kernel
theorem dX9_readItem_70 : decode cX9_readItem 70 = .ok (.invokevirtual 126, 3) := by decide +kernel
theorem dX9_readItem_73 : decode cX9_readItem 73 = .ok (.ireturn, 1) := by decide +kernel
theorem dX9_readItem_74 : decode cX9_readItem 74 = .ok (.aload_n 0, 1) := by decide +kernel
theorem dX9_readItem_75 : decode cX9_readItem 75 = .ok (.invokevirtual 129, 3) := by decide +kernel
theorem dX9_readItem_78 : decode cX9_readItem 78 = .ok (.ireturn, 1) := by decide +kernel
theorem dX9_readItem_79 : decode cX9_readItem 79 = .ok (.aload_n 0, 1) := by decide +kernel
theorem dX9_readItem_80 : decode cX9_readItem 80 = .ok (.invokevirtual 132, 3) := by decide +kernel
theorem dX9_readItem_83 : decode cX9_readItem 83 = .ok (.ireturn, 1) := by decide +kernel
theorem dX9_readItem_84 : decode cX9_readItem 84 = .ok (.iconst 0, 1) := by decide +kernel
theorem dX9_readItem_85 : decode cX9_readItem 85 = .ok (.ireturn, 1) := by decide +kernel
theorem dX9_fault_0 : decode cX9_fault 0 = .ok (.aload_n 0, 1) := by decide +kernel
theorem dX9_fault_1 : decode cX9_fault 1 = .ok (.iconst 0, 1) := by decide +kernel
theorem dX9_fault_2 : decode cX9_fault 2 = .ok (.putfield 98, 3) := by decide +kernel
theorem dX9_fault_5 : decode cX9_fault 5 = .ok (.aload_n 0, 1) := by decide +kernel
theorem dX9_fault_6 : decode cX9_fault 6 = .ok (.invokevirtual 64, 3) := by decide +kernel
theorem dX9_fault_9 : decode cX9_fault 9 = .ok (.aload_n 0, 1) := by decide +kernel
theorem dX9_fault_10 : decode cX9_fault 10 = .ok (.getfield 98, 3) := by decide +kernel
theorem dX9_fault_13 : decode cX9_fault 13 = .ok (.aload_n 0, 1) := by decide +kernel
theorem dX9_fault_14 : decode cX9_fault 14 = .ok (.getfield 95, 3) := by decide +kernel
theorem dX9_fault_17 : decode cX9_fault 17 = .ok (.if_icmp .ge 20, 3) := by decide +kernel
theorem dX9_fault_20 : decode cX9_fault 20 = .ok (.aload_n 0, 1) := by decide +kernel
theorem dX9_fault_21 : decode cX9_fault 21 = .ok (.getfield 98, 3) := by decide +kernel
theorem dX9_fault_24 : decode cX9_fault 24 = .ok (.istore_n 1, 1) := by decide +kernel
theorem dX9_fault_25 : decode cX9_fault 25 = .ok (.aload_n 0, 1) := by decide +kernel
theorem dX9_fault_26 : decode cX9_fault 26 = .ok (.invokevirtual 135, 3) := by decide +kernel
theorem dX9_fault_29 : decode cX9_fault 29 = .ok (.ifCond .ne 5, 3) := by decide +kernel
theorem dX9_fault_32 : decode cX9_fault 32 = .ok (.iload_n 1, 1) := by decide +kernel
theorem dX9_fault_33 : decode cX9_fault 33 = .ok (.ireturn, 1) := by decide +kernel
theorem dX9_fault_34 : decode cX9_fault 34 = .ok (.goto (-25), 3) := by decide +kernel
theorem dX9_fault_37 : decode cX9_fault 37 = .ok (.bipush (-4), 2) := by decide +kernel
theorem dX9_fault_39 : decode cX9_fault 39 = .ok (.ireturn, 1) := by decide +kernel
theorem dX9_lay_0 : decode cX9_lay 0 = .ok (.aload_n 0, 1) := by decide +kernel
theorem dX9_lay_1 : decode cX9_lay 1 = .ok (.invokevirtual 138, 3) := by decide +kernel
theorem dX9_lay_4 : decode cX9_lay 4 = .ok (.bipush (-4), 2) := by decide +kernel
theorem dX9_lay_6 : decode cX9_lay 6 = .ok (.if_icmp .ne 10, 3) := by decide +kernel
theorem dX9_lay_9 : decode cX9_lay 9 = .ok (.aload_n 0, 1) := by decide +kernel
theorem dX9_lay_10 : decode cX9_lay 10 = .ok (.getfield 78, 3) := by decide +kernel
theorem dX9_lay_13 : decode cX9_lay 13 = .ok (.ifCond .ne 6, 3) := by decide +kernel
theorem dX9_lay_16 : decode cX9_lay 16 = .ok (.bipush (-2), 2) := by decide +kernel
theorem dX9_lay_18 : decode cX9_lay 18 = .ok (.ireturn, 1) := by decide +kernel
theorem dX9_lay_19 : decode cX9_lay 19 = .ok (.aload_n 0, 1) := by decide +kernel
theorem dX9_lay_20 : decode cX9_lay 20 = .ok (.invokevirtual 75, 3) := by decide +kernel
theorem dX9_lay_23 : decode cX9_lay 23 = .ok (.aload_n 0, 1) := by decide +kernel
theorem dX9_lay_24 : decode cX9_lay 24 = .ok (.getfield 85, 3) := by decide +kernel
theorem dX9_lay_27 : decode cX9_lay 27 = .ok (.ireturn, 1) := by decide +kernel
theorem dX9_settles_0 : decode cX9_settles 0 = .ok (.aload_n 0, 1) := by decide +kernel
theorem dX9_settles_1 : decode cX9_settles 1 = .ok (.aload_n 0, 1) := by decide +kernel
theorem dX9_settles_2 : decode cX9_settles 2 = .ok (.getfield 78, 3) := by decide +kernel
theorem dX9_settles_5 : decode cX9_settles 5 = .ok (.putfield 85, 3) := by decide +kernel
theorem dX9_settles_8 : decode cX9_settles 8 = .ok (.aload_n 0, 1) := by decide +kernel
theorem dX9_settles_9 : decode cX9_settles 9 = .ok (.aload_n 0, 1) := by decide +kernel
theorem dX9_settles_10 : decode cX9_settles 10 = .ok (.getfield 82, 3) := by decide +kernel
theorem dX9_settles_13 : decode cX9_settles 13 = .ok (.putfield 92, 3) := by decide +kernel
theorem dX9_settles_16 : decode cX9_settles 16 = .ok (.aload_n 0, 1) := by decide +kernel
theorem dX9_settles_17 : decode cX9_settles 17 = .ok (.aload_n 0, 1) := by decide +kernel
theorem dX9_settles_18 : decode cX9_settles 18 = .ok (.getfield 113, 3) := by decide +kernel
theorem dX9_settles_21 : decode cX9_settles 21 = .ok (.putfield 142, 3) := by decide +kernel
theorem dX9_settles_24 : decode cX9_settles 24 = .ok (.aload_n 0, 1) := by decide +kernel
theorem dX9_settles_25 : decode cX9_settles 25 = .ok (.getfield 7, 3) := by decide +kernel
theorem dX9_settles_28 : decode cX9_settles 28 = .ok (.iconst 0, 1) := by decide +kernel
theorem dX9_settles_29 : decode cX9_settles 29 = .ok (.aload_n 0, 1) := by decide +kernel
theorem dX9_settles_30 : decode cX9_settles 30 = .ok (.getfield 37, 3) := by decide +kernel
theorem dX9_settles_33 : decode cX9_settles 33 = .ok (.bipush 18, 2) := by decide +kernel
theorem dX9_settles_35 : decode cX9_settles 35 = .ok (.invokestatic 145, 3) := by decide +kernel
theorem dX9_settles_38 : decode cX9_settles 38 = .ok (.aload_n 0, 1) := by decide +kernel
theorem dX9_settles_39 : decode cX9_settles 39 = .ok (.getfield 13, 3) := by decide +kernel
theorem dX9_settles_42 : decode cX9_settles 42 = .ok (.iconst 0, 1) := by decide +kernel
theorem dX9_settles_43 : decode cX9_settles 43 = .ok (.aload_n 0, 1) := by decide +kernel
theorem dX9_settles_44 : decode cX9_settles 44 = .ok (.getfield 40, 3) := by decide +kernel
theorem dX9_settles_47 : decode cX9_settles 47 = .ok (.bipush 10, 2) := by decide +kernel
theorem dX9_settles_49 : decode cX9_settles 49 = .ok (.invokestatic 145, 3) := by decide +kernel
theorem dX9_settles_52 : decode cX9_settles 52 = .ok (.aload_n 0, 1) := by decide +kernel
theorem dX9_settles_53 : decode cX9_settles 53 = .ok (.getfield 16, 3) := by decide +kernel
theorem dX9_settles_56 : decode cX9_settles 56 = .ok (.iconst 0, 1) := by decide +kernel
theorem dX9_settles_57 : decode cX9_settles 57 = .ok (.aload_n 0, 1) := by decide +kernel
theorem dX9_settles_58 : decode cX9_settles 58 = .ok (.getfield 43, 3) := by decide +kernel
theorem dX9_settles_61 : decode cX9_settles 61 = .ok (.iconst 4, 1) := by decide +kernel
theorem dX9_settles_62 : decode cX9_settles 62 = .ok (.invokestatic 145, 3) := by decide +kernel
theorem dX9_settles_65 : decode cX9_settles 65 = .ok (.aload_n 0, 1) := by decide +kernel
theorem dX9_settles_66 : decode cX9_settles 66 = .ok (.getfield 19, 3) := by decide +kernel
theorem dX9_settles_69 : decode cX9_settles 69 = .ok (.iconst 0, 1) := by decide +kernel
theorem dX9_settles_70 : decode cX9_settles 70 = .ok (.aload_n 0, 1) := by decide +kernel
theorem dX9_settles_71 : decode cX9_settles 71 = .ok (.getfield 46, 3) := by decide +kernel
theorem dX9_settles_74 : decode cX9_settles 74 = .ok (.bipush 20, 2) := by decide +kernel
theorem dX9_settles_76 : decode cX9_settles 76 = .ok (.invokestatic 145, 3) := by decide +kernel
theorem dX9_settles_79 : decode cX9_settles 79 = .ok (.aload_n 0, 1) := by decide +kernel
theorem dX9_settles_80 : decode cX9_settles 80 = .ok (.iconst 0, 1) := by decide +kernel
theorem dX9_settles_81 : decode cX9_settles 81 = .ok (.putfield 149, 3) := by decide +kernel
theorem dX9_settles_84 : decode cX9_settles 84 = .ok (.aload_n 0, 1) := by decide +kernel
theorem dX9_settles_85 : decode cX9_settles 85 = .ok (.iconst 0, 1) := by decide +kernel
theorem dX9_settles_86 : decode cX9_settles 86 = .ok (.putfield 152, 3) := by decide +kernel
theorem dX9_settles_89 : decode cX9_settles 89 = .ok (.aload_n 0, 1) := by decide +kernel
theorem dX9_settles_90 : decode cX9_settles 90 = .ok (.iconst 0, 1) := by decide +kernel
theorem dX9_settles_91 : decode cX9_settles 91 = .ok (.putfield 155, 3) := by decide +kernel
theorem dX9_settles_94 : decode cX9_settles 94 = .ok (.return_, 1) := by decide +kernel
theorem dX9_asItIs_0 : decode cX9_asItIs 0 = .ok (.aload_n 0, 1) := by decide +kernel
theorem dX9_asItIs_1 : decode cX9_asItIs 1 = .ok (.getfield 49, 3) := by decide +kernel
theorem dX9_asItIs_4 : decode cX9_asItIs 4 = .ok (.iconst 0, 1) := by decide +kernel
theorem dX9_asItIs_5 : decode cX9_asItIs 5 = .ok (.aload_n 0, 1) := by decide +kernel
theorem dX9_asItIs_6 : decode cX9_asItIs 6 = .ok (.getfield 19, 3) := by decide +kernel
theorem dX9_asItIs_9 : decode cX9_asItIs 9 = .ok (.bipush 20, 2) := by decide +kernel
theorem dX9_asItIs_11 : decode cX9_asItIs 11 = .ok (.invokestatic 145, 3) := by decide +kernel
theorem dX9_asItIs_14 : decode cX9_asItIs 14 = .ok (.aload_n 0, 1) := by decide +kernel
theorem dX9_asItIs_15 : decode cX9_asItIs 15 = .ok (.aload_n 0, 1) := by decide +kernel
theorem dX9_asItIs_16 : decode cX9_asItIs 16 = .ok (.invokevirtual 158, 3) := by decide +kernel
theorem dX9_asItIs_19 : decode cX9_asItIs 19 = .ok (.putfield 161, 3) := by decide +kernel
theorem dX9_asItIs_22 : decode cX9_asItIs 22 = .ok (.return_, 1) := by decide +kernel
theorem dX9_behindNow_0 : decode cX9_behindNow 0 = .ok (.iconst 0, 1) := by decide +kernel
theorem dX9_behindNow_1 : decode cX9_behindNow 1 = .ok (.istore_n 1, 1) := by decide +kernel
theorem dX9_behindNow_2 : decode cX9_behindNow 2 = .ok (.iconst 0, 1) := by decide +kernel
theorem dX9_behindNow_3 : decode cX9_behindNow 3 = .ok (.istore_n 2, 1) := by decide +kernel
theorem dX9_behindNow_4 : decode cX9_behindNow 4 = .ok (.iload_n 2, 1) := by decide +kernel
theorem dX9_behindNow_5 : decode cX9_behindNow 5 = .ok (.aload_n 0, 1) := by decide +kernel
theorem dX9_behindNow_6 : decode cX9_behindNow 6 = .ok (.getfield 85, 3) := by decide +kernel
theorem dX9_behindNow_9 : decode cX9_behindNow 9 = .ok (.if_icmp .ge 34, 3) := by decide +kernel
theorem dX9_behindNow_12 : decode cX9_behindNow 12 = .ok (.iload_n 1, 1) := by decide +kernel
theorem dX9_behindNow_13 : decode cX9_behindNow 13 = .ok (.aload_n 0, 1) := by decide +kernel
theorem dX9_behindNow_14 : decode cX9_behindNow 14 = .ok (.getfield 49, 3) := by decide +kernel
theorem dX9_behindNow_17 : decode cX9_behindNow 17 = .ok (.iconst 2, 1) := by decide +kernel
theorem dX9_behindNow_18 : decode cX9_behindNow 18 = .ok (.iload_n 2, 1) := by decide +kernel
theorem dX9_behindNow_19 : decode cX9_behindNow 19 = .ok (.iadd, 1) := by decide +kernel
theorem dX9_behindNow_20 : decode cX9_behindNow 20 = .ok (.iaload, 1) := by decide +kernel
theorem dX9_behindNow_21 : decode cX9_behindNow 21 = .ok (.aload_n 0, 1) := by decide +kernel
theorem dX9_behindNow_22 : decode cX9_behindNow 22 = .ok (.getfield 142, 3) := by decide +kernel
theorem dX9_behindNow_25 : decode cX9_behindNow 25 = .ok (.if_icmp .le 9, 3) := by decide +kernel
theorem dX9_behindNow_28 : decode cX9_behindNow 28 = .ok (.iconst 1, 1) := by decide +kernel
theorem dX9_behindNow_29 : decode cX9_behindNow 29 = .ok (.iload_n 2, 1) := by decide +kernel
theorem dX9_behindNow_30 : decode cX9_behindNow 30 = .ok (.ishl, 1) := by decide +kernel
theorem dX9_behindNow_31 : decode cX9_behindNow 31 = .ok (.goto 4, 3) := by decide +kernel
theorem dX9_behindNow_34 : decode cX9_behindNow 34 = .ok (.iconst 0, 1) := by decide +kernel
theorem dX9_behindNow_35 : decode cX9_behindNow 35 = .ok (.ior, 1) := by decide +kernel
theorem dX9_behindNow_36 : decode cX9_behindNow 36 = .ok (.istore_n 1, 1) := by decide +kernel
theorem dX9_behindNow_37 : decode cX9_behindNow 37 = .ok (.iinc 2 1, 3) := by decide +kernel
theorem dX9_behindNow_40 : decode cX9_behindNow 40 = .ok (.goto (-36), 3) := by decide +kernel
theorem dX9_behindNow_43 : decode cX9_behindNow 43 = .ok (.iload_n 1, 1) := by decide +kernel
theorem dX9_behindNow_44 : decode cX9_behindNow 44 = .ok (.ireturn, 1) := by decide +kernel
theorem dX9_isProudest_0 : decode cX9_isProudest 0 = .ok (.iconst 1, 1) := by decide +kernel
theorem dX9_isProudest_1 : decode cX9_isProudest 1 = .ok (.istore_n 2, 1) := by decide +kernel
theorem dX9_isProudest_2 : decode cX9_isProudest 2 = .ok (.iconst 0, 1) := by decide +kernel
theorem dX9_isProudest_3 : decode cX9_isProudest 3 = .ok (.istore_n 3, 1) := by decide +kernel
theorem dX9_isProudest_4 : decode cX9_isProudest 4 = .ok (.iload_n 3, 1) := by decide +kernel
theorem dX9_isProudest_5 : decode cX9_isProudest 5 = .ok (.aload_n 0, 1) := by decide +kernel
theorem dX9_isProudest_6 : decode cX9_isProudest 6 = .ok (.getfield 85, 3) := by decide +kernel
theorem dX9_isProudest_9 : decode cX9_isProudest 9 = .ok (.if_icmp .ge 66, 3) := by decide +kernel
theorem dX9_isProudest_12 : decode cX9_isProudest 12 = .ok (.iload_n 2, 1) := by decide +kernel
theorem dX9_isProudest_13 : decode cX9_isProudest 13 = .ok (.ifCond .eq 54, 3) := by decide +kernel
theorem dX9_isProudest_16 : decode cX9_isProudest 16 = .ok (.iload_n 3, 1) := by decide +kernel
theorem dX9_isProudest_17 : decode cX9_isProudest 17 = .ok (.iload_n 1, 1) := by decide +kernel
theorem dX9_isProudest_18 : decode cX9_isProudest 18 = .ok (.if_icmp .eq 45, 3) := by decide +kernel
theorem dX9_isProudest_21 : decode cX9_isProudest 21 = .ok (.aload_n 0, 1) := by decide +kernel
theorem dX9_isProudest_22 : decode cX9_isProudest 22 = .ok (.getfield 7, 3) := by decide +kernel
theorem dX9_isProudest_25 : decode cX9_isProudest 25 = .ok (.iconst 3, 1) := by decide +kernel
theorem dX9_isProudest_26 : decode cX9_isProudest 26 = .ok (.iload_n 3, 1) := by decide +kernel
theorem dX9_isProudest_27 : decode cX9_isProudest 27 = .ok (.imul, 1) := by decide +kernel
theorem dX9_isProudest_28 : decode cX9_isProudest 28 = .ok (.iaload, 1) := by decide +kernel
theorem dX9_isProudest_29 : decode cX9_isProudest 29 = .ok (.aload_n 0, 1) := by decide +kernel
theorem dX9_isProudest_30 : decode cX9_isProudest 30 = .ok (.getfield 7, 3) := by decide +kernel
theorem dX9_isProudest_33 : decode cX9_isProudest 33 = .ok (.iconst 3, 1) := by decide +kernel
theorem dX9_isProudest_34 : decode cX9_isProudest 34 = .ok (.iload_n 1, 1) := by decide +kernel
theorem dX9_isProudest_35 : decode cX9_isProudest 35 = .ok (.imul, 1) := by decide +kernel
theorem dX9_isProudest_36 : decode cX9_isProudest 36 = .ok (.iaload, 1) := by decide +kernel
theorem dX9_isProudest_37 : decode cX9_isProudest 37 = .ok (.if_icmp .ne 26, 3) := by decide +kernel
theorem dX9_isProudest_40 : decode cX9_isProudest 40 = .ok (.aload_n 0, 1) := by decide +kernel
theorem dX9_isProudest_41 : decode cX9_isProudest 41 = .ok (.getfield 7, 3) := by decide +kernel
theorem dX9_isProudest_44 : decode cX9_isProudest 44 = .ok (.iconst 3, 1) := by decide +kernel
theorem dX9_isProudest_45 : decode cX9_isProudest 45 = .ok (.iload_n 3, 1) := by decide +kernel
theorem dX9_isProudest_46 : decode cX9_isProudest 46 = .ok (.imul, 1) := by decide +kernel
theorem dX9_isProudest_47 : decode cX9_isProudest 47 = .ok (.iconst 1, 1) := by decide +kernel
theorem dX9_isProudest_48 : decode cX9_isProudest 48 = .ok (.iadd, 1) := by decide +kernel
theorem dX9_isProudest_49 : decode cX9_isProudest 49 = .ok (.iaload, 1) := by decide +kernel
theorem dX9_isProudest_50 : decode cX9_isProudest 50 = .ok (.aload_n 0, 1) := by decide +kernel
theorem dX9_isProudest_51 : decode cX9_isProudest 51 = .ok (.getfield 7, 3) := by decide +kernel
theorem dX9_isProudest_54 : decode cX9_isProudest 54 = .ok (.iconst 3, 1) := by decide +kernel
theorem dX9_isProudest_55 : decode cX9_isProudest 55 = .ok (.iload_n 1, 1) := by decide +kernel
theorem dX9_isProudest_56 : decode cX9_isProudest 56 = .ok (.imul, 1) := by decide +kernel
theorem dX9_isProudest_57 : decode cX9_isProudest 57 = .ok (.iconst 1, 1) := by decide +kernel
theorem dX9_isProudest_58 : decode cX9_isProudest 58 = .ok (.iadd, 1) := by decide +kernel
theorem dX9_isProudest_59 : decode cX9_isProudest 59 = .ok (.iaload, 1) := by decide +kernel
theorem dX9_isProudest_60 : decode cX9_isProudest 60 = .ok (.if_icmp .gt 7, 3) := by decide +kernel
theorem dX9_isProudest_63 : decode cX9_isProudest 63 = .ok (.iconst 1, 1) := by decide +kernel
theorem dX9_isProudest_64 : decode cX9_isProudest 64 = .ok (.goto 4, 3) := by decide +kernel
theorem dX9_isProudest_67 : decode cX9_isProudest 67 = .ok (.iconst 0, 1) := by decide +kernel
theorem dX9_isProudest_68 : decode cX9_isProudest 68 = .ok (.istore_n 2, 1) := by decide +kernel
theorem dX9_isProudest_69 : decode cX9_isProudest 69 = .ok (.iinc 3 1, 3) := by decide +kernel
theorem dX9_isProudest_72 : decode cX9_isProudest 72 = .ok (.goto (-68), 3) := by decide +kernel
theorem dX9_isProudest_75 : decode cX9_isProudest 75 = .ok (.iload_n 2, 1) := by decide +kernel
theorem dX9_isProudest_76 : decode cX9_isProudest 76 = .ok (.ireturn, 1) := by decide +kernel
theorem dX9_shines_0 : decode cX9_shines 0 = .ok (.aload_n 0, 1) := by decide +kernel
theorem dX9_shines_1 : decode cX9_shines 1 = .ok (.getfield 49, 3) := by decide +kernel
theorem dX9_shines_4 : decode cX9_shines 4 = .ok (.iconst 0, 1) := by decide +kernel
theorem dX9_shines_5 : decode cX9_shines 5 = .ok (.iaload, 1) := by decide +kernel
theorem dX9_shines_6 : decode cX9_shines 6 = .ok (.iconst 2, 1) := by decide +kernel
theorem dX9_shines_7 : decode cX9_shines 7 = .ok (.irem, 1) := by decide +kernel
theorem dX9_shines_8 : decode cX9_shines 8 = .ok (.ifCond .ne 7, 3) := by decide +kernel
theorem dX9_shines_11 : decode cX9_shines 11 = .ok (.iconst 1, 1) := by decide +kernel
theorem dX9_shines_12 : decode cX9_shines 12 = .ok (.goto 4, 3) := by decide +kernel
theorem dX9_shines_15 : decode cX9_shines 15 = .ok (.iconst 0, 1) := by decide +kernel
theorem dX9_shines_16 : decode cX9_shines 16 = .ok (.istore_n 3, 1) := by decide +kernel
theorem dX9_shines_17 : decode cX9_shines 17 = .ok (.aload_n 0, 1) := by decide +kernel
theorem dX9_shines_18 : decode cX9_shines 18 = .ok (.getfield 7, 3) := by decide +kernel
theorem dX9_shines_21 : decode cX9_shines 21 = .ok (.iconst 3, 1) := by decide +kernel
theorem dX9_shines_22 : decode cX9_shines 22 = .ok (.iload_n 1, 1) := by decide +kernel
theorem dX9_shines_23 : decode cX9_shines 23 = .ok (.imul, 1) := by decide +kernel
theorem dX9_shines_24 : decode cX9_shines 24 = .ok (.iconst 2, 1) := by decide +kernel
theorem dX9_shines_25 : decode cX9_shines 25 = .ok (.iadd, 1) := by decide +kernel
theorem dX9_shines_26 : decode cX9_shines 26 = .ok (.iaload, 1) := by decide +kernel
theorem dX9_shines_27 : decode cX9_shines 27 = .ok (.tableswitch 50 0 2 #[25, 27, 29], 25) := by decide +kernel
theorem dX9_shines_52 : decode cX9_shines 52 = .ok (.iconst 1, 1) := by decide +kernel
theorem dX9_shines_53 : decode cX9_shines 53 = .ok (.ireturn, 1) := by decide +kernel
theorem dX9_shines_54 : decode cX9_shines 54 = .ok (.iload_n 3, 1) := by decide +kernel
theorem dX9_shines_55 : decode cX9_shines 55 = .ok (.ireturn, 1) := by decide +kernel
theorem dX9_shines_56 : decode cX9_shines 56 = .ok (.iload_n 2, 1) := by decide +kernel
theorem dX9_shines_57 : decode cX9_shines 57 = .ok (.iconst 2, 1) := by decide +kernel
theorem dX9_shines_58 : decode cX9_shines 58 = .ok (.irem, 1) := by decide +kernel
theorem dX9_shines_59 : decode cX9_shines 59 = .ok (.ifCond .ne 7, 3) := by decide +kernel
theorem dX9_shines_62 : decode cX9_shines 62 = .ok (.iconst 1, 1) := by decide +kernel
theorem dX9_shines_63 : decode cX9_shines 63 = .ok (.goto 4, 3) := by decide +kernel
theorem dX9_shines_66 : decode cX9_shines 66 = .ok (.iconst 0, 1) := by decide +kernel
theorem dX9_shines_67 : decode cX9_shines 67 = .ok (.iload_n 3, 1) := by decide +kernel
theorem dX9_shines_68 : decode cX9_shines 68 = .ok (.if_icmp .ne 7, 3) := by decide +kernel
theorem dX9_shines_71 : decode cX9_shines 71 = .ok (.iconst 1, 1) := by decide +kernel
theorem dX9_shines_72 : decode cX9_shines 72 = .ok (.goto 4, 3) := by decide +kernel
theorem dX9_shines_75 : decode cX9_shines 75 = .ok (.iconst 0, 1) := by decide +kernel
theorem dX9_shines_76 : decode cX9_shines 76 = .ok (.ireturn, 1) := by decide +kernel
theorem dX9_shines_77 : decode cX9_shines 77 = .ok (.aload_n 0, 1) := by decide +kernel
theorem dX9_shines_78 : decode cX9_shines 78 = .ok (.iload_n 1, 1) := by decide +kernel
theorem dX9_shines_79 : decode cX9_shines 79 = .ok (.invokevirtual 164, 3) := by decide +kernel
theorem dX9_shines_82 : decode cX9_shines 82 = .ok (.ireturn, 1) := by decide +kernel
theorem dX9_paint_0 : decode cX9_paint 0 = .ok (.iconst 0, 1) := by decide +kernel
theorem dX9_paint_1 : decode cX9_paint 1 = .ok (.istore_n 1, 1) := by decide +kernel
theorem dX9_paint_2 : decode cX9_paint 2 = .ok (.iload_n 1, 1) := by decide +kernel
theorem dX9_paint_3 : decode cX9_paint 3 = .ok (.bipush 24, 2) := by decide +kernel
theorem dX9_paint_5 : decode cX9_paint 5 = .ok (.if_icmp .ge 157, 3) := by decide +kernel
theorem dX9_paint_8 : decode cX9_paint 8 = .ok (.aload_n 0, 1) := by decide +kernel
theorem dX9_paint_9 : decode cX9_paint 9 = .ok (.getfield 52, 3) := by decide +kernel
theorem dX9_paint_12 : decode cX9_paint 12 = .ok (.iload_n 1, 1) := by decide +kernel
theorem dX9_paint_13 : decode cX9_paint 13 = .ok (.iconst (-1), 1) := by decide +kernel
theorem dX9_paint_14 : decode cX9_paint 14 = .ok (.iastore, 1) := by decide +kernel
theorem dX9_paint_15 : decode cX9_paint 15 = .ok (.aload_n 0, 1) := by decide +kernel
theorem dX9_paint_16 : decode cX9_paint 16 = .ok (.getfield 85, 3) := by decide +kernel
theorem dX9_paint_19 : decode cX9_paint 19 = .ok (.iconst 1, 1) := by decide +kernel
theorem dX9_paint_20 : decode cX9_paint 20 = .ok (.isub, 1) := by decide +kernel
theorem dX9_paint_21 : decode cX9_paint 21 = .ok (.istore_n 2, 1) := by decide +kernel
theorem dX9_paint_22 : decode cX9_paint 22 = .ok (.iload_n 2, 1) := by decide +kernel
theorem dX9_paint_23 : decode cX9_paint 23 = .ok (.ifCond .lt 88, 3) := by decide +kernel
theorem dX9_paint_26 : decode cX9_paint 26 = .ok (.iload_n 1, 1) := by decide +kernel
theorem dX9_paint_27 : decode cX9_paint 27 = .ok (.bipush 24, 2) := by decide +kernel
theorem dX9_paint_29 : decode cX9_paint 29 = .ok (.iadd, 1) := by decide +kernel
theorem dX9_paint_30 : decode cX9_paint 30 = .ok (.aload_n 0, 1) := by decide +kernel
theorem dX9_paint_31 : decode cX9_paint 31 = .ok (.getfield 49, 3) := by decide +kernel
theorem dX9_paint_34 : decode cX9_paint 34 = .ok (.bipush 8, 2) := by decide +kernel
theorem dX9_paint_36 : decode cX9_paint 36 = .ok (.iload_n 2, 1) := by decide +kernel
theorem dX9_paint_37 : decode cX9_paint 37 = .ok (.iadd, 1) := by decide +kernel
theorem dX9_paint_38 : decode cX9_paint 38 = .ok (.iaload, 1) := by decide +kernel
theorem dX9_paint_39 : decode cX9_paint 39 = .ok (.isub, 1) := by decide +kernel
theorem dX9_paint_40 : decode cX9_paint 40 = .ok (.bipush 24, 2) := by decide +kernel
theorem dX9_paint_42 : decode cX9_paint 42 = .ok (.irem, 1) := by decide +kernel
theorem dX9_paint_43 : decode cX9_paint 43 = .ok (.istore_n 3, 1) := by decide +kernel
theorem dX9_paint_44 : decode cX9_paint 44 = .ok (.iload_n 3, 1) := by decide +kernel
theorem dX9_paint_45 : decode cX9_paint 45 = .ok (.aload_n 0, 1) := by decide +kernel
theorem dX9_paint_46 : decode cX9_paint 46 = .ok (.getfield 49, 3) := by decide +kernel
theorem dX9_paint_49 : decode cX9_paint 49 = .ok (.bipush 14, 2) := by decide +kernel
theorem dX9_paint_51 : decode cX9_paint 51 = .ok (.iload_n 2, 1) := by decide +kernel
theorem dX9_paint_52 : decode cX9_paint 52 = .ok (.iadd, 1) := by decide +kernel
theorem dX9_paint_53 : decode cX9_paint 53 = .ok (.iaload, 1) := by decide +kernel
theorem dX9_paint_54 : decode cX9_paint 54 = .ok (.if_icmp .ge 27, 3) := by decide +kernel
theorem dX9_paint_57 : decode cX9_paint 57 = .ok (.aload_n 0, 1) := by decide +kernel
theorem dX9_paint_58 : decode cX9_paint 58 = .ok (.getfield 161, 3) := by decide +kernel
theorem dX9_paint_61 : decode cX9_paint 61 = .ok (.iload_n 2, 1) := by decide +kernel
theorem dX9_paint_62 : decode cX9_paint 62 = .ok (.invokestatic 167, 3) := by decide +kernel
theorem dX9_paint_65 : decode cX9_paint 65 = .ok (.ifCond .ne 16, 3) := by decide +kernel
theorem dX9_paint_68 : decode cX9_paint 68 = .ok (.aload_n 0, 1) := by decide +kernel
theorem dX9_paint_69 : decode cX9_paint 69 = .ok (.iload_n 2, 1) := by decide +kernel
theorem dX9_paint_70 : decode cX9_paint 70 = .ok (.iload_n 3, 1) := by decide +kernel
theorem dX9_paint_71 : decode cX9_paint 71 = .ok (.invokevirtual 171, 3) := by decide +kernel
theorem dX9_paint_74 : decode cX9_paint 74 = .ok (.ifCond .eq 7, 3) := by decide +kernel
theorem dX9_paint_77 : decode cX9_paint 77 = .ok (.iconst 1, 1) := by decide +kernel
theorem dX9_paint_78 : decode cX9_paint 78 = .ok (.goto 4, 3) := by decide +kernel
theorem dX9_paint_81 : decode cX9_paint 81 = .ok (.iconst 0, 1) := by decide +kernel
theorem dX9_paint_82 : decode cX9_paint 82 = .ok (.istore 4, 2) := by decide +kernel
theorem dX9_paint_84 : decode cX9_paint 84 = .ok (.aload_n 0, 1) := by decide +kernel
theorem dX9_paint_85 : decode cX9_paint 85 = .ok (.getfield 52, 3) := by decide +kernel
theorem dX9_paint_88 : decode cX9_paint 88 = .ok (.iload_n 1, 1) := by decide +kernel
theorem dX9_paint_89 : decode cX9_paint 89 = .ok (.iload 4, 2) := by decide +kernel
theorem dX9_paint_91 : decode cX9_paint 91 = .ok (.ifCond .eq 7, 3) := by decide +kernel
theorem dX9_paint_94 : decode cX9_paint 94 = .ok (.iload_n 2, 1) := by decide +kernel
theorem dX9_paint_95 : decode cX9_paint 95 = .ok (.goto 9, 3) := by decide +kernel
theorem dX9_paint_98 : decode cX9_paint 98 = .ok (.aload_n 0, 1) := by decide +kernel
theorem dX9_paint_99 : decode cX9_paint 99 = .ok (.getfield 52, 3) := by decide +kernel
theorem dX9_paint_102 : decode cX9_paint 102 = .ok (.iload_n 1, 1) := by decide +kernel
theorem dX9_paint_103 : decode cX9_paint 103 = .ok (.iaload, 1) := by decide +kernel
theorem dX9_paint_104 : decode cX9_paint 104 = .ok (.iastore, 1) := by decide +kernel
theorem dX9_paint_105 : decode cX9_paint 105 = .ok (.iinc 2 (-1), 3) := by decide +kernel
theorem dX9_paint_108 : decode cX9_paint 108 = .ok (.goto (-86), 3) := by decide +kernel
theorem dX9_paint_111 : decode cX9_paint 111 = .ok (.aload_n 0, 1) := by decide +kernel
theorem dX9_paint_112 : decode cX9_paint 112 = .ok (.getfield 55, 3) := by decide +kernel
theorem dX9_paint_115 : decode cX9_paint 115 = .ok (.iload_n 1, 1) := by decide +kernel
theorem dX9_paint_116 : decode cX9_paint 116 = .ok (.aload_n 0, 1) := by decide +kernel
theorem dX9_paint_117 : decode cX9_paint 117 = .ok (.getfield 52, 3) := by decide +kernel
theorem dX9_paint_120 : decode cX9_paint 120 = .ok (.iload_n 1, 1) := by decide +kernel
theorem dX9_paint_121 : decode cX9_paint 121 = .ok (.iaload, 1) := by decide +kernel
theorem dX9_paint_122 : decode cX9_paint 122 = .ok (.ifCond .lt 16, 3) := by decide +kernel
theorem dX9_paint_125 : decode cX9_paint 125 = .ok (.aload_n 0, 1) := by decide +kernel
theorem dX9_paint_126 : decode cX9_paint 126 = .ok (.getfield 49, 3) := by decide +kernel
theorem dX9_paint_129 : decode cX9_paint 129 = .ok (.iconst 1, 1) := by decide +kernel
theorem dX9_paint_130 : decode cX9_paint 130 = .ok (.iaload, 1) := by decide +kernel
theorem dX9_paint_131 : decode cX9_paint 131 = .ok (.iload_n 1, 1) := by decide +kernel
theorem dX9_paint_132 : decode cX9_paint 132 = .ok (.invokestatic 167, 3) := by decide +kernel
theorem dX9_paint_135 : decode cX9_paint 135 = .ok (.ifCond .eq 7, 3) := by decide +kernel
theorem dX9_paint_138 : decode cX9_paint 138 = .ok (.iconst 4, 1) := by decide +kernel
theorem dX9_paint_139 : decode cX9_paint 139 = .ok (.goto 16, 3) := by decide +kernel
theorem dX9_paint_142 : decode cX9_paint 142 = .ok (.aload_n 0, 1) := by decide +kernel
theorem dX9_paint_143 : decode cX9_paint 143 = .ok (.getfield 7, 3) := by decide +kernel
theorem dX9_paint_146 : decode cX9_paint 146 = .ok (.iconst 3, 1) := by decide +kernel
theorem dX9_paint_147 : decode cX9_paint 147 = .ok (.aload_n 0, 1) := by decide +kernel
theorem dX9_paint_148 : decode cX9_paint 148 = .ok (.getfield 52, 3) := by decide +kernel
theorem dX9_paint_151 : decode cX9_paint 151 = .ok (.iload_n 1, 1) := by decide +kernel
theorem dX9_paint_152 : decode cX9_paint 152 = .ok (.iaload, 1) := by decide +kernel
theorem dX9_paint_153 : decode cX9_paint 153 = .ok (.imul, 1) := by decide +kernel
theorem dX9_paint_154 : decode cX9_paint 154 = .ok (.iaload, 1) := by decide +kernel
theorem dX9_paint_155 : decode cX9_paint 155 = .ok (.iastore, 1) := by decide +kernel
theorem dX9_paint_156 : decode cX9_paint 156 = .ok (.iinc 1 1, 3) := by decide +kernel
theorem dX9_paint_159 : decode cX9_paint 159 = .ok (.goto (-157), 3) := by decide +kernel
theorem dX9_paint_162 : decode cX9_paint 162 = .ok (.return_, 1) := by decide +kernel
theorem dX9_isSeen_0 : decode cX9_isSeen 0 = .ok (.iload_n 0, 1) := by decide +kernel
theorem dX9_isSeen_1 : decode cX9_isSeen 1 = .ok (.iconst 4, 1) := by decide +kernel
theorem dX9_isSeen_2 : decode cX9_isSeen 2 = .ok (.if_icmp .eq 35, 3) := by decide +kernel
theorem dX9_isSeen_5 : decode cX9_isSeen 5 = .ok (.iload_n 1, 1) := by decide +kernel
theorem dX9_isSeen_6 : decode cX9_isSeen 6 = .ok (.ifCond .eq 27, 3) := by decide +kernel
theorem dX9_isSeen_9 : decode cX9_isSeen 9 = .ok (.iload_n 1, 1) := by decide +kernel
theorem dX9_isSeen_10 : decode cX9_isSeen 10 = .ok (.iconst 1, 1) := by decide +kernel
theorem dX9_isSeen_11 : decode cX9_isSeen 11 = .ok (.if_icmp .ne 8, 3) := by decide +kernel
theorem dX9_isSeen_14 : decode cX9_isSeen 14 = .ok (.iload_n 0, 1) := by decide +kernel
theorem dX9_isSeen_15 : decode cX9_isSeen 15 = .ok (.iconst 3, 1) := by decide +kernel
theorem dX9_isSeen_16 : decode cX9_isSeen 16 = .ok (.if_icmp .ne 17, 3) := by decide +kernel
theorem dX9_isSeen_19 : decode cX9_isSeen 19 = .ok (.iload_n 1, 1) := by decide +kernel
theorem dX9_isSeen_20 : decode cX9_isSeen 20 = .ok (.iconst 2, 1) := by decide +kernel
theorem dX9_isSeen_21 : decode cX9_isSeen 21 = .ok (.if_icmp .ne 8, 3) := by decide +kernel
theorem dX9_isSeen_24 : decode cX9_isSeen 24 = .ok (.iload_n 0, 1) := by decide +kernel
theorem dX9_isSeen_25 : decode cX9_isSeen 25 = .ok (.iconst 2, 1) := by decide +kernel
theorem dX9_isSeen_26 : decode cX9_isSeen 26 = .ok (.if_icmp .lt 7, 3) := by decide +kernel
theorem dX9_isSeen_29 : decode cX9_isSeen 29 = .ok (.iload_n 0, 1) := by decide +kernel
theorem dX9_isSeen_30 : decode cX9_isSeen 30 = .ok (.ifCond .ne 7, 3) := by decide +kernel
theorem dX9_isSeen_33 : decode cX9_isSeen 33 = .ok (.iconst 1, 1) := by decide +kernel
theorem dX9_isSeen_34 : decode cX9_isSeen 34 = .ok (.goto 4, 3) := by decide +kernel
theorem dX9_isSeen_37 : decode cX9_isSeen 37 = .ok (.iconst 0, 1) := by decide +kernel
theorem dX9_isSeen_38 : decode cX9_isSeen 38 = .ok (.ireturn, 1) := by decide +kernel
theorem dX9_sees_0 : decode cX9_sees 0 = .ok (.iload_n 2, 1) := by decide +kernel
theorem dX9_sees_1 : decode cX9_sees 1 = .ok (.bipush 24, 2) := by decide +kernel
theorem dX9_sees_3 : decode cX9_sees 3 = .ok (.iadd, 1) := by decide +kernel
theorem dX9_sees_4 : decode cX9_sees 4 = .ok (.aload_n 0, 1) := by decide +kernel
theorem dX9_sees_5 : decode cX9_sees 5 = .ok (.getfield 13, 3) := by decide +kernel
theorem dX9_sees_8 : decode cX9_sees 8 = .ok (.iconst 2, 1) := by decide +kernel
theorem dX9_sees_9 : decode cX9_sees 9 = .ok (.iload_n 1, 1) := by decide +kernel
theorem dX9_sees_10 : decode cX9_sees 10 = .ok (.imul, 1) := by decide +kernel
theorem dX9_sees_11 : decode cX9_sees 11 = .ok (.iaload, 1) := by decide +kernel
theorem dX9_sees_12 : decode cX9_sees 12 = .ok (.isub, 1) := by decide +kernel
theorem dX9_sees_13 : decode cX9_sees 13 = .ok (.bipush 24, 2) := by decide +kernel
theorem dX9_sees_15 : decode cX9_sees 15 = .ok (.irem, 1) := by decide +kernel
theorem dX9_sees_16 : decode cX9_sees 16 = .ok (.aload_n 0, 1) := by decide +kernel
theorem dX9_sees_17 : decode cX9_sees 17 = .ok (.getfield 13, 3) := by decide +kernel
theorem dX9_sees_20 : decode cX9_sees 20 = .ok (.iconst 2, 1) := by decide +kernel
theorem dX9_sees_21 : decode cX9_sees 21 = .ok (.iload_n 1, 1) := by decide +kernel
theorem dX9_sees_22 : decode cX9_sees 22 = .ok (.imul, 1) := by decide +kernel
theorem dX9_sees_23 : decode cX9_sees 23 = .ok (.iconst 1, 1) := by decide +kernel
theorem dX9_sees_24 : decode cX9_sees 24 = .ok (.iadd, 1) := by decide +kernel
theorem dX9_sees_25 : decode cX9_sees 25 = .ok (.iaload, 1) := by decide +kernel
theorem dX9_sees_26 : decode cX9_sees 26 = .ok (.if_icmp .ge 7, 3) := by decide +kernel
theorem dX9_sees_29 : decode cX9_sees 29 = .ok (.iconst 1, 1) := by decide +kernel
theorem dX9_sees_30 : decode cX9_sees 30 = .ok (.goto 4, 3) := by decide +kernel
theorem dX9_sees_33 : decode cX9_sees 33 = .ok (.iconst 0, 1) := by decide +kernel
theorem dX9_sees_34 : decode cX9_sees 34 = .ok (.ireturn, 1) := by decide +kernel
theorem dX9_signOf_0 : decode cX9_signOf 0 = .ok (.iconst 0, 1) := by decide +kernel
theorem dX9_signOf_1 : decode cX9_signOf 1 = .ok (.istore_n 3, 1) := by decide +kernel
theorem dX9_signOf_2 : decode cX9_signOf 2 = .ok (.iload_n 3, 1) := by decide +kernel
theorem dX9_signOf_3 : decode cX9_signOf 3 = .ok (.iconst 4, 1) := by decide +kernel
theorem dX9_signOf_4 : decode cX9_signOf 4 = .ok (.if_icmp .ge 117, 3) := by decide +kernel
theorem dX9_signOf_7 : decode cX9_signOf 7 = .ok (.iconst 0, 1) := by decide +kernel
theorem dX9_signOf_8 : decode cX9_signOf 8 = .ok (.istore 4, 2) := by decide +kernel
theorem dX9_signOf_10 : decode cX9_signOf 10 = .ok (.iconst 0, 1) := by decide +kernel
theorem dX9_signOf_11 : decode cX9_signOf 11 = .ok (.istore 5, 2) := by decide +kernel
theorem dX9_signOf_13 : decode cX9_signOf 13 = .ok (.iconst 0, 1) := by decide +kernel
theorem dX9_signOf_14 : decode cX9_signOf 14 = .ok (.istore 6, 2) := by decide +kernel
theorem dX9_signOf_16 : decode cX9_signOf 16 = .ok (.iload 6, 2) := by decide +kernel
theorem dX9_signOf_18 : decode cX9_signOf 18 = .ok (.bipush 24, 2) := by decide +kernel
theorem dX9_signOf_20 : decode cX9_signOf 20 = .ok (.if_icmp .ge 75, 3) := by decide +kernel
theorem dX9_signOf_23 : decode cX9_signOf 23 = .ok (.iload 4, 2) := by decide +kernel
theorem dX9_signOf_25 : decode cX9_signOf 25 = .ok (.ifCond .ne 24, 3) := by decide +kernel
theorem dX9_signOf_28 : decode cX9_signOf 28 = .ok (.aload_n 0, 1) := by decide +kernel
theorem dX9_signOf_29 : decode cX9_signOf 29 = .ok (.getfield 55, 3) := by decide +kernel
theorem dX9_signOf_32 : decode cX9_signOf 32 = .ok (.iload 6, 2) := by decide +kernel
theorem dX9_signOf_34 : decode cX9_signOf 34 = .ok (.iaload, 1) := by decide +kernel
theorem dX9_signOf_35 : decode cX9_signOf 35 = .ok (.iload_n 3, 1) := by decide +kernel
theorem dX9_signOf_36 : decode cX9_signOf 36 = .ok (.if_icmp .ne 17, 3) := by decide +kernel
theorem dX9_signOf_39 : decode cX9_signOf 39 = .ok (.aload_n 0, 1) := by decide +kernel
theorem dX9_signOf_40 : decode cX9_signOf 40 = .ok (.iload_n 1, 1) := by decide +kernel
theorem dX9_signOf_41 : decode cX9_signOf 41 = .ok (.iload 6, 2) := by decide +kernel
theorem dX9_signOf_43 : decode cX9_signOf 43 = .ok (.invokevirtual 174, 3) := by decide +kernel
theorem dX9_signOf_46 : decode cX9_signOf 46 = .ok (.ifCond .eq 7, 3) := by decide +kernel
theorem dX9_signOf_49 : decode cX9_signOf 49 = .ok (.iconst 1, 1) := by decide +kernel
theorem dX9_signOf_50 : decode cX9_signOf 50 = .ok (.goto 4, 3) := by decide +kernel
theorem dX9_signOf_53 : decode cX9_signOf 53 = .ok (.iconst 0, 1) := by decide +kernel
theorem dX9_signOf_54 : decode cX9_signOf 54 = .ok (.istore 4, 2) := by decide +kernel
theorem dX9_signOf_56 : decode cX9_signOf 56 = .ok (.iload 5, 2) := by decide +kernel
theorem dX9_signOf_58 : decode cX9_signOf 58 = .ok (.ifCond .ne 24, 3) := by decide +kernel
theorem dX9_signOf_61 : decode cX9_signOf 61 = .ok (.aload_n 0, 1) := by decide +kernel
theorem dX9_signOf_62 : decode cX9_signOf 62 = .ok (.getfield 55, 3) := by decide +kernel
theorem dX9_signOf_65 : decode cX9_signOf 65 = .ok (.iload 6, 2) := by decide +kernel
theorem dX9_signOf_67 : decode cX9_signOf 67 = .ok (.iaload, 1) := by decide +kernel
theorem dX9_signOf_68 : decode cX9_signOf 68 = .ok (.iload_n 3, 1) := by decide +kernel
theorem dX9_signOf_69 : decode cX9_signOf 69 = .ok (.if_icmp .ne 17, 3) := by decide +kernel
theorem dX9_signOf_72 : decode cX9_signOf 72 = .ok (.aload_n 0, 1) := by decide +kernel
theorem dX9_signOf_73 : decode cX9_signOf 73 = .ok (.iload_n 1, 1) := by decide +kernel
theorem dX9_signOf_74 : decode cX9_signOf 74 = .ok (.iload 6, 2) := by decide +kernel
theorem dX9_signOf_76 : decode cX9_signOf 76 = .ok (.invokevirtual 174, 3) := by decide +kernel
theorem dX9_signOf_79 : decode cX9_signOf 79 = .ok (.ifCond .ne 7, 3) := by decide +kernel
theorem dX9_signOf_82 : decode cX9_signOf 82 = .ok (.iconst 1, 1) := by decide +kernel
theorem dX9_signOf_83 : decode cX9_signOf 83 = .ok (.goto 4, 3) := by decide +kernel
theorem dX9_signOf_86 : decode cX9_signOf 86 = .ok (.iconst 0, 1) := by decide +kernel
theorem dX9_signOf_87 : decode cX9_signOf 87 = .ok (.istore 5, 2) := by decide +kernel
theorem dX9_signOf_89 : decode cX9_signOf 89 = .ok (.iinc 6 1, 3) := by decide +kernel
theorem dX9_signOf_92 : decode cX9_signOf 92 = .ok (.goto (-76), 3) := by decide +kernel
theorem dX9_signOf_95 : decode cX9_signOf 95 = .ok (.iload 4, 2) := by decide +kernel
theorem dX9_signOf_97 : decode cX9_signOf 97 = .ok (.ifCond .eq 18, 3) := by decide +kernel
theorem dX9_signOf_100 : decode cX9_signOf 100 = .ok (.iload 5, 2) := by decide +kernel
theorem dX9_signOf_102 : decode cX9_signOf 102 = .ok (.ifCond .ne 13, 3) := by decide +kernel
theorem dX9_signOf_105 : decode cX9_signOf 105 = .ok (.iload_n 3, 1) := by decide +kernel
theorem dX9_signOf_106 : decode cX9_signOf 106 = .ok (.iload_n 2, 1) := by decide +kernel
theorem dX9_signOf_107 : decode cX9_signOf 107 = .ok (.invokestatic 177, 3) := by decide +kernel
theorem dX9_signOf_110 : decode cX9_signOf 110 = .ok (.ifCond .eq 5, 3) := by decide +kernel
theorem dX9_signOf_113 : decode cX9_signOf 113 = .ok (.iload_n 3, 1) := by decide +kernel
theorem dX9_signOf_114 : decode cX9_signOf 114 = .ok (.ireturn, 1) := by decide +kernel
theorem dX9_signOf_115 : decode cX9_signOf 115 = .ok (.iinc 3 1, 3) := by decide +kernel
theorem dX9_signOf_118 : decode cX9_signOf 118 = .ok (.goto (-116), 3) := by decide +kernel
theorem dX9_signOf_121 : decode cX9_signOf 121 = .ok (.iconst (-1), 1) := by decide +kernel
theorem dX9_signOf_122 : decode cX9_signOf 122 = .ok (.ireturn, 1) := by decide +kernel
theorem dX9_sureIn_0 : decode cX9_sureIn 0 = .ok (.iconst 0, 1) := by decide +kernel
theorem dX9_sureIn_1 : decode cX9_sureIn 1 = .ok (.istore_n 2, 1) := by decide +kernel
theorem dX9_sureIn_2 : decode cX9_sureIn 2 = .ok (.iconst 0, 1) := by decide +kernel
theorem dX9_sureIn_3 : decode cX9_sureIn 3 = .ok (.istore_n 3, 1) := by decide +kernel
theorem dX9_sureIn_4 : decode cX9_sureIn 4 = .ok (.iload_n 3, 1) := by decide +kernel
theorem dX9_sureIn_5 : decode cX9_sureIn 5 = .ok (.aload_n 0, 1) := by decide +kernel
theorem dX9_sureIn_6 : decode cX9_sureIn 6 = .ok (.getfield 92, 3) := by decide +kernel
theorem dX9_sureIn_9 : decode cX9_sureIn 9 = .ok (.if_icmp .ge 28, 3) := by decide +kernel
theorem dX9_sureIn_12 : decode cX9_sureIn 12 = .ok (.iload_n 2, 1) := by decide +kernel
theorem dX9_sureIn_13 : decode cX9_sureIn 13 = .ok (.aload_n 0, 1) := by decide +kernel
theorem dX9_sureIn_14 : decode cX9_sureIn 14 = .ok (.iload_n 3, 1) := by decide +kernel
theorem dX9_sureIn_15 : decode cX9_sureIn 15 = .ok (.iload_n 1, 1) := by decide +kernel
theorem dX9_sureIn_16 : decode cX9_sureIn 16 = .ok (.invokevirtual 180, 3) := by decide +kernel
theorem dX9_sureIn_19 : decode cX9_sureIn 19 = .ok (.ifCond .lt 9, 3) := by decide +kernel
theorem dX9_sureIn_22 : decode cX9_sureIn 22 = .ok (.iconst 1, 1) := by decide +kernel
theorem dX9_sureIn_23 : decode cX9_sureIn 23 = .ok (.iload_n 3, 1) := by decide +kernel
theorem dX9_sureIn_24 : decode cX9_sureIn 24 = .ok (.ishl, 1) := by decide +kernel
theorem dX9_sureIn_25 : decode cX9_sureIn 25 = .ok (.goto 4, 3) := by decide +kernel
theorem dX9_sureIn_28 : decode cX9_sureIn 28 = .ok (.iconst 0, 1) := by decide +kernel
theorem dX9_sureIn_29 : decode cX9_sureIn 29 = .ok (.ior, 1) := by decide +kernel
theorem dX9_sureIn_30 : decode cX9_sureIn 30 = .ok (.istore_n 2, 1) := by decide +kernel
theorem dX9_sureIn_31 : decode cX9_sureIn 31 = .ok (.iinc 3 1, 3) := by decide +kernel
theorem dX9_sureIn_34 : decode cX9_sureIn 34 = .ok (.goto (-30), 3) := by decide +kernel
theorem dX9_sureIn_37 : decode cX9_sureIn 37 = .ok (.iload_n 2, 1) := by decide +kernel
theorem dX9_sureIn_38 : decode cX9_sureIn 38 = .ok (.ireturn, 1) := by decide +kernel
theorem dX9_sureInAny_0 : decode cX9_sureInAny 0 = .ok (.aload_n 0, 1) := by decide +kernel
theorem dX9_sureInAny_1 : decode cX9_sureInAny 1 = .ok (.iconst 0, 1) := by decide +kernel
theorem dX9_sureInAny_2 : decode cX9_sureInAny 2 = .ok (.invokevirtual 184, 3) := by decide +kernel
theorem dX9_sureInAny_5 : decode cX9_sureInAny 5 = .ok (.aload_n 0, 1) := by decide +kernel
theorem dX9_sureInAny_6 : decode cX9_sureInAny 6 = .ok (.iconst 1, 1) := by decide +kernel
theorem dX9_sureInAny_7 : decode cX9_sureInAny 7 = .ok (.invokevirtual 184, 3) := by decide +kernel
theorem dX9_sureInAny_10 : decode cX9_sureInAny 10 = .ok (.iand, 1) := by decide +kernel
theorem dX9_sureInAny_11 : decode cX9_sureInAny 11 = .ok (.aload_n 0, 1) := by decide +kernel
theorem dX9_sureInAny_12 : decode cX9_sureInAny 12 = .ok (.iconst 2, 1) := by decide +kernel
theorem dX9_sureInAny_13 : decode cX9_sureInAny 13 = .ok (.invokevirtual 184, 3) := by decide +kernel
theorem dX9_sureInAny_16 : decode cX9_sureInAny 16 = .ok (.iand, 1) := by decide +kernel
theorem dX9_sureInAny_17 : decode cX9_sureInAny 17 = .ok (.aload_n 0, 1) := by decide +kernel
theorem dX9_sureInAny_18 : decode cX9_sureInAny 18 = .ok (.iconst 3, 1) := by decide +kernel
theorem dX9_sureInAny_19 : decode cX9_sureInAny 19 = .ok (.invokevirtual 184, 3) := by decide +kernel
theorem dX9_sureInAny_22 : decode cX9_sureInAny 22 = .ok (.iand, 1) := by decide +kernel
theorem dX9_sureInAny_23 : decode cX9_sureInAny 23 = .ok (.ireturn, 1) := by decide +kernel
theorem dX9_tenant_0 : decode cX9_tenant 0 = .ok (.aload_n 0, 1) := by decide +kernel
theorem dX9_tenant_1 : decode cX9_tenant 1 = .ok (.iload_n 1, 1) := by decide +kernel
theorem dX9_tenant_2 : decode cX9_tenant 2 = .ok (.invokevirtual 187, 3) := by decide +kernel
theorem dX9_tenant_5 : decode cX9_tenant 5 = .ok (.ifCond .eq 13, 3) := by decide +kernel
theorem dX9_tenant_8 : decode cX9_tenant 8 = .ok (.iload_n 2, 1) := by decide +kernel
theorem dX9_tenant_9 : decode cX9_tenant 9 = .ok (.iconst 0, 1) := by decide +kernel
theorem dX9_tenant_10 : decode cX9_tenant 10 = .ok (.bipush 6, 2) := by decide +kernel
theorem dX9_tenant_12 : decode cX9_tenant 12 = .ok (.invokestatic 88, 3) := by decide +kernel
theorem dX9_tenant_15 : decode cX9_tenant 15 = .ok (.ifCond .ne 5, 3) := by decide +kernel
theorem dX9_tenant_18 : decode cX9_tenant 18 = .ok (.iconst (-1), 1) := by decide +kernel
theorem dX9_tenant_19 : decode cX9_tenant 19 = .ok (.ireturn, 1) := by decide +kernel
theorem dX9_tenant_20 : decode cX9_tenant 20 = .ok (.aload_n 0, 1) := by decide +kernel
theorem dX9_tenant_21 : decode cX9_tenant 21 = .ok (.invokevirtual 190, 3) := by decide +kernel
theorem dX9_tenant_24 : decode cX9_tenant 24 = .ok (.iload_n 2, 1) := by decide +kernel
theorem dX9_tenant_25 : decode cX9_tenant 25 = .ok (.tableswitch 98 0 6 #[43, 52, 62, 98, 98, 72, 81], 43) := by decide +kernel
theorem dX9_tenant_68 : decode cX9_tenant 68 = .ok (.aload_n 0, 1) := by decide +kernel
theorem dX9_tenant_69 : decode cX9_tenant 69 = .ok (.getfield 7, 3) := by decide +kernel
theorem dX9_tenant_72 : decode cX9_tenant 72 = .ok (.iconst 3, 1) := by decide +kernel
theorem dX9_tenant_73 : decode cX9_tenant 73 = .ok (.iload_n 1, 1) := by decide +kernel
theorem dX9_tenant_74 : decode cX9_tenant 74 = .ok (.imul, 1) := by decide +kernel
theorem dX9_tenant_75 : decode cX9_tenant 75 = .ok (.iaload, 1) := by decide +kernel
theorem dX9_tenant_76 : decode cX9_tenant 76 = .ok (.ireturn, 1) := by decide +kernel
theorem dX9_tenant_77 : decode cX9_tenant 77 = .ok (.aload_n 0, 1) := by decide +kernel
theorem dX9_tenant_78 : decode cX9_tenant 78 = .ok (.getfield 19, 3) := by decide +kernel
theorem dX9_tenant_81 : decode cX9_tenant 81 = .ok (.bipush 8, 2) := by decide +kernel
theorem dX9_tenant_83 : decode cX9_tenant 83 = .ok (.iload_n 1, 1) := by decide +kernel
theorem dX9_tenant_84 : decode cX9_tenant 84 = .ok (.iadd, 1) := by decide +kernel
theorem dX9_tenant_85 : decode cX9_tenant 85 = .ok (.iaload, 1) := by decide +kernel
theorem dX9_tenant_86 : decode cX9_tenant 86 = .ok (.ireturn, 1) := by decide +kernel
theorem dX9_tenant_87 : decode cX9_tenant 87 = .ok (.aload_n 0, 1) := by decide +kernel
theorem dX9_tenant_88 : decode cX9_tenant 88 = .ok (.getfield 19, 3) := by decide +kernel
theorem dX9_tenant_91 : decode cX9_tenant 91 = .ok (.bipush 14, 2) := by decide +kernel
theorem dX9_tenant_93 : decode cX9_tenant 93 = .ok (.iload_n 1, 1) := by decide +kernel
theorem dX9_tenant_94 : decode cX9_tenant 94 = .ok (.iadd, 1) := by decide +kernel
theorem dX9_tenant_95 : decode cX9_tenant 95 = .ok (.iaload, 1) := by decide +kernel
theorem dX9_tenant_96 : decode cX9_tenant 96 = .ok (.ireturn, 1) := by decide +kernel
theorem dX9_tenant_97 : decode cX9_tenant 97 = .ok (.aload_n 0, 1) := by decide +kernel
theorem dX9_tenant_98 : decode cX9_tenant 98 = .ok (.getfield 19, 3) := by decide +kernel
theorem dX9_tenant_101 : decode cX9_tenant 101 = .ok (.iconst 2, 1) := by decide +kernel
theorem dX9_tenant_102 : decode cX9_tenant 102 = .ok (.iload_n 1, 1) := by decide +kernel
theorem dX9_tenant_103 : decode cX9_tenant 103 = .ok (.iadd, 1) := by decide +kernel
theorem dX9_tenant_104 : decode cX9_tenant 104 = .ok (.iaload, 1) := by decide +kernel
theorem dX9_tenant_105 : decode cX9_tenant 105 = .ok (.ireturn, 1) := by decide +kernel
theorem dX9_tenant_106 : decode cX9_tenant 106 = .ok (.aload_n 0, 1) := by decide +kernel
theorem dX9_tenant_107 : decode cX9_tenant 107 = .ok (.getfield 161, 3) := by decide +kernel
theorem dX9_tenant_110 : decode cX9_tenant 110 = .ok (.iload_n 1, 1) := by decide +kernel
theorem dX9_tenant_111 : decode cX9_tenant 111 = .ok (.invokestatic 167, 3) := by decide +kernel
theorem dX9_tenant_114 : decode cX9_tenant 114 = .ok (.ifCond .eq 7, 3) := by decide +kernel
theorem dX9_tenant_117 : decode cX9_tenant 117 = .ok (.iconst 1, 1) := by decide +kernel
theorem dX9_tenant_118 : decode cX9_tenant 118 = .ok (.goto 4, 3) := by decide +kernel
theorem dX9_tenant_121 : decode cX9_tenant 121 = .ok (.iconst 0, 1) := by decide +kernel
theorem dX9_tenant_122 : decode cX9_tenant 122 = .ok (.ireturn, 1) := by decide +kernel
theorem dX9_tenant_123 : decode cX9_tenant 123 = .ok (.aload_n 0, 1) := by decide +kernel
theorem dX9_tenant_124 : decode cX9_tenant 124 = .ok (.getfield 7, 3) := by decide +kernel
theorem dX9_tenant_127 : decode cX9_tenant 127 = .ok (.iconst 3, 1) := by decide +kernel
theorem dX9_tenant_128 : decode cX9_tenant 128 = .ok (.iload_n 1, 1) := by decide +kernel
theorem dX9_tenant_129 : decode cX9_tenant 129 = .ok (.imul, 1) := by decide +kernel
theorem dX9_tenant_130 : decode cX9_tenant 130 = .ok (.iload_n 2, 1) := by decide +kernel
theorem dX9_tenant_131 : decode cX9_tenant 131 = .ok (.iadd, 1) := by decide +kernel
theorem dX9_tenant_132 : decode cX9_tenant 132 = .ok (.iconst 2, 1) := by decide +kernel
theorem dX9_tenant_133 : decode cX9_tenant 133 = .ok (.isub, 1) := by decide +kernel
theorem dX9_tenant_134 : decode cX9_tenant 134 = .ok (.iaload, 1) := by decide +kernel
theorem dX9_tenant_135 : decode cX9_tenant 135 = .ok (.ireturn, 1) := by decide +kernel
theorem dX9_ship_0 : decode cX9_ship 0 = .ok (.aload_n 0, 1) := by decide +kernel
theorem dX9_ship_1 : decode cX9_ship 1 = .ok (.iload_n 1, 1) := by decide +kernel
theorem dX9_ship_2 : decode cX9_ship 2 = .ok (.invokevirtual 193, 3) := by decide +kernel
theorem dX9_ship_5 : decode cX9_ship 5 = .ok (.ifCond .eq 25, 3) := by decide +kernel
theorem dX9_ship_8 : decode cX9_ship 8 = .ok (.iload_n 2, 1) := by decide +kernel
theorem dX9_ship_9 : decode cX9_ship 9 = .ok (.iconst 0, 1) := by decide +kernel
theorem dX9_ship_10 : decode cX9_ship 10 = .ok (.iconst 1, 1) := by decide +kernel
theorem dX9_ship_11 : decode cX9_ship 11 = .ok (.invokestatic 88, 3) := by decide +kernel
theorem dX9_ship_14 : decode cX9_ship 14 = .ok (.ifCond .eq 16, 3) := by decide +kernel
theorem dX9_ship_17 : decode cX9_ship 17 = .ok (.aload_n 0, 1) := by decide +kernel
theorem dX9_ship_18 : decode cX9_ship 18 = .ok (.getfield 13, 3) := by decide +kernel
theorem dX9_ship_21 : decode cX9_ship 21 = .ok (.iconst 2, 1) := by decide +kernel
theorem dX9_ship_22 : decode cX9_ship 22 = .ok (.iload_n 1, 1) := by decide +kernel
theorem dX9_ship_23 : decode cX9_ship 23 = .ok (.imul, 1) := by decide +kernel
theorem dX9_ship_24 : decode cX9_ship 24 = .ok (.iload_n 2, 1) := by decide +kernel
theorem dX9_ship_25 : decode cX9_ship 25 = .ok (.iadd, 1) := by decide +kernel
theorem dX9_ship_26 : decode cX9_ship 26 = .ok (.iaload, 1) := by decide +kernel
theorem dX9_ship_27 : decode cX9_ship 27 = .ok (.goto 4, 3) := by decide +kernel
theorem dX9_ship_30 : decode cX9_ship 30 = .ok (.iconst (-1), 1) := by decide +kernel
theorem dX9_ship_31 : decode cX9_ship 31 = .ok (.ireturn, 1) := by decide +kernel
theorem dX9_stripe_0 : decode cX9_stripe 0 = .ok (.iload_n 1, 1) := by decide +kernel
theorem dX9_stripe_1 : decode cX9_stripe 1 = .ok (.invokestatic 196, 3) := by decide +kernel
theorem dX9_stripe_4 : decode cX9_stripe 4 = .ok (.ifCond .eq 12, 3) := by decide +kernel
theorem dX9_stripe_7 : decode cX9_stripe 7 = .ok (.iload_n 2, 1) := by decide +kernel
theorem dX9_stripe_8 : decode cX9_stripe 8 = .ok (.iconst 0, 1) := by decide +kernel
theorem dX9_stripe_9 : decode cX9_stripe 9 = .ok (.iconst 2, 1) := by decide +kernel
theorem dX9_stripe_10 : decode cX9_stripe 10 = .ok (.invokestatic 88, 3) := by decide +kernel
theorem dX9_stripe_13 : decode cX9_stripe 13 = .ok (.ifCond .ne 5, 3) := by decide +kernel
theorem dX9_stripe_16 : decode cX9_stripe 16 = .ok (.iconst (-1), 1) := by decide +kernel
theorem dX9_stripe_17 : decode cX9_stripe 17 = .ok (.ireturn, 1) := by decide +kernel
theorem dX9_stripe_18 : decode cX9_stripe 18 = .ok (.aload_n 0, 1) := by decide +kernel
theorem dX9_stripe_19 : decode cX9_stripe 19 = .ok (.invokevirtual 190, 3) := by decide +kernel
theorem dX9_stripe_22 : decode cX9_stripe 22 = .ok (.aload_n 0, 1) := by decide +kernel
theorem dX9_stripe_23 : decode cX9_stripe 23 = .ok (.invokevirtual 199, 3) := by decide +kernel
theorem dX9_stripe_26 : decode cX9_stripe 26 = .ok (.iload_n 2, 1) := by decide +kernel
theorem dX9_stripe_27 : decode cX9_stripe 27 = .ok (.ifCond .ne 12, 3) := by decide +kernel
theorem dX9_stripe_30 : decode cX9_stripe 30 = .ok (.aload_n 0, 1) := by decide +kernel
theorem dX9_stripe_31 : decode cX9_stripe 31 = .ok (.getfield 55, 3) := by decide +kernel
theorem dX9_stripe_34 : decode cX9_stripe 34 = .ok (.iload_n 1, 1) := by decide +kernel
theorem dX9_stripe_35 : decode cX9_stripe 35 = .ok (.iaload, 1) := by decide +kernel
theorem dX9_stripe_36 : decode cX9_stripe 36 = .ok (.goto 41, 3) := by decide +kernel
theorem dX9_stripe_39 : decode cX9_stripe 39 = .ok (.iload_n 2, 1) := by decide +kernel
theorem dX9_stripe_40 : decode cX9_stripe 40 = .ok (.iconst 2, 1) := by decide +kernel
theorem dX9_stripe_41 : decode cX9_stripe 41 = .ok (.if_icmp .ne 16, 3) := by decide +kernel
theorem dX9_stripe_44 : decode cX9_stripe 44 = .ok (.aload_n 0, 1) := by decide +kernel
theorem dX9_stripe_45 : decode cX9_stripe 45 = .ok (.getfield 19, 3) := by decide +kernel
theorem dX9_stripe_48 : decode cX9_stripe 48 = .ok (.iconst 1, 1) := by decide +kernel
theorem dX9_stripe_49 : decode cX9_stripe 49 = .ok (.iaload, 1) := by decide +kernel
theorem dX9_stripe_50 : decode cX9_stripe 50 = .ok (.iload_n 1, 1) := by decide +kernel
theorem dX9_stripe_51 : decode cX9_stripe 51 = .ok (.ishr, 1) := by decide +kernel
theorem dX9_stripe_52 : decode cX9_stripe 52 = .ok (.iconst 1, 1) := by decide +kernel
theorem dX9_stripe_53 : decode cX9_stripe 53 = .ok (.iand, 1) := by decide +kernel
theorem dX9_stripe_54 : decode cX9_stripe 54 = .ok (.goto 23, 3) := by decide +kernel
theorem dX9_stripe_57 : decode cX9_stripe 57 = .ok (.aload_n 0, 1) := by decide +kernel
theorem dX9_stripe_58 : decode cX9_stripe 58 = .ok (.getfield 52, 3) := by decide +kernel
theorem dX9_stripe_61 : decode cX9_stripe 61 = .ok (.iload_n 1, 1) := by decide +kernel
theorem dX9_stripe_62 : decode cX9_stripe 62 = .ok (.iaload, 1) := by decide +kernel
theorem dX9_stripe_63 : decode cX9_stripe 63 = .ok (.ifCond .ge 8, 3) := by decide +kernel
theorem dX9_stripe_66 : decode cX9_stripe 66 = .ok (.bipush (-4), 2) := by decide +kernel
theorem dX9_stripe_68 : decode cX9_stripe 68 = .ok (.goto 9, 3) := by decide +kernel
theorem dX9_stripe_71 : decode cX9_stripe 71 = .ok (.aload_n 0, 1) := by decide +kernel
theorem dX9_stripe_72 : decode cX9_stripe 72 = .ok (.getfield 52, 3) := by decide +kernel
theorem dX9_stripe_75 : decode cX9_stripe 75 = .ok (.iload_n 1, 1) := by decide +kernel
theorem dX9_stripe_76 : decode cX9_stripe 76 = .ok (.iaload, 1) := by decide +kernel
theorem dX9_stripe_77 : decode cX9_stripe 77 = .ok (.ireturn, 1) := by decide +kernel
theorem dX9_remembers_0 : decode cX9_remembers 0 = .ok (.aload_n 0, 1) := by decide +kernel
theorem dX9_remembers_1 : decode cX9_remembers 1 = .ok (.getfield 149, 3) := by decide +kernel
theorem dX9_remembers_4 : decode cX9_remembers 4 = .ok (.bipush 8, 2) := by decide +kernel
theorem dX9_remembers_6 : decode cX9_remembers 6 = .ok (.if_icmp .ne 43, 3) := by decide +kernel
theorem dX9_remembers_9 : decode cX9_remembers 9 = .ok (.iconst 0, 1) := by decide +kernel
theorem dX9_remembers_10 : decode cX9_remembers 10 = .ok (.istore_n 1, 1) := by decide +kernel
theorem dX9_remembers_11 : decode cX9_remembers 11 = .ok (.iload_n 1, 1) := by decide +kernel
theorem dX9_remembers_12 : decode cX9_remembers 12 = .ok (.sipush 140, 3) := by decide +kernel
theorem dX9_remembers_15 : decode cX9_remembers 15 = .ok (.if_icmp .ge 24, 3) := by decide +kernel
theorem dX9_remembers_18 : decode cX9_remembers 18 = .ok (.aload_n 0, 1) := by decide +kernel
theorem dX9_remembers_19 : decode cX9_remembers 19 = .ok (.getfield 22, 3) := by decide +kernel
theorem dX9_remembers_22 : decode cX9_remembers 22 = .ok (.iload_n 1, 1) := by decide +kernel
theorem dX9_remembers_23 : decode cX9_remembers 23 = .ok (.aload_n 0, 1) := by decide +kernel
theorem dX9_remembers_24 : decode cX9_remembers 24 = .ok (.getfield 22, 3) := by decide +kernel
theorem dX9_remembers_27 : decode cX9_remembers 27 = .ok (.iload_n 1, 1) := by decide +kernel
theorem dX9_remembers_28 : decode cX9_remembers 28 = .ok (.bipush 20, 2) := by decide +kernel
theorem dX9_remembers_30 : decode cX9_remembers 30 = .ok (.iadd, 1) := by decide +kernel
theorem dX9_remembers_31 : decode cX9_remembers 31 = .ok (.iaload, 1) := by decide +kernel
theorem dX9_remembers_32 : decode cX9_remembers 32 = .ok (.iastore, 1) := by decide +kernel
theorem dX9_remembers_33 : decode cX9_remembers 33 = .ok (.iinc 1 1, 3) := by decide +kernel
theorem dX9_remembers_36 : decode cX9_remembers 36 = .ok (.goto (-25), 3) := by decide +kernel
theorem dX9_remembers_39 : decode cX9_remembers 39 = .ok (.aload_n 0, 1) := by decide +kernel
theorem dX9_remembers_40 : decode cX9_remembers 40 = .ok (.dup, 1) := by decide +kernel
theorem dX9_remembers_41 : decode cX9_remembers 41 = .ok (.getfield 149, 3) := by decide +kernel
theorem dX9_remembers_44 : decode cX9_remembers 44 = .ok (.iconst 1, 1) := by decide +kernel
theorem dX9_remembers_45 : decode cX9_remembers 45 = .ok (.isub, 1) := by decide +kernel
theorem dX9_remembers_46 : decode cX9_remembers 46 = .ok (.putfield 149, 3) := by decide +kernel
theorem dX9_remembers_49 : decode cX9_remembers 49 = .ok (.aload_n 0, 1) := by decide +kernel
theorem dX9_remembers_50 : decode cX9_remembers 50 = .ok (.getfield 22, 3) := by decide +kernel
theorem dX9_remembers_53 : decode cX9_remembers 53 = .ok (.bipush 20, 2) := by decide +kernel
theorem dX9_remembers_55 : decode cX9_remembers 55 = .ok (.aload_n 0, 1) := by decide +kernel
theorem dX9_remembers_56 : decode cX9_remembers 56 = .ok (.getfield 149, 3) := by decide +kernel
theorem dX9_remembers_59 : decode cX9_remembers 59 = .ok (.imul, 1) := by decide +kernel
theorem dX9_remembers_60 : decode cX9_remembers 60 = .ok (.aload_n 0, 1) := by decide +kernel
theorem dX9_remembers_61 : decode cX9_remembers 61 = .ok (.getfield 19, 3) := by decide +kernel
theorem dX9_remembers_64 : decode cX9_remembers 64 = .ok (.bipush 20, 2) := by decide +kernel
theorem dX9_remembers_66 : decode cX9_remembers 66 = .ok (.invokestatic 145, 3) := by decide +kernel
theorem dX9_remembers_69 : decode cX9_remembers 69 = .ok (.aload_n 0, 1) := by decide +kernel
theorem dX9_remembers_70 : decode cX9_remembers 70 = .ok (.dup, 1) := by decide +kernel
theorem dX9_remembers_71 : decode cX9_remembers 71 = .ok (.getfield 149, 3) := by decide +kernel
theorem dX9_remembers_74 : decode cX9_remembers 74 = .ok (.iconst 1, 1) := by decide +kernel
theorem dX9_remembers_75 : decode cX9_remembers 75 = .ok (.iadd, 1) := by decide +kernel
theorem dX9_remembers_76 : decode cX9_remembers 76 = .ok (.putfield 149, 3) := by decide +kernel
theorem dX9_remembers_79 : decode cX9_remembers 79 = .ok (.return_, 1) := by decide +kernel
theorem dX9_pass_0 : decode cX9_pass 0 = .ok (.iload_n 1, 1) := by decide +kernel
theorem dX9_pass_1 : decode cX9_pass 1 = .ok (.iconst 1, 1) := by decide +kernel
theorem dX9_pass_2 : decode cX9_pass 2 = .ok (.bipush 30, 2) := by decide +kernel
theorem dX9_pass_4 : decode cX9_pass 4 = .ok (.invokestatic 88, 3) := by decide +kernel
theorem dX9_pass_7 : decode cX9_pass 7 = .ok (.ifCond .ne 5, 3) := by decide +kernel
theorem dX9_pass_10 : decode cX9_pass 10 = .ok (.iconst (-1), 1) := by decide +kernel
theorem dX9_pass_11 : decode cX9_pass 11 = .ok (.ireturn, 1) := by decide +kernel
theorem dX9_pass_12 : decode cX9_pass 12 = .ok (.aload_n 0, 1) := by decide +kernel
theorem dX9_pass_13 : decode cX9_pass 13 = .ok (.getfield 19, 3) := by decide +kernel
theorem dX9_pass_16 : decode cX9_pass 16 = .ok (.iconst 0, 1) := by decide +kernel
theorem dX9_pass_17 : decode cX9_pass 17 = .ok (.iaload, 1) := by decide +kernel
theorem dX9_pass_18 : decode cX9_pass 18 = .ok (.iload_n 1, 1) := by decide +kernel
theorem dX9_pass_19 : decode cX9_pass 19 = .ok (.iadd, 1) := by decide +kernel
theorem dX9_pass_20 : decode cX9_pass 20 = .ok (.sipush 999, 3) := by decide +kernel
theorem dX9_pass_23 : decode cX9_pass 23 = .ok (.if_icmp .le 6, 3) := by decide +kernel
theorem dX9_pass_26 : decode cX9_pass 26 = .ok (.bipush (-2), 2) := by decide +kernel
theorem dX9_pass_28 : decode cX9_pass 28 = .ok (.ireturn, 1) := by decide +kernel
theorem dX9_pass_29 : decode cX9_pass 29 = .ok (.aload_n 0, 1) := by decide +kernel
theorem dX9_pass_30 : decode cX9_pass 30 = .ok (.invokevirtual 202, 3) := by decide +kernel
theorem dX9_pass_33 : decode cX9_pass 33 = .ok (.aload_n 0, 1) := by decide +kernel
theorem dX9_pass_34 : decode cX9_pass 34 = .ok (.getfield 19, 3) := by decide +kernel
theorem dX9_pass_37 : decode cX9_pass 37 = .ok (.iconst 0, 1) := by decide +kernel
theorem dX9_pass_38 : decode cX9_pass 38 = .ok (.dup2, 1) := by decide +kernel
theorem dX9_pass_39 : decode cX9_pass 39 = .ok (.iaload, 1) := by decide +kernel
theorem dX9_pass_40 : decode cX9_pass 40 = .ok (.iload_n 1, 1) := by decide +kernel
theorem dX9_pass_41 : decode cX9_pass 41 = .ok (.iadd, 1) := by decide +kernel
theorem dX9_pass_42 : decode cX9_pass 42 = .ok (.iastore, 1) := by decide +kernel
theorem dX9_pass_43 : decode cX9_pass 43 = .ok (.iconst 0, 1) := by decide +kernel
theorem dX9_pass_44 : decode cX9_pass 44 = .ok (.istore_n 2, 1) := by decide +kernel
theorem dX9_pass_45 : decode cX9_pass 45 = .ok (.iload_n 2, 1) := by decide +kernel
theorem dX9_pass_46 : decode cX9_pass 46 = .ok (.aload_n 0, 1) := by decide +kernel
theorem dX9_pass_47 : decode cX9_pass 47 = .ok (.getfield 85, 3) := by decide +kernel
theorem dX9_pass_50 : decode cX9_pass 50 = .ok (.if_icmp .ge 32, 3) := by decide +kernel
theorem dX9_pass_53 : decode cX9_pass 53 = .ok (.aload_n 0, 1) := by decide +kernel
theorem dX9_pass_54 : decode cX9_pass 54 = .ok (.getfield 19, 3) := by decide +kernel
theorem dX9_pass_57 : decode cX9_pass 57 = .ok (.iconst 2, 1) := by decide +kernel
theorem dX9_pass_58 : decode cX9_pass 58 = .ok (.iload_n 2, 1) := by decide +kernel
theorem dX9_pass_59 : decode cX9_pass 59 = .ok (.iadd, 1) := by decide +kernel
theorem dX9_pass_60 : decode cX9_pass 60 = .ok (.dup2, 1) := by decide +kernel
theorem dX9_pass_61 : decode cX9_pass 61 = .ok (.iaload, 1) := by decide +kernel
theorem dX9_pass_62 : decode cX9_pass 62 = .ok (.iload_n 1, 1) := by decide +kernel
theorem dX9_pass_63 : decode cX9_pass 63 = .ok (.aload_n 0, 1) := by decide +kernel
theorem dX9_pass_64 : decode cX9_pass 64 = .ok (.getfield 7, 3) := by decide +kernel
theorem dX9_pass_67 : decode cX9_pass 67 = .ok (.iconst 3, 1) := by decide +kernel
theorem dX9_pass_68 : decode cX9_pass 68 = .ok (.iload_n 2, 1) := by decide +kernel
theorem dX9_pass_69 : decode cX9_pass 69 = .ok (.imul, 1) := by decide +kernel
theorem dX9_pass_70 : decode cX9_pass 70 = .ok (.iconst 1, 1) := by decide +kernel
theorem dX9_pass_71 : decode cX9_pass 71 = .ok (.iadd, 1) := by decide +kernel
theorem dX9_pass_72 : decode cX9_pass 72 = .ok (.iaload, 1) := by decide +kernel
theorem dX9_pass_73 : decode cX9_pass 73 = .ok (.imul, 1) := by decide +kernel
theorem dX9_pass_74 : decode cX9_pass 74 = .ok (.iadd, 1) := by decide +kernel
theorem dX9_pass_75 : decode cX9_pass 75 = .ok (.iastore, 1) := by decide +kernel
theorem dX9_pass_76 : decode cX9_pass 76 = .ok (.iinc 2 1, 3) := by decide +kernel
theorem dX9_pass_79 : decode cX9_pass 79 = .ok (.goto (-34), 3) := by decide +kernel
theorem dX9_pass_82 : decode cX9_pass 82 = .ok (.aload_n 0, 1) := by decide +kernel
theorem dX9_pass_83 : decode cX9_pass 83 = .ok (.getfield 19, 3) := by decide +kernel
theorem dX9_pass_86 : decode cX9_pass 86 = .ok (.iconst 0, 1) := by decide +kernel
theorem dX9_pass_87 : decode cX9_pass 87 = .ok (.iaload, 1) := by decide +kernel
theorem dX9_pass_88 : decode cX9_pass 88 = .ok (.ireturn, 1) := by decide +kernel
theorem dX9_pay_0 : decode cX9_pay 0 = .ok (.aload_n 0, 1) := by decide +kernel
theorem dX9_pay_1 : decode cX9_pay 1 = .ok (.iload_n 1, 1) := by decide +kernel
theorem dX9_pay_2 : decode cX9_pay 2 = .ok (.invokevirtual 187, 3) := by decide +kernel
theorem dX9_pay_5 : decode cX9_pay 5 = .ok (.ifCond .eq 13, 3) := by decide +kernel
theorem dX9_pay_8 : decode cX9_pay 8 = .ok (.iload_n 2, 1) := by decide +kernel
theorem dX9_pay_9 : decode cX9_pay 9 = .ok (.iconst 1, 1) := by decide +kernel
theorem dX9_pay_10 : decode cX9_pay 10 = .ok (.bipush 99, 2) := by decide +kernel
theorem dX9_pay_12 : decode cX9_pay 12 = .ok (.invokestatic 88, 3) := by decide +kernel
theorem dX9_pay_15 : decode cX9_pay 15 = .ok (.ifCond .ne 5, 3) := by decide +kernel
theorem dX9_pay_18 : decode cX9_pay 18 = .ok (.iconst (-1), 1) := by decide +kernel
theorem dX9_pay_19 : decode cX9_pay 19 = .ok (.ireturn, 1) := by decide +kernel
theorem dX9_pay_20 : decode cX9_pay 20 = .ok (.aload_n 0, 1) := by decide +kernel
theorem dX9_pay_21 : decode cX9_pay 21 = .ok (.invokevirtual 202, 3) := by decide +kernel
theorem dX9_pay_24 : decode cX9_pay 24 = .ok (.aload_n 0, 1) := by decide +kernel
theorem dX9_pay_25 : decode cX9_pay 25 = .ok (.getfield 19, 3) := by decide +kernel
theorem dX9_pay_28 : decode cX9_pay 28 = .ok (.iconst 2, 1) := by decide +kernel
theorem dX9_pay_29 : decode cX9_pay 29 = .ok (.iload_n 1, 1) := by decide +kernel
theorem dX9_pay_30 : decode cX9_pay 30 = .ok (.iadd, 1) := by decide +kernel
theorem dX9_pay_31 : decode cX9_pay 31 = .ok (.aload_n 0, 1) := by decide +kernel
theorem dX9_pay_32 : decode cX9_pay 32 = .ok (.getfield 19, 3) := by decide +kernel
theorem dX9_pay_35 : decode cX9_pay 35 = .ok (.iconst 2, 1) := by decide +kernel
theorem dX9_pay_36 : decode cX9_pay 36 = .ok (.iload_n 1, 1) := by decide +kernel
theorem dX9_pay_37 : decode cX9_pay 37 = .ok (.iadd, 1) := by decide +kernel
theorem dX9_pay_38 : decode cX9_pay 38 = .ok (.iaload, 1) := by decide +kernel
theorem dX9_pay_39 : decode cX9_pay 39 = .ok (.iload_n 2, 1) := by decide +kernel
theorem dX9_pay_40 : decode cX9_pay 40 = .ok (.if_icmp .le 16, 3) := by decide +kernel
theorem dX9_pay_43 : decode cX9_pay 43 = .ok (.aload_n 0, 1) := by decide +kernel
theorem dX9_pay_44 : decode cX9_pay 44 = .ok (.getfield 19, 3) := by decide +kernel
theorem dX9_pay_47 : decode cX9_pay 47 = .ok (.iconst 2, 1) := by decide +kernel
theorem dX9_pay_48 : decode cX9_pay 48 = .ok (.iload_n 1, 1) := by decide +kernel
theorem dX9_pay_49 : decode cX9_pay 49 = .ok (.iadd, 1) := by decide +kernel
theorem dX9_pay_50 : decode cX9_pay 50 = .ok (.iaload, 1) := by decide +kernel
theorem dX9_pay_51 : decode cX9_pay 51 = .ok (.iload_n 2, 1) := by decide +kernel
theorem dX9_pay_52 : decode cX9_pay 52 = .ok (.isub, 1) := by decide +kernel
theorem dX9_pay_53 : decode cX9_pay 53 = .ok (.goto 4, 3) := by decide +kernel
theorem dX9_pay_56 : decode cX9_pay 56 = .ok (.iconst 0, 1) := by decide +kernel
theorem dX9_pay_57 : decode cX9_pay 57 = .ok (.iastore, 1) := by decide +kernel
theorem dX9_pay_58 : decode cX9_pay 58 = .ok (.aload_n 0, 1) := by decide +kernel
theorem dX9_pay_59 : decode cX9_pay 59 = .ok (.getfield 19, 3) := by decide +kernel
theorem dX9_pay_62 : decode cX9_pay 62 = .ok (.iconst 2, 1) := by decide +kernel
theorem dX9_pay_63 : decode cX9_pay 63 = .ok (.iload_n 1, 1) := by decide +kernel
theorem dX9_pay_64 : decode cX9_pay 64 = .ok (.iadd, 1) := by decide +kernel
theorem dX9_pay_65 : decode cX9_pay 65 = .ok (.iaload, 1) := by decide +kernel
theorem dX9_pay_66 : decode cX9_pay 66 = .ok (.ireturn, 1) := by decide +kernel
theorem dX9_swap_0 : decode cX9_swap 0 = .ok (.aload_n 0, 1) := by decide +kernel
theorem dX9_swap_1 : decode cX9_swap 1 = .ok (.iload_n 1, 1) := by decide +kernel
theorem dX9_swap_2 : decode cX9_swap 2 = .ok (.iaload, 1) := by decide +kernel
theorem dX9_swap_3 : decode cX9_swap 3 = .ok (.istore_n 3, 1) := by decide +kernel
theorem dX9_swap_4 : decode cX9_swap 4 = .ok (.aload_n 0, 1) := by decide +kernel
theorem dX9_swap_5 : decode cX9_swap 5 = .ok (.iload_n 1, 1) := by decide +kernel
theorem dX9_swap_6 : decode cX9_swap 6 = .ok (.aload_n 0, 1) := by decide +kernel
theorem dX9_swap_7 : decode cX9_swap 7 = .ok (.iload_n 2, 1) := by decide +kernel
theorem dX9_swap_8 : decode cX9_swap 8 = .ok (.iaload, 1) := by decide +kernel
theorem dX9_swap_9 : decode cX9_swap 9 = .ok (.iastore, 1) := by decide +kernel
theorem dX9_swap_10 : decode cX9_swap 10 = .ok (.aload_n 0, 1) := by decide +kernel
theorem dX9_swap_11 : decode cX9_swap 11 = .ok (.iload_n 2, 1) := by decide +kernel
theorem dX9_swap_12 : decode cX9_swap 12 = .ok (.iload_n 3, 1) := by decide +kernel
theorem dX9_swap_13 : decode cX9_swap 13 = .ok (.iastore, 1) := by decide +kernel
theorem dX9_swap_14 : decode cX9_swap 14 = .ok (.return_, 1) := by decide +kernel
theorem dX9_change_0 : decode cX9_change 0 = .ok (.aload_n 0, 1) := by decide +kernel
theorem dX9_change_1 : decode cX9_change 1 = .ok (.iload_n 1, 1) := by decide +kernel
theorem dX9_change_2 : decode cX9_change 2 = .ok (.invokevirtual 187, 3) := by decide +kernel
theorem dX9_change_5 : decode cX9_change 5 = .ok (.ifCond .eq 16, 3) := by decide +kernel
theorem dX9_change_8 : decode cX9_change 8 = .ok (.aload_n 0, 1) := by decide +kernel
theorem dX9_change_9 : decode cX9_change 9 = .ok (.iload_n 2, 1) := by decide +kernel
theorem dX9_change_10 : decode cX9_change 10 = .ok (.invokevirtual 187, 3) := by decide +kernel
theorem dX9_change_13 : decode cX9_change 13 = .ok (.ifCond .eq 8, 3) := by decide +kernel
theorem dX9_change_16 : decode cX9_change 16 = .ok (.iload_n 1, 1) := by decide +kernel
theorem dX9_change_17 : decode cX9_change 17 = .ok (.iload_n 2, 1) := by decide +kernel
theorem dX9_change_18 : decode cX9_change 18 = .ok (.if_icmp .ne 5, 3) := by decide +kernel
theorem dX9_change_21 : decode cX9_change 21 = .ok (.iconst (-1), 1) := by decide +kernel
theorem dX9_change_22 : decode cX9_change 22 = .ok (.ireturn, 1) := by decide +kernel
theorem dX9_change_23 : decode cX9_change 23 = .ok (.aload_n 0, 1) := by decide +kernel
theorem dX9_change_24 : decode cX9_change 24 = .ok (.invokevirtual 202, 3) := by decide +kernel
theorem dX9_change_27 : decode cX9_change 27 = .ok (.aload_n 0, 1) := by decide +kernel
theorem dX9_change_28 : decode cX9_change 28 = .ok (.getfield 19, 3) := by decide +kernel
theorem dX9_change_31 : decode cX9_change 31 = .ok (.bipush 8, 2) := by decide +kernel
theorem dX9_change_33 : decode cX9_change 33 = .ok (.iload_n 1, 1) := by decide +kernel
theorem dX9_change_34 : decode cX9_change 34 = .ok (.iadd, 1) := by decide +kernel
theorem dX9_change_35 : decode cX9_change 35 = .ok (.bipush 8, 2) := by decide +kernel
theorem dX9_change_37 : decode cX9_change 37 = .ok (.iload_n 2, 1) := by decide +kernel
theorem dX9_change_38 : decode cX9_change 38 = .ok (.iadd, 1) := by decide +kernel
theorem dX9_change_39 : decode cX9_change 39 = .ok (.invokestatic 205, 3) := by decide +kernel
theorem dX9_change_42 : decode cX9_change 42 = .ok (.aload_n 0, 1) := by decide +kernel
theorem dX9_change_43 : decode cX9_change 43 = .ok (.getfield 19, 3) := by decide +kernel
theorem dX9_change_46 : decode cX9_change 46 = .ok (.bipush 14, 2) := by decide +kernel
theorem dX9_change_48 : decode cX9_change 48 = .ok (.iload_n 1, 1) := by decide +kernel
theorem dX9_change_49 : decode cX9_change 49 = .ok (.iadd, 1) := by decide +kernel
theorem dX9_change_50 : decode cX9_change 50 = .ok (.bipush 14, 2) := by decide +kernel
theorem dX9_change_52 : decode cX9_change 52 = .ok (.iload_n 2, 1) := by decide +kernel
theorem dX9_change_53 : decode cX9_change 53 = .ok (.iadd, 1) := by decide +kernel
theorem dX9_change_54 : decode cX9_change 54 = .ok (.invokestatic 205, 3) := by decide +kernel
theorem dX9_change_57 : decode cX9_change 57 = .ok (.aload_n 0, 1) := by decide +kernel
theorem dX9_change_58 : decode cX9_change 58 = .ok (.getfield 19, 3) := by decide +kernel
theorem dX9_change_61 : decode cX9_change 61 = .ok (.bipush 8, 2) := by decide +kernel
theorem dX9_change_63 : decode cX9_change 63 = .ok (.iload_n 1, 1) := by decide +kernel
theorem dX9_change_64 : decode cX9_change 64 = .ok (.iadd, 1) := by decide +kernel
theorem dX9_change_65 : decode cX9_change 65 = .ok (.iaload, 1) := by decide +kernel
theorem dX9_change_66 : decode cX9_change 66 = .ok (.ireturn, 1) := by decide +kernel
theorem dX9_smoke_0 : decode cX9_smoke 0 = .ok (.iload_n 1, 1) := by decide +kernel
theorem dX9_smoke_1 : decode cX9_smoke 1 = .ok (.invokestatic 196, 3) := by decide +kernel
theorem dX9_smoke_4 : decode cX9_smoke 4 = .ok (.ifCond .ne 5, 3) := by decide +kernel
theorem dX9_smoke_7 : decode cX9_smoke 7 = .ok (.iconst (-1), 1) := by decide +kernel
theorem dX9_smoke_8 : decode cX9_smoke 8 = .ok (.ireturn, 1) := by decide +kernel
theorem dX9_smoke_9 : decode cX9_smoke 9 = .ok (.aload_n 0, 1) := by decide +kernel
theorem dX9_smoke_10 : decode cX9_smoke 10 = .ok (.invokevirtual 202, 3) := by decide +kernel
theorem dX9_smoke_13 : decode cX9_smoke 13 = .ok (.aload_n 0, 1) := by decide +kernel
theorem dX9_smoke_14 : decode cX9_smoke 14 = .ok (.getfield 19, 3) := by decide +kernel
theorem dX9_smoke_17 : decode cX9_smoke 17 = .ok (.iconst 1, 1) := by decide +kernel
theorem dX9_smoke_18 : decode cX9_smoke 18 = .ok (.dup2, 1) := by decide +kernel
theorem dX9_smoke_19 : decode cX9_smoke 19 = .ok (.iaload, 1) := by decide +kernel
theorem dX9_smoke_20 : decode cX9_smoke 20 = .ok (.iconst 1, 1) := by decide +kernel
theorem dX9_smoke_21 : decode cX9_smoke 21 = .ok (.iload_n 1, 1) := by decide +kernel
theorem dX9_smoke_22 : decode cX9_smoke 22 = .ok (.ishl, 1) := by decide +kernel
theorem dX9_smoke_23 : decode cX9_smoke 23 = .ok (.ixor, 1) := by decide +kernel
theorem dX9_smoke_24 : decode cX9_smoke 24 = .ok (.iastore, 1) := by decide +kernel
theorem dX9_smoke_25 : decode cX9_smoke 25 = .ok (.aload_n 0, 1) := by decide +kernel
theorem dX9_smoke_26 : decode cX9_smoke 26 = .ok (.getfield 19, 3) := by decide +kernel
theorem dX9_smoke_29 : decode cX9_smoke 29 = .ok (.iconst 1, 1) := by decide +kernel
theorem dX9_smoke_30 : decode cX9_smoke 30 = .ok (.iaload, 1) := by decide +kernel
theorem dX9_smoke_31 : decode cX9_smoke 31 = .ok (.iload_n 1, 1) := by decide +kernel
theorem dX9_smoke_32 : decode cX9_smoke 32 = .ok (.ishr, 1) := by decide +kernel
theorem dX9_smoke_33 : decode cX9_smoke 33 = .ok (.iconst 1, 1) := by decide +kernel
theorem dX9_smoke_34 : decode cX9_smoke 34 = .ok (.iand, 1) := by decide +kernel
theorem dX9_smoke_35 : decode cX9_smoke 35 = .ok (.ireturn, 1) := by decide +kernel
theorem dX9_undo_0 : decode cX9_undo 0 = .ok (.aload_n 0, 1) := by decide +kernel
theorem dX9_undo_1 : decode cX9_undo 1 = .ok (.getfield 149, 3) := by decide +kernel
theorem dX9_undo_4 : decode cX9_undo 4 = .ok (.ifCond .ne 6, 3) := by decide +kernel
theorem dX9_undo_7 : decode cX9_undo 7 = .ok (.bipush (-2), 2) := by decide +kernel
theorem dX9_undo_9 : decode cX9_undo 9 = .ok (.ireturn, 1) := by decide +kernel
theorem dX9_undo_10 : decode cX9_undo 10 = .ok (.aload_n 0, 1) := by decide +kernel
theorem dX9_undo_11 : decode cX9_undo 11 = .ok (.dup, 1) := by decide +kernel
theorem dX9_undo_12 : decode cX9_undo 12 = .ok (.getfield 149, 3) := by decide +kernel
theorem dX9_undo_15 : decode cX9_undo 15 = .ok (.iconst 1, 1) := by decide +kernel
theorem dX9_undo_16 : decode cX9_undo 16 = .ok (.isub, 1) := by decide +kernel
theorem dX9_undo_17 : decode cX9_undo 17 = .ok (.putfield 149, 3) := by decide +kernel
theorem dX9_undo_20 : decode cX9_undo 20 = .ok (.iconst 0, 1) := by decide +kernel
theorem dX9_undo_21 : decode cX9_undo 21 = .ok (.istore_n 1, 1) := by decide +kernel
theorem dX9_undo_22 : decode cX9_undo 22 = .ok (.iload_n 1, 1) := by decide +kernel
theorem dX9_undo_23 : decode cX9_undo 23 = .ok (.bipush 20, 2) := by decide +kernel
theorem dX9_undo_25 : decode cX9_undo 25 = .ok (.if_icmp .ge 29, 3) := by decide +kernel
theorem dX9_undo_28 : decode cX9_undo 28 = .ok (.aload_n 0, 1) := by decide +kernel
theorem dX9_undo_29 : decode cX9_undo 29 = .ok (.getfield 19, 3) := by decide +kernel
theorem dX9_undo_32 : decode cX9_undo 32 = .ok (.iload_n 1, 1) := by decide +kernel
theorem dX9_undo_33 : decode cX9_undo 33 = .ok (.aload_n 0, 1) := by decide +kernel
theorem dX9_undo_34 : decode cX9_undo 34 = .ok (.getfield 22, 3) := by decide +kernel
theorem dX9_undo_37 : decode cX9_undo 37 = .ok (.bipush 20, 2) := by decide +kernel
theorem dX9_undo_39 : decode cX9_undo 39 = .ok (.aload_n 0, 1) := by decide +kernel
theorem dX9_undo_40 : decode cX9_undo 40 = .ok (.getfield 149, 3) := by decide +kernel
theorem dX9_undo_43 : decode cX9_undo 43 = .ok (.imul, 1) := by decide +kernel
theorem dX9_undo_44 : decode cX9_undo 44 = .ok (.iload_n 1, 1) := by decide +kernel
theorem dX9_undo_45 : decode cX9_undo 45 = .ok (.iadd, 1) := by decide +kernel
theorem dX9_undo_46 : decode cX9_undo 46 = .ok (.iaload, 1) := by decide +kernel
theorem dX9_undo_47 : decode cX9_undo 47 = .ok (.iastore, 1) := by decide +kernel
theorem dX9_undo_48 : decode cX9_undo 48 = .ok (.iinc 1 1, 3) := by decide +kernel
theorem dX9_undo_51 : decode cX9_undo 51 = .ok (.goto (-29), 3) := by decide +kernel
theorem dX9_undo_54 : decode cX9_undo 54 = .ok (.aload_n 0, 1) := by decide +kernel
theorem dX9_undo_55 : decode cX9_undo 55 = .ok (.getfield 149, 3) := by decide +kernel
theorem dX9_undo_58 : decode cX9_undo 58 = .ok (.ireturn, 1) := by decide +kernel
theorem dX9_seen_0 : decode cX9_seen 0 = .ok (.iload_n 1, 1) := by decide +kernel
theorem dX9_seen_1 : decode cX9_seen 1 = .ok (.invokestatic 196, 3) := by decide +kernel
theorem dX9_seen_4 : decode cX9_seen 4 = .ok (.ifCond .eq 10, 3) := by decide +kernel
theorem dX9_seen_7 : decode cX9_seen 7 = .ok (.iload_n 2, 1) := by decide +kernel
theorem dX9_seen_8 : decode cX9_seen 8 = .ok (.invokestatic 209, 3) := by decide +kernel
theorem dX9_seen_11 : decode cX9_seen 11 = .ok (.ifCond .ne 5, 3) := by decide +kernel
theorem dX9_seen_14 : decode cX9_seen 14 = .ok (.iconst (-1), 1) := by decide +kernel
theorem dX9_seen_15 : decode cX9_seen 15 = .ok (.ireturn, 1) := by decide +kernel
theorem dX9_seen_16 : decode cX9_seen 16 = .ok (.aload_n 0, 1) := by decide +kernel
theorem dX9_seen_17 : decode cX9_seen 17 = .ok (.invokevirtual 190, 3) := by decide +kernel
theorem dX9_seen_20 : decode cX9_seen 20 = .ok (.aload_n 0, 1) := by decide +kernel
theorem dX9_seen_21 : decode cX9_seen 21 = .ok (.invokevirtual 199, 3) := by decide +kernel
theorem dX9_seen_24 : decode cX9_seen 24 = .ok (.aload_n 0, 1) := by decide +kernel
theorem dX9_seen_25 : decode cX9_seen 25 = .ok (.getfield 55, 3) := by decide +kernel
theorem dX9_seen_28 : decode cX9_seen 28 = .ok (.iload_n 1, 1) := by decide +kernel
theorem dX9_seen_29 : decode cX9_seen 29 = .ok (.iaload, 1) := by decide +kernel
theorem dX9_seen_30 : decode cX9_seen 30 = .ok (.iload_n 2, 1) := by decide +kernel
theorem dX9_seen_31 : decode cX9_seen 31 = .ok (.invokestatic 177, 3) := by decide +kernel
theorem dX9_seen_34 : decode cX9_seen 34 = .ok (.ifCond .eq 7, 3) := by decide +kernel
theorem dX9_seen_37 : decode cX9_seen 37 = .ok (.iconst 1, 1) := by decide +kernel
theorem dX9_seen_38 : decode cX9_seen 38 = .ok (.goto 4, 3) := by decide +kernel
theorem dX9_seen_41 : decode cX9_seen 41 = .ok (.iconst 0, 1) := by decide +kernel
theorem dX9_seen_42 : decode cX9_seen 42 = .ok (.ireturn, 1) := by decide +kernel
theorem dX9_sign_0 : decode cX9_sign 0 = .ok (.aload_n 0, 1) := by decide +kernel
theorem dX9_sign_1 : decode cX9_sign 1 = .ok (.iload_n 1, 1) := by decide +kernel
theorem dX9_sign_2 : decode cX9_sign 2 = .ok (.invokevirtual 193, 3) := by decide +kernel
theorem dX9_sign_5 : decode cX9_sign 5 = .ok (.ifCond .eq 10, 3) := by decide +kernel
theorem dX9_sign_8 : decode cX9_sign 8 = .ok (.iload_n 2, 1) := by decide +kernel
theorem dX9_sign_9 : decode cX9_sign 9 = .ok (.invokestatic 209, 3) := by decide +kernel
theorem dX9_sign_12 : decode cX9_sign 12 = .ok (.ifCond .ne 5, 3) := by decide +kernel
theorem dX9_sign_15 : decode cX9_sign 15 = .ok (.iconst (-1), 1) := by decide +kernel
theorem dX9_sign_16 : decode cX9_sign 16 = .ok (.ireturn, 1) := by decide +kernel
theorem dX9_sign_17 : decode cX9_sign 17 = .ok (.aload_n 0, 1) := by decide +kernel
theorem dX9_sign_18 : decode cX9_sign 18 = .ok (.invokevirtual 190, 3) := by decide +kernel
theorem dX9_sign_21 : decode cX9_sign 21 = .ok (.aload_n 0, 1) := by decide +kernel
theorem dX9_sign_22 : decode cX9_sign 22 = .ok (.invokevirtual 199, 3) := by decide +kernel
theorem dX9_sign_25 : decode cX9_sign 25 = .ok (.aload_n 0, 1) := by decide +kernel
theorem dX9_sign_26 : decode cX9_sign 26 = .ok (.iload_n 1, 1) := by decide +kernel
theorem dX9_sign_27 : decode cX9_sign 27 = .ok (.iload_n 2, 1) := by decide +kernel
theorem dX9_sign_28 : decode cX9_sign 28 = .ok (.invokevirtual 180, 3) := by decide +kernel
theorem dX9_sign_31 : decode cX9_sign 31 = .ok (.istore_n 3, 1) := by decide +kernel
theorem dX9_sign_32 : decode cX9_sign 32 = .ok (.iload_n 3, 1) := by decide +kernel
theorem dX9_sign_33 : decode cX9_sign 33 = .ok (.ifCond .ge 8, 3) := by decide +kernel
theorem dX9_sign_36 : decode cX9_sign 36 = .ok (.bipush (-4), 2) := by decide +kernel
theorem dX9_sign_38 : decode cX9_sign 38 = .ok (.goto 4, 3) := by decide +kernel
theorem dX9_sign_41 : decode cX9_sign 41 = .ok (.iload_n 3, 1) := by decide +kernel
theorem dX9_sign_42 : decode cX9_sign 42 = .ok (.ireturn, 1) := by decide +kernel
theorem dX9_fleet_0 : decode cX9_fleet 0 = .ok (.iload_n 1, 1) := by decide +kernel
theorem dX9_fleet_1 : decode cX9_fleet 1 = .ok (.iconst (-1), 1) := by decide +kernel
theorem dX9_fleet_2 : decode cX9_fleet 2 = .ok (.iconst 3, 1) := by decide +kernel
theorem dX9_fleet_3 : decode cX9_fleet 3 = .ok (.invokestatic 88, 3) := by decide +kernel
theorem dX9_fleet_6 : decode cX9_fleet 6 = .ok (.ifCond .ne 5, 3) := by decide +kernel
theorem dX9_fleet_9 : decode cX9_fleet 9 = .ok (.iconst (-1), 1) := by decide +kernel
theorem dX9_fleet_10 : decode cX9_fleet 10 = .ok (.ireturn, 1) := by decide +kernel
theorem dX9_fleet_11 : decode cX9_fleet 11 = .ok (.aload_n 0, 1) := by decide +kernel
theorem dX9_fleet_12 : decode cX9_fleet 12 = .ok (.invokevirtual 190, 3) := by decide +kernel
theorem dX9_fleet_15 : decode cX9_fleet 15 = .ok (.aload_n 0, 1) := by decide +kernel
theorem dX9_fleet_16 : decode cX9_fleet 16 = .ok (.invokevirtual 199, 3) := by decide +kernel
theorem dX9_fleet_19 : decode cX9_fleet 19 = .ok (.iload_n 1, 1) := by decide +kernel
theorem dX9_fleet_20 : decode cX9_fleet 20 = .ok (.ifCond .ge 10, 3) := by decide +kernel
theorem dX9_fleet_23 : decode cX9_fleet 23 = .ok (.aload_n 0, 1) := by decide +kernel
theorem dX9_fleet_24 : decode cX9_fleet 24 = .ok (.invokevirtual 212, 3) := by decide +kernel
theorem dX9_fleet_27 : decode cX9_fleet 27 = .ok (.goto 8, 3) := by decide +kernel
theorem dX9_fleet_30 : decode cX9_fleet 30 = .ok (.aload_n 0, 1) := by decide +kernel
theorem dX9_fleet_31 : decode cX9_fleet 31 = .ok (.iload_n 1, 1) := by decide +kernel
theorem dX9_fleet_32 : decode cX9_fleet 32 = .ok (.invokevirtual 184, 3) := by decide +kernel
theorem dX9_fleet_35 : decode cX9_fleet 35 = .ok (.ireturn, 1) := by decide +kernel
theorem dX9_isOrder_0 : decode cX9_isOrder 0 = .ok (.iload_n 1, 1) := by decide +kernel
theorem dX9_isOrder_1 : decode cX9_isOrder 1 = .ok (.istore_n 2, 1) := by decide +kernel
theorem dX9_isOrder_2 : decode cX9_isOrder 2 = .ok (.iconst 0, 1) := by decide +kernel
theorem dX9_isOrder_3 : decode cX9_isOrder 3 = .ok (.istore_n 3, 1) := by decide +kernel
theorem dX9_isOrder_4 : decode cX9_isOrder 4 = .ok (.aload_n 0, 1) := by decide +kernel
theorem dX9_isOrder_5 : decode cX9_isOrder 5 = .ok (.getfield 85, 3) := by decide +kernel
theorem dX9_isOrder_8 : decode cX9_isOrder 8 = .ok (.iconst 1, 1) := by decide +kernel
theorem dX9_isOrder_9 : decode cX9_isOrder 9 = .ok (.isub, 1) := by decide +kernel
theorem dX9_isOrder_10 : decode cX9_isOrder 10 = .ok (.istore 4, 2) := by decide +kernel
theorem dX9_isOrder_12 : decode cX9_isOrder 12 = .ok (.iload 4, 2) := by decide +kernel
theorem dX9_isOrder_14 : decode cX9_isOrder 14 = .ok (.ifCond .lt 41, 3) := by decide +kernel
theorem dX9_isOrder_17 : decode cX9_isOrder 17 = .ok (.aload_n 0, 1) := by decide +kernel
theorem dX9_isOrder_18 : decode cX9_isOrder 18 = .ok (.getfield 58, 3) := by decide +kernel
theorem dX9_isOrder_21 : decode cX9_isOrder 21 = .ok (.iload 4, 2) := by decide +kernel
theorem dX9_isOrder_23 : decode cX9_isOrder 23 = .ok (.iload_n 2, 1) := by decide +kernel
theorem dX9_isOrder_24 : decode cX9_isOrder 24 = .ok (.aload_n 0, 1) := by decide +kernel
theorem dX9_isOrder_25 : decode cX9_isOrder 25 = .ok (.getfield 85, 3) := by decide +kernel
theorem dX9_isOrder_28 : decode cX9_isOrder 28 = .ok (.irem, 1) := by decide +kernel
theorem dX9_isOrder_29 : decode cX9_isOrder 29 = .ok (.iastore, 1) := by decide +kernel
theorem dX9_isOrder_30 : decode cX9_isOrder 30 = .ok (.iload_n 2, 1) := by decide +kernel
theorem dX9_isOrder_31 : decode cX9_isOrder 31 = .ok (.aload_n 0, 1) := by decide +kernel
theorem dX9_isOrder_32 : decode cX9_isOrder 32 = .ok (.getfield 85, 3) := by decide +kernel
theorem dX9_isOrder_35 : decode cX9_isOrder 35 = .ok (.idiv, 1) := by decide +kernel
theorem dX9_isOrder_36 : decode cX9_isOrder 36 = .ok (.istore_n 2, 1) := by decide +kernel
theorem dX9_isOrder_37 : decode cX9_isOrder 37 = .ok (.iload_n 3, 1) := by decide +kernel
theorem dX9_isOrder_38 : decode cX9_isOrder 38 = .ok (.iconst 1, 1) := by decide +kernel
theorem dX9_isOrder_39 : decode cX9_isOrder 39 = .ok (.aload_n 0, 1) := by decide +kernel
theorem dX9_isOrder_40 : decode cX9_isOrder 40 = .ok (.getfield 58, 3) := by decide +kernel
theorem dX9_isOrder_43 : decode cX9_isOrder 43 = .ok (.iload 4, 2) := by decide +kernel
theorem dX9_isOrder_45 : decode cX9_isOrder 45 = .ok (.iaload, 1) := by decide +kernel
theorem dX9_isOrder_46 : decode cX9_isOrder 46 = .ok (.ishl, 1) := by decide +kernel
theorem dX9_isOrder_47 : decode cX9_isOrder 47 = .ok (.ior, 1) := by decide +kernel
theorem dX9_isOrder_48 : decode cX9_isOrder 48 = .ok (.istore_n 3, 1) := by decide +kernel
theorem dX9_isOrder_49 : decode cX9_isOrder 49 = .ok (.iinc 4 (-1), 3) := by decide +kernel
theorem dX9_isOrder_52 : decode cX9_isOrder 52 = .ok (.goto (-40), 3) := by decide +kernel
theorem dX9_isOrder_55 : decode cX9_isOrder 55 = .ok (.iload_n 3, 1) := by decide +kernel
theorem dX9_isOrder_56 : decode cX9_isOrder 56 = .ok (.iconst 1, 1) := by decide +kernel
theorem dX9_isOrder_57 : decode cX9_isOrder 57 = .ok (.aload_n 0, 1) := by decide +kernel
theorem dX9_isOrder_58 : decode cX9_isOrder 58 = .ok (.getfield 85, 3) := by decide +kernel
theorem dX9_isOrder_61 : decode cX9_isOrder 61 = .ok (.ishl, 1) := by decide +kernel
theorem dX9_isOrder_62 : decode cX9_isOrder 62 = .ok (.iconst 1, 1) := by decide +kernel
theorem dX9_isOrder_63 : decode cX9_isOrder 63 = .ok (.isub, 1) := by decide +kernel
theorem dX9_isOrder_64 : decode cX9_isOrder 64 = .ok (.if_icmp .ne 7, 3) := by decide +kernel
theorem dX9_isOrder_67 : decode cX9_isOrder 67 = .ok (.iconst 1, 1) := by decide +kernel
theorem dX9_isOrder_68 : decode cX9_isOrder 68 = .ok (.goto 4, 3) := by decide +kernel
theorem dX9_isOrder_71 : decode cX9_isOrder 71 = .ok (.iconst 0, 1) := by decide +kernel
theorem dX9_isOrder_72 : decode cX9_isOrder 72 = .ok (.ireturn, 1) := by decide +kernel
theorem dX9_order_0 : decode cX9_order 0 = .ok (.iload_n 1, 1) := by decide +kernel
theorem dX9_order_1 : decode cX9_order 1 = .ok (.iconst (-1), 1) := by decide +kernel
theorem dX9_order_2 : decode cX9_order 2 = .ok (.aload_n 0, 1) := by decide +kernel
theorem dX9_order_3 : decode cX9_order 3 = .ok (.getfield 85, 3) := by decide +kernel
theorem dX9_order_6 : decode cX9_order 6 = .ok (.iconst 1, 1) := by decide +kernel
theorem dX9_order_7 : decode cX9_order 7 = .ok (.isub, 1) := by decide +kernel
theorem dX9_order_8 : decode cX9_order 8 = .ok (.invokestatic 88, 3) := by decide +kernel
theorem dX9_order_11 : decode cX9_order 11 = .ok (.ifCond .ne 5, 3) := by decide +kernel
theorem dX9_order_14 : decode cX9_order 14 = .ok (.iconst (-1), 1) := by decide +kernel
theorem dX9_order_15 : decode cX9_order 15 = .ok (.ireturn, 1) := by decide +kernel
theorem dX9_order_16 : decode cX9_order 16 = .ok (.iconst 1, 1) := by decide +kernel
theorem dX9_order_17 : decode cX9_order 17 = .ok (.istore_n 2, 1) := by decide +kernel
theorem dX9_order_18 : decode cX9_order 18 = .ok (.iconst 0, 1) := by decide +kernel
theorem dX9_order_19 : decode cX9_order 19 = .ok (.istore_n 3, 1) := by decide +kernel
theorem dX9_order_20 : decode cX9_order 20 = .ok (.iload_n 3, 1) := by decide +kernel
theorem dX9_order_21 : decode cX9_order 21 = .ok (.aload_n 0, 1) := by decide +kernel
theorem dX9_order_22 : decode cX9_order 22 = .ok (.getfield 85, 3) := by decide +kernel
theorem dX9_order_25 : decode cX9_order 25 = .ok (.if_icmp .ge 16, 3) := by decide +kernel
theorem dX9_order_28 : decode cX9_order 28 = .ok (.iload_n 2, 1) := by decide +kernel
theorem dX9_order_29 : decode cX9_order 29 = .ok (.aload_n 0, 1) := by decide +kernel
theorem dX9_order_30 : decode cX9_order 30 = .ok (.getfield 85, 3) := by decide +kernel
theorem dX9_order_33 : decode cX9_order 33 = .ok (.imul, 1) := by decide +kernel
theorem dX9_order_34 : decode cX9_order 34 = .ok (.istore_n 2, 1) := by decide +kernel
theorem dX9_order_35 : decode cX9_order 35 = .ok (.iinc 3 1, 3) := by decide +kernel
theorem dX9_order_38 : decode cX9_order 38 = .ok (.goto (-18), 3) := by decide +kernel
theorem dX9_order_41 : decode cX9_order 41 = .ok (.aload_n 0, 1) := by decide +kernel
theorem dX9_order_42 : decode cX9_order 42 = .ok (.invokevirtual 190, 3) := by decide +kernel
theorem dX9_order_45 : decode cX9_order 45 = .ok (.iconst (-1), 1) := by decide +kernel
theorem dX9_order_46 : decode cX9_order 46 = .ok (.istore_n 3, 1) := by decide +kernel
theorem dX9_order_47 : decode cX9_order 47 = .ok (.iconst 0, 1) := by decide +kernel
theorem dX9_order_48 : decode cX9_order 48 = .ok (.istore 4, 2) := by decide +kernel
theorem dX9_order_50 : decode cX9_order 50 = .ok (.iload 4, 2) := by decide +kernel
theorem dX9_order_52 : decode cX9_order 52 = .ok (.iload_n 2, 1) := by decide +kernel
theorem dX9_order_53 : decode cX9_order 53 = .ok (.if_icmp .ge 124, 3) := by decide +kernel
theorem dX9_order_56 : decode cX9_order 56 = .ok (.aload_n 0, 1) := by decide +kernel
theorem dX9_order_57 : decode cX9_order 57 = .ok (.iload 4, 2) := by decide +kernel
theorem dX9_order_59 : decode cX9_order 59 = .ok (.invokevirtual 215, 3) := by decide +kernel
theorem dX9_order_62 : decode cX9_order 62 = .ok (.ifCond .eq 109, 3) := by decide +kernel
theorem dX9_order_65 : decode cX9_order 65 = .ok (.iconst 0, 1) := by decide +kernel
theorem dX9_order_66 : decode cX9_order 66 = .ok (.istore 5, 2) := by decide +kernel
theorem dX9_order_68 : decode cX9_order 68 = .ok (.iload 5, 2) := by decide +kernel
theorem dX9_order_70 : decode cX9_order 70 = .ok (.aload_n 0, 1) := by decide +kernel
theorem dX9_order_71 : decode cX9_order 71 = .ok (.getfield 85, 3) := by decide +kernel
theorem dX9_order_74 : decode cX9_order 74 = .ok (.if_icmp .ge 59, 3) := by decide +kernel
theorem dX9_order_77 : decode cX9_order 77 = .ok (.aload_n 0, 1) := by decide +kernel
theorem dX9_order_78 : decode cX9_order 78 = .ok (.getfield 49, 3) := by decide +kernel
theorem dX9_order_81 : decode cX9_order 81 = .ok (.bipush 8, 2) := by decide +kernel
theorem dX9_order_83 : decode cX9_order 83 = .ok (.iload 5, 2) := by decide +kernel
theorem dX9_order_85 : decode cX9_order 85 = .ok (.iadd, 1) := by decide +kernel
theorem dX9_order_86 : decode cX9_order 86 = .ok (.aload_n 0, 1) := by decide +kernel
theorem dX9_order_87 : decode cX9_order 87 = .ok (.getfield 19, 3) := by decide +kernel
theorem dX9_order_90 : decode cX9_order 90 = .ok (.bipush 8, 2) := by decide +kernel
theorem dX9_order_92 : decode cX9_order 92 = .ok (.aload_n 0, 1) := by decide +kernel
theorem dX9_order_93 : decode cX9_order 93 = .ok (.getfield 58, 3) := by decide +kernel
theorem dX9_order_96 : decode cX9_order 96 = .ok (.iload 5, 2) := by decide +kernel
theorem dX9_order_98 : decode cX9_order 98 = .ok (.iaload, 1) := by decide +kernel
theorem dX9_order_99 : decode cX9_order 99 = .ok (.iadd, 1) := by decide +kernel
theorem dX9_order_100 : decode cX9_order 100 = .ok (.iaload, 1) := by decide +kernel
theorem dX9_order_101 : decode cX9_order 101 = .ok (.iastore, 1) := by decide +kernel
theorem dX9_order_102 : decode cX9_order 102 = .ok (.aload_n 0, 1) := by decide +kernel
theorem dX9_order_103 : decode cX9_order 103 = .ok (.getfield 49, 3) := by decide +kernel
theorem dX9_order_106 : decode cX9_order 106 = .ok (.bipush 14, 2) := by decide +kernel
theorem dX9_order_108 : decode cX9_order 108 = .ok (.iload 5, 2) := by decide +kernel
theorem dX9_order_110 : decode cX9_order 110 = .ok (.iadd, 1) := by decide +kernel
theorem dX9_order_111 : decode cX9_order 111 = .ok (.aload_n 0, 1) := by decide +kernel
theorem dX9_order_112 : decode cX9_order 112 = .ok (.getfield 19, 3) := by decide +kernel
theorem dX9_order_115 : decode cX9_order 115 = .ok (.bipush 14, 2) := by decide +kernel
theorem dX9_order_117 : decode cX9_order 117 = .ok (.aload_n 0, 1) := by decide +kernel
theorem dX9_order_118 : decode cX9_order 118 = .ok (.getfield 58, 3) := by decide +kernel
theorem dX9_order_121 : decode cX9_order 121 = .ok (.iload 5, 2) := by decide +kernel
theorem dX9_order_123 : decode cX9_order 123 = .ok (.iaload, 1) := by decide +kernel
theorem dX9_order_124 : decode cX9_order 124 = .ok (.iadd, 1) := by decide +kernel
theorem dX9_order_125 : decode cX9_order 125 = .ok (.iaload, 1) := by decide +kernel
theorem dX9_order_126 : decode cX9_order 126 = .ok (.iastore, 1) := by decide +kernel
theorem dX9_order_127 : decode cX9_order 127 = .ok (.iinc 5 1, 3) := by decide +kernel
theorem dX9_order_130 : decode cX9_order 130 = .ok (.goto (-62), 3) := by decide +kernel
theorem dX9_order_133 : decode cX9_order 133 = .ok (.aload_n 0, 1) := by decide +kernel
theorem dX9_order_134 : decode cX9_order 134 = .ok (.invokevirtual 199, 3) := by decide +kernel
theorem dX9_order_137 : decode cX9_order 137 = .ok (.aload_n 0, 1) := by decide +kernel
theorem dX9_order_138 : decode cX9_order 138 = .ok (.invokevirtual 212, 3) := by decide +kernel
theorem dX9_order_141 : decode cX9_order 141 = .ok (.invokestatic 218, 3) := by decide +kernel
theorem dX9_order_144 : decode cX9_order 144 = .ok (.istore 5, 2) := by decide +kernel
theorem dX9_order_146 : decode cX9_order 146 = .ok (.iload 5, 2) := by decide +kernel
theorem dX9_order_148 : decode cX9_order 148 = .ok (.iload_n 3, 1) := by decide +kernel
theorem dX9_order_149 : decode cX9_order 149 = .ok (.if_icmp .le 22, 3) := by decide +kernel
theorem dX9_order_152 : decode cX9_order 152 = .ok (.iload 5, 2) := by decide +kernel
theorem dX9_order_154 : decode cX9_order 154 = .ok (.istore_n 3, 1) := by decide +kernel
theorem dX9_order_155 : decode cX9_order 155 = .ok (.aload_n 0, 1) := by decide +kernel
theorem dX9_order_156 : decode cX9_order 156 = .ok (.getfield 61, 3) := by decide +kernel
theorem dX9_order_159 : decode cX9_order 159 = .ok (.iconst 0, 1) := by decide +kernel
theorem dX9_order_160 : decode cX9_order 160 = .ok (.aload_n 0, 1) := by decide +kernel
theorem dX9_order_161 : decode cX9_order 161 = .ok (.getfield 58, 3) := by decide +kernel
theorem dX9_order_164 : decode cX9_order 164 = .ok (.aload_n 0, 1) := by decide +kernel
theorem dX9_order_165 : decode cX9_order 165 = .ok (.getfield 85, 3) := by decide +kernel
theorem dX9_order_168 : decode cX9_order 168 = .ok (.invokestatic 145, 3) := by decide +kernel
theorem dX9_order_171 : decode cX9_order 171 = .ok (.iinc 4 1, 3) := by decide +kernel
theorem dX9_order_174 : decode cX9_order 174 = .ok (.goto (-124), 3) := by decide +kernel
theorem dX9_order_177 : decode cX9_order 177 = .ok (.iload_n 1, 1) := by decide +kernel
theorem dX9_order_178 : decode cX9_order 178 = .ok (.ifCond .ge 7, 3) := by decide +kernel
theorem dX9_order_181 : decode cX9_order 181 = .ok (.iload_n 3, 1) := by decide +kernel
theorem dX9_order_182 : decode cX9_order 182 = .ok (.goto 9, 3) := by decide +kernel
theorem dX9_order_185 : decode cX9_order 185 = .ok (.aload_n 0, 1) := by decide +kernel
theorem dX9_order_186 : decode cX9_order 186 = .ok (.getfield 61, 3) := by decide +kernel
theorem dX9_order_189 : decode cX9_order 189 = .ok (.iload_n 1, 1) := by decide +kernel
theorem dX9_order_190 : decode cX9_order 190 = .ok (.iaload, 1) := by decide +kernel
theorem dX9_order_191 : decode cX9_order 191 = .ok (.ireturn, 1) := by decide +kernel
theorem dX9_needed_0 : decode cX9_needed 0 = .ok (.iload_n 1, 1) := by decide +kernel
theorem dX9_needed_1 : decode cX9_needed 1 = .ok (.invokestatic 209, 3) := by decide +kernel
theorem dX9_needed_4 : decode cX9_needed 4 = .ok (.ifCond .ne 5, 3) := by decide +kernel
theorem dX9_needed_7 : decode cX9_needed 7 = .ok (.iconst (-1), 1) := by decide +kernel
theorem dX9_needed_8 : decode cX9_needed 8 = .ok (.ireturn, 1) := by decide +kernel
theorem dX9_needed_9 : decode cX9_needed 9 = .ok (.aload_n 0, 1) := by decide +kernel
theorem dX9_needed_10 : decode cX9_needed 10 = .ok (.invokevirtual 190, 3) := by decide +kernel
theorem dX9_needed_13 : decode cX9_needed 13 = .ok (.aload_n 0, 1) := by decide +kernel
theorem dX9_needed_14 : decode cX9_needed 14 = .ok (.invokevirtual 199, 3) := by decide +kernel
theorem dX9_needed_17 : decode cX9_needed 17 = .ok (.aload_n 0, 1) := by decide +kernel
theorem dX9_needed_18 : decode cX9_needed 18 = .ok (.iload_n 1, 1) := by decide +kernel
theorem dX9_needed_19 : decode cX9_needed 19 = .ok (.invokevirtual 184, 3) := by decide +kernel
theorem dX9_needed_22 : decode cX9_needed 22 = .ok (.invokestatic 218, 3) := by decide +kernel
theorem dX9_needed_25 : decode cX9_needed 25 = .ok (.istore_n 2, 1) := by decide +kernel
theorem dX9_needed_26 : decode cX9_needed 26 = .ok (.iconst 0, 1) := by decide +kernel
theorem dX9_needed_27 : decode cX9_needed 27 = .ok (.istore_n 3, 1) := by decide +kernel
theorem dX9_needed_28 : decode cX9_needed 28 = .ok (.iconst 0, 1) := by decide +kernel
theorem dX9_needed_29 : decode cX9_needed 29 = .ok (.istore 4, 2) := by decide +kernel
theorem dX9_needed_31 : decode cX9_needed 31 = .ok (.iload 4, 2) := by decide +kernel
theorem dX9_needed_33 : decode cX9_needed 33 = .ok (.aload_n 0, 1) := by decide +kernel
theorem dX9_needed_34 : decode cX9_needed 34 = .ok (.getfield 85, 3) := by decide +kernel
theorem dX9_needed_37 : decode cX9_needed 37 = .ok (.if_icmp .ge 53, 3) := by decide +kernel
theorem dX9_needed_40 : decode cX9_needed 40 = .ok (.aload_n 0, 1) := by decide +kernel
theorem dX9_needed_41 : decode cX9_needed 41 = .ok (.invokevirtual 190, 3) := by decide +kernel
theorem dX9_needed_44 : decode cX9_needed 44 = .ok (.aload_n 0, 1) := by decide +kernel
theorem dX9_needed_45 : decode cX9_needed 45 = .ok (.dup, 1) := by decide +kernel
theorem dX9_needed_46 : decode cX9_needed 46 = .ok (.getfield 161, 3) := by decide +kernel
theorem dX9_needed_49 : decode cX9_needed 49 = .ok (.iconst 1, 1) := by decide +kernel
theorem dX9_needed_50 : decode cX9_needed 50 = .ok (.iload 4, 2) := by decide +kernel
theorem dX9_needed_52 : decode cX9_needed 52 = .ok (.ishl, 1) := by decide +kernel
theorem dX9_needed_53 : decode cX9_needed 53 = .ok (.ior, 1) := by decide +kernel
theorem dX9_needed_54 : decode cX9_needed 54 = .ok (.putfield 161, 3) := by decide +kernel
theorem dX9_needed_57 : decode cX9_needed 57 = .ok (.aload_n 0, 1) := by decide +kernel
theorem dX9_needed_58 : decode cX9_needed 58 = .ok (.invokevirtual 199, 3) := by decide +kernel
theorem dX9_needed_61 : decode cX9_needed 61 = .ok (.iload_n 3, 1) := by decide +kernel
theorem dX9_needed_62 : decode cX9_needed 62 = .ok (.aload_n 0, 1) := by decide +kernel
theorem dX9_needed_63 : decode cX9_needed 63 = .ok (.iload_n 1, 1) := by decide +kernel
theorem dX9_needed_64 : decode cX9_needed 64 = .ok (.invokevirtual 184, 3) := by decide +kernel
theorem dX9_needed_67 : decode cX9_needed 67 = .ok (.invokestatic 218, 3) := by decide +kernel
theorem dX9_needed_70 : decode cX9_needed 70 = .ok (.iload_n 2, 1) := by decide +kernel
theorem dX9_needed_71 : decode cX9_needed 71 = .ok (.if_icmp .ge 10, 3) := by decide +kernel
theorem dX9_needed_74 : decode cX9_needed 74 = .ok (.iconst 1, 1) := by decide +kernel
theorem dX9_needed_75 : decode cX9_needed 75 = .ok (.iload 4, 2) := by decide +kernel
theorem dX9_needed_77 : decode cX9_needed 77 = .ok (.ishl, 1) := by decide +kernel
theorem dX9_needed_78 : decode cX9_needed 78 = .ok (.goto 4, 3) := by decide +kernel
theorem dX9_needed_81 : decode cX9_needed 81 = .ok (.iconst 0, 1) := by decide +kernel
theorem dX9_needed_82 : decode cX9_needed 82 = .ok (.ior, 1) := by decide +kernel
theorem dX9_needed_83 : decode cX9_needed 83 = .ok (.istore_n 3, 1) := by decide +kernel
theorem dX9_needed_84 : decode cX9_needed 84 = .ok (.iinc 4 1, 3) := by decide +kernel
theorem dX9_needed_87 : decode cX9_needed 87 = .ok (.goto (-56), 3) := by decide +kernel
theorem dX9_needed_90 : decode cX9_needed 90 = .ok (.iload_n 3, 1) := by decide +kernel
theorem dX9_needed_91 : decode cX9_needed 91 = .ok (.ireturn, 1) := by decide +kernel
theorem dX9_least_0 : decode cX9_least 0 = .ok (.iload_n 1, 1) := by decide +kernel
theorem dX9_least_1 : decode cX9_least 1 = .ok (.invokestatic 209, 3) := by decide +kernel
theorem dX9_least_4 : decode cX9_least 4 = .ok (.ifCond .ne 5, 3) := by decide +kernel
theorem dX9_least_7 : decode cX9_least 7 = .ok (.iconst (-1), 1) := by decide +kernel
theorem dX9_least_8 : decode cX9_least 8 = .ok (.ireturn, 1) := by decide +kernel
theorem dX9_least_9 : decode cX9_least 9 = .ok (.aload_n 0, 1) := by decide +kernel
theorem dX9_least_10 : decode cX9_least 10 = .ok (.invokevirtual 190, 3) := by decide +kernel
theorem dX9_least_13 : decode cX9_least 13 = .ok (.aload_n 0, 1) := by decide +kernel
theorem dX9_least_14 : decode cX9_least 14 = .ok (.invokevirtual 199, 3) := by decide +kernel
theorem dX9_least_17 : decode cX9_least 17 = .ok (.aload_n 0, 1) := by decide +kernel
theorem dX9_least_18 : decode cX9_least 18 = .ok (.iload_n 1, 1) := by decide +kernel
theorem dX9_least_19 : decode cX9_least 19 = .ok (.invokevirtual 184, 3) := by decide +kernel
theorem dX9_least_22 : decode cX9_least 22 = .ok (.invokestatic 218, 3) := by decide +kernel
theorem dX9_least_25 : decode cX9_least 25 = .ok (.istore_n 2, 1) := by decide +kernel
theorem dX9_least_26 : decode cX9_least 26 = .ok (.iconst (-1), 1) := by decide +kernel
theorem dX9_least_27 : decode cX9_least 27 = .ok (.istore_n 3, 1) := by decide +kernel
theorem dX9_least_28 : decode cX9_least 28 = .ok (.iconst 0, 1) := by decide +kernel
theorem dX9_least_29 : decode cX9_least 29 = .ok (.istore 4, 2) := by decide +kernel
theorem dX9_least_31 : decode cX9_least 31 = .ok (.iload 4, 2) := by decide +kernel
theorem dX9_least_33 : decode cX9_least 33 = .ok (.iconst 1, 1) := by decide +kernel
theorem dX9_least_34 : decode cX9_least 34 = .ok (.aload_n 0, 1) := by decide +kernel
theorem dX9_least_35 : decode cX9_least 35 = .ok (.getfield 85, 3) := by decide +kernel
theorem dX9_least_38 : decode cX9_least 38 = .ok (.ishl, 1) := by decide +kernel
theorem dX9_least_39 : decode cX9_least 39 = .ok (.if_icmp .ge 65, 3) := by decide +kernel
theorem dX9_least_42 : decode cX9_least 42 = .ok (.iload_n 3, 1) := by decide +kernel
theorem dX9_least_43 : decode cX9_least 43 = .ok (.ifCond .lt 15, 3) := by decide +kernel
theorem dX9_least_46 : decode cX9_least 46 = .ok (.iload 4, 2) := by decide +kernel
theorem dX9_least_48 : decode cX9_least 48 = .ok (.invokestatic 218, 3) := by decide +kernel
theorem dX9_least_51 : decode cX9_least 51 = .ok (.iload_n 3, 1) := by decide +kernel
theorem dX9_least_52 : decode cX9_least 52 = .ok (.invokestatic 218, 3) := by decide +kernel
theorem dX9_least_55 : decode cX9_least 55 = .ok (.if_icmp .ge 43, 3) := by decide +kernel
theorem dX9_least_58 : decode cX9_least 58 = .ok (.aload_n 0, 1) := by decide +kernel
theorem dX9_least_59 : decode cX9_least 59 = .ok (.invokevirtual 190, 3) := by decide +kernel
theorem dX9_least_62 : decode cX9_least 62 = .ok (.aload_n 0, 1) := by decide +kernel
theorem dX9_least_63 : decode cX9_least 63 = .ok (.dup, 1) := by decide +kernel
theorem dX9_least_64 : decode cX9_least 64 = .ok (.getfield 161, 3) := by decide +kernel
theorem dX9_least_67 : decode cX9_least 67 = .ok (.iload 4, 2) := by decide +kernel
theorem dX9_least_69 : decode cX9_least 69 = .ok (.iconst (-1), 1) := by decide +kernel
theorem dX9_least_70 : decode cX9_least 70 = .ok (.ixor, 1) := by decide +kernel
theorem dX9_least_71 : decode cX9_least 71 = .ok (.ior, 1) := by decide +kernel
theorem dX9_least_72 : decode cX9_least 72 = .ok (.putfield 161, 3) := by decide +kernel
theorem dX9_least_75 : decode cX9_least 75 = .ok (.aload_n 0, 1) := by decide +kernel
theorem dX9_least_76 : decode cX9_least 76 = .ok (.invokevirtual 199, 3) := by decide +kernel
theorem dX9_least_79 : decode cX9_least 79 = .ok (.aload_n 0, 1) := by decide +kernel
theorem dX9_least_80 : decode cX9_least 80 = .ok (.iload_n 1, 1) := by decide +kernel
theorem dX9_least_81 : decode cX9_least 81 = .ok (.invokevirtual 184, 3) := by decide +kernel
theorem dX9_least_84 : decode cX9_least 84 = .ok (.invokestatic 218, 3) := by decide +kernel
theorem dX9_least_87 : decode cX9_least 87 = .ok (.iload_n 2, 1) := by decide +kernel
theorem dX9_least_88 : decode cX9_least 88 = .ok (.if_icmp .lt 8, 3) := by decide +kernel
theorem dX9_least_91 : decode cX9_least 91 = .ok (.iload 4, 2) := by decide +kernel
theorem dX9_least_93 : decode cX9_least 93 = .ok (.goto 4, 3) := by decide +kernel
theorem dX9_least_96 : decode cX9_least 96 = .ok (.iload_n 3, 1) := by decide +kernel
theorem dX9_least_97 : decode cX9_least 97 = .ok (.istore_n 3, 1) := by decide +kernel
theorem dX9_least_98 : decode cX9_least 98 = .ok (.iinc 4 1, 3) := by decide +kernel
theorem dX9_least_101 : decode cX9_least 101 = .ok (.goto (-70), 3) := by decide +kernel
theorem dX9_least_104 : decode cX9_least 104 = .ok (.iload_n 3, 1) := by decide +kernel
theorem dX9_least_105 : decode cX9_least 105 = .ok (.ireturn, 1) := by decide +kernel
theorem dX9_rock_0 : decode cX9_rock 0 = .ok (.iload_n 1, 1) := by decide +kernel
theorem dX9_rock_1 : decode cX9_rock 1 = .ok (.iconst 0, 1) := by decide +kernel
theorem dX9_rock_2 : decode cX9_rock 2 = .ok (.iconst 1, 1) := by decide +kernel
theorem dX9_rock_3 : decode cX9_rock 3 = .ok (.invokestatic 88, 3) := by decide +kernel
theorem dX9_rock_6 : decode cX9_rock 6 = .ok (.ifCond .ne 5, 3) := by decide +kernel
theorem dX9_rock_9 : decode cX9_rock 9 = .ok (.iconst (-1), 1) := by decide +kernel
theorem dX9_rock_10 : decode cX9_rock 10 = .ok (.ireturn, 1) := by decide +kernel
theorem dX9_rock_11 : decode cX9_rock 11 = .ok (.aload_n 0, 1) := by decide +kernel
theorem dX9_rock_12 : decode cX9_rock 12 = .ok (.invokevirtual 190, 3) := by decide +kernel
theorem dX9_rock_15 : decode cX9_rock 15 = .ok (.aload_n 0, 1) := by decide +kernel
theorem dX9_rock_16 : decode cX9_rock 16 = .ok (.invokevirtual 199, 3) := by decide +kernel
theorem dX9_rock_19 : decode cX9_rock 19 = .ok (.iconst 0, 1) := by decide +kernel
theorem dX9_rock_20 : decode cX9_rock 20 = .ok (.istore_n 2, 1) := by decide +kernel
theorem dX9_rock_21 : decode cX9_rock 21 = .ok (.iconst 0, 1) := by decide +kernel
theorem dX9_rock_22 : decode cX9_rock 22 = .ok (.istore_n 3, 1) := by decide +kernel
theorem dX9_rock_23 : decode cX9_rock 23 = .ok (.iload_n 3, 1) := by decide +kernel
theorem dX9_rock_24 : decode cX9_rock 24 = .ok (.bipush 24, 2) := by decide +kernel
theorem dX9_rock_26 : decode cX9_rock 26 = .ok (.if_icmp .ge 29, 3) := by decide +kernel
theorem dX9_rock_29 : decode cX9_rock 29 = .ok (.iload_n 2, 1) := by decide +kernel
theorem dX9_rock_30 : decode cX9_rock 30 = .ok (.aload_n 0, 1) := by decide +kernel
theorem dX9_rock_31 : decode cX9_rock 31 = .ok (.getfield 55, 3) := by decide +kernel
theorem dX9_rock_34 : decode cX9_rock 34 = .ok (.iload_n 3, 1) := by decide +kernel
theorem dX9_rock_35 : decode cX9_rock 35 = .ok (.iaload, 1) := by decide +kernel
theorem dX9_rock_36 : decode cX9_rock 36 = .ok (.iconst 4, 1) := by decide +kernel
theorem dX9_rock_37 : decode cX9_rock 37 = .ok (.if_icmp .eq 9, 3) := by decide +kernel
theorem dX9_rock_40 : decode cX9_rock 40 = .ok (.iconst 1, 1) := by decide +kernel
theorem dX9_rock_41 : decode cX9_rock 41 = .ok (.iload_n 3, 1) := by decide +kernel
theorem dX9_rock_42 : decode cX9_rock 42 = .ok (.ishl, 1) := by decide +kernel
theorem dX9_rock_43 : decode cX9_rock 43 = .ok (.goto 4, 3) := by decide +kernel
theorem dX9_rock_46 : decode cX9_rock 46 = .ok (.iconst 0, 1) := by decide +kernel
theorem dX9_rock_47 : decode cX9_rock 47 = .ok (.ior, 1) := by decide +kernel
theorem dX9_rock_48 : decode cX9_rock 48 = .ok (.istore_n 2, 1) := by decide +kernel
theorem dX9_rock_49 : decode cX9_rock 49 = .ok (.iinc 3 1, 3) := by decide +kernel
theorem dX9_rock_52 : decode cX9_rock 52 = .ok (.goto (-29), 3) := by decide +kernel
theorem dX9_rock_55 : decode cX9_rock 55 = .ok (.bipush (-4), 2) := by decide +kernel
theorem dX9_rock_57 : decode cX9_rock 57 = .ok (.istore_n 3, 1) := by decide +kernel
theorem dX9_rock_58 : decode cX9_rock 58 = .ok (.bipush (-4), 2) := by decide +kernel
theorem dX9_rock_60 : decode cX9_rock 60 = .ok (.istore 4, 2) := by decide +kernel
theorem dX9_rock_62 : decode cX9_rock 62 = .ok (.iconst 0, 1) := by decide +kernel
theorem dX9_rock_63 : decode cX9_rock 63 = .ok (.istore 5, 2) := by decide +kernel
theorem dX9_rock_65 : decode cX9_rock 65 = .ok (.iload 5, 2) := by decide +kernel
theorem dX9_rock_67 : decode cX9_rock 67 = .ok (.bipush 24, 2) := by decide +kernel
theorem dX9_rock_69 : decode cX9_rock 69 = .ok (.if_icmp .ge 122, 3) := by decide +kernel
theorem dX9_rock_72 : decode cX9_rock 72 = .ok (.iload_n 2, 1) := by decide +kernel
theorem dX9_rock_73 : decode cX9_rock 73 = .ok (.iload 5, 2) := by decide +kernel
theorem dX9_rock_75 : decode cX9_rock 75 = .ok (.invokestatic 167, 3) := by decide +kernel
theorem dX9_rock_78 : decode cX9_rock 78 = .ok (.ifCond .eq 107, 3) := by decide +kernel
theorem dX9_rock_81 : decode cX9_rock 81 = .ok (.aload_n 0, 1) := by decide +kernel
theorem dX9_rock_82 : decode cX9_rock 82 = .ok (.invokevirtual 190, 3) := by decide +kernel
theorem dX9_rock_85 : decode cX9_rock 85 = .ok (.aload_n 0, 1) := by decide +kernel
theorem dX9_rock_86 : decode cX9_rock 86 = .ok (.getfield 49, 3) := by decide +kernel
theorem dX9_rock_89 : decode cX9_rock 89 = .ok (.iconst 1, 1) := by decide +kernel
theorem dX9_rock_90 : decode cX9_rock 90 = .ok (.dup2, 1) := by decide +kernel
theorem dX9_rock_91 : decode cX9_rock 91 = .ok (.iaload, 1) := by decide +kernel
theorem dX9_rock_92 : decode cX9_rock 92 = .ok (.iconst 1, 1) := by decide +kernel
theorem dX9_rock_93 : decode cX9_rock 93 = .ok (.iload 5, 2) := by decide +kernel
theorem dX9_rock_95 : decode cX9_rock 95 = .ok (.ishl, 1) := by decide +kernel
theorem dX9_rock_96 : decode cX9_rock 96 = .ok (.ior, 1) := by decide +kernel
theorem dX9_rock_97 : decode cX9_rock 97 = .ok (.iastore, 1) := by decide +kernel
theorem dX9_rock_98 : decode cX9_rock 98 = .ok (.aload_n 0, 1) := by decide +kernel
theorem dX9_rock_99 : decode cX9_rock 99 = .ok (.invokevirtual 199, 3) := by decide +kernel
theorem dX9_rock_102 : decode cX9_rock 102 = .ok (.iconst 0, 1) := by decide +kernel
theorem dX9_rock_103 : decode cX9_rock 103 = .ok (.istore 6, 2) := by decide +kernel
theorem dX9_rock_105 : decode cX9_rock 105 = .ok (.iconst 0, 1) := by decide +kernel
theorem dX9_rock_106 : decode cX9_rock 106 = .ok (.istore 7, 2) := by decide +kernel
theorem dX9_rock_108 : decode cX9_rock 108 = .ok (.iload 7, 2) := by decide +kernel
theorem dX9_rock_110 : decode cX9_rock 110 = .ok (.iconst 4, 1) := by decide +kernel
theorem dX9_rock_111 : decode cX9_rock 111 = .ok (.if_icmp .ge 28, 3) := by decide +kernel
theorem dX9_rock_114 : decode cX9_rock 114 = .ok (.iload 6, 2) := by decide +kernel
theorem dX9_rock_116 : decode cX9_rock 116 = .ok (.aload_n 0, 1) := by decide +kernel
theorem dX9_rock_117 : decode cX9_rock 117 = .ok (.getfield 92, 3) := by decide +kernel
theorem dX9_rock_120 : decode cX9_rock 120 = .ok (.aload_n 0, 1) := by decide +kernel
theorem dX9_rock_121 : decode cX9_rock 121 = .ok (.iload 7, 2) := by decide +kernel
theorem dX9_rock_123 : decode cX9_rock 123 = .ok (.invokevirtual 184, 3) := by decide +kernel
theorem dX9_rock_126 : decode cX9_rock 126 = .ok (.invokestatic 218, 3) := by decide +kernel
theorem dX9_rock_129 : decode cX9_rock 129 = .ok (.isub, 1) := by decide +kernel
theorem dX9_rock_130 : decode cX9_rock 130 = .ok (.iadd, 1) := by decide +kernel
theorem dX9_rock_131 : decode cX9_rock 131 = .ok (.istore 6, 2) := by decide +kernel
theorem dX9_rock_133 : decode cX9_rock 133 = .ok (.iinc 7 1, 3) := by decide +kernel
theorem dX9_rock_136 : decode cX9_rock 136 = .ok (.goto (-28), 3) := by decide +kernel
theorem dX9_rock_139 : decode cX9_rock 139 = .ok (.iload_n 3, 1) := by decide +kernel
theorem dX9_rock_140 : decode cX9_rock 140 = .ok (.bipush (-4), 2) := by decide +kernel
theorem dX9_rock_142 : decode cX9_rock 142 = .ok (.if_icmp .eq 10, 3) := by decide +kernel
theorem dX9_rock_145 : decode cX9_rock 145 = .ok (.iload 6, 2) := by decide +kernel
theorem dX9_rock_147 : decode cX9_rock 147 = .ok (.iload 4, 2) := by decide +kernel
theorem dX9_rock_149 : decode cX9_rock 149 = .ok (.if_icmp .ge 7, 3) := by decide +kernel
theorem dX9_rock_152 : decode cX9_rock 152 = .ok (.iconst 1, 1) := by decide +kernel
theorem dX9_rock_153 : decode cX9_rock 153 = .ok (.goto 4, 3) := by decide +kernel
theorem dX9_rock_156 : decode cX9_rock 156 = .ok (.iconst 0, 1) := by decide +kernel
theorem dX9_rock_157 : decode cX9_rock 157 = .ok (.istore 7, 2) := by decide +kernel
theorem dX9_rock_159 : decode cX9_rock 159 = .ok (.iload 7, 2) := by decide +kernel
theorem dX9_rock_161 : decode cX9_rock 161 = .ok (.ifCond .eq 8, 3) := by decide +kernel
theorem dX9_rock_164 : decode cX9_rock 164 = .ok (.iload 5, 2) := by decide +kernel
theorem dX9_rock_166 : decode cX9_rock 166 = .ok (.goto 4, 3) := by decide +kernel
theorem dX9_rock_169 : decode cX9_rock 169 = .ok (.iload_n 3, 1) := by decide +kernel
theorem dX9_rock_170 : decode cX9_rock 170 = .ok (.istore_n 3, 1) := by decide +kernel
theorem dX9_rock_171 : decode cX9_rock 171 = .ok (.iload 7, 2) := by decide +kernel
theorem dX9_rock_173 : decode cX9_rock 173 = .ok (.ifCond .eq 8, 3) := by decide +kernel
theorem dX9_rock_176 : decode cX9_rock 176 = .ok (.iload 6, 2) := by decide +kernel
theorem dX9_rock_178 : decode cX9_rock 178 = .ok (.goto 5, 3) := by decide +kernel
theorem dX9_rock_181 : decode cX9_rock 181 = .ok (.iload 4, 2) := by decide +kernel
theorem dX9_rock_183 : decode cX9_rock 183 = .ok (.istore 4, 2) := by decide +kernel
theorem dX9_rock_185 : decode cX9_rock 185 = .ok (.iinc 5 1, 3) := by decide +kernel
theorem dX9_rock_188 : decode cX9_rock 188 = .ok (.goto (-123), 3) := by decide +kernel
theorem dX9_rock_191 : decode cX9_rock 191 = .ok (.iload_n 1, 1) := by decide +kernel
theorem dX9_rock_192 : decode cX9_rock 192 = .ok (.ifCond .ne 7, 3) := by decide +kernel
theorem dX9_rock_195 : decode cX9_rock 195 = .ok (.iload_n 3, 1) := by decide +kernel
theorem dX9_rock_196 : decode cX9_rock 196 = .ok (.goto 5, 3) := by decide +kernel
theorem dX9_rock_199 : decode cX9_rock 199 = .ok (.iload 4, 2) := by decide +kernel
theorem dX9_rock_201 : decode cX9_rock 201 = .ok (.ireturn, 1) := by decide +kernel
theorem dX9_row_0 : decode cX9_row 0 = .ok (.iload_n 1, 1) := by decide +kernel
theorem dX9_row_1 : decode cX9_row 1 = .ok (.iconst 0, 1) := by decide +kernel
theorem dX9_row_2 : decode cX9_row 2 = .ok (.iconst 4, 1) := by decide +kernel
theorem dX9_row_3 : decode cX9_row 3 = .ok (.invokestatic 88, 3) := by decide +kernel
theorem dX9_row_6 : decode cX9_row 6 = .ok (.ifCond .eq 31, 3) := by decide +kernel
theorem dX9_row_9 : decode cX9_row 9 = .ok (.iload_n 2, 1) := by decide +kernel
theorem dX9_row_10 : decode cX9_row 10 = .ok (.iconst 0, 1) := by decide +kernel
theorem dX9_row_11 : decode cX9_row 11 = .ok (.iconst 4, 1) := by decide +kernel
theorem dX9_row_12 : decode cX9_row 12 = .ok (.invokestatic 88, 3) := by decide +kernel
theorem dX9_row_15 : decode cX9_row 15 = .ok (.ifCond .eq 22, 3) := by decide +kernel
theorem dX9_row_18 : decode cX9_row 18 = .ok (.iload_n 3, 1) := by decide +kernel
theorem dX9_row_19 : decode cX9_row 19 = .ok (.iconst 0, 1) := by decide +kernel
theorem dX9_row_20 : decode cX9_row 20 = .ok (.iconst 4, 1) := by decide +kernel
theorem dX9_row_21 : decode cX9_row 21 = .ok (.invokestatic 88, 3) := by decide +kernel
theorem dX9_row_24 : decode cX9_row 24 = .ok (.ifCond .eq 13, 3) := by decide +kernel
theorem dX9_row_27 : decode cX9_row 27 = .ok (.iload 4, 2) := by decide +kernel
theorem dX9_row_29 : decode cX9_row 29 = .ok (.iconst 0, 1) := by decide +kernel
theorem dX9_row_30 : decode cX9_row 30 = .ok (.iconst 1, 1) := by decide +kernel
theorem dX9_row_31 : decode cX9_row 31 = .ok (.invokestatic 88, 3) := by decide +kernel
theorem dX9_row_34 : decode cX9_row 34 = .ok (.ifCond .ne 5, 3) := by decide +kernel
theorem dX9_row_37 : decode cX9_row 37 = .ok (.iconst (-1), 1) := by decide +kernel
theorem dX9_row_38 : decode cX9_row 38 = .ok (.ireturn, 1) := by decide +kernel
theorem dX9_row_39 : decode cX9_row 39 = .ok (.aload_n 0, 1) := by decide +kernel
theorem dX9_row_40 : decode cX9_row 40 = .ok (.invokevirtual 190, 3) := by decide +kernel
theorem dX9_row_43 : decode cX9_row 43 = .ok (.aload_n 0, 1) := by decide +kernel
theorem dX9_row_44 : decode cX9_row 44 = .ok (.invokevirtual 199, 3) := by decide +kernel
theorem dX9_row_47 : decode cX9_row 47 = .ok (.iconst 0, 1) := by decide +kernel
theorem dX9_row_48 : decode cX9_row 48 = .ok (.istore 5, 2) := by decide +kernel
theorem dX9_row_50 : decode cX9_row 50 = .ok (.bipush (-4), 2) := by decide +kernel
theorem dX9_row_52 : decode cX9_row 52 = .ok (.istore 6, 2) := by decide +kernel
theorem dX9_row_54 : decode cX9_row 54 = .ok (.bipush 23, 2) := by decide +kernel
theorem dX9_row_56 : decode cX9_row 56 = .ok (.istore 7, 2) := by decide +kernel
theorem dX9_row_58 : decode cX9_row 58 = .ok (.iload 7, 2) := by decide +kernel
theorem dX9_row_60 : decode cX9_row 60 = .ok (.ifCond .lt 88, 3) := by decide +kernel
theorem dX9_row_63 : decode cX9_row 63 = .ok (.aload_n 0, 1) := by decide +kernel
theorem dX9_row_64 : decode cX9_row 64 = .ok (.getfield 55, 3) := by decide +kernel
theorem dX9_row_67 : decode cX9_row 67 = .ok (.iload 7, 2) := by decide +kernel
theorem dX9_row_69 : decode cX9_row 69 = .ok (.iaload, 1) := by decide +kernel
theorem dX9_row_70 : decode cX9_row 70 = .ok (.iload_n 1, 1) := by decide +kernel
theorem dX9_row_71 : decode cX9_row 71 = .ok (.if_icmp .ne 39, 3) := by decide +kernel
theorem dX9_row_74 : decode cX9_row 74 = .ok (.aload_n 0, 1) := by decide +kernel
theorem dX9_row_75 : decode cX9_row 75 = .ok (.getfield 55, 3) := by decide +kernel
theorem dX9_row_78 : decode cX9_row 78 = .ok (.iload 7, 2) := by decide +kernel
theorem dX9_row_80 : decode cX9_row 80 = .ok (.iconst 1, 1) := by decide +kernel
theorem dX9_row_81 : decode cX9_row 81 = .ok (.iadd, 1) := by decide +kernel
theorem dX9_row_82 : decode cX9_row 82 = .ok (.bipush 24, 2) := by decide +kernel
theorem dX9_row_84 : decode cX9_row 84 = .ok (.irem, 1) := by decide +kernel
theorem dX9_row_85 : decode cX9_row 85 = .ok (.iaload, 1) := by decide +kernel
theorem dX9_row_86 : decode cX9_row 86 = .ok (.iload_n 2, 1) := by decide +kernel
theorem dX9_row_87 : decode cX9_row 87 = .ok (.if_icmp .ne 23, 3) := by decide +kernel
theorem dX9_row_90 : decode cX9_row 90 = .ok (.aload_n 0, 1) := by decide +kernel
theorem dX9_row_91 : decode cX9_row 91 = .ok (.getfield 55, 3) := by decide +kernel
theorem dX9_row_94 : decode cX9_row 94 = .ok (.iload 7, 2) := by decide +kernel
theorem dX9_row_96 : decode cX9_row 96 = .ok (.iconst 2, 1) := by decide +kernel
theorem dX9_row_97 : decode cX9_row 97 = .ok (.iadd, 1) := by decide +kernel
theorem dX9_row_98 : decode cX9_row 98 = .ok (.bipush 24, 2) := by decide +kernel
theorem dX9_row_100 : decode cX9_row 100 = .ok (.irem, 1) := by decide +kernel
theorem dX9_row_101 : decode cX9_row 101 = .ok (.iaload, 1) := by decide +kernel
theorem dX9_row_102 : decode cX9_row 102 = .ok (.iload_n 3, 1) := by decide +kernel
theorem dX9_row_103 : decode cX9_row 103 = .ok (.if_icmp .ne 7, 3) := by decide +kernel
theorem dX9_row_106 : decode cX9_row 106 = .ok (.iconst 1, 1) := by decide +kernel
theorem dX9_row_107 : decode cX9_row 107 = .ok (.goto 4, 3) := by decide +kernel
theorem dX9_row_110 : decode cX9_row 110 = .ok (.iconst 0, 1) := by decide +kernel
theorem dX9_row_111 : decode cX9_row 111 = .ok (.istore 8, 2) := by decide +kernel
theorem dX9_row_113 : decode cX9_row 113 = .ok (.iload 5, 2) := by decide +kernel
theorem dX9_row_115 : decode cX9_row 115 = .ok (.iload 8, 2) := by decide +kernel
theorem dX9_row_117 : decode cX9_row 117 = .ok (.ifCond .eq 7, 3) := by decide +kernel
theorem dX9_row_120 : decode cX9_row 120 = .ok (.iconst 1, 1) := by decide +kernel
theorem dX9_row_121 : decode cX9_row 121 = .ok (.goto 4, 3) := by decide +kernel
theorem dX9_row_124 : decode cX9_row 124 = .ok (.iconst 0, 1) := by decide +kernel
theorem dX9_row_125 : decode cX9_row 125 = .ok (.iadd, 1) := by decide +kernel
theorem dX9_row_126 : decode cX9_row 126 = .ok (.istore 5, 2) := by decide +kernel
theorem dX9_row_128 : decode cX9_row 128 = .ok (.iload 8, 2) := by decide +kernel
theorem dX9_row_130 : decode cX9_row 130 = .ok (.ifCond .eq 8, 3) := by decide +kernel
theorem dX9_row_133 : decode cX9_row 133 = .ok (.iload 7, 2) := by decide +kernel
theorem dX9_row_135 : decode cX9_row 135 = .ok (.goto 5, 3) := by decide +kernel
theorem dX9_row_138 : decode cX9_row 138 = .ok (.iload 6, 2) := by decide +kernel
theorem dX9_row_140 : decode cX9_row 140 = .ok (.istore 6, 2) := by decide +kernel
theorem dX9_row_142 : decode cX9_row 142 = .ok (.iinc 7 (-1), 3) := by decide +kernel
theorem dX9_row_145 : decode cX9_row 145 = .ok (.goto (-87), 3) := by decide +kernel
theorem dX9_row_148 : decode cX9_row 148 = .ok (.iload 4, 2) := by decide +kernel
theorem dX9_row_150 : decode cX9_row 150 = .ok (.ifCond .ne 8, 3) := by decide +kernel
theorem dX9_row_153 : decode cX9_row 153 = .ok (.iload 5, 2) := by decide +kernel
theorem dX9_row_155 : decode cX9_row 155 = .ok (.goto 5, 3) := by decide +kernel
theorem dX9_row_158 : decode cX9_row 158 = .ok (.iload 6, 2) := by decide +kernel
theorem dX9_row_160 : decode cX9_row 160 = .ok (.ireturn, 1) := by decide +kernel
theorem dX9_look_0 : decode cX9_look 0 = .ok (.iload_n 1, 1) := by decide +kernel
theorem dX9_look_1 : decode cX9_look 1 = .ok (.invokestatic 196, 3) := by decide +kernel
theorem dX9_look_4 : decode cX9_look 4 = .ok (.ifCond .eq 12, 3) := by decide +kernel
theorem dX9_look_7 : decode cX9_look 7 = .ok (.iload_n 2, 1) := by decide +kernel
theorem dX9_look_8 : decode cX9_look 8 = .ok (.iconst 0, 1) := by decide +kernel
theorem dX9_look_9 : decode cX9_look 9 = .ok (.iconst 4, 1) := by decide +kernel
theorem dX9_look_10 : decode cX9_look 10 = .ok (.invokestatic 88, 3) := by decide +kernel
theorem dX9_look_13 : decode cX9_look 13 = .ok (.ifCond .ne 5, 3) := by decide +kernel
theorem dX9_look_16 : decode cX9_look 16 = .ok (.iconst (-1), 1) := by decide +kernel
theorem dX9_look_17 : decode cX9_look 17 = .ok (.ireturn, 1) := by decide +kernel
theorem dX9_look_18 : decode cX9_look 18 = .ok (.aload_n 0, 1) := by decide +kernel
theorem dX9_look_19 : decode cX9_look 19 = .ok (.getfield 155, 3) := by decide +kernel
theorem dX9_look_22 : decode cX9_look 22 = .ok (.bipush 8, 2) := by decide +kernel
theorem dX9_look_24 : decode cX9_look 24 = .ok (.if_icmp .ne 6, 3) := by decide +kernel
theorem dX9_look_27 : decode cX9_look 27 = .ok (.bipush (-3), 2) := by decide +kernel
theorem dX9_look_29 : decode cX9_look 29 = .ok (.ireturn, 1) := by decide +kernel
theorem dX9_look_30 : decode cX9_look 30 = .ok (.aload_n 0, 1) := by decide +kernel
theorem dX9_look_31 : decode cX9_look 31 = .ok (.getfield 28, 3) := by decide +kernel
theorem dX9_look_34 : decode cX9_look 34 = .ok (.iconst 2, 1) := by decide +kernel
theorem dX9_look_35 : decode cX9_look 35 = .ok (.aload_n 0, 1) := by decide +kernel
theorem dX9_look_36 : decode cX9_look 36 = .ok (.getfield 155, 3) := by decide +kernel
theorem dX9_look_39 : decode cX9_look 39 = .ok (.imul, 1) := by decide +kernel
theorem dX9_look_40 : decode cX9_look 40 = .ok (.iload_n 1, 1) := by decide +kernel
theorem dX9_look_41 : decode cX9_look 41 = .ok (.iastore, 1) := by decide +kernel
theorem dX9_look_42 : decode cX9_look 42 = .ok (.aload_n 0, 1) := by decide +kernel
theorem dX9_look_43 : decode cX9_look 43 = .ok (.getfield 28, 3) := by decide +kernel
theorem dX9_look_46 : decode cX9_look 46 = .ok (.iconst 2, 1) := by decide +kernel
theorem dX9_look_47 : decode cX9_look 47 = .ok (.aload_n 0, 1) := by decide +kernel
theorem dX9_look_48 : decode cX9_look 48 = .ok (.getfield 155, 3) := by decide +kernel
theorem dX9_look_51 : decode cX9_look 51 = .ok (.imul, 1) := by decide +kernel
theorem dX9_look_52 : decode cX9_look 52 = .ok (.iconst 1, 1) := by decide +kernel
theorem dX9_look_53 : decode cX9_look 53 = .ok (.iadd, 1) := by decide +kernel
theorem dX9_look_54 : decode cX9_look 54 = .ok (.iload_n 2, 1) := by decide +kernel
theorem dX9_look_55 : decode cX9_look 55 = .ok (.iastore, 1) := by decide +kernel
theorem dX9_look_56 : decode cX9_look 56 = .ok (.aload_n 0, 1) := by decide +kernel
theorem dX9_look_57 : decode cX9_look 57 = .ok (.dup, 1) := by decide +kernel
theorem dX9_look_58 : decode cX9_look 58 = .ok (.getfield 155, 3) := by decide +kernel
theorem dX9_look_61 : decode cX9_look 61 = .ok (.iconst 1, 1) := by decide +kernel
theorem dX9_look_62 : decode cX9_look 62 = .ok (.iadd, 1) := by decide +kernel
theorem dX9_look_63 : decode cX9_look 63 = .ok (.putfield 155, 3) := by decide +kernel
theorem dX9_look_66 : decode cX9_look 66 = .ok (.aload_n 0, 1) := by decide +kernel
theorem dX9_look_67 : decode cX9_look 67 = .ok (.getfield 155, 3) := by decide +kernel
theorem dX9_look_70 : decode cX9_look 70 = .ok (.ireturn, 1) := by decide +kernel
theorem dX9_forget_0 : decode cX9_forget 0 = .ok (.aload_n 0, 1) := by decide +kernel
theorem dX9_forget_1 : decode cX9_forget 1 = .ok (.getfield 155, 3) := by decide +kernel
theorem dX9_forget_4 : decode cX9_forget 4 = .ok (.istore_n 1, 1) := by decide +kernel
theorem dX9_forget_5 : decode cX9_forget 5 = .ok (.aload_n 0, 1) := by decide +kernel
theorem dX9_forget_6 : decode cX9_forget 6 = .ok (.iconst 0, 1) := by decide +kernel
theorem dX9_forget_7 : decode cX9_forget 7 = .ok (.putfield 155, 3) := by decide +kernel
theorem dX9_forget_10 : decode cX9_forget 10 = .ok (.iload_n 1, 1) := by decide +kernel
theorem dX9_forget_11 : decode cX9_forget 11 = .ok (.ireturn, 1) := by decide +kernel
theorem dX9_behind_0 : decode cX9_behind 0 = .ok (.iload_n 1, 1) := by decide +kernel
theorem dX9_behind_1 : decode cX9_behind 1 = .ok (.iconst 0, 1) := by decide +kernel
theorem dX9_behind_2 : decode cX9_behind 2 = .ok (.iconst 1, 1) := by decide +kernel
theorem dX9_behind_3 : decode cX9_behind 3 = .ok (.invokestatic 88, 3) := by decide +kernel
theorem dX9_behind_6 : decode cX9_behind 6 = .ok (.ifCond .ne 5, 3) := by decide +kernel
theorem dX9_behind_9 : decode cX9_behind 9 = .ok (.iconst (-1), 1) := by decide +kernel
theorem dX9_behind_10 : decode cX9_behind 10 = .ok (.ireturn, 1) := by decide +kernel
theorem dX9_behind_11 : decode cX9_behind 11 = .ok (.aload_n 0, 1) := by decide +kernel
theorem dX9_behind_12 : decode cX9_behind 12 = .ok (.invokevirtual 190, 3) := by decide +kernel
theorem dX9_behind_15 : decode cX9_behind 15 = .ok (.iconst 0, 1) := by decide +kernel
theorem dX9_behind_16 : decode cX9_behind 16 = .ok (.istore_n 2, 1) := by decide +kernel
theorem dX9_behind_17 : decode cX9_behind 17 = .ok (.bipush (-4), 2) := by decide +kernel
theorem dX9_behind_19 : decode cX9_behind 19 = .ok (.istore_n 3, 1) := by decide +kernel
theorem dX9_behind_20 : decode cX9_behind 20 = .ok (.iconst 1, 1) := by decide +kernel
theorem dX9_behind_21 : decode cX9_behind 21 = .ok (.aload_n 0, 1) := by decide +kernel
theorem dX9_behind_22 : decode cX9_behind 22 = .ok (.getfield 85, 3) := by decide +kernel
theorem dX9_behind_25 : decode cX9_behind 25 = .ok (.ishl, 1) := by decide +kernel
theorem dX9_behind_26 : decode cX9_behind 26 = .ok (.iconst 1, 1) := by decide +kernel
theorem dX9_behind_27 : decode cX9_behind 27 = .ok (.isub, 1) := by decide +kernel
theorem dX9_behind_28 : decode cX9_behind 28 = .ok (.istore 4, 2) := by decide +kernel
theorem dX9_behind_30 : decode cX9_behind 30 = .ok (.iload 4, 2) := by decide +kernel
theorem dX9_behind_32 : decode cX9_behind 32 = .ok (.ifCond .lt 105, 3) := by decide +kernel
theorem dX9_behind_35 : decode cX9_behind 35 = .ok (.aload_n 0, 1) := by decide +kernel
theorem dX9_behind_36 : decode cX9_behind 36 = .ok (.iload 4, 2) := by decide +kernel
theorem dX9_behind_38 : decode cX9_behind 38 = .ok (.putfield 161, 3) := by decide +kernel
theorem dX9_behind_41 : decode cX9_behind 41 = .ok (.aload_n 0, 1) := by decide +kernel
theorem dX9_behind_42 : decode cX9_behind 42 = .ok (.invokevirtual 199, 3) := by decide +kernel
theorem dX9_behind_45 : decode cX9_behind 45 = .ok (.iconst 1, 1) := by decide +kernel
theorem dX9_behind_46 : decode cX9_behind 46 = .ok (.istore 5, 2) := by decide +kernel
theorem dX9_behind_48 : decode cX9_behind 48 = .ok (.iconst 0, 1) := by decide +kernel
theorem dX9_behind_49 : decode cX9_behind 49 = .ok (.istore 6, 2) := by decide +kernel
theorem dX9_behind_51 : decode cX9_behind 51 = .ok (.iload 6, 2) := by decide +kernel
theorem dX9_behind_53 : decode cX9_behind 53 = .ok (.aload_n 0, 1) := by decide +kernel
theorem dX9_behind_54 : decode cX9_behind 54 = .ok (.getfield 155, 3) := by decide +kernel
theorem dX9_behind_57 : decode cX9_behind 57 = .ok (.if_icmp .ge 49, 3) := by decide +kernel
theorem dX9_behind_60 : decode cX9_behind 60 = .ok (.iload 5, 2) := by decide +kernel
theorem dX9_behind_62 : decode cX9_behind 62 = .ok (.ifCond .eq 35, 3) := by decide +kernel
theorem dX9_behind_65 : decode cX9_behind 65 = .ok (.aload_n 0, 1) := by decide +kernel
theorem dX9_behind_66 : decode cX9_behind 66 = .ok (.getfield 55, 3) := by decide +kernel
theorem dX9_behind_69 : decode cX9_behind 69 = .ok (.aload_n 0, 1) := by decide +kernel
theorem dX9_behind_70 : decode cX9_behind 70 = .ok (.getfield 28, 3) := by decide +kernel
theorem dX9_behind_73 : decode cX9_behind 73 = .ok (.iconst 2, 1) := by decide +kernel
theorem dX9_behind_74 : decode cX9_behind 74 = .ok (.iload 6, 2) := by decide +kernel
theorem dX9_behind_76 : decode cX9_behind 76 = .ok (.imul, 1) := by decide +kernel
theorem dX9_behind_77 : decode cX9_behind 77 = .ok (.iaload, 1) := by decide +kernel
theorem dX9_behind_78 : decode cX9_behind 78 = .ok (.iaload, 1) := by decide +kernel
theorem dX9_behind_79 : decode cX9_behind 79 = .ok (.aload_n 0, 1) := by decide +kernel
theorem dX9_behind_80 : decode cX9_behind 80 = .ok (.getfield 28, 3) := by decide +kernel
theorem dX9_behind_83 : decode cX9_behind 83 = .ok (.iconst 2, 1) := by decide +kernel
theorem dX9_behind_84 : decode cX9_behind 84 = .ok (.iload 6, 2) := by decide +kernel
theorem dX9_behind_86 : decode cX9_behind 86 = .ok (.imul, 1) := by decide +kernel
theorem dX9_behind_87 : decode cX9_behind 87 = .ok (.iconst 1, 1) := by decide +kernel
theorem dX9_behind_88 : decode cX9_behind 88 = .ok (.iadd, 1) := by decide +kernel
theorem dX9_behind_89 : decode cX9_behind 89 = .ok (.iaload, 1) := by decide +kernel
theorem dX9_behind_90 : decode cX9_behind 90 = .ok (.if_icmp .ne 7, 3) := by decide +kernel
theorem dX9_behind_93 : decode cX9_behind 93 = .ok (.iconst 1, 1) := by decide +kernel
theorem dX9_behind_94 : decode cX9_behind 94 = .ok (.goto 4, 3) := by decide +kernel
theorem dX9_behind_97 : decode cX9_behind 97 = .ok (.iconst 0, 1) := by decide +kernel
end
section
theorem dX9_behind_98 : decode cX9_behind 98 = .ok (.istore 5, 2) := by decide +kernel
theorem dX9_behind_100 : decode cX9_behind 100 = .ok (.iinc 6 1, 3) := by decide +kernel
theorem dX9_behind_103 : decode cX9_behind 103 = .ok (.goto (-52), 3) := by decide +kernel
theorem dX9_behind_106 : decode cX9_behind 106 = .ok (.iload_n 2, 1) := by decide +kernel
theorem dX9_behind_107 : decode cX9_behind 107 = .ok (.iload 5, 2) := by decide +kernel
theorem dX9_behind_109 : decode cX9_behind 109 = .ok (.ifCond .eq 7, 3) := by decide +kernel
theorem dX9_behind_112 : decode cX9_behind 112 = .ok (.iconst 1, 1) := by decide +kernel
theorem dX9_behind_113 : decode cX9_behind 113 = .ok (.goto 4, 3) := by decide +kernel
theorem dX9_behind_116 : decode cX9_behind 116 = .ok (.iconst 0, 1) := by decide +kernel
theorem dX9_behind_117 : decode cX9_behind 117 = .ok (.iadd, 1) := by decide +kernel
theorem dX9_behind_118 : decode cX9_behind 118 = .ok (.istore_n 2, 1) := by decide +kernel
theorem dX9_behind_119 : decode cX9_behind 119 = .ok (.iload 5, 2) := by decide +kernel
theorem dX9_behind_121 : decode cX9_behind 121 = .ok (.ifCond .eq 8, 3) := by decide +kernel
theorem dX9_behind_124 : decode cX9_behind 124 = .ok (.iload 4, 2) := by decide +kernel
theorem dX9_behind_126 : decode cX9_behind 126 = .ok (.goto 4, 3) := by decide +kernel
theorem dX9_behind_129 : decode cX9_behind 129 = .ok (.iload_n 3, 1) := by decide +kernel
theorem dX9_behind_130 : decode cX9_behind 130 = .ok (.istore_n 3, 1) := by decide +kernel
theorem dX9_behind_131 : decode cX9_behind 131 = .ok (.iinc 4 (-1), 3) := by decide +kernel
theorem dX9_behind_134 : decode cX9_behind 134 = .ok (.goto (-104), 3) := by decide +kernel
theorem dX9_behind_137 : decode cX9_behind 137 = .ok (.iload_n 1, 1) := by decide +kernel
theorem dX9_behind_138 : decode cX9_behind 138 = .ok (.ifCond .ne 7, 3) := by decide +kernel
theorem dX9_behind_141 : decode cX9_behind 141 = .ok (.iload_n 2, 1) := by decide +kernel
theorem dX9_behind_142 : decode cX9_behind 142 = .ok (.goto 4, 3) := by decide +kernel
theorem dX9_behind_145 : decode cX9_behind 145 = .ok (.iload_n 3, 1) := by decide +kernel
theorem dX9_behind_146 : decode cX9_behind 146 = .ok (.ireturn, 1) := by decide +kernel
theorem dX9_panes_0 : decode cX9_panes 0 = .ok (.aload_n 0, 1) := by decide +kernel
theorem dX9_panes_1 : decode cX9_panes 1 = .ok (.invokevirtual 190, 3) := by decide +kernel
theorem dX9_panes_4 : decode cX9_panes 4 = .ok (.aload_n 0, 1) := by decide +kernel
theorem dX9_panes_5 : decode cX9_panes 5 = .ok (.invokevirtual 199, 3) := by decide +kernel
theorem dX9_panes_8 : decode cX9_panes 8 = .ok (.iconst 0, 1) := by decide +kernel
theorem dX9_panes_9 : decode cX9_panes 9 = .ok (.istore_n 1, 1) := by decide +kernel
theorem dX9_panes_10 : decode cX9_panes 10 = .ok (.iconst 0, 1) := by decide +kernel
theorem dX9_panes_11 : decode cX9_panes 11 = .ok (.istore_n 2, 1) := by decide +kernel
theorem dX9_panes_12 : decode cX9_panes 12 = .ok (.iload_n 2, 1) := by decide +kernel
theorem dX9_panes_13 : decode cX9_panes 13 = .ok (.aload_n 0, 1) := by decide +kernel
theorem dX9_panes_14 : decode cX9_panes 14 = .ok (.getfield 155, 3) := by decide +kernel
theorem dX9_panes_17 : decode cX9_panes 17 = .ok (.if_icmp .ge 51, 3) := by decide +kernel
theorem dX9_panes_20 : decode cX9_panes 20 = .ok (.aload_n 0, 1) := by decide +kernel
theorem dX9_panes_21 : decode cX9_panes 21 = .ok (.getfield 28, 3) := by decide +kernel
theorem dX9_panes_24 : decode cX9_panes 24 = .ok (.iconst 2, 1) := by decide +kernel
theorem dX9_panes_25 : decode cX9_panes 25 = .ok (.iload_n 2, 1) := by decide +kernel
theorem dX9_panes_26 : decode cX9_panes 26 = .ok (.imul, 1) := by decide +kernel
theorem dX9_panes_27 : decode cX9_panes 27 = .ok (.iaload, 1) := by decide +kernel
theorem dX9_panes_28 : decode cX9_panes 28 = .ok (.istore_n 3, 1) := by decide +kernel
theorem dX9_panes_29 : decode cX9_panes 29 = .ok (.iload_n 1, 1) := by decide +kernel
theorem dX9_panes_30 : decode cX9_panes 30 = .ok (.aload_n 0, 1) := by decide +kernel
theorem dX9_panes_31 : decode cX9_panes 31 = .ok (.getfield 28, 3) := by decide +kernel
theorem dX9_panes_34 : decode cX9_panes 34 = .ok (.iconst 2, 1) := by decide +kernel
theorem dX9_panes_35 : decode cX9_panes 35 = .ok (.iload_n 2, 1) := by decide +kernel
theorem dX9_panes_36 : decode cX9_panes 36 = .ok (.imul, 1) := by decide +kernel
theorem dX9_panes_37 : decode cX9_panes 37 = .ok (.iconst 1, 1) := by decide +kernel
theorem dX9_panes_38 : decode cX9_panes 38 = .ok (.iadd, 1) := by decide +kernel
theorem dX9_panes_39 : decode cX9_panes 39 = .ok (.iaload, 1) := by decide +kernel
theorem dX9_panes_40 : decode cX9_panes 40 = .ok (.iconst 4, 1) := by decide +kernel
theorem dX9_panes_41 : decode cX9_panes 41 = .ok (.if_icmp .ne 18, 3) := by decide +kernel
theorem dX9_panes_44 : decode cX9_panes 44 = .ok (.aload_n 0, 1) := by decide +kernel
theorem dX9_panes_45 : decode cX9_panes 45 = .ok (.getfield 52, 3) := by decide +kernel
theorem dX9_panes_48 : decode cX9_panes 48 = .ok (.iload_n 3, 1) := by decide +kernel
theorem dX9_panes_49 : decode cX9_panes 49 = .ok (.iaload, 1) := by decide +kernel
theorem dX9_panes_50 : decode cX9_panes 50 = .ok (.ifCond .lt 9, 3) := by decide +kernel
theorem dX9_panes_53 : decode cX9_panes 53 = .ok (.iconst 1, 1) := by decide +kernel
theorem dX9_panes_54 : decode cX9_panes 54 = .ok (.iload_n 3, 1) := by decide +kernel
theorem dX9_panes_55 : decode cX9_panes 55 = .ok (.ishl, 1) := by decide +kernel
theorem dX9_panes_56 : decode cX9_panes 56 = .ok (.goto 4, 3) := by decide +kernel
theorem dX9_panes_59 : decode cX9_panes 59 = .ok (.iconst 0, 1) := by decide +kernel
theorem dX9_panes_60 : decode cX9_panes 60 = .ok (.ior, 1) := by decide +kernel
theorem dX9_panes_61 : decode cX9_panes 61 = .ok (.istore_n 1, 1) := by decide +kernel
theorem dX9_panes_62 : decode cX9_panes 62 = .ok (.iinc 2 1, 3) := by decide +kernel
theorem dX9_panes_65 : decode cX9_panes 65 = .ok (.goto (-53), 3) := by decide +kernel
theorem dX9_panes_68 : decode cX9_panes 68 = .ok (.iload_n 1, 1) := by decide +kernel
theorem dX9_panes_69 : decode cX9_panes 69 = .ok (.invokestatic 218, 3) := by decide +kernel
theorem dX9_panes_72 : decode cX9_panes 72 = .ok (.ireturn, 1) := by decide +kernel
theorem dX9_tenths_0 : decode cX9_tenths 0 = .ok (.iconst 0, 1) := by decide +kernel
theorem dX9_tenths_1 : decode cX9_tenths 1 = .ok (.istore_n 2, 1) := by decide +kernel
theorem dX9_tenths_2 : decode cX9_tenths 2 = .ok (.iconst 0, 1) := by decide +kernel
theorem dX9_tenths_3 : decode cX9_tenths 3 = .ok (.istore_n 3, 1) := by decide +kernel
theorem dX9_tenths_4 : decode cX9_tenths 4 = .ok (.iload_n 3, 1) := by decide +kernel
theorem dX9_tenths_5 : decode cX9_tenths 5 = .ok (.iconst 4, 1) := by decide +kernel
theorem dX9_tenths_6 : decode cX9_tenths 6 = .ok (.if_icmp .ge 31, 3) := by decide +kernel
theorem dX9_tenths_9 : decode cX9_tenths 9 = .ok (.iload_n 2, 1) := by decide +kernel
theorem dX9_tenths_10 : decode cX9_tenths 10 = .ok (.aload_n 0, 1) := by decide +kernel
theorem dX9_tenths_11 : decode cX9_tenths 11 = .ok (.iload_n 1, 1) := by decide +kernel
theorem dX9_tenths_12 : decode cX9_tenths 12 = .ok (.iload_n 3, 1) := by decide +kernel
theorem dX9_tenths_13 : decode cX9_tenths 13 = .ok (.invokevirtual 180, 3) := by decide +kernel
theorem dX9_tenths_16 : decode cX9_tenths 16 = .ok (.ifCond .lt 12, 3) := by decide +kernel
theorem dX9_tenths_19 : decode cX9_tenths 19 = .ok (.aload_n 0, 1) := by decide +kernel
theorem dX9_tenths_20 : decode cX9_tenths 20 = .ok (.getfield 16, 3) := by decide +kernel
theorem dX9_tenths_23 : decode cX9_tenths 23 = .ok (.iload_n 3, 1) := by decide +kernel
theorem dX9_tenths_24 : decode cX9_tenths 24 = .ok (.iaload, 1) := by decide +kernel
theorem dX9_tenths_25 : decode cX9_tenths 25 = .ok (.goto 4, 3) := by decide +kernel
theorem dX9_tenths_28 : decode cX9_tenths 28 = .ok (.iconst 0, 1) := by decide +kernel
theorem dX9_tenths_29 : decode cX9_tenths 29 = .ok (.iadd, 1) := by decide +kernel
theorem dX9_tenths_30 : decode cX9_tenths 30 = .ok (.istore_n 2, 1) := by decide +kernel
theorem dX9_tenths_31 : decode cX9_tenths 31 = .ok (.iinc 3 1, 3) := by decide +kernel
theorem dX9_tenths_34 : decode cX9_tenths 34 = .ok (.goto (-30), 3) := by decide +kernel
theorem dX9_tenths_37 : decode cX9_tenths 37 = .ok (.iload_n 2, 1) := by decide +kernel
theorem dX9_tenths_38 : decode cX9_tenths 38 = .ok (.ireturn, 1) := by decide +kernel
theorem dX9_lowest_0 : decode cX9_lowest 0 = .ok (.iload_n 0, 1) := by decide +kernel
theorem dX9_lowest_1 : decode cX9_lowest 1 = .ok (.istore_n 3, 1) := by decide +kernel
theorem dX9_lowest_2 : decode cX9_lowest 2 = .ok (.iload_n 1, 1) := by decide +kernel
theorem dX9_lowest_3 : decode cX9_lowest 3 = .ok (.istore 4, 2) := by decide +kernel
theorem dX9_lowest_5 : decode cX9_lowest 5 = .ok (.iload 4, 2) := by decide +kernel
theorem dX9_lowest_7 : decode cX9_lowest 7 = .ok (.ifCond .le 19, 3) := by decide +kernel
theorem dX9_lowest_10 : decode cX9_lowest 10 = .ok (.iload_n 3, 1) := by decide +kernel
theorem dX9_lowest_11 : decode cX9_lowest 11 = .ok (.iload 4, 2) := by decide +kernel
theorem dX9_lowest_13 : decode cX9_lowest 13 = .ok (.irem, 1) := by decide +kernel
theorem dX9_lowest_14 : decode cX9_lowest 14 = .ok (.istore 5, 2) := by decide +kernel
theorem dX9_lowest_16 : decode cX9_lowest 16 = .ok (.iload 4, 2) := by decide +kernel
theorem dX9_lowest_18 : decode cX9_lowest 18 = .ok (.istore_n 3, 1) := by decide +kernel
theorem dX9_lowest_19 : decode cX9_lowest 19 = .ok (.iload 5, 2) := by decide +kernel
theorem dX9_lowest_21 : decode cX9_lowest 21 = .ok (.istore 4, 2) := by decide +kernel
theorem dX9_lowest_23 : decode cX9_lowest 23 = .ok (.goto (-18), 3) := by decide +kernel
theorem dX9_lowest_26 : decode cX9_lowest 26 = .ok (.iload_n 2, 1) := by decide +kernel
theorem dX9_lowest_27 : decode cX9_lowest 27 = .ok (.ifCond .ne 7, 3) := by decide +kernel
theorem dX9_lowest_30 : decode cX9_lowest 30 = .ok (.iload_n 0, 1) := by decide +kernel
theorem dX9_lowest_31 : decode cX9_lowest 31 = .ok (.goto 4, 3) := by decide +kernel
theorem dX9_lowest_34 : decode cX9_lowest 34 = .ok (.iload_n 1, 1) := by decide +kernel
theorem dX9_lowest_35 : decode cX9_lowest 35 = .ok (.iload_n 3, 1) := by decide +kernel
theorem dX9_lowest_36 : decode cX9_lowest 36 = .ok (.idiv, 1) := by decide +kernel
theorem dX9_lowest_37 : decode cX9_lowest 37 = .ok (.ireturn, 1) := by decide +kernel
theorem dX9_odds_0 : decode cX9_odds 0 = .ok (.aload_n 0, 1) := by decide +kernel
theorem dX9_odds_1 : decode cX9_odds 1 = .ok (.iload_n 1, 1) := by decide +kernel
theorem dX9_odds_2 : decode cX9_odds 2 = .ok (.invokevirtual 193, 3) := by decide +kernel
theorem dX9_odds_5 : decode cX9_odds 5 = .ok (.ifCond .eq 12, 3) := by decide +kernel
theorem dX9_odds_8 : decode cX9_odds 8 = .ok (.iload_n 2, 1) := by decide +kernel
theorem dX9_odds_9 : decode cX9_odds 9 = .ok (.iconst 0, 1) := by decide +kernel
theorem dX9_odds_10 : decode cX9_odds 10 = .ok (.iconst 1, 1) := by decide +kernel
theorem dX9_odds_11 : decode cX9_odds 11 = .ok (.invokestatic 88, 3) := by decide +kernel
theorem dX9_odds_14 : decode cX9_odds 14 = .ok (.ifCond .ne 5, 3) := by decide +kernel
theorem dX9_odds_17 : decode cX9_odds 17 = .ok (.iconst (-1), 1) := by decide +kernel
theorem dX9_odds_18 : decode cX9_odds 18 = .ok (.ireturn, 1) := by decide +kernel
theorem dX9_odds_19 : decode cX9_odds 19 = .ok (.aload_n 0, 1) := by decide +kernel
theorem dX9_odds_20 : decode cX9_odds 20 = .ok (.invokevirtual 190, 3) := by decide +kernel
theorem dX9_odds_23 : decode cX9_odds 23 = .ok (.aload_n 0, 1) := by decide +kernel
theorem dX9_odds_24 : decode cX9_odds 24 = .ok (.invokevirtual 199, 3) := by decide +kernel
theorem dX9_odds_27 : decode cX9_odds 27 = .ok (.aload_n 0, 1) := by decide +kernel
theorem dX9_odds_28 : decode cX9_odds 28 = .ok (.iload_n 1, 1) := by decide +kernel
theorem dX9_odds_29 : decode cX9_odds 29 = .ok (.invokevirtual 221, 3) := by decide +kernel
theorem dX9_odds_32 : decode cX9_odds 32 = .ok (.bipush 10, 2) := by decide +kernel
theorem dX9_odds_34 : decode cX9_odds 34 = .ok (.iload_n 2, 1) := by decide +kernel
theorem dX9_odds_35 : decode cX9_odds 35 = .ok (.invokestatic 224, 3) := by decide +kernel
theorem dX9_odds_38 : decode cX9_odds 38 = .ok (.ireturn, 1) := by decide +kernel
theorem dX9_mean_0 : decode cX9_mean 0 = .ok (.iload_n 1, 1) := by decide +kernel
theorem dX9_mean_1 : decode cX9_mean 1 = .ok (.iconst 0, 1) := by decide +kernel
theorem dX9_mean_2 : decode cX9_mean 2 = .ok (.iconst 1, 1) := by decide +kernel
theorem dX9_mean_3 : decode cX9_mean 3 = .ok (.invokestatic 88, 3) := by decide +kernel
theorem dX9_mean_6 : decode cX9_mean 6 = .ok (.ifCond .ne 5, 3) := by decide +kernel
theorem dX9_mean_9 : decode cX9_mean 9 = .ok (.iconst (-1), 1) := by decide +kernel
theorem dX9_mean_10 : decode cX9_mean 10 = .ok (.ireturn, 1) := by decide +kernel
theorem dX9_mean_11 : decode cX9_mean 11 = .ok (.aload_n 0, 1) := by decide +kernel
theorem dX9_mean_12 : decode cX9_mean 12 = .ok (.invokevirtual 190, 3) := by decide +kernel
theorem dX9_mean_15 : decode cX9_mean 15 = .ok (.aload_n 0, 1) := by decide +kernel
theorem dX9_mean_16 : decode cX9_mean 16 = .ok (.invokevirtual 199, 3) := by decide +kernel
theorem dX9_mean_19 : decode cX9_mean 19 = .ok (.iconst 0, 1) := by decide +kernel
theorem dX9_mean_20 : decode cX9_mean 20 = .ok (.istore_n 2, 1) := by decide +kernel
theorem dX9_mean_21 : decode cX9_mean 21 = .ok (.iconst 0, 1) := by decide +kernel
theorem dX9_mean_22 : decode cX9_mean 22 = .ok (.istore_n 3, 1) := by decide +kernel
theorem dX9_mean_23 : decode cX9_mean 23 = .ok (.iload_n 3, 1) := by decide +kernel
theorem dX9_mean_24 : decode cX9_mean 24 = .ok (.aload_n 0, 1) := by decide +kernel
theorem dX9_mean_25 : decode cX9_mean 25 = .ok (.getfield 92, 3) := by decide +kernel
theorem dX9_mean_28 : decode cX9_mean 28 = .ok (.if_icmp .ge 17, 3) := by decide +kernel
theorem dX9_mean_31 : decode cX9_mean 31 = .ok (.iload_n 2, 1) := by decide +kernel
theorem dX9_mean_32 : decode cX9_mean 32 = .ok (.aload_n 0, 1) := by decide +kernel
theorem dX9_mean_33 : decode cX9_mean 33 = .ok (.iload_n 3, 1) := by decide +kernel
theorem dX9_mean_34 : decode cX9_mean 34 = .ok (.invokevirtual 221, 3) := by decide +kernel
theorem dX9_mean_37 : decode cX9_mean 37 = .ok (.iadd, 1) := by decide +kernel
theorem dX9_mean_38 : decode cX9_mean 38 = .ok (.istore_n 2, 1) := by decide +kernel
theorem dX9_mean_39 : decode cX9_mean 39 = .ok (.iinc 3 1, 3) := by decide +kernel
theorem dX9_mean_42 : decode cX9_mean 42 = .ok (.goto (-19), 3) := by decide +kernel
theorem dX9_mean_45 : decode cX9_mean 45 = .ok (.iload_n 2, 1) := by decide +kernel
theorem dX9_mean_46 : decode cX9_mean 46 = .ok (.bipush 10, 2) := by decide +kernel
theorem dX9_mean_48 : decode cX9_mean 48 = .ok (.iload_n 1, 1) := by decide +kernel
theorem dX9_mean_49 : decode cX9_mean 49 = .ok (.invokestatic 224, 3) := by decide +kernel
theorem dX9_mean_52 : decode cX9_mean 52 = .ok (.ireturn, 1) := by decide +kernel
theorem dX9_owed_0 : decode cX9_owed 0 = .ok (.iload_n 1, 1) := by decide +kernel
theorem dX9_owed_1 : decode cX9_owed 1 = .ok (.iconst 0, 1) := by decide +kernel
theorem dX9_owed_2 : decode cX9_owed 2 = .ok (.iconst 1, 1) := by decide +kernel
theorem dX9_owed_3 : decode cX9_owed 3 = .ok (.invokestatic 88, 3) := by decide +kernel
theorem dX9_owed_6 : decode cX9_owed 6 = .ok (.ifCond .ne 5, 3) := by decide +kernel
theorem dX9_owed_9 : decode cX9_owed 9 = .ok (.iconst (-1), 1) := by decide +kernel
theorem dX9_owed_10 : decode cX9_owed 10 = .ok (.ireturn, 1) := by decide +kernel
theorem dX9_owed_11 : decode cX9_owed 11 = .ok (.iconst 0, 1) := by decide +kernel
theorem dX9_owed_12 : decode cX9_owed 12 = .ok (.istore_n 2, 1) := by decide +kernel
theorem dX9_owed_13 : decode cX9_owed 13 = .ok (.iconst 0, 1) := by decide +kernel
theorem dX9_owed_14 : decode cX9_owed 14 = .ok (.istore_n 3, 1) := by decide +kernel
theorem dX9_owed_15 : decode cX9_owed 15 = .ok (.iload_n 3, 1) := by decide +kernel
theorem dX9_owed_16 : decode cX9_owed 16 = .ok (.aload_n 0, 1) := by decide +kernel
theorem dX9_owed_17 : decode cX9_owed 17 = .ok (.getfield 85, 3) := by decide +kernel
theorem dX9_owed_20 : decode cX9_owed 20 = .ok (.if_icmp .ge 37, 3) := by decide +kernel
theorem dX9_owed_23 : decode cX9_owed 23 = .ok (.iload_n 2, 1) := by decide +kernel
theorem dX9_owed_24 : decode cX9_owed 24 = .ok (.iload_n 1, 1) := by decide +kernel
theorem dX9_owed_25 : decode cX9_owed 25 = .ok (.ifCond .ne 14, 3) := by decide +kernel
theorem dX9_owed_28 : decode cX9_owed 28 = .ok (.aload_n 0, 1) := by decide +kernel
theorem dX9_owed_29 : decode cX9_owed 29 = .ok (.getfield 19, 3) := by decide +kernel
theorem dX9_owed_32 : decode cX9_owed 32 = .ok (.iconst 2, 1) := by decide +kernel
theorem dX9_owed_33 : decode cX9_owed 33 = .ok (.iload_n 3, 1) := by decide +kernel
theorem dX9_owed_34 : decode cX9_owed 34 = .ok (.iadd, 1) := by decide +kernel
theorem dX9_owed_35 : decode cX9_owed 35 = .ok (.iaload, 1) := by decide +kernel
theorem dX9_owed_36 : decode cX9_owed 36 = .ok (.goto 13, 3) := by decide +kernel
theorem dX9_owed_39 : decode cX9_owed 39 = .ok (.aload_n 0, 1) := by decide +kernel
theorem dX9_owed_40 : decode cX9_owed 40 = .ok (.getfield 7, 3) := by decide +kernel
theorem dX9_owed_43 : decode cX9_owed 43 = .ok (.iconst 3, 1) := by decide +kernel
theorem dX9_owed_44 : decode cX9_owed 44 = .ok (.iload_n 3, 1) := by decide +kernel
theorem dX9_owed_45 : decode cX9_owed 45 = .ok (.imul, 1) := by decide +kernel
theorem dX9_owed_46 : decode cX9_owed 46 = .ok (.iconst 1, 1) := by decide +kernel
theorem dX9_owed_47 : decode cX9_owed 47 = .ok (.iadd, 1) := by decide +kernel
theorem dX9_owed_48 : decode cX9_owed 48 = .ok (.iaload, 1) := by decide +kernel
theorem dX9_owed_49 : decode cX9_owed 49 = .ok (.iadd, 1) := by decide +kernel
theorem dX9_owed_50 : decode cX9_owed 50 = .ok (.istore_n 2, 1) := by decide +kernel
theorem dX9_owed_51 : decode cX9_owed 51 = .ok (.iinc 3 1, 3) := by decide +kernel
theorem dX9_owed_54 : decode cX9_owed 54 = .ok (.goto (-39), 3) := by decide +kernel
theorem dX9_owed_57 : decode cX9_owed 57 = .ok (.iload_n 2, 1) := by decide +kernel
theorem dX9_owed_58 : decode cX9_owed 58 = .ok (.ireturn, 1) := by decide +kernel
theorem dX9_weeks_0 : decode cX9_weeks 0 = .ok (.iload_n 1, 1) := by decide +kernel
theorem dX9_weeks_1 : decode cX9_weeks 1 = .ok (.iconst 0, 1) := by decide +kernel
theorem dX9_weeks_2 : decode cX9_weeks 2 = .ok (.sipush 9999, 3) := by decide +kernel
theorem dX9_weeks_5 : decode cX9_weeks 5 = .ok (.invokestatic 88, 3) := by decide +kernel
theorem dX9_weeks_8 : decode cX9_weeks 8 = .ok (.ifCond .eq 22, 3) := by decide +kernel
theorem dX9_weeks_11 : decode cX9_weeks 11 = .ok (.iload_n 2, 1) := by decide +kernel
theorem dX9_weeks_12 : decode cX9_weeks 12 = .ok (.iconst 1, 1) := by decide +kernel
theorem dX9_weeks_13 : decode cX9_weeks 13 = .ok (.bipush 60, 2) := by decide +kernel
theorem dX9_weeks_15 : decode cX9_weeks 15 = .ok (.invokestatic 88, 3) := by decide +kernel
theorem dX9_weeks_18 : decode cX9_weeks 18 = .ok (.ifCond .eq 12, 3) := by decide +kernel
theorem dX9_weeks_21 : decode cX9_weeks 21 = .ok (.iload_n 3, 1) := by decide +kernel
theorem dX9_weeks_22 : decode cX9_weeks 22 = .ok (.iconst 0, 1) := by decide +kernel
theorem dX9_weeks_23 : decode cX9_weeks 23 = .ok (.iconst 1, 1) := by decide +kernel
theorem dX9_weeks_24 : decode cX9_weeks 24 = .ok (.invokestatic 88, 3) := by decide +kernel
theorem dX9_weeks_27 : decode cX9_weeks 27 = .ok (.ifCond .ne 5, 3) := by decide +kernel
theorem dX9_weeks_30 : decode cX9_weeks 30 = .ok (.iconst (-1), 1) := by decide +kernel
theorem dX9_weeks_31 : decode cX9_weeks 31 = .ok (.ireturn, 1) := by decide +kernel
theorem dX9_weeks_32 : decode cX9_weeks 32 = .ok (.aload_n 0, 1) := by decide +kernel
theorem dX9_weeks_33 : decode cX9_weeks 33 = .ok (.invokevirtual 190, 3) := by decide +kernel
theorem dX9_weeks_36 : decode cX9_weeks 36 = .ok (.iconst 0, 1) := by decide +kernel
theorem dX9_weeks_37 : decode cX9_weeks 37 = .ok (.istore 4, 2) := by decide +kernel
theorem dX9_weeks_39 : decode cX9_weeks 39 = .ok (.iconst 0, 1) := by decide +kernel
theorem dX9_weeks_40 : decode cX9_weeks 40 = .ok (.istore 5, 2) := by decide +kernel
theorem dX9_weeks_42 : decode cX9_weeks 42 = .ok (.iconst 0, 1) := by decide +kernel
theorem dX9_weeks_43 : decode cX9_weeks 43 = .ok (.istore 6, 2) := by decide +kernel
theorem dX9_weeks_45 : decode cX9_weeks 45 = .ok (.iload 6, 2) := by decide +kernel
theorem dX9_weeks_47 : decode cX9_weeks 47 = .ok (.iload_n 2, 1) := by decide +kernel
theorem dX9_weeks_48 : decode cX9_weeks 48 = .ok (.if_icmp .ge 145, 3) := by decide +kernel
theorem dX9_weeks_51 : decode cX9_weeks 51 = .ok (.ldc2_w 228, 3) := by decide +kernel
theorem dX9_weeks_54 : decode cX9_weeks 54 = .ok (.iload_n 1, 1) := by decide +kernel
theorem dX9_weeks_55 : decode cX9_weeks 55 = .ok (.i2l, 1) := by decide +kernel
theorem dX9_weeks_56 : decode cX9_weeks 56 = .ok (.lmul, 1) := by decide +kernel
theorem dX9_weeks_57 : decode cX9_weeks 57 = .ok (.ldc2_w 230, 3) := by decide +kernel
theorem dX9_weeks_60 : decode cX9_weeks 60 = .ok (.iload 6, 2) := by decide +kernel
theorem dX9_weeks_62 : decode cX9_weeks 62 = .ok (.i2l, 1) := by decide +kernel
theorem dX9_weeks_63 : decode cX9_weeks 63 = .ok (.lmul, 1) := by decide +kernel
theorem dX9_weeks_64 : decode cX9_weeks 64 = .ok (.ladd, 1) := by decide +kernel
theorem dX9_weeks_65 : decode cX9_weeks 65 = .ok (.lconst 1, 1) := by decide +kernel
theorem dX9_weeks_66 : decode cX9_weeks 66 = .ok (.ladd, 1) := by decide +kernel
theorem dX9_weeks_67 : decode cX9_weeks 67 = .ok (.lstore 7, 2) := by decide +kernel
theorem dX9_weeks_69 : decode cX9_weeks 69 = .ok (.lload 7, 2) := by decide +kernel
theorem dX9_weeks_71 : decode cX9_weeks 71 = .ok (.lload 7, 2) := by decide +kernel
theorem dX9_weeks_73 : decode cX9_weeks 73 = .ok (.lmul, 1) := by decide +kernel
theorem dX9_weeks_74 : decode cX9_weeks 74 = .ok (.ldc2_w 232, 3) := by decide +kernel
theorem dX9_weeks_77 : decode cX9_weeks 77 = .ok (.lrem, 1) := by decide +kernel
theorem dX9_weeks_78 : decode cX9_weeks 78 = .ok (.ldc2_w 234, 3) := by decide +kernel
theorem dX9_weeks_81 : decode cX9_weeks 81 = .ok (.ldiv, 1) := by decide +kernel
theorem dX9_weeks_82 : decode cX9_weeks 82 = .ok (.l2i, 1) := by decide +kernel
theorem dX9_weeks_83 : decode cX9_weeks 83 = .ok (.iconst 4, 1) := by decide +kernel
theorem dX9_weeks_84 : decode cX9_weeks 84 = .ok (.irem, 1) := by decide +kernel
theorem dX9_weeks_85 : decode cX9_weeks 85 = .ok (.istore 9, 2) := by decide +kernel
theorem dX9_weeks_87 : decode cX9_weeks 87 = .ok (.aload_n 0, 1) := by decide +kernel
theorem dX9_weeks_88 : decode cX9_weeks 88 = .ok (.aload_n 0, 1) := by decide +kernel
theorem dX9_weeks_89 : decode cX9_weeks 89 = .ok (.invokevirtual 158, 3) := by decide +kernel
theorem dX9_weeks_92 : decode cX9_weeks 92 = .ok (.putfield 161, 3) := by decide +kernel
theorem dX9_weeks_95 : decode cX9_weeks 95 = .ok (.aload_n 0, 1) := by decide +kernel
theorem dX9_weeks_96 : decode cX9_weeks 96 = .ok (.invokevirtual 199, 3) := by decide +kernel
theorem dX9_weeks_99 : decode cX9_weeks 99 = .ok (.aload_n 0, 1) := by decide +kernel
theorem dX9_weeks_100 : decode cX9_weeks 100 = .ok (.iload 9, 2) := by decide +kernel
theorem dX9_weeks_102 : decode cX9_weeks 102 = .ok (.invokevirtual 184, 3) := by decide +kernel
theorem dX9_weeks_105 : decode cX9_weeks 105 = .ok (.invokestatic 218, 3) := by decide +kernel
theorem dX9_weeks_108 : decode cX9_weeks 108 = .ok (.istore 10, 2) := by decide +kernel
theorem dX9_weeks_110 : decode cX9_weeks 110 = .ok (.iload 4, 2) := by decide +kernel
theorem dX9_weeks_112 : decode cX9_weeks 112 = .ok (.iload 10, 2) := by decide +kernel
theorem dX9_weeks_114 : decode cX9_weeks 114 = .ok (.aload_n 0, 1) := by decide +kernel
theorem dX9_weeks_115 : decode cX9_weeks 115 = .ok (.getfield 92, 3) := by decide +kernel
theorem dX9_weeks_118 : decode cX9_weeks 118 = .ok (.if_icmp .ne 7, 3) := by decide +kernel
theorem dX9_weeks_121 : decode cX9_weeks 121 = .ok (.iconst 1, 1) := by decide +kernel
theorem dX9_weeks_122 : decode cX9_weeks 122 = .ok (.goto 4, 3) := by decide +kernel
theorem dX9_weeks_125 : decode cX9_weeks 125 = .ok (.iconst 0, 1) := by decide +kernel
theorem dX9_weeks_126 : decode cX9_weeks 126 = .ok (.iadd, 1) := by decide +kernel
theorem dX9_weeks_127 : decode cX9_weeks 127 = .ok (.istore 4, 2) := by decide +kernel
theorem dX9_weeks_129 : decode cX9_weeks 129 = .ok (.iload 5, 2) := by decide +kernel
theorem dX9_weeks_131 : decode cX9_weeks 131 = .ok (.iload 10, 2) := by decide +kernel
theorem dX9_weeks_133 : decode cX9_weeks 133 = .ok (.iadd, 1) := by decide +kernel
theorem dX9_weeks_134 : decode cX9_weeks 134 = .ok (.istore 5, 2) := by decide +kernel
theorem dX9_weeks_136 : decode cX9_weeks 136 = .ok (.aload_n 0, 1) := by decide +kernel
theorem dX9_weeks_137 : decode cX9_weeks 137 = .ok (.getfield 49, 3) := by decide +kernel
theorem dX9_weeks_140 : decode cX9_weeks 140 = .ok (.iconst 0, 1) := by decide +kernel
theorem dX9_weeks_141 : decode cX9_weeks 141 = .ok (.dup2, 1) := by decide +kernel
theorem dX9_weeks_142 : decode cX9_weeks 142 = .ok (.iaload, 1) := by decide +kernel
theorem dX9_weeks_143 : decode cX9_weeks 143 = .ok (.iconst 1, 1) := by decide +kernel
theorem dX9_weeks_144 : decode cX9_weeks 144 = .ok (.iadd, 1) := by decide +kernel
theorem dX9_weeks_145 : decode cX9_weeks 145 = .ok (.iastore, 1) := by decide +kernel
theorem dX9_weeks_146 : decode cX9_weeks 146 = .ok (.iconst 0, 1) := by decide +kernel
theorem dX9_weeks_147 : decode cX9_weeks 147 = .ok (.istore 11, 2) := by decide +kernel
theorem dX9_weeks_149 : decode cX9_weeks 149 = .ok (.iload 11, 2) := by decide +kernel
theorem dX9_weeks_151 : decode cX9_weeks 151 = .ok (.aload_n 0, 1) := by decide +kernel
theorem dX9_weeks_152 : decode cX9_weeks 152 = .ok (.getfield 85, 3) := by decide +kernel
theorem dX9_weeks_155 : decode cX9_weeks 155 = .ok (.if_icmp .ge 32, 3) := by decide +kernel
theorem dX9_weeks_158 : decode cX9_weeks 158 = .ok (.aload_n 0, 1) := by decide +kernel
theorem dX9_weeks_159 : decode cX9_weeks 159 = .ok (.getfield 49, 3) := by decide +kernel
theorem dX9_weeks_162 : decode cX9_weeks 162 = .ok (.iconst 2, 1) := by decide +kernel
theorem dX9_weeks_163 : decode cX9_weeks 163 = .ok (.iload 11, 2) := by decide +kernel
theorem dX9_weeks_165 : decode cX9_weeks 165 = .ok (.iadd, 1) := by decide +kernel
theorem dX9_weeks_166 : decode cX9_weeks 166 = .ok (.dup2, 1) := by decide +kernel
theorem dX9_weeks_167 : decode cX9_weeks 167 = .ok (.iaload, 1) := by decide +kernel
theorem dX9_weeks_168 : decode cX9_weeks 168 = .ok (.aload_n 0, 1) := by decide +kernel
theorem dX9_weeks_169 : decode cX9_weeks 169 = .ok (.getfield 7, 3) := by decide +kernel
theorem dX9_weeks_172 : decode cX9_weeks 172 = .ok (.iconst 3, 1) := by decide +kernel
theorem dX9_weeks_173 : decode cX9_weeks 173 = .ok (.iload 11, 2) := by decide +kernel
theorem dX9_weeks_175 : decode cX9_weeks 175 = .ok (.imul, 1) := by decide +kernel
theorem dX9_weeks_176 : decode cX9_weeks 176 = .ok (.iconst 1, 1) := by decide +kernel
theorem dX9_weeks_177 : decode cX9_weeks 177 = .ok (.iadd, 1) := by decide +kernel
theorem dX9_weeks_178 : decode cX9_weeks 178 = .ok (.iaload, 1) := by decide +kernel
theorem dX9_weeks_179 : decode cX9_weeks 179 = .ok (.iadd, 1) := by decide +kernel
theorem dX9_weeks_180 : decode cX9_weeks 180 = .ok (.iastore, 1) := by decide +kernel
theorem dX9_weeks_181 : decode cX9_weeks 181 = .ok (.iinc 11 1, 3) := by decide +kernel
theorem dX9_weeks_184 : decode cX9_weeks 184 = .ok (.goto (-35), 3) := by decide +kernel
theorem dX9_weeks_187 : decode cX9_weeks 187 = .ok (.iinc 6 1, 3) := by decide +kernel
theorem dX9_weeks_190 : decode cX9_weeks 190 = .ok (.goto (-145), 3) := by decide +kernel
theorem dX9_weeks_193 : decode cX9_weeks 193 = .ok (.iload_n 3, 1) := by decide +kernel
theorem dX9_weeks_194 : decode cX9_weeks 194 = .ok (.ifCond .ne 8, 3) := by decide +kernel
theorem dX9_weeks_197 : decode cX9_weeks 197 = .ok (.iload 4, 2) := by decide +kernel
theorem dX9_weeks_199 : decode cX9_weeks 199 = .ok (.goto 5, 3) := by decide +kernel
theorem dX9_weeks_202 : decode cX9_weeks 202 = .ok (.iload 5, 2) := by decide +kernel
theorem dX9_weeks_204 : decode cX9_weeks 204 = .ok (.ireturn, 1) := by decide +kernel
theorem dX9_keep_0 : decode cX9_keep 0 = .ok (.aload_n 0, 1) := by decide +kernel
theorem dX9_keep_1 : decode cX9_keep 1 = .ok (.getfield 152, 3) := by decide +kernel
theorem dX9_keep_4 : decode cX9_keep 4 = .ok (.iconst 2, 1) := by decide +kernel
theorem dX9_keep_5 : decode cX9_keep 5 = .ok (.if_icmp .ne 6, 3) := by decide +kernel
theorem dX9_keep_8 : decode cX9_keep 8 = .ok (.bipush (-3), 2) := by decide +kernel
theorem dX9_keep_10 : decode cX9_keep 10 = .ok (.ireturn, 1) := by decide +kernel
theorem dX9_keep_11 : decode cX9_keep 11 = .ok (.aload_n 0, 1) := by decide +kernel
theorem dX9_keep_12 : decode cX9_keep 12 = .ok (.getfield 25, 3) := by decide +kernel
theorem dX9_keep_15 : decode cX9_keep 15 = .ok (.bipush 20, 2) := by decide +kernel
theorem dX9_keep_17 : decode cX9_keep 17 = .ok (.aload_n 0, 1) := by decide +kernel
theorem dX9_keep_18 : decode cX9_keep 18 = .ok (.getfield 152, 3) := by decide +kernel
theorem dX9_keep_21 : decode cX9_keep 21 = .ok (.imul, 1) := by decide +kernel
theorem dX9_keep_22 : decode cX9_keep 22 = .ok (.aload_n 0, 1) := by decide +kernel
theorem dX9_keep_23 : decode cX9_keep 23 = .ok (.getfield 19, 3) := by decide +kernel
theorem dX9_keep_26 : decode cX9_keep 26 = .ok (.bipush 20, 2) := by decide +kernel
theorem dX9_keep_28 : decode cX9_keep 28 = .ok (.invokestatic 145, 3) := by decide +kernel
theorem dX9_keep_31 : decode cX9_keep 31 = .ok (.aload_n 0, 1) := by decide +kernel
theorem dX9_keep_32 : decode cX9_keep 32 = .ok (.dup, 1) := by decide +kernel
theorem dX9_keep_33 : decode cX9_keep 33 = .ok (.getfield 152, 3) := by decide +kernel
theorem dX9_keep_36 : decode cX9_keep 36 = .ok (.iconst 1, 1) := by decide +kernel
theorem dX9_keep_37 : decode cX9_keep 37 = .ok (.iadd, 1) := by decide +kernel
theorem dX9_keep_38 : decode cX9_keep 38 = .ok (.putfield 152, 3) := by decide +kernel
theorem dX9_keep_41 : decode cX9_keep 41 = .ok (.aload_n 0, 1) := by decide +kernel
theorem dX9_keep_42 : decode cX9_keep 42 = .ok (.getfield 152, 3) := by decide +kernel
theorem dX9_keep_45 : decode cX9_keep 45 = .ok (.ireturn, 1) := by decide +kernel
theorem dX9_back_0 : decode cX9_back 0 = .ok (.aload_n 0, 1) := by decide +kernel
theorem dX9_back_1 : decode cX9_back 1 = .ok (.getfield 152, 3) := by decide +kernel
theorem dX9_back_4 : decode cX9_back 4 = .ok (.ifCond .ne 6, 3) := by decide +kernel
theorem dX9_back_7 : decode cX9_back 7 = .ok (.bipush (-2), 2) := by decide +kernel
theorem dX9_back_9 : decode cX9_back 9 = .ok (.ireturn, 1) := by decide +kernel
theorem dX9_back_10 : decode cX9_back 10 = .ok (.aload_n 0, 1) := by decide +kernel
theorem dX9_back_11 : decode cX9_back 11 = .ok (.dup, 1) := by decide +kernel
theorem dX9_back_12 : decode cX9_back 12 = .ok (.getfield 152, 3) := by decide +kernel
theorem dX9_back_15 : decode cX9_back 15 = .ok (.iconst 1, 1) := by decide +kernel
theorem dX9_back_16 : decode cX9_back 16 = .ok (.isub, 1) := by decide +kernel
theorem dX9_back_17 : decode cX9_back 17 = .ok (.putfield 152, 3) := by decide +kernel
theorem dX9_back_20 : decode cX9_back 20 = .ok (.iconst 0, 1) := by decide +kernel
theorem dX9_back_21 : decode cX9_back 21 = .ok (.istore_n 1, 1) := by decide +kernel
theorem dX9_back_22 : decode cX9_back 22 = .ok (.iload_n 1, 1) := by decide +kernel
theorem dX9_back_23 : decode cX9_back 23 = .ok (.bipush 20, 2) := by decide +kernel
theorem dX9_back_25 : decode cX9_back 25 = .ok (.if_icmp .ge 29, 3) := by decide +kernel
theorem dX9_back_28 : decode cX9_back 28 = .ok (.aload_n 0, 1) := by decide +kernel
theorem dX9_back_29 : decode cX9_back 29 = .ok (.getfield 19, 3) := by decide +kernel
theorem dX9_back_32 : decode cX9_back 32 = .ok (.iload_n 1, 1) := by decide +kernel
theorem dX9_back_33 : decode cX9_back 33 = .ok (.aload_n 0, 1) := by decide +kernel
theorem dX9_back_34 : decode cX9_back 34 = .ok (.getfield 25, 3) := by decide +kernel
theorem dX9_back_37 : decode cX9_back 37 = .ok (.bipush 20, 2) := by decide +kernel
theorem dX9_back_39 : decode cX9_back 39 = .ok (.aload_n 0, 1) := by decide +kernel
theorem dX9_back_40 : decode cX9_back 40 = .ok (.getfield 152, 3) := by decide +kernel
theorem dX9_back_43 : decode cX9_back 43 = .ok (.imul, 1) := by decide +kernel
theorem dX9_back_44 : decode cX9_back 44 = .ok (.iload_n 1, 1) := by decide +kernel
theorem dX9_back_45 : decode cX9_back 45 = .ok (.iadd, 1) := by decide +kernel
theorem dX9_back_46 : decode cX9_back 46 = .ok (.iaload, 1) := by decide +kernel
theorem dX9_back_47 : decode cX9_back 47 = .ok (.iastore, 1) := by decide +kernel
theorem dX9_back_48 : decode cX9_back 48 = .ok (.iinc 1 1, 3) := by decide +kernel
theorem dX9_back_51 : decode cX9_back 51 = .ok (.goto (-29), 3) := by decide +kernel
theorem dX9_back_54 : decode cX9_back 54 = .ok (.aload_n 0, 1) := by decide +kernel
theorem dX9_back_55 : decode cX9_back 55 = .ok (.iconst 0, 1) := by decide +kernel
theorem dX9_back_56 : decode cX9_back 56 = .ok (.putfield 149, 3) := by decide +kernel
theorem dX9_back_59 : decode cX9_back 59 = .ok (.aload_n 0, 1) := by decide +kernel
theorem dX9_back_60 : decode cX9_back 60 = .ok (.getfield 152, 3) := by decide +kernel
theorem dX9_back_63 : decode cX9_back 63 = .ok (.ireturn, 1) := by decide +kernel
theorem dX9_count_0 : decode cX9_count 0 = .ok (.aload_n 0, 1) := by decide +kernel
theorem dX9_count_1 : decode cX9_count 1 = .ok (.invokevirtual 190, 3) := by decide +kernel
theorem dX9_count_4 : decode cX9_count 4 = .ok (.iload_n 1, 1) := by decide +kernel
theorem dX9_count_5 : decode cX9_count 5 = .ok (.tableswitch 106 0 8 #[51, 56, 61, 68, 78, 86, 91, 96, 101], 51) := by decide +kernel
theorem dX9_count_56 : decode cX9_count 56 = .ok (.aload_n 0, 1) := by decide +kernel
theorem dX9_count_57 : decode cX9_count 57 = .ok (.getfield 85, 3) := by decide +kernel
theorem dX9_count_60 : decode cX9_count 60 = .ok (.ireturn, 1) := by decide +kernel
theorem dX9_count_61 : decode cX9_count 61 = .ok (.aload_n 0, 1) := by decide +kernel
theorem dX9_count_62 : decode cX9_count 62 = .ok (.getfield 92, 3) := by decide +kernel
theorem dX9_count_65 : decode cX9_count 65 = .ok (.ireturn, 1) := by decide +kernel
theorem dX9_count_66 : decode cX9_count 66 = .ok (.aload_n 0, 1) := by decide +kernel
theorem dX9_count_67 : decode cX9_count 67 = .ok (.getfield 19, 3) := by decide +kernel
theorem dX9_count_70 : decode cX9_count 70 = .ok (.iconst 0, 1) := by decide +kernel
theorem dX9_count_71 : decode cX9_count 71 = .ok (.iaload, 1) := by decide +kernel
theorem dX9_count_72 : decode cX9_count 72 = .ok (.ireturn, 1) := by decide +kernel
theorem dX9_count_73 : decode cX9_count 73 = .ok (.aload_n 0, 1) := by decide +kernel
theorem dX9_count_74 : decode cX9_count 74 = .ok (.getfield 19, 3) := by decide +kernel
theorem dX9_count_77 : decode cX9_count 77 = .ok (.iconst 1, 1) := by decide +kernel
theorem dX9_count_78 : decode cX9_count 78 = .ok (.iaload, 1) := by decide +kernel
theorem dX9_count_79 : decode cX9_count 79 = .ok (.invokestatic 218, 3) := by decide +kernel
theorem dX9_count_82 : decode cX9_count 82 = .ok (.ireturn, 1) := by decide +kernel
theorem dX9_count_83 : decode cX9_count 83 = .ok (.aload_n 0, 1) := by decide +kernel
theorem dX9_count_84 : decode cX9_count 84 = .ok (.getfield 161, 3) := by decide +kernel
theorem dX9_count_87 : decode cX9_count 87 = .ok (.invokestatic 218, 3) := by decide +kernel
theorem dX9_count_90 : decode cX9_count 90 = .ok (.ireturn, 1) := by decide +kernel
theorem dX9_count_91 : decode cX9_count 91 = .ok (.aload_n 0, 1) := by decide +kernel
theorem dX9_count_92 : decode cX9_count 92 = .ok (.getfield 155, 3) := by decide +kernel
theorem dX9_count_95 : decode cX9_count 95 = .ok (.ireturn, 1) := by decide +kernel
theorem dX9_count_96 : decode cX9_count 96 = .ok (.aload_n 0, 1) := by decide +kernel
theorem dX9_count_97 : decode cX9_count 97 = .ok (.getfield 149, 3) := by decide +kernel
theorem dX9_count_100 : decode cX9_count 100 = .ok (.ireturn, 1) := by decide +kernel
theorem dX9_count_101 : decode cX9_count 101 = .ok (.aload_n 0, 1) := by decide +kernel
theorem dX9_count_102 : decode cX9_count 102 = .ok (.getfield 152, 3) := by decide +kernel
theorem dX9_count_105 : decode cX9_count 105 = .ok (.ireturn, 1) := by decide +kernel
theorem dX9_count_106 : decode cX9_count 106 = .ok (.aload_n 0, 1) := by decide +kernel
theorem dX9_count_107 : decode cX9_count 107 = .ok (.getfield 95, 3) := by decide +kernel
theorem dX9_count_110 : decode cX9_count 110 = .ok (.ireturn, 1) := by decide +kernel
theorem dX9_count_111 : decode cX9_count 111 = .ok (.iconst (-1), 1) := by decide +kernel
theorem dX9_count_112 : decode cX9_count 112 = .ok (.ireturn, 1) := by decide +kernel
theorem dJ6_bitCount_0f7a4_0 : decode cJ6_bitCount_0f7a4 0 = .ok (.iload_n 0, 1) := by decide +kernel
theorem dJ6_bitCount_0f7a4_1 : decode cJ6_bitCount_0f7a4 1 = .ok (.iload_n 0, 1) := by decide +kernel
theorem dJ6_bitCount_0f7a4_2 : decode cJ6_bitCount_0f7a4 2 = .ok (.iconst 1, 1) := by decide +kernel
theorem dJ6_bitCount_0f7a4_3 : decode cJ6_bitCount_0f7a4 3 = .ok (.iushr, 1) := by decide +kernel
theorem dJ6_bitCount_0f7a4_4 : decode cJ6_bitCount_0f7a4 4 = .ok (.ldc_w 265, 3) := by decide +kernel
theorem dJ6_bitCount_0f7a4_7 : decode cJ6_bitCount_0f7a4 7 = .ok (.iand, 1) := by decide +kernel
theorem dJ6_bitCount_0f7a4_8 : decode cJ6_bitCount_0f7a4 8 = .ok (.isub, 1) := by decide +kernel
theorem dJ6_bitCount_0f7a4_9 : decode cJ6_bitCount_0f7a4 9 = .ok (.istore_n 0, 1) := by decide +kernel
theorem dJ6_bitCount_0f7a4_10 : decode cJ6_bitCount_0f7a4 10 = .ok (.iload_n 0, 1) := by decide +kernel
theorem dJ6_bitCount_0f7a4_11 : decode cJ6_bitCount_0f7a4 11 = .ok (.ldc_w 266, 3) := by decide +kernel
theorem dJ6_bitCount_0f7a4_14 : decode cJ6_bitCount_0f7a4 14 = .ok (.iand, 1) := by decide +kernel
theorem dJ6_bitCount_0f7a4_15 : decode cJ6_bitCount_0f7a4 15 = .ok (.iload_n 0, 1) := by decide +kernel
theorem dJ6_bitCount_0f7a4_16 : decode cJ6_bitCount_0f7a4 16 = .ok (.iconst 2, 1) := by decide +kernel
theorem dJ6_bitCount_0f7a4_17 : decode cJ6_bitCount_0f7a4 17 = .ok (.iushr, 1) := by decide +kernel
theorem dJ6_bitCount_0f7a4_18 : decode cJ6_bitCount_0f7a4 18 = .ok (.ldc_w 266, 3) := by decide +kernel
theorem dJ6_bitCount_0f7a4_21 : decode cJ6_bitCount_0f7a4 21 = .ok (.iand, 1) := by decide +kernel
theorem dJ6_bitCount_0f7a4_22 : decode cJ6_bitCount_0f7a4 22 = .ok (.iadd, 1) := by decide +kernel
theorem dJ6_bitCount_0f7a4_23 : decode cJ6_bitCount_0f7a4 23 = .ok (.istore_n 0, 1) := by decide +kernel
theorem dJ6_bitCount_0f7a4_24 : decode cJ6_bitCount_0f7a4 24 = .ok (.iload_n 0, 1) := by decide +kernel
theorem dJ6_bitCount_0f7a4_25 : decode cJ6_bitCount_0f7a4 25 = .ok (.iload_n 0, 1) := by decide +kernel
theorem dJ6_bitCount_0f7a4_26 : decode cJ6_bitCount_0f7a4 26 = .ok (.iconst 4, 1) := by decide +kernel
theorem dJ6_bitCount_0f7a4_27 : decode cJ6_bitCount_0f7a4 27 = .ok (.iushr, 1) := by decide +kernel
theorem dJ6_bitCount_0f7a4_28 : decode cJ6_bitCount_0f7a4 28 = .ok (.iadd, 1) := by decide +kernel
theorem dJ6_bitCount_0f7a4_29 : decode cJ6_bitCount_0f7a4 29 = .ok (.ldc_w 267, 3) := by decide +kernel
theorem dJ6_bitCount_0f7a4_32 : decode cJ6_bitCount_0f7a4 32 = .ok (.iand, 1) := by decide +kernel
theorem dJ6_bitCount_0f7a4_33 : decode cJ6_bitCount_0f7a4 33 = .ok (.istore_n 0, 1) := by decide +kernel
theorem dJ6_bitCount_0f7a4_34 : decode cJ6_bitCount_0f7a4 34 = .ok (.iload_n 0, 1) := by decide +kernel
theorem dJ6_bitCount_0f7a4_35 : decode cJ6_bitCount_0f7a4 35 = .ok (.iload_n 0, 1) := by decide +kernel
theorem dJ6_bitCount_0f7a4_36 : decode cJ6_bitCount_0f7a4 36 = .ok (.bipush 8, 2) := by decide +kernel
theorem dJ6_bitCount_0f7a4_38 : decode cJ6_bitCount_0f7a4 38 = .ok (.iushr, 1) := by decide +kernel
theorem dJ6_bitCount_0f7a4_39 : decode cJ6_bitCount_0f7a4 39 = .ok (.iadd, 1) := by decide +kernel
theorem dJ6_bitCount_0f7a4_40 : decode cJ6_bitCount_0f7a4 40 = .ok (.istore_n 0, 1) := by decide +kernel
theorem dJ6_bitCount_0f7a4_41 : decode cJ6_bitCount_0f7a4 41 = .ok (.iload_n 0, 1) := by decide +kernel
theorem dJ6_bitCount_0f7a4_42 : decode cJ6_bitCount_0f7a4 42 = .ok (.iload_n 0, 1) := by decide +kernel
theorem dJ6_bitCount_0f7a4_43 : decode cJ6_bitCount_0f7a4 43 = .ok (.bipush 16, 2) := by decide +kernel
theorem dJ6_bitCount_0f7a4_45 : decode cJ6_bitCount_0f7a4 45 = .ok (.iushr, 1) := by decide +kernel
theorem dJ6_bitCount_0f7a4_46 : decode cJ6_bitCount_0f7a4 46 = .ok (.iadd, 1) := by decide +kernel
theorem dJ6_bitCount_0f7a4_47 : decode cJ6_bitCount_0f7a4 47 = .ok (.istore_n 0, 1) := by decide +kernel
theorem dJ6_bitCount_0f7a4_48 : decode cJ6_bitCount_0f7a4 48 = .ok (.iload_n 0, 1) := by decide +kernel
theorem dJ6_bitCount_0f7a4_49 : decode cJ6_bitCount_0f7a4 49 = .ok (.bipush 63, 2) := by decide +kernel
theorem dJ6_bitCount_0f7a4_51 : decode cJ6_bitCount_0f7a4 51 = .ok (.iand, 1) := by decide +kernel
theorem dJ6_bitCount_0f7a4_52 : decode cJ6_bitCount_0f7a4 52 = .ok (.ireturn, 1) := by decide +kernel
theorem dJ9_max_7cf53_0 : decode cJ9_max_7cf53 0 = .ok (.iload_n 0, 1) := by decide +kernel
theorem dJ9_max_7cf53_1 : decode cJ9_max_7cf53 1 = .ok (.iload_n 1, 1) := by decide +kernel
theorem dJ9_max_7cf53_2 : decode cJ9_max_7cf53 2 = .ok (.if_icmp .lt 7, 3) := by decide +kernel
theorem dJ9_max_7cf53_5 : decode cJ9_max_7cf53 5 = .ok (.iload_n 0, 1) := by decide +kernel
theorem dJ9_max_7cf53_6 : decode cJ9_max_7cf53 6 = .ok (.goto 4, 3) := by decide +kernel
theorem dJ9_max_7cf53_9 : decode cJ9_max_7cf53 9 = .ok (.iload_n 1, 1) := by decide +kernel
theorem dJ9_max_7cf53_10 : decode cJ9_max_7cf53 10 = .ok (.ireturn, 1) := by decide +kernel
theorem dJ0_length_8abf5_0 : decode cJ0_length_8abf5 0 = .ok (.aload_n 0, 1) := by decide +kernel
theorem dJ0_length_8abf5_1 : decode cJ0_length_8abf5 1 = .ok (.getfield 9, 3) := by decide +kernel
theorem dJ0_length_8abf5_4 : decode cJ0_length_8abf5 4 = .ok (.arraylength, 1) := by decide +kernel
theorem dJ0_length_8abf5_5 : decode cJ0_length_8abf5 5 = .ok (.aload_n 0, 1) := by decide +kernel
theorem dJ0_length_8abf5_6 : decode cJ0_length_8abf5 6 = .ok (.invokevirtual 335, 3) := by decide +kernel
theorem dJ0_length_8abf5_9 : decode cJ0_length_8abf5 9 = .ok (.ishr, 1) := by decide +kernel
theorem dJ0_length_8abf5_10 : decode cJ0_length_8abf5 10 = .ok (.ireturn, 1) := by decide +kernel
theorem dJ0_charAt_5068e_0 : decode cJ0_charAt_5068e 0 = .ok (.aload_n 0, 1) := by decide +kernel
theorem dJ0_charAt_5068e_1 : decode cJ0_charAt_5068e 1 = .ok (.invokevirtual 492, 3) := by decide +kernel
theorem dJ0_charAt_5068e_4 : decode cJ0_charAt_5068e 4 = .ok (.ifCond .eq 12, 3) := by decide +kernel
theorem dJ0_charAt_5068e_7 : decode cJ0_charAt_5068e 7 = .ok (.aload_n 0, 1) := by decide +kernel
theorem dJ0_charAt_5068e_8 : decode cJ0_charAt_5068e 8 = .ok (.getfield 9, 3) := by decide +kernel
theorem dJ0_charAt_5068e_11 : decode cJ0_charAt_5068e 11 = .ok (.iload_n 1, 1) := by decide +kernel
theorem dJ0_charAt_5068e_12 : decode cJ0_charAt_5068e 12 = .ok (.invokestatic 495, 3) := by decide +kernel
theorem dJ0_charAt_5068e_15 : decode cJ0_charAt_5068e 15 = .ok (.ireturn, 1) := by decide +kernel
theorem dJ0_charAt_5068e_16 : decode cJ0_charAt_5068e 16 = .ok (.aload_n 0, 1) := by decide +kernel
theorem dJ0_charAt_5068e_17 : decode cJ0_charAt_5068e 17 = .ok (.getfield 9, 3) := by decide +kernel
theorem dJ0_charAt_5068e_20 : decode cJ0_charAt_5068e 20 = .ok (.iload_n 1, 1) := by decide +kernel
theorem dJ0_charAt_5068e_21 : decode cJ0_charAt_5068e 21 = .ok (.invokestatic 498, 3) := by decide +kernel
theorem dJ0_charAt_5068e_24 : decode cJ0_charAt_5068e 24 = .ok (.ireturn, 1) := by decide +kernel
theorem dJ0_coder_7d493_0 : decode cJ0_coder_7d493 0 = .ok (.getstatic 38, 3) := by decide +kernel
theorem dJ0_coder_7d493_3 : decode cJ0_coder_7d493 3 = .ok (.ifCond .eq 10, 3) := by decide +kernel
theorem dJ0_coder_7d493_6 : decode cJ0_coder_7d493 6 = .ok (.aload_n 0, 1) := by decide +kernel
theorem dJ0_coder_7d493_7 : decode cJ0_coder_7d493 7 = .ok (.getfield 15, 3) := by decide +kernel
theorem dJ0_coder_7d493_10 : decode cJ0_coder_7d493 10 = .ok (.goto 4, 3) := by decide +kernel
theorem dJ0_coder_7d493_13 : decode cJ0_coder_7d493 13 = .ok (.iconst 1, 1) := by decide +kernel
theorem dJ0_coder_7d493_14 : decode cJ0_coder_7d493 14 = .ok (.ireturn, 1) := by decide +kernel
theorem dJ0_isLatin1_aae02_0 : decode cJ0_isLatin1_aae02 0 = .ok (.getstatic 38, 3) := by decide +kernel
theorem dJ0_isLatin1_aae02_3 : decode cJ0_isLatin1_aae02 3 = .ok (.ifCond .eq 14, 3) := by decide +kernel
theorem dJ0_isLatin1_aae02_6 : decode cJ0_isLatin1_aae02 6 = .ok (.aload_n 0, 1) := by decide +kernel
theorem dJ0_isLatin1_aae02_7 : decode cJ0_isLatin1_aae02 7 = .ok (.getfield 15, 3) := by decide +kernel
theorem dJ0_isLatin1_aae02_10 : decode cJ0_isLatin1_aae02 10 = .ok (.ifCond .ne 7, 3) := by decide +kernel
theorem dJ0_isLatin1_aae02_13 : decode cJ0_isLatin1_aae02 13 = .ok (.iconst 1, 1) := by decide +kernel
theorem dJ0_isLatin1_aae02_14 : decode cJ0_isLatin1_aae02 14 = .ok (.goto 4, 3) := by decide +kernel
theorem dJ0_isLatin1_aae02_17 : decode cJ0_isLatin1_aae02 17 = .ok (.iconst 0, 1) := by decide +kernel
theorem dJ0_isLatin1_aae02_18 : decode cJ0_isLatin1_aae02 18 = .ok (.ireturn, 1) := by decide +kernel
theorem dJ0_checkIndex_df160_0 : decode cJ0_checkIndex_df160 0 = .ok (.iload_n 0, 1) := by decide +kernel
theorem dJ0_checkIndex_df160_1 : decode cJ0_checkIndex_df160 1 = .ok (.iload_n 1, 1) := by decide +kernel
theorem dJ0_checkIndex_df160_2 : decode cJ0_checkIndex_df160 2 = .ok (.getstatic 1053, 3) := by decide +kernel
theorem dJ0_checkIndex_df160_5 : decode cJ0_checkIndex_df160 5 = .ok (.invokestatic 1059, 3) := by decide +kernel
theorem dJ0_checkIndex_df160_8 : decode cJ0_checkIndex_df160 8 = .ok (.pop, 1) := by decide +kernel
theorem dJ0_checkIndex_df160_9 : decode cJ0_checkIndex_df160 9 = .ok (.return_, 1) := by decide +kernel
theorem dJ1_charAt_3b067_0 : decode cJ1_charAt_3b067 0 = .ok (.iload_n 1, 1) := by decide +kernel
theorem dJ1_charAt_3b067_1 : decode cJ1_charAt_3b067 1 = .ok (.aload_n 0, 1) := by decide +kernel
theorem dJ1_charAt_3b067_2 : decode cJ1_charAt_3b067 2 = .ok (.arraylength, 1) := by decide +kernel
theorem dJ1_charAt_3b067_3 : decode cJ1_charAt_3b067 3 = .ok (.invokestatic 9, 3) := by decide +kernel
theorem dJ1_charAt_3b067_6 : decode cJ1_charAt_3b067 6 = .ok (.aload_n 0, 1) := by decide +kernel
theorem dJ1_charAt_3b067_7 : decode cJ1_charAt_3b067 7 = .ok (.iload_n 1, 1) := by decide +kernel
theorem dJ1_charAt_3b067_8 : decode cJ1_charAt_3b067 8 = .ok (.baload, 1) := by decide +kernel
theorem dJ1_charAt_3b067_9 : decode cJ1_charAt_3b067 9 = .ok (.sipush 255, 3) := by decide +kernel
theorem dJ1_charAt_3b067_12 : decode cJ1_charAt_3b067 12 = .ok (.iand, 1) := by decide +kernel
theorem dJ1_charAt_3b067_13 : decode cJ1_charAt_3b067 13 = .ok (.i2c, 1) := by decide +kernel
theorem dJ1_charAt_3b067_14 : decode cJ1_charAt_3b067 14 = .ok (.ireturn, 1) := by decide +kernel
theorem dJ2_getChar_3b067_0 : decode cJ2_getChar_3b067 0 = .ok (.getstatic 44, 3) := by decide +kernel
theorem dJ2_getChar_3b067_3 : decode cJ2_getChar_3b067 3 = .ok (.ifCond .ne 25, 3) := by decide +kernel
theorem dJ2_getChar_3b067_6 : decode cJ2_getChar_3b067 6 = .ok (.iload_n 1, 1) := by decide +kernel
theorem dJ2_getChar_3b067_7 : decode cJ2_getChar_3b067 7 = .ok (.ifCond .lt 11, 3) := by decide +kernel
theorem dJ2_getChar_3b067_10 : decode cJ2_getChar_3b067 10 = .ok (.iload_n 1, 1) := by decide +kernel
theorem dJ2_getChar_3b067_11 : decode cJ2_getChar_3b067 11 = .ok (.aload_n 0, 1) := by decide +kernel
theorem dJ2_getChar_3b067_12 : decode cJ2_getChar_3b067 12 = .ok (.invokestatic 48, 3) := by decide +kernel
theorem dJ2_getChar_3b067_15 : decode cJ2_getChar_3b067 15 = .ok (.if_icmp .lt 13, 3) := by decide +kernel
theorem dJ2_getChar_3b067_18 : decode cJ2_getChar_3b067 18 = .ok (.new 52, 3) := by decide +kernel
theorem dJ2_getChar_3b067_21 : decode cJ2_getChar_3b067 21 = .ok (.dup, 1) := by decide +kernel
theorem dJ2_getChar_3b067_22 : decode cJ2_getChar_3b067 22 = .ok (.ldc 54, 2) := by decide +kernel
theorem dJ2_getChar_3b067_24 : decode cJ2_getChar_3b067 24 = .ok (.invokespecial 56, 3) := by decide +kernel
theorem dJ2_getChar_3b067_27 : decode cJ2_getChar_3b067 27 = .ok (.athrow, 1) := by decide +kernel
theorem dJ2_getChar_3b067_28 : decode cJ2_getChar_3b067 28 = .ok (.iload_n 1, 1) := by decide +kernel
theorem dJ2_getChar_3b067_29 : decode cJ2_getChar_3b067 29 = .ok (.iconst 1, 1) := by decide +kernel
theorem dJ2_getChar_3b067_30 : decode cJ2_getChar_3b067 30 = .ok (.ishl, 1) := by decide +kernel
theorem dJ2_getChar_3b067_31 : decode cJ2_getChar_3b067 31 = .ok (.istore_n 1, 1) := by decide +kernel
theorem dJ2_getChar_3b067_32 : decode cJ2_getChar_3b067 32 = .ok (.aload_n 0, 1) := by decide +kernel
theorem dJ2_getChar_3b067_33 : decode cJ2_getChar_3b067 33 = .ok (.iload_n 1, 1) := by decide +kernel
theorem dJ2_getChar_3b067_34 : decode cJ2_getChar_3b067 34 = .ok (.iinc 1 1, 3) := by decide +kernel
theorem dJ2_getChar_3b067_37 : decode cJ2_getChar_3b067 37 = .ok (.baload, 1) := by decide +kernel
theorem dJ2_getChar_3b067_38 : decode cJ2_getChar_3b067 38 = .ok (.sipush 255, 3) := by decide +kernel
theorem dJ2_getChar_3b067_41 : decode cJ2_getChar_3b067 41 = .ok (.iand, 1) := by decide +kernel
theorem dJ2_getChar_3b067_42 : decode cJ2_getChar_3b067 42 = .ok (.getstatic 59, 3) := by decide +kernel
theorem dJ2_getChar_3b067_45 : decode cJ2_getChar_3b067 45 = .ok (.ishl, 1) := by decide +kernel
theorem dJ2_getChar_3b067_46 : decode cJ2_getChar_3b067 46 = .ok (.aload_n 0, 1) := by decide +kernel
theorem dJ2_getChar_3b067_47 : decode cJ2_getChar_3b067 47 = .ok (.iload_n 1, 1) := by decide +kernel
theorem dJ2_getChar_3b067_48 : decode cJ2_getChar_3b067 48 = .ok (.baload, 1) := by decide +kernel
theorem dJ2_getChar_3b067_49 : decode cJ2_getChar_3b067 49 = .ok (.sipush 255, 3) := by decide +kernel
theorem dJ2_getChar_3b067_52 : decode cJ2_getChar_3b067 52 = .ok (.iand, 1) := by decide +kernel
theorem dJ2_getChar_3b067_53 : decode cJ2_getChar_3b067 53 = .ok (.getstatic 63, 3) := by decide +kernel
theorem dJ2_getChar_3b067_56 : decode cJ2_getChar_3b067 56 = .ok (.ishl, 1) := by decide +kernel
theorem dJ2_getChar_3b067_57 : decode cJ2_getChar_3b067 57 = .ok (.ior, 1) := by decide +kernel
theorem dJ2_getChar_3b067_58 : decode cJ2_getChar_3b067 58 = .ok (.i2c, 1) := by decide +kernel
theorem dJ2_getChar_3b067_59 : decode cJ2_getChar_3b067 59 = .ok (.ireturn, 1) := by decide +kernel
theorem dJ2_length_9d52b_0 : decode cJ2_length_9d52b 0 = .ok (.aload_n 0, 1) := by decide +kernel
theorem dJ2_length_9d52b_1 : decode cJ2_length_9d52b 1 = .ok (.arraylength, 1) := by decide +kernel
theorem dJ2_length_9d52b_2 : decode cJ2_length_9d52b 2 = .ok (.iconst 1, 1) := by decide +kernel
theorem dJ2_length_9d52b_3 : decode cJ2_length_9d52b 3 = .ok (.ishr, 1) := by decide +kernel
theorem dJ2_length_9d52b_4 : decode cJ2_length_9d52b 4 = .ok (.ireturn, 1) := by decide +kernel
theorem dJ2_charAt_3b067_0 : decode cJ2_charAt_3b067 0 = .ok (.iload_n 1, 1) := by decide +kernel
theorem dJ2_charAt_3b067_1 : decode cJ2_charAt_3b067 1 = .ok (.aload_n 0, 1) := by decide +kernel
theorem dJ2_charAt_3b067_2 : decode cJ2_charAt_3b067 2 = .ok (.invokestatic 67, 3) := by decide +kernel
theorem dJ2_charAt_3b067_5 : decode cJ2_charAt_3b067 5 = .ok (.aload_n 0, 1) := by decide +kernel
theorem dJ2_charAt_3b067_6 : decode cJ2_charAt_3b067 6 = .ok (.iload_n 1, 1) := by decide +kernel
theorem dJ2_charAt_3b067_7 : decode cJ2_charAt_3b067 7 = .ok (.invokestatic 71, 3) := by decide +kernel
theorem dJ2_charAt_3b067_10 : decode cJ2_charAt_3b067 10 = .ok (.ireturn, 1) := by decide +kernel
theorem dJ2_checkIndex_2214a_0 : decode cJ2_checkIndex_2214a 0 = .ok (.iload_n 0, 1) := by decide +kernel
theorem dJ2_checkIndex_2214a_1 : decode cJ2_checkIndex_2214a 1 = .ok (.aload_n 1, 1) := by decide +kernel
theorem dJ2_checkIndex_2214a_2 : decode cJ2_checkIndex_2214a 2 = .ok (.invokestatic 48, 3) := by decide +kernel
theorem dJ2_checkIndex_2214a_5 : decode cJ2_checkIndex_2214a 5 = .ok (.invokestatic 414, 3) := by decide +kernel
theorem dJ2_checkIndex_2214a_8 : decode cJ2_checkIndex_2214a 8 = .ok (.return_, 1) := by decide +kernel
theorem dJ7_fill_53178_0 : decode cJ7_fill_53178 0 = .ok (.iconst 0, 1) := by decide +kernel
theorem dJ7_fill_53178_1 : decode cJ7_fill_53178 1 = .ok (.istore_n 2, 1) := by decide +kernel
theorem dJ7_fill_53178_2 : decode cJ7_fill_53178 2 = .ok (.aload_n 0, 1) := by decide +kernel
theorem dJ7_fill_53178_3 : decode cJ7_fill_53178 3 = .ok (.arraylength, 1) := by decide +kernel
theorem dJ7_fill_53178_4 : decode cJ7_fill_53178 4 = .ok (.istore_n 3, 1) := by decide +kernel
theorem dJ7_fill_53178_5 : decode cJ7_fill_53178 5 = .ok (.iload_n 2, 1) := by decide +kernel
theorem dJ7_fill_53178_6 : decode cJ7_fill_53178 6 = .ok (.iload_n 3, 1) := by decide +kernel
theorem dJ7_fill_53178_7 : decode cJ7_fill_53178 7 = .ok (.if_icmp .ge 13, 3) := by decide +kernel
theorem dJ7_fill_53178_10 : decode cJ7_fill_53178 10 = .ok (.aload_n 0, 1) := by decide +kernel
theorem dJ7_fill_53178_11 : decode cJ7_fill_53178 11 = .ok (.iload_n 2, 1) := by decide +kernel
theorem dJ7_fill_53178_12 : decode cJ7_fill_53178 12 = .ok (.iload_n 1, 1) := by decide +kernel
theorem dJ7_fill_53178_13 : decode cJ7_fill_53178 13 = .ok (.iastore, 1) := by decide +kernel
theorem dJ7_fill_53178_14 : decode cJ7_fill_53178 14 = .ok (.iinc 2 1, 3) := by decide +kernel
theorem dJ7_fill_53178_17 : decode cJ7_fill_53178 17 = .ok (.goto (-12), 3) := by decide +kernel
theorem dJ7_fill_53178_20 : decode cJ7_fill_53178 20 = .ok (.return_, 1) := by decide +kernel
theorem dJ3_checkIndex_8e157_0 : decode cJ3_checkIndex_8e157 0 = .ok (.iload_n 0, 1) := by decide +kernel
theorem dJ3_checkIndex_8e157_1 : decode cJ3_checkIndex_8e157 1 = .ok (.ifCond .lt 8, 3) := by decide +kernel
theorem dJ3_checkIndex_8e157_4 : decode cJ3_checkIndex_8e157 4 = .ok (.iload_n 0, 1) := by decide +kernel
theorem dJ3_checkIndex_8e157_5 : decode cJ3_checkIndex_8e157 5 = .ok (.iload_n 1, 1) := by decide +kernel
theorem dJ3_checkIndex_8e157_6 : decode cJ3_checkIndex_8e157 6 = .ok (.if_icmp .lt 10, 3) := by decide +kernel
theorem dJ3_checkIndex_8e157_9 : decode cJ3_checkIndex_8e157 9 = .ok (.aload_n 2, 1) := by decide +kernel
theorem dJ3_checkIndex_8e157_10 : decode cJ3_checkIndex_8e157 10 = .ok (.iload_n 0, 1) := by decide +kernel
theorem dJ3_checkIndex_8e157_11 : decode cJ3_checkIndex_8e157 11 = .ok (.iload_n 1, 1) := by decide +kernel
theorem dJ3_checkIndex_8e157_12 : decode cJ3_checkIndex_8e157 12 = .ok (.invokestatic 95, 3) := by decide +kernel
theorem dJ3_checkIndex_8e157_15 : decode cJ3_checkIndex_8e157 15 = .ok (.athrow, 1) := by decide +kernel
theorem dJ3_checkIndex_8e157_16 : decode cJ3_checkIndex_8e157 16 = .ok (.iload_n 0, 1) := by decide +kernel
theorem dJ3_checkIndex_8e157_17 : decode cJ3_checkIndex_8e157 17 = .ok (.ireturn, 1) := by decide +kernel
theorem dL_law_0 : decode cL_law 0 = .ok (.new 7, 3) := by decide +kernel
theorem dL_law_3 : decode cL_law 3 = .ok (.dup, 1) := by decide +kernel
theorem dL_law_4 : decode cL_law 4 = .ok (.invokespecial 9, 3) := by decide +kernel
theorem dL_law_7 : decode cL_law 7 = .ok (.astore_n 1, 1) := by decide +kernel
theorem dL_law_8 : decode cL_law 8 = .ok (.new 10, 3) := by decide +kernel
theorem dL_law_11 : decode cL_law 11 = .ok (.dup, 1) := by decide +kernel
theorem dL_law_12 : decode cL_law 12 = .ok (.invokespecial 12, 3) := by decide +kernel
theorem dL_law_15 : decode cL_law 15 = .ok (.astore_n 2, 1) := by decide +kernel
theorem dL_law_16 : decode cL_law 16 = .ok (.iconst 0, 1) := by decide +kernel
theorem dL_law_17 : decode cL_law 17 = .ok (.istore_n 3, 1) := by decide +kernel
theorem dL_law_18 : decode cL_law 18 = .ok (.iload_n 3, 1) := by decide +kernel
theorem dL_law_19 : decode cL_law 19 = .ok (.aload_n 0, 1) := by decide +kernel
theorem dL_law_20 : decode cL_law 20 = .ok (.arraylength, 1) := by decide +kernel
theorem dL_law_21 : decode cL_law 21 = .ok (.iconst 5, 1) := by decide +kernel
theorem dL_law_22 : decode cL_law 22 = .ok (.isub, 1) := by decide +kernel
theorem dL_law_23 : decode cL_law 23 = .ok (.if_icmp .gt 928, 3) := by decide +kernel
theorem dL_law_26 : decode cL_law 26 = .ok (.aload_n 0, 1) := by decide +kernel
theorem dL_law_27 : decode cL_law 27 = .ok (.iload_n 3, 1) := by decide +kernel
theorem dL_law_28 : decode cL_law 28 = .ok (.iaload, 1) := by decide +kernel
theorem dL_law_29 : decode cL_law 29 = .ok (.bipush 31, 2) := by decide +kernel
theorem dL_law_31 : decode cL_law 31 = .ok (.iand, 1) := by decide +kernel
theorem dL_law_32 : decode cL_law 32 = .ok (.tableswitch 913 0 30 #[140, 163, 176, 189, 202, 235, 268, 301, 324, 357, 390, 413, 426, 459, 492, 515, 538, 561, 584, 607, 660, 693, 706, 729, 742, 775, 798, 821, 864, 877, 890], 140) := by decide +kernel
theorem dL_law_172 : decode cL_law 172 = .ok (.aload_n 1, 1) := by decide +kernel
theorem dL_law_173 : decode cL_law 173 = .ok (.aload_n 0, 1) := by decide +kernel
theorem dL_law_174 : decode cL_law 174 = .ok (.iload_n 3, 1) := by decide +kernel
theorem dL_law_175 : decode cL_law 175 = .ok (.iconst 1, 1) := by decide +kernel
theorem dL_law_176 : decode cL_law 176 = .ok (.iadd, 1) := by decide +kernel
theorem dL_law_177 : decode cL_law 177 = .ok (.iaload, 1) := by decide +kernel
theorem dL_law_178 : decode cL_law 178 = .ok (.invokevirtual 13, 3) := by decide +kernel
theorem dL_law_181 : decode cL_law 181 = .ok (.aload_n 2, 1) := by decide +kernel
theorem dL_law_182 : decode cL_law 182 = .ok (.aload_n 0, 1) := by decide +kernel
theorem dL_law_183 : decode cL_law 183 = .ok (.iload_n 3, 1) := by decide +kernel
theorem dL_law_184 : decode cL_law 184 = .ok (.iconst 1, 1) := by decide +kernel
theorem dL_law_185 : decode cL_law 185 = .ok (.iadd, 1) := by decide +kernel
theorem dL_law_186 : decode cL_law 186 = .ok (.iaload, 1) := by decide +kernel
theorem dL_law_187 : decode cL_law 187 = .ok (.invokevirtual 17, 3) := by decide +kernel
theorem dL_law_190 : decode cL_law 190 = .ok (.if_icmp .eq 755, 3) := by decide +kernel
theorem dL_law_193 : decode cL_law 193 = .ok (.iconst 0, 1) := by decide +kernel
theorem dL_law_194 : decode cL_law 194 = .ok (.ireturn, 1) := by decide +kernel
theorem dL_law_195 : decode cL_law 195 = .ok (.aload_n 1, 1) := by decide +kernel
theorem dL_law_196 : decode cL_law 196 = .ok (.invokevirtual 18, 3) := by decide +kernel
theorem dL_law_199 : decode cL_law 199 = .ok (.aload_n 2, 1) := by decide +kernel
theorem dL_law_200 : decode cL_law 200 = .ok (.invokevirtual 22, 3) := by decide +kernel
theorem dL_law_203 : decode cL_law 203 = .ok (.if_icmp .eq 742, 3) := by decide +kernel
theorem dL_law_206 : decode cL_law 206 = .ok (.iconst 0, 1) := by decide +kernel
theorem dL_law_207 : decode cL_law 207 = .ok (.ireturn, 1) := by decide +kernel
theorem dL_law_208 : decode cL_law 208 = .ok (.aload_n 1, 1) := by decide +kernel
theorem dL_law_209 : decode cL_law 209 = .ok (.invokevirtual 23, 3) := by decide +kernel
theorem dL_law_212 : decode cL_law 212 = .ok (.aload_n 2, 1) := by decide +kernel
theorem dL_law_213 : decode cL_law 213 = .ok (.invokevirtual 26, 3) := by decide +kernel
theorem dL_law_216 : decode cL_law 216 = .ok (.if_icmp .eq 729, 3) := by decide +kernel
theorem dL_law_219 : decode cL_law 219 = .ok (.iconst 0, 1) := by decide +kernel
theorem dL_law_220 : decode cL_law 220 = .ok (.ireturn, 1) := by decide +kernel
theorem dL_law_221 : decode cL_law 221 = .ok (.aload_n 1, 1) := by decide +kernel
theorem dL_law_222 : decode cL_law 222 = .ok (.invokevirtual 27, 3) := by decide +kernel
theorem dL_law_225 : decode cL_law 225 = .ok (.aload_n 2, 1) := by decide +kernel
theorem dL_law_226 : decode cL_law 226 = .ok (.invokevirtual 30, 3) := by decide +kernel
theorem dL_law_229 : decode cL_law 229 = .ok (.if_icmp .eq 716, 3) := by decide +kernel
theorem dL_law_232 : decode cL_law 232 = .ok (.iconst 0, 1) := by decide +kernel
theorem dL_law_233 : decode cL_law 233 = .ok (.ireturn, 1) := by decide +kernel
theorem dL_law_234 : decode cL_law 234 = .ok (.aload_n 1, 1) := by decide +kernel
theorem dL_law_235 : decode cL_law 235 = .ok (.aload_n 0, 1) := by decide +kernel
theorem dL_law_236 : decode cL_law 236 = .ok (.iload_n 3, 1) := by decide +kernel
theorem dL_law_237 : decode cL_law 237 = .ok (.iconst 1, 1) := by decide +kernel
theorem dL_law_238 : decode cL_law 238 = .ok (.iadd, 1) := by decide +kernel
theorem dL_law_239 : decode cL_law 239 = .ok (.iaload, 1) := by decide +kernel
theorem dL_law_240 : decode cL_law 240 = .ok (.aload_n 0, 1) := by decide +kernel
theorem dL_law_241 : decode cL_law 241 = .ok (.iload_n 3, 1) := by decide +kernel
theorem dL_law_242 : decode cL_law 242 = .ok (.iconst 2, 1) := by decide +kernel
theorem dL_law_243 : decode cL_law 243 = .ok (.iadd, 1) := by decide +kernel
theorem dL_law_244 : decode cL_law 244 = .ok (.iaload, 1) := by decide +kernel
theorem dL_law_245 : decode cL_law 245 = .ok (.invokevirtual 31, 3) := by decide +kernel
theorem dL_law_248 : decode cL_law 248 = .ok (.aload_n 2, 1) := by decide +kernel
theorem dL_law_249 : decode cL_law 249 = .ok (.aload_n 0, 1) := by decide +kernel
theorem dL_law_250 : decode cL_law 250 = .ok (.iload_n 3, 1) := by decide +kernel
theorem dL_law_251 : decode cL_law 251 = .ok (.iconst 1, 1) := by decide +kernel
theorem dL_law_252 : decode cL_law 252 = .ok (.iadd, 1) := by decide +kernel
theorem dL_law_253 : decode cL_law 253 = .ok (.iaload, 1) := by decide +kernel
theorem dL_law_254 : decode cL_law 254 = .ok (.aload_n 0, 1) := by decide +kernel
theorem dL_law_255 : decode cL_law 255 = .ok (.iload_n 3, 1) := by decide +kernel
theorem dL_law_256 : decode cL_law 256 = .ok (.iconst 2, 1) := by decide +kernel
theorem dL_law_257 : decode cL_law 257 = .ok (.iadd, 1) := by decide +kernel
theorem dL_law_258 : decode cL_law 258 = .ok (.iaload, 1) := by decide +kernel
theorem dL_law_259 : decode cL_law 259 = .ok (.invokevirtual 35, 3) := by decide +kernel
theorem dL_law_262 : decode cL_law 262 = .ok (.if_icmp .eq 683, 3) := by decide +kernel
theorem dL_law_265 : decode cL_law 265 = .ok (.iconst 0, 1) := by decide +kernel
theorem dL_law_266 : decode cL_law 266 = .ok (.ireturn, 1) := by decide +kernel
theorem dL_law_267 : decode cL_law 267 = .ok (.aload_n 1, 1) := by decide +kernel
theorem dL_law_268 : decode cL_law 268 = .ok (.aload_n 0, 1) := by decide +kernel
theorem dL_law_269 : decode cL_law 269 = .ok (.iload_n 3, 1) := by decide +kernel
theorem dL_law_270 : decode cL_law 270 = .ok (.iconst 1, 1) := by decide +kernel
theorem dL_law_271 : decode cL_law 271 = .ok (.iadd, 1) := by decide +kernel
theorem dL_law_272 : decode cL_law 272 = .ok (.iaload, 1) := by decide +kernel
theorem dL_law_273 : decode cL_law 273 = .ok (.aload_n 0, 1) := by decide +kernel
theorem dL_law_274 : decode cL_law 274 = .ok (.iload_n 3, 1) := by decide +kernel
theorem dL_law_275 : decode cL_law 275 = .ok (.iconst 2, 1) := by decide +kernel
theorem dL_law_276 : decode cL_law 276 = .ok (.iadd, 1) := by decide +kernel
theorem dL_law_277 : decode cL_law 277 = .ok (.iaload, 1) := by decide +kernel
theorem dL_law_278 : decode cL_law 278 = .ok (.invokevirtual 36, 3) := by decide +kernel
theorem dL_law_281 : decode cL_law 281 = .ok (.aload_n 2, 1) := by decide +kernel
theorem dL_law_282 : decode cL_law 282 = .ok (.aload_n 0, 1) := by decide +kernel
theorem dL_law_283 : decode cL_law 283 = .ok (.iload_n 3, 1) := by decide +kernel
theorem dL_law_284 : decode cL_law 284 = .ok (.iconst 1, 1) := by decide +kernel
theorem dL_law_285 : decode cL_law 285 = .ok (.iadd, 1) := by decide +kernel
theorem dL_law_286 : decode cL_law 286 = .ok (.iaload, 1) := by decide +kernel
theorem dL_law_287 : decode cL_law 287 = .ok (.aload_n 0, 1) := by decide +kernel
theorem dL_law_288 : decode cL_law 288 = .ok (.iload_n 3, 1) := by decide +kernel
theorem dL_law_289 : decode cL_law 289 = .ok (.iconst 2, 1) := by decide +kernel
theorem dL_law_290 : decode cL_law 290 = .ok (.iadd, 1) := by decide +kernel
theorem dL_law_291 : decode cL_law 291 = .ok (.iaload, 1) := by decide +kernel
theorem dL_law_292 : decode cL_law 292 = .ok (.invokevirtual 39, 3) := by decide +kernel
theorem dL_law_295 : decode cL_law 295 = .ok (.if_icmp .eq 650, 3) := by decide +kernel
theorem dL_law_298 : decode cL_law 298 = .ok (.iconst 0, 1) := by decide +kernel
theorem dL_law_299 : decode cL_law 299 = .ok (.ireturn, 1) := by decide +kernel
theorem dL_law_300 : decode cL_law 300 = .ok (.aload_n 1, 1) := by decide +kernel
theorem dL_law_301 : decode cL_law 301 = .ok (.aload_n 0, 1) := by decide +kernel
theorem dL_law_302 : decode cL_law 302 = .ok (.iload_n 3, 1) := by decide +kernel
theorem dL_law_303 : decode cL_law 303 = .ok (.iconst 1, 1) := by decide +kernel
theorem dL_law_304 : decode cL_law 304 = .ok (.iadd, 1) := by decide +kernel
theorem dL_law_305 : decode cL_law 305 = .ok (.iaload, 1) := by decide +kernel
theorem dL_law_306 : decode cL_law 306 = .ok (.aload_n 0, 1) := by decide +kernel
theorem dL_law_307 : decode cL_law 307 = .ok (.iload_n 3, 1) := by decide +kernel
theorem dL_law_308 : decode cL_law 308 = .ok (.iconst 2, 1) := by decide +kernel
theorem dL_law_309 : decode cL_law 309 = .ok (.iadd, 1) := by decide +kernel
theorem dL_law_310 : decode cL_law 310 = .ok (.iaload, 1) := by decide +kernel
theorem dL_law_311 : decode cL_law 311 = .ok (.invokevirtual 40, 3) := by decide +kernel
theorem dL_law_314 : decode cL_law 314 = .ok (.aload_n 2, 1) := by decide +kernel
theorem dL_law_315 : decode cL_law 315 = .ok (.aload_n 0, 1) := by decide +kernel
theorem dL_law_316 : decode cL_law 316 = .ok (.iload_n 3, 1) := by decide +kernel
theorem dL_law_317 : decode cL_law 317 = .ok (.iconst 1, 1) := by decide +kernel
theorem dL_law_318 : decode cL_law 318 = .ok (.iadd, 1) := by decide +kernel
theorem dL_law_319 : decode cL_law 319 = .ok (.iaload, 1) := by decide +kernel
theorem dL_law_320 : decode cL_law 320 = .ok (.aload_n 0, 1) := by decide +kernel
theorem dL_law_321 : decode cL_law 321 = .ok (.iload_n 3, 1) := by decide +kernel
theorem dL_law_322 : decode cL_law 322 = .ok (.iconst 2, 1) := by decide +kernel
theorem dL_law_323 : decode cL_law 323 = .ok (.iadd, 1) := by decide +kernel
theorem dL_law_324 : decode cL_law 324 = .ok (.iaload, 1) := by decide +kernel
theorem dL_law_325 : decode cL_law 325 = .ok (.invokevirtual 43, 3) := by decide +kernel
theorem dL_law_328 : decode cL_law 328 = .ok (.if_icmp .eq 617, 3) := by decide +kernel
theorem dL_law_331 : decode cL_law 331 = .ok (.iconst 0, 1) := by decide +kernel
theorem dL_law_332 : decode cL_law 332 = .ok (.ireturn, 1) := by decide +kernel
theorem dL_law_333 : decode cL_law 333 = .ok (.aload_n 1, 1) := by decide +kernel
theorem dL_law_334 : decode cL_law 334 = .ok (.aload_n 0, 1) := by decide +kernel
theorem dL_law_335 : decode cL_law 335 = .ok (.iload_n 3, 1) := by decide +kernel
theorem dL_law_336 : decode cL_law 336 = .ok (.iconst 1, 1) := by decide +kernel
theorem dL_law_337 : decode cL_law 337 = .ok (.iadd, 1) := by decide +kernel
theorem dL_law_338 : decode cL_law 338 = .ok (.iaload, 1) := by decide +kernel
theorem dL_law_339 : decode cL_law 339 = .ok (.invokevirtual 44, 3) := by decide +kernel
theorem dL_law_342 : decode cL_law 342 = .ok (.aload_n 2, 1) := by decide +kernel
theorem dL_law_343 : decode cL_law 343 = .ok (.aload_n 0, 1) := by decide +kernel
theorem dL_law_344 : decode cL_law 344 = .ok (.iload_n 3, 1) := by decide +kernel
theorem dL_law_345 : decode cL_law 345 = .ok (.iconst 1, 1) := by decide +kernel
theorem dL_law_346 : decode cL_law 346 = .ok (.iadd, 1) := by decide +kernel
theorem dL_law_347 : decode cL_law 347 = .ok (.iaload, 1) := by decide +kernel
theorem dL_law_348 : decode cL_law 348 = .ok (.invokevirtual 47, 3) := by decide +kernel
theorem dL_law_351 : decode cL_law 351 = .ok (.if_icmp .eq 594, 3) := by decide +kernel
theorem dL_law_354 : decode cL_law 354 = .ok (.iconst 0, 1) := by decide +kernel
theorem dL_law_355 : decode cL_law 355 = .ok (.ireturn, 1) := by decide +kernel
theorem dL_law_356 : decode cL_law 356 = .ok (.aload_n 1, 1) := by decide +kernel
theorem dL_law_357 : decode cL_law 357 = .ok (.aload_n 0, 1) := by decide +kernel
theorem dL_law_358 : decode cL_law 358 = .ok (.iload_n 3, 1) := by decide +kernel
theorem dL_law_359 : decode cL_law 359 = .ok (.iconst 1, 1) := by decide +kernel
theorem dL_law_360 : decode cL_law 360 = .ok (.iadd, 1) := by decide +kernel
theorem dL_law_361 : decode cL_law 361 = .ok (.iaload, 1) := by decide +kernel
theorem dL_law_362 : decode cL_law 362 = .ok (.aload_n 0, 1) := by decide +kernel
theorem dL_law_363 : decode cL_law 363 = .ok (.iload_n 3, 1) := by decide +kernel
theorem dL_law_364 : decode cL_law 364 = .ok (.iconst 2, 1) := by decide +kernel
theorem dL_law_365 : decode cL_law 365 = .ok (.iadd, 1) := by decide +kernel
theorem dL_law_366 : decode cL_law 366 = .ok (.iaload, 1) := by decide +kernel
theorem dL_law_367 : decode cL_law 367 = .ok (.invokevirtual 48, 3) := by decide +kernel
theorem dL_law_370 : decode cL_law 370 = .ok (.aload_n 2, 1) := by decide +kernel
theorem dL_law_371 : decode cL_law 371 = .ok (.aload_n 0, 1) := by decide +kernel
theorem dL_law_372 : decode cL_law 372 = .ok (.iload_n 3, 1) := by decide +kernel
theorem dL_law_373 : decode cL_law 373 = .ok (.iconst 1, 1) := by decide +kernel
theorem dL_law_374 : decode cL_law 374 = .ok (.iadd, 1) := by decide +kernel
theorem dL_law_375 : decode cL_law 375 = .ok (.iaload, 1) := by decide +kernel
theorem dL_law_376 : decode cL_law 376 = .ok (.aload_n 0, 1) := by decide +kernel
theorem dL_law_377 : decode cL_law 377 = .ok (.iload_n 3, 1) := by decide +kernel
theorem dL_law_378 : decode cL_law 378 = .ok (.iconst 2, 1) := by decide +kernel
theorem dL_law_379 : decode cL_law 379 = .ok (.iadd, 1) := by decide +kernel
theorem dL_law_380 : decode cL_law 380 = .ok (.iaload, 1) := by decide +kernel
theorem dL_law_381 : decode cL_law 381 = .ok (.invokevirtual 51, 3) := by decide +kernel
theorem dL_law_384 : decode cL_law 384 = .ok (.if_icmp .eq 561, 3) := by decide +kernel
theorem dL_law_387 : decode cL_law 387 = .ok (.iconst 0, 1) := by decide +kernel
theorem dL_law_388 : decode cL_law 388 = .ok (.ireturn, 1) := by decide +kernel
theorem dL_law_389 : decode cL_law 389 = .ok (.aload_n 1, 1) := by decide +kernel
theorem dL_law_390 : decode cL_law 390 = .ok (.aload_n 0, 1) := by decide +kernel
theorem dL_law_391 : decode cL_law 391 = .ok (.iload_n 3, 1) := by decide +kernel
theorem dL_law_392 : decode cL_law 392 = .ok (.iconst 1, 1) := by decide +kernel
theorem dL_law_393 : decode cL_law 393 = .ok (.iadd, 1) := by decide +kernel
theorem dL_law_394 : decode cL_law 394 = .ok (.iaload, 1) := by decide +kernel
theorem dL_law_395 : decode cL_law 395 = .ok (.aload_n 0, 1) := by decide +kernel
theorem dL_law_396 : decode cL_law 396 = .ok (.iload_n 3, 1) := by decide +kernel
theorem dL_law_397 : decode cL_law 397 = .ok (.iconst 2, 1) := by decide +kernel
theorem dL_law_398 : decode cL_law 398 = .ok (.iadd, 1) := by decide +kernel
theorem dL_law_399 : decode cL_law 399 = .ok (.iaload, 1) := by decide +kernel
theorem dL_law_400 : decode cL_law 400 = .ok (.invokevirtual 52, 3) := by decide +kernel
theorem dL_law_403 : decode cL_law 403 = .ok (.aload_n 2, 1) := by decide +kernel
theorem dL_law_404 : decode cL_law 404 = .ok (.aload_n 0, 1) := by decide +kernel
theorem dL_law_405 : decode cL_law 405 = .ok (.iload_n 3, 1) := by decide +kernel
theorem dL_law_406 : decode cL_law 406 = .ok (.iconst 1, 1) := by decide +kernel
theorem dL_law_407 : decode cL_law 407 = .ok (.iadd, 1) := by decide +kernel
theorem dL_law_408 : decode cL_law 408 = .ok (.iaload, 1) := by decide +kernel
theorem dL_law_409 : decode cL_law 409 = .ok (.aload_n 0, 1) := by decide +kernel
theorem dL_law_410 : decode cL_law 410 = .ok (.iload_n 3, 1) := by decide +kernel
theorem dL_law_411 : decode cL_law 411 = .ok (.iconst 2, 1) := by decide +kernel
theorem dL_law_412 : decode cL_law 412 = .ok (.iadd, 1) := by decide +kernel
theorem dL_law_413 : decode cL_law 413 = .ok (.iaload, 1) := by decide +kernel
theorem dL_law_414 : decode cL_law 414 = .ok (.invokevirtual 55, 3) := by decide +kernel
theorem dL_law_417 : decode cL_law 417 = .ok (.if_icmp .eq 528, 3) := by decide +kernel
theorem dL_law_420 : decode cL_law 420 = .ok (.iconst 0, 1) := by decide +kernel
theorem dL_law_421 : decode cL_law 421 = .ok (.ireturn, 1) := by decide +kernel
theorem dL_law_422 : decode cL_law 422 = .ok (.aload_n 1, 1) := by decide +kernel
theorem dL_law_423 : decode cL_law 423 = .ok (.aload_n 0, 1) := by decide +kernel
theorem dL_law_424 : decode cL_law 424 = .ok (.iload_n 3, 1) := by decide +kernel
theorem dL_law_425 : decode cL_law 425 = .ok (.iconst 1, 1) := by decide +kernel
theorem dL_law_426 : decode cL_law 426 = .ok (.iadd, 1) := by decide +kernel
theorem dL_law_427 : decode cL_law 427 = .ok (.iaload, 1) := by decide +kernel
theorem dL_law_428 : decode cL_law 428 = .ok (.invokevirtual 56, 3) := by decide +kernel
theorem dL_law_431 : decode cL_law 431 = .ok (.aload_n 2, 1) := by decide +kernel
theorem dL_law_432 : decode cL_law 432 = .ok (.aload_n 0, 1) := by decide +kernel
theorem dL_law_433 : decode cL_law 433 = .ok (.iload_n 3, 1) := by decide +kernel
theorem dL_law_434 : decode cL_law 434 = .ok (.iconst 1, 1) := by decide +kernel
theorem dL_law_435 : decode cL_law 435 = .ok (.iadd, 1) := by decide +kernel
theorem dL_law_436 : decode cL_law 436 = .ok (.iaload, 1) := by decide +kernel
theorem dL_law_437 : decode cL_law 437 = .ok (.invokevirtual 59, 3) := by decide +kernel
theorem dL_law_440 : decode cL_law 440 = .ok (.if_icmp .eq 505, 3) := by decide +kernel
theorem dL_law_443 : decode cL_law 443 = .ok (.iconst 0, 1) := by decide +kernel
theorem dL_law_444 : decode cL_law 444 = .ok (.ireturn, 1) := by decide +kernel
theorem dL_law_445 : decode cL_law 445 = .ok (.aload_n 1, 1) := by decide +kernel
theorem dL_law_446 : decode cL_law 446 = .ok (.invokevirtual 60, 3) := by decide +kernel
theorem dL_law_449 : decode cL_law 449 = .ok (.aload_n 2, 1) := by decide +kernel
theorem dL_law_450 : decode cL_law 450 = .ok (.invokevirtual 63, 3) := by decide +kernel
theorem dL_law_453 : decode cL_law 453 = .ok (.if_icmp .eq 492, 3) := by decide +kernel
theorem dL_law_456 : decode cL_law 456 = .ok (.iconst 0, 1) := by decide +kernel
theorem dL_law_457 : decode cL_law 457 = .ok (.ireturn, 1) := by decide +kernel
theorem dL_law_458 : decode cL_law 458 = .ok (.aload_n 1, 1) := by decide +kernel
theorem dL_law_459 : decode cL_law 459 = .ok (.aload_n 0, 1) := by decide +kernel
theorem dL_law_460 : decode cL_law 460 = .ok (.iload_n 3, 1) := by decide +kernel
theorem dL_law_461 : decode cL_law 461 = .ok (.iconst 1, 1) := by decide +kernel
theorem dL_law_462 : decode cL_law 462 = .ok (.iadd, 1) := by decide +kernel
theorem dL_law_463 : decode cL_law 463 = .ok (.iaload, 1) := by decide +kernel
theorem dL_law_464 : decode cL_law 464 = .ok (.aload_n 0, 1) := by decide +kernel
theorem dL_law_465 : decode cL_law 465 = .ok (.iload_n 3, 1) := by decide +kernel
theorem dL_law_466 : decode cL_law 466 = .ok (.iconst 2, 1) := by decide +kernel
theorem dL_law_467 : decode cL_law 467 = .ok (.iadd, 1) := by decide +kernel
theorem dL_law_468 : decode cL_law 468 = .ok (.iaload, 1) := by decide +kernel
theorem dL_law_469 : decode cL_law 469 = .ok (.invokevirtual 64, 3) := by decide +kernel
theorem dL_law_472 : decode cL_law 472 = .ok (.aload_n 2, 1) := by decide +kernel
theorem dL_law_473 : decode cL_law 473 = .ok (.aload_n 0, 1) := by decide +kernel
theorem dL_law_474 : decode cL_law 474 = .ok (.iload_n 3, 1) := by decide +kernel
theorem dL_law_475 : decode cL_law 475 = .ok (.iconst 1, 1) := by decide +kernel
theorem dL_law_476 : decode cL_law 476 = .ok (.iadd, 1) := by decide +kernel
theorem dL_law_477 : decode cL_law 477 = .ok (.iaload, 1) := by decide +kernel
theorem dL_law_478 : decode cL_law 478 = .ok (.aload_n 0, 1) := by decide +kernel
theorem dL_law_479 : decode cL_law 479 = .ok (.iload_n 3, 1) := by decide +kernel
theorem dL_law_480 : decode cL_law 480 = .ok (.iconst 2, 1) := by decide +kernel
theorem dL_law_481 : decode cL_law 481 = .ok (.iadd, 1) := by decide +kernel
theorem dL_law_482 : decode cL_law 482 = .ok (.iaload, 1) := by decide +kernel
theorem dL_law_483 : decode cL_law 483 = .ok (.invokevirtual 67, 3) := by decide +kernel
theorem dL_law_486 : decode cL_law 486 = .ok (.if_icmp .eq 459, 3) := by decide +kernel
theorem dL_law_489 : decode cL_law 489 = .ok (.iconst 0, 1) := by decide +kernel
theorem dL_law_490 : decode cL_law 490 = .ok (.ireturn, 1) := by decide +kernel
theorem dL_law_491 : decode cL_law 491 = .ok (.aload_n 1, 1) := by decide +kernel
theorem dL_law_492 : decode cL_law 492 = .ok (.aload_n 0, 1) := by decide +kernel
theorem dL_law_493 : decode cL_law 493 = .ok (.iload_n 3, 1) := by decide +kernel
theorem dL_law_494 : decode cL_law 494 = .ok (.iconst 1, 1) := by decide +kernel
theorem dL_law_495 : decode cL_law 495 = .ok (.iadd, 1) := by decide +kernel
theorem dL_law_496 : decode cL_law 496 = .ok (.iaload, 1) := by decide +kernel
theorem dL_law_497 : decode cL_law 497 = .ok (.aload_n 0, 1) := by decide +kernel
theorem dL_law_498 : decode cL_law 498 = .ok (.iload_n 3, 1) := by decide +kernel
theorem dL_law_499 : decode cL_law 499 = .ok (.iconst 2, 1) := by decide +kernel
theorem dL_law_500 : decode cL_law 500 = .ok (.iadd, 1) := by decide +kernel
theorem dL_law_501 : decode cL_law 501 = .ok (.iaload, 1) := by decide +kernel
theorem dL_law_502 : decode cL_law 502 = .ok (.invokevirtual 68, 3) := by decide +kernel
theorem dL_law_505 : decode cL_law 505 = .ok (.aload_n 2, 1) := by decide +kernel
theorem dL_law_506 : decode cL_law 506 = .ok (.aload_n 0, 1) := by decide +kernel
theorem dL_law_507 : decode cL_law 507 = .ok (.iload_n 3, 1) := by decide +kernel
theorem dL_law_508 : decode cL_law 508 = .ok (.iconst 1, 1) := by decide +kernel
theorem dL_law_509 : decode cL_law 509 = .ok (.iadd, 1) := by decide +kernel
theorem dL_law_510 : decode cL_law 510 = .ok (.iaload, 1) := by decide +kernel
theorem dL_law_511 : decode cL_law 511 = .ok (.aload_n 0, 1) := by decide +kernel
theorem dL_law_512 : decode cL_law 512 = .ok (.iload_n 3, 1) := by decide +kernel
theorem dL_law_513 : decode cL_law 513 = .ok (.iconst 2, 1) := by decide +kernel
theorem dL_law_514 : decode cL_law 514 = .ok (.iadd, 1) := by decide +kernel
theorem dL_law_515 : decode cL_law 515 = .ok (.iaload, 1) := by decide +kernel
theorem dL_law_516 : decode cL_law 516 = .ok (.invokevirtual 71, 3) := by decide +kernel
theorem dL_law_519 : decode cL_law 519 = .ok (.if_icmp .eq 426, 3) := by decide +kernel
theorem dL_law_522 : decode cL_law 522 = .ok (.iconst 0, 1) := by decide +kernel
theorem dL_law_523 : decode cL_law 523 = .ok (.ireturn, 1) := by decide +kernel
theorem dL_law_524 : decode cL_law 524 = .ok (.aload_n 1, 1) := by decide +kernel
theorem dL_law_525 : decode cL_law 525 = .ok (.aload_n 0, 1) := by decide +kernel
theorem dL_law_526 : decode cL_law 526 = .ok (.iload_n 3, 1) := by decide +kernel
theorem dL_law_527 : decode cL_law 527 = .ok (.iconst 1, 1) := by decide +kernel
theorem dL_law_528 : decode cL_law 528 = .ok (.iadd, 1) := by decide +kernel
theorem dL_law_529 : decode cL_law 529 = .ok (.iaload, 1) := by decide +kernel
theorem dL_law_530 : decode cL_law 530 = .ok (.invokevirtual 72, 3) := by decide +kernel
theorem dL_law_533 : decode cL_law 533 = .ok (.aload_n 2, 1) := by decide +kernel
theorem dL_law_534 : decode cL_law 534 = .ok (.aload_n 0, 1) := by decide +kernel
theorem dL_law_535 : decode cL_law 535 = .ok (.iload_n 3, 1) := by decide +kernel
theorem dL_law_536 : decode cL_law 536 = .ok (.iconst 1, 1) := by decide +kernel
theorem dL_law_537 : decode cL_law 537 = .ok (.iadd, 1) := by decide +kernel
theorem dL_law_538 : decode cL_law 538 = .ok (.iaload, 1) := by decide +kernel
theorem dL_law_539 : decode cL_law 539 = .ok (.invokevirtual 75, 3) := by decide +kernel
theorem dL_law_542 : decode cL_law 542 = .ok (.if_icmp .eq 403, 3) := by decide +kernel
theorem dL_law_545 : decode cL_law 545 = .ok (.iconst 0, 1) := by decide +kernel
theorem dL_law_546 : decode cL_law 546 = .ok (.ireturn, 1) := by decide +kernel
theorem dL_law_547 : decode cL_law 547 = .ok (.aload_n 1, 1) := by decide +kernel
theorem dL_law_548 : decode cL_law 548 = .ok (.aload_n 0, 1) := by decide +kernel
theorem dL_law_549 : decode cL_law 549 = .ok (.iload_n 3, 1) := by decide +kernel
theorem dL_law_550 : decode cL_law 550 = .ok (.iconst 1, 1) := by decide +kernel
theorem dL_law_551 : decode cL_law 551 = .ok (.iadd, 1) := by decide +kernel
theorem dL_law_552 : decode cL_law 552 = .ok (.iaload, 1) := by decide +kernel
theorem dL_law_553 : decode cL_law 553 = .ok (.invokevirtual 76, 3) := by decide +kernel
theorem dL_law_556 : decode cL_law 556 = .ok (.aload_n 2, 1) := by decide +kernel
theorem dL_law_557 : decode cL_law 557 = .ok (.aload_n 0, 1) := by decide +kernel
theorem dL_law_558 : decode cL_law 558 = .ok (.iload_n 3, 1) := by decide +kernel
theorem dL_law_559 : decode cL_law 559 = .ok (.iconst 1, 1) := by decide +kernel
theorem dL_law_560 : decode cL_law 560 = .ok (.iadd, 1) := by decide +kernel
theorem dL_law_561 : decode cL_law 561 = .ok (.iaload, 1) := by decide +kernel
theorem dL_law_562 : decode cL_law 562 = .ok (.invokevirtual 79, 3) := by decide +kernel
theorem dL_law_565 : decode cL_law 565 = .ok (.if_icmp .eq 380, 3) := by decide +kernel
theorem dL_law_568 : decode cL_law 568 = .ok (.iconst 0, 1) := by decide +kernel
theorem dL_law_569 : decode cL_law 569 = .ok (.ireturn, 1) := by decide +kernel
theorem dL_law_570 : decode cL_law 570 = .ok (.aload_n 1, 1) := by decide +kernel
theorem dL_law_571 : decode cL_law 571 = .ok (.aload_n 0, 1) := by decide +kernel
theorem dL_law_572 : decode cL_law 572 = .ok (.iload_n 3, 1) := by decide +kernel
theorem dL_law_573 : decode cL_law 573 = .ok (.iconst 1, 1) := by decide +kernel
theorem dL_law_574 : decode cL_law 574 = .ok (.iadd, 1) := by decide +kernel
theorem dL_law_575 : decode cL_law 575 = .ok (.iaload, 1) := by decide +kernel
theorem dL_law_576 : decode cL_law 576 = .ok (.invokevirtual 80, 3) := by decide +kernel
theorem dL_law_579 : decode cL_law 579 = .ok (.aload_n 2, 1) := by decide +kernel
theorem dL_law_580 : decode cL_law 580 = .ok (.aload_n 0, 1) := by decide +kernel
theorem dL_law_581 : decode cL_law 581 = .ok (.iload_n 3, 1) := by decide +kernel
theorem dL_law_582 : decode cL_law 582 = .ok (.iconst 1, 1) := by decide +kernel
theorem dL_law_583 : decode cL_law 583 = .ok (.iadd, 1) := by decide +kernel
theorem dL_law_584 : decode cL_law 584 = .ok (.iaload, 1) := by decide +kernel
theorem dL_law_585 : decode cL_law 585 = .ok (.invokevirtual 83, 3) := by decide +kernel
theorem dL_law_588 : decode cL_law 588 = .ok (.if_icmp .eq 357, 3) := by decide +kernel
theorem dL_law_591 : decode cL_law 591 = .ok (.iconst 0, 1) := by decide +kernel
theorem dL_law_592 : decode cL_law 592 = .ok (.ireturn, 1) := by decide +kernel
theorem dL_law_593 : decode cL_law 593 = .ok (.aload_n 1, 1) := by decide +kernel
theorem dL_law_594 : decode cL_law 594 = .ok (.aload_n 0, 1) := by decide +kernel
theorem dL_law_595 : decode cL_law 595 = .ok (.iload_n 3, 1) := by decide +kernel
theorem dL_law_596 : decode cL_law 596 = .ok (.iconst 1, 1) := by decide +kernel
theorem dL_law_597 : decode cL_law 597 = .ok (.iadd, 1) := by decide +kernel
theorem dL_law_598 : decode cL_law 598 = .ok (.iaload, 1) := by decide +kernel
theorem dL_law_599 : decode cL_law 599 = .ok (.invokevirtual 84, 3) := by decide +kernel
theorem dL_law_602 : decode cL_law 602 = .ok (.aload_n 2, 1) := by decide +kernel
theorem dL_law_603 : decode cL_law 603 = .ok (.aload_n 0, 1) := by decide +kernel
theorem dL_law_604 : decode cL_law 604 = .ok (.iload_n 3, 1) := by decide +kernel
theorem dL_law_605 : decode cL_law 605 = .ok (.iconst 1, 1) := by decide +kernel
theorem dL_law_606 : decode cL_law 606 = .ok (.iadd, 1) := by decide +kernel
theorem dL_law_607 : decode cL_law 607 = .ok (.iaload, 1) := by decide +kernel
theorem dL_law_608 : decode cL_law 608 = .ok (.invokevirtual 87, 3) := by decide +kernel
theorem dL_law_611 : decode cL_law 611 = .ok (.if_icmp .eq 334, 3) := by decide +kernel
theorem dL_law_614 : decode cL_law 614 = .ok (.iconst 0, 1) := by decide +kernel
theorem dL_law_615 : decode cL_law 615 = .ok (.ireturn, 1) := by decide +kernel
theorem dL_law_616 : decode cL_law 616 = .ok (.aload_n 1, 1) := by decide +kernel
theorem dL_law_617 : decode cL_law 617 = .ok (.aload_n 0, 1) := by decide +kernel
theorem dL_law_618 : decode cL_law 618 = .ok (.iload_n 3, 1) := by decide +kernel
theorem dL_law_619 : decode cL_law 619 = .ok (.iconst 1, 1) := by decide +kernel
theorem dL_law_620 : decode cL_law 620 = .ok (.iadd, 1) := by decide +kernel
theorem dL_law_621 : decode cL_law 621 = .ok (.iaload, 1) := by decide +kernel
theorem dL_law_622 : decode cL_law 622 = .ok (.invokevirtual 88, 3) := by decide +kernel
theorem dL_law_625 : decode cL_law 625 = .ok (.aload_n 2, 1) := by decide +kernel
theorem dL_law_626 : decode cL_law 626 = .ok (.aload_n 0, 1) := by decide +kernel
theorem dL_law_627 : decode cL_law 627 = .ok (.iload_n 3, 1) := by decide +kernel
theorem dL_law_628 : decode cL_law 628 = .ok (.iconst 1, 1) := by decide +kernel
theorem dL_law_629 : decode cL_law 629 = .ok (.iadd, 1) := by decide +kernel
theorem dL_law_630 : decode cL_law 630 = .ok (.iaload, 1) := by decide +kernel
theorem dL_law_631 : decode cL_law 631 = .ok (.invokevirtual 91, 3) := by decide +kernel
theorem dL_law_634 : decode cL_law 634 = .ok (.if_icmp .eq 311, 3) := by decide +kernel
theorem dL_law_637 : decode cL_law 637 = .ok (.iconst 0, 1) := by decide +kernel
theorem dL_law_638 : decode cL_law 638 = .ok (.ireturn, 1) := by decide +kernel
theorem dL_law_639 : decode cL_law 639 = .ok (.aload_n 1, 1) := by decide +kernel
theorem dL_law_640 : decode cL_law 640 = .ok (.aload_n 0, 1) := by decide +kernel
theorem dL_law_641 : decode cL_law 641 = .ok (.iload_n 3, 1) := by decide +kernel
theorem dL_law_642 : decode cL_law 642 = .ok (.iconst 1, 1) := by decide +kernel
theorem dL_law_643 : decode cL_law 643 = .ok (.iadd, 1) := by decide +kernel
theorem dL_law_644 : decode cL_law 644 = .ok (.iaload, 1) := by decide +kernel
theorem dL_law_645 : decode cL_law 645 = .ok (.aload_n 0, 1) := by decide +kernel
theorem dL_law_646 : decode cL_law 646 = .ok (.iload_n 3, 1) := by decide +kernel
theorem dL_law_647 : decode cL_law 647 = .ok (.iconst 2, 1) := by decide +kernel
theorem dL_law_648 : decode cL_law 648 = .ok (.iadd, 1) := by decide +kernel
theorem dL_law_649 : decode cL_law 649 = .ok (.iaload, 1) := by decide +kernel
theorem dL_law_650 : decode cL_law 650 = .ok (.aload_n 0, 1) := by decide +kernel
theorem dL_law_651 : decode cL_law 651 = .ok (.iload_n 3, 1) := by decide +kernel
theorem dL_law_652 : decode cL_law 652 = .ok (.iconst 3, 1) := by decide +kernel
theorem dL_law_653 : decode cL_law 653 = .ok (.iadd, 1) := by decide +kernel
theorem dL_law_654 : decode cL_law 654 = .ok (.iaload, 1) := by decide +kernel
theorem dL_law_655 : decode cL_law 655 = .ok (.aload_n 0, 1) := by decide +kernel
theorem dL_law_656 : decode cL_law 656 = .ok (.iload_n 3, 1) := by decide +kernel
theorem dL_law_657 : decode cL_law 657 = .ok (.iconst 4, 1) := by decide +kernel
theorem dL_law_658 : decode cL_law 658 = .ok (.iadd, 1) := by decide +kernel
theorem dL_law_659 : decode cL_law 659 = .ok (.iaload, 1) := by decide +kernel
theorem dL_law_660 : decode cL_law 660 = .ok (.invokevirtual 92, 3) := by decide +kernel
theorem dL_law_663 : decode cL_law 663 = .ok (.aload_n 2, 1) := by decide +kernel
theorem dL_law_664 : decode cL_law 664 = .ok (.aload_n 0, 1) := by decide +kernel
theorem dL_law_665 : decode cL_law 665 = .ok (.iload_n 3, 1) := by decide +kernel
theorem dL_law_666 : decode cL_law 666 = .ok (.iconst 1, 1) := by decide +kernel
theorem dL_law_667 : decode cL_law 667 = .ok (.iadd, 1) := by decide +kernel
theorem dL_law_668 : decode cL_law 668 = .ok (.iaload, 1) := by decide +kernel
theorem dL_law_669 : decode cL_law 669 = .ok (.aload_n 0, 1) := by decide +kernel
theorem dL_law_670 : decode cL_law 670 = .ok (.iload_n 3, 1) := by decide +kernel
theorem dL_law_671 : decode cL_law 671 = .ok (.iconst 2, 1) := by decide +kernel
theorem dL_law_672 : decode cL_law 672 = .ok (.iadd, 1) := by decide +kernel
theorem dL_law_673 : decode cL_law 673 = .ok (.iaload, 1) := by decide +kernel
theorem dL_law_674 : decode cL_law 674 = .ok (.aload_n 0, 1) := by decide +kernel
theorem dL_law_675 : decode cL_law 675 = .ok (.iload_n 3, 1) := by decide +kernel
theorem dL_law_676 : decode cL_law 676 = .ok (.iconst 3, 1) := by decide +kernel
theorem dL_law_677 : decode cL_law 677 = .ok (.iadd, 1) := by decide +kernel
theorem dL_law_678 : decode cL_law 678 = .ok (.iaload, 1) := by decide +kernel
theorem dL_law_679 : decode cL_law 679 = .ok (.aload_n 0, 1) := by decide +kernel
theorem dL_law_680 : decode cL_law 680 = .ok (.iload_n 3, 1) := by decide +kernel
theorem dL_law_681 : decode cL_law 681 = .ok (.iconst 4, 1) := by decide +kernel
theorem dL_law_682 : decode cL_law 682 = .ok (.iadd, 1) := by decide +kernel
theorem dL_law_683 : decode cL_law 683 = .ok (.iaload, 1) := by decide +kernel
theorem dL_law_684 : decode cL_law 684 = .ok (.invokevirtual 96, 3) := by decide +kernel
theorem dL_law_687 : decode cL_law 687 = .ok (.if_icmp .eq 258, 3) := by decide +kernel
theorem dL_law_690 : decode cL_law 690 = .ok (.iconst 0, 1) := by decide +kernel
theorem dL_law_691 : decode cL_law 691 = .ok (.ireturn, 1) := by decide +kernel
theorem dL_law_692 : decode cL_law 692 = .ok (.aload_n 1, 1) := by decide +kernel
theorem dL_law_693 : decode cL_law 693 = .ok (.aload_n 0, 1) := by decide +kernel
theorem dL_law_694 : decode cL_law 694 = .ok (.iload_n 3, 1) := by decide +kernel
theorem dL_law_695 : decode cL_law 695 = .ok (.iconst 1, 1) := by decide +kernel
theorem dL_law_696 : decode cL_law 696 = .ok (.iadd, 1) := by decide +kernel
theorem dL_law_697 : decode cL_law 697 = .ok (.iaload, 1) := by decide +kernel
theorem dL_law_698 : decode cL_law 698 = .ok (.aload_n 0, 1) := by decide +kernel
theorem dL_law_699 : decode cL_law 699 = .ok (.iload_n 3, 1) := by decide +kernel
theorem dL_law_700 : decode cL_law 700 = .ok (.iconst 2, 1) := by decide +kernel
theorem dL_law_701 : decode cL_law 701 = .ok (.iadd, 1) := by decide +kernel
theorem dL_law_702 : decode cL_law 702 = .ok (.iaload, 1) := by decide +kernel
theorem dL_law_703 : decode cL_law 703 = .ok (.invokevirtual 97, 3) := by decide +kernel
theorem dL_law_706 : decode cL_law 706 = .ok (.aload_n 2, 1) := by decide +kernel
theorem dL_law_707 : decode cL_law 707 = .ok (.aload_n 0, 1) := by decide +kernel
theorem dL_law_708 : decode cL_law 708 = .ok (.iload_n 3, 1) := by decide +kernel
theorem dL_law_709 : decode cL_law 709 = .ok (.iconst 1, 1) := by decide +kernel
theorem dL_law_710 : decode cL_law 710 = .ok (.iadd, 1) := by decide +kernel
theorem dL_law_711 : decode cL_law 711 = .ok (.iaload, 1) := by decide +kernel
theorem dL_law_712 : decode cL_law 712 = .ok (.aload_n 0, 1) := by decide +kernel
theorem dL_law_713 : decode cL_law 713 = .ok (.iload_n 3, 1) := by decide +kernel
theorem dL_law_714 : decode cL_law 714 = .ok (.iconst 2, 1) := by decide +kernel
theorem dL_law_715 : decode cL_law 715 = .ok (.iadd, 1) := by decide +kernel
theorem dL_law_716 : decode cL_law 716 = .ok (.iaload, 1) := by decide +kernel
theorem dL_law_717 : decode cL_law 717 = .ok (.invokevirtual 100, 3) := by decide +kernel
theorem dL_law_720 : decode cL_law 720 = .ok (.if_icmp .eq 225, 3) := by decide +kernel
theorem dL_law_723 : decode cL_law 723 = .ok (.iconst 0, 1) := by decide +kernel
theorem dL_law_724 : decode cL_law 724 = .ok (.ireturn, 1) := by decide +kernel
theorem dL_law_725 : decode cL_law 725 = .ok (.aload_n 1, 1) := by decide +kernel
theorem dL_law_726 : decode cL_law 726 = .ok (.invokevirtual 101, 3) := by decide +kernel
theorem dL_law_729 : decode cL_law 729 = .ok (.aload_n 2, 1) := by decide +kernel
theorem dL_law_730 : decode cL_law 730 = .ok (.invokevirtual 104, 3) := by decide +kernel
theorem dL_law_733 : decode cL_law 733 = .ok (.if_icmp .eq 212, 3) := by decide +kernel
theorem dL_law_736 : decode cL_law 736 = .ok (.iconst 0, 1) := by decide +kernel
theorem dL_law_737 : decode cL_law 737 = .ok (.ireturn, 1) := by decide +kernel
theorem dL_law_738 : decode cL_law 738 = .ok (.aload_n 1, 1) := by decide +kernel
theorem dL_law_739 : decode cL_law 739 = .ok (.aload_n 0, 1) := by decide +kernel
theorem dL_law_740 : decode cL_law 740 = .ok (.iload_n 3, 1) := by decide +kernel
theorem dL_law_741 : decode cL_law 741 = .ok (.iconst 1, 1) := by decide +kernel
theorem dL_law_742 : decode cL_law 742 = .ok (.iadd, 1) := by decide +kernel
theorem dL_law_743 : decode cL_law 743 = .ok (.iaload, 1) := by decide +kernel
theorem dL_law_744 : decode cL_law 744 = .ok (.invokevirtual 105, 3) := by decide +kernel
theorem dL_law_747 : decode cL_law 747 = .ok (.aload_n 2, 1) := by decide +kernel
theorem dL_law_748 : decode cL_law 748 = .ok (.aload_n 0, 1) := by decide +kernel
theorem dL_law_749 : decode cL_law 749 = .ok (.iload_n 3, 1) := by decide +kernel
theorem dL_law_750 : decode cL_law 750 = .ok (.iconst 1, 1) := by decide +kernel
theorem dL_law_751 : decode cL_law 751 = .ok (.iadd, 1) := by decide +kernel
theorem dL_law_752 : decode cL_law 752 = .ok (.iaload, 1) := by decide +kernel
theorem dL_law_753 : decode cL_law 753 = .ok (.invokevirtual 108, 3) := by decide +kernel
theorem dL_law_756 : decode cL_law 756 = .ok (.if_icmp .eq 189, 3) := by decide +kernel
theorem dL_law_759 : decode cL_law 759 = .ok (.iconst 0, 1) := by decide +kernel
theorem dL_law_760 : decode cL_law 760 = .ok (.ireturn, 1) := by decide +kernel
theorem dL_law_761 : decode cL_law 761 = .ok (.aload_n 1, 1) := by decide +kernel
theorem dL_law_762 : decode cL_law 762 = .ok (.invokevirtual 109, 3) := by decide +kernel
theorem dL_law_765 : decode cL_law 765 = .ok (.aload_n 2, 1) := by decide +kernel
theorem dL_law_766 : decode cL_law 766 = .ok (.invokevirtual 112, 3) := by decide +kernel
theorem dL_law_769 : decode cL_law 769 = .ok (.if_icmp .eq 176, 3) := by decide +kernel
theorem dL_law_772 : decode cL_law 772 = .ok (.iconst 0, 1) := by decide +kernel
theorem dL_law_773 : decode cL_law 773 = .ok (.ireturn, 1) := by decide +kernel
theorem dL_law_774 : decode cL_law 774 = .ok (.aload_n 1, 1) := by decide +kernel
theorem dL_law_775 : decode cL_law 775 = .ok (.aload_n 0, 1) := by decide +kernel
theorem dL_law_776 : decode cL_law 776 = .ok (.iload_n 3, 1) := by decide +kernel
theorem dL_law_777 : decode cL_law 777 = .ok (.iconst 1, 1) := by decide +kernel
theorem dL_law_778 : decode cL_law 778 = .ok (.iadd, 1) := by decide +kernel
theorem dL_law_779 : decode cL_law 779 = .ok (.iaload, 1) := by decide +kernel
theorem dL_law_780 : decode cL_law 780 = .ok (.aload_n 0, 1) := by decide +kernel
theorem dL_law_781 : decode cL_law 781 = .ok (.iload_n 3, 1) := by decide +kernel
theorem dL_law_782 : decode cL_law 782 = .ok (.iconst 2, 1) := by decide +kernel
theorem dL_law_783 : decode cL_law 783 = .ok (.iadd, 1) := by decide +kernel
theorem dL_law_784 : decode cL_law 784 = .ok (.iaload, 1) := by decide +kernel
theorem dL_law_785 : decode cL_law 785 = .ok (.invokevirtual 113, 3) := by decide +kernel
theorem dL_law_788 : decode cL_law 788 = .ok (.aload_n 2, 1) := by decide +kernel
theorem dL_law_789 : decode cL_law 789 = .ok (.aload_n 0, 1) := by decide +kernel
theorem dL_law_790 : decode cL_law 790 = .ok (.iload_n 3, 1) := by decide +kernel
theorem dL_law_791 : decode cL_law 791 = .ok (.iconst 1, 1) := by decide +kernel
theorem dL_law_792 : decode cL_law 792 = .ok (.iadd, 1) := by decide +kernel
theorem dL_law_793 : decode cL_law 793 = .ok (.iaload, 1) := by decide +kernel
theorem dL_law_794 : decode cL_law 794 = .ok (.aload_n 0, 1) := by decide +kernel
theorem dL_law_795 : decode cL_law 795 = .ok (.iload_n 3, 1) := by decide +kernel
theorem dL_law_796 : decode cL_law 796 = .ok (.iconst 2, 1) := by decide +kernel
theorem dL_law_797 : decode cL_law 797 = .ok (.iadd, 1) := by decide +kernel
theorem dL_law_798 : decode cL_law 798 = .ok (.iaload, 1) := by decide +kernel
theorem dL_law_799 : decode cL_law 799 = .ok (.invokevirtual 116, 3) := by decide +kernel
theorem dL_law_802 : decode cL_law 802 = .ok (.if_icmp .eq 143, 3) := by decide +kernel
theorem dL_law_805 : decode cL_law 805 = .ok (.iconst 0, 1) := by decide +kernel
theorem dL_law_806 : decode cL_law 806 = .ok (.ireturn, 1) := by decide +kernel
theorem dL_law_807 : decode cL_law 807 = .ok (.aload_n 1, 1) := by decide +kernel
theorem dL_law_808 : decode cL_law 808 = .ok (.aload_n 0, 1) := by decide +kernel
theorem dL_law_809 : decode cL_law 809 = .ok (.iload_n 3, 1) := by decide +kernel
theorem dL_law_810 : decode cL_law 810 = .ok (.iconst 1, 1) := by decide +kernel
theorem dL_law_811 : decode cL_law 811 = .ok (.iadd, 1) := by decide +kernel
theorem dL_law_812 : decode cL_law 812 = .ok (.iaload, 1) := by decide +kernel
theorem dL_law_813 : decode cL_law 813 = .ok (.invokevirtual 117, 3) := by decide +kernel
theorem dL_law_816 : decode cL_law 816 = .ok (.aload_n 2, 1) := by decide +kernel
theorem dL_law_817 : decode cL_law 817 = .ok (.aload_n 0, 1) := by decide +kernel
theorem dL_law_818 : decode cL_law 818 = .ok (.iload_n 3, 1) := by decide +kernel
theorem dL_law_819 : decode cL_law 819 = .ok (.iconst 1, 1) := by decide +kernel
theorem dL_law_820 : decode cL_law 820 = .ok (.iadd, 1) := by decide +kernel
theorem dL_law_821 : decode cL_law 821 = .ok (.iaload, 1) := by decide +kernel
theorem dL_law_822 : decode cL_law 822 = .ok (.invokevirtual 120, 3) := by decide +kernel
theorem dL_law_825 : decode cL_law 825 = .ok (.if_icmp .eq 120, 3) := by decide +kernel
theorem dL_law_828 : decode cL_law 828 = .ok (.iconst 0, 1) := by decide +kernel
theorem dL_law_829 : decode cL_law 829 = .ok (.ireturn, 1) := by decide +kernel
theorem dL_law_830 : decode cL_law 830 = .ok (.aload_n 1, 1) := by decide +kernel
theorem dL_law_831 : decode cL_law 831 = .ok (.aload_n 0, 1) := by decide +kernel
theorem dL_law_832 : decode cL_law 832 = .ok (.iload_n 3, 1) := by decide +kernel
theorem dL_law_833 : decode cL_law 833 = .ok (.iconst 1, 1) := by decide +kernel
theorem dL_law_834 : decode cL_law 834 = .ok (.iadd, 1) := by decide +kernel
theorem dL_law_835 : decode cL_law 835 = .ok (.iaload, 1) := by decide +kernel
theorem dL_law_836 : decode cL_law 836 = .ok (.invokevirtual 121, 3) := by decide +kernel
theorem dL_law_839 : decode cL_law 839 = .ok (.aload_n 2, 1) := by decide +kernel
theorem dL_law_840 : decode cL_law 840 = .ok (.aload_n 0, 1) := by decide +kernel
theorem dL_law_841 : decode cL_law 841 = .ok (.iload_n 3, 1) := by decide +kernel
theorem dL_law_842 : decode cL_law 842 = .ok (.iconst 1, 1) := by decide +kernel
theorem dL_law_843 : decode cL_law 843 = .ok (.iadd, 1) := by decide +kernel
theorem dL_law_844 : decode cL_law 844 = .ok (.iaload, 1) := by decide +kernel
theorem dL_law_845 : decode cL_law 845 = .ok (.invokevirtual 124, 3) := by decide +kernel
theorem dL_law_848 : decode cL_law 848 = .ok (.if_icmp .eq 97, 3) := by decide +kernel
theorem dL_law_851 : decode cL_law 851 = .ok (.iconst 0, 1) := by decide +kernel
theorem dL_law_852 : decode cL_law 852 = .ok (.ireturn, 1) := by decide +kernel
theorem dL_law_853 : decode cL_law 853 = .ok (.aload_n 1, 1) := by decide +kernel
theorem dL_law_854 : decode cL_law 854 = .ok (.aload_n 0, 1) := by decide +kernel
theorem dL_law_855 : decode cL_law 855 = .ok (.iload_n 3, 1) := by decide +kernel
theorem dL_law_856 : decode cL_law 856 = .ok (.iconst 1, 1) := by decide +kernel
theorem dL_law_857 : decode cL_law 857 = .ok (.iadd, 1) := by decide +kernel
theorem dL_law_858 : decode cL_law 858 = .ok (.iaload, 1) := by decide +kernel
theorem dL_law_859 : decode cL_law 859 = .ok (.aload_n 0, 1) := by decide +kernel
theorem dL_law_860 : decode cL_law 860 = .ok (.iload_n 3, 1) := by decide +kernel
theorem dL_law_861 : decode cL_law 861 = .ok (.iconst 2, 1) := by decide +kernel
theorem dL_law_862 : decode cL_law 862 = .ok (.iadd, 1) := by decide +kernel
theorem dL_law_863 : decode cL_law 863 = .ok (.iaload, 1) := by decide +kernel
theorem dL_law_864 : decode cL_law 864 = .ok (.aload_n 0, 1) := by decide +kernel
theorem dL_law_865 : decode cL_law 865 = .ok (.iload_n 3, 1) := by decide +kernel
theorem dL_law_866 : decode cL_law 866 = .ok (.iconst 3, 1) := by decide +kernel
theorem dL_law_867 : decode cL_law 867 = .ok (.iadd, 1) := by decide +kernel
theorem dL_law_868 : decode cL_law 868 = .ok (.iaload, 1) := by decide +kernel
theorem dL_law_869 : decode cL_law 869 = .ok (.invokevirtual 125, 3) := by decide +kernel
theorem dL_law_872 : decode cL_law 872 = .ok (.aload_n 2, 1) := by decide +kernel
theorem dL_law_873 : decode cL_law 873 = .ok (.aload_n 0, 1) := by decide +kernel
theorem dL_law_874 : decode cL_law 874 = .ok (.iload_n 3, 1) := by decide +kernel
theorem dL_law_875 : decode cL_law 875 = .ok (.iconst 1, 1) := by decide +kernel
theorem dL_law_876 : decode cL_law 876 = .ok (.iadd, 1) := by decide +kernel
theorem dL_law_877 : decode cL_law 877 = .ok (.iaload, 1) := by decide +kernel
theorem dL_law_878 : decode cL_law 878 = .ok (.aload_n 0, 1) := by decide +kernel
theorem dL_law_879 : decode cL_law 879 = .ok (.iload_n 3, 1) := by decide +kernel
theorem dL_law_880 : decode cL_law 880 = .ok (.iconst 2, 1) := by decide +kernel
theorem dL_law_881 : decode cL_law 881 = .ok (.iadd, 1) := by decide +kernel
theorem dL_law_882 : decode cL_law 882 = .ok (.iaload, 1) := by decide +kernel
theorem dL_law_883 : decode cL_law 883 = .ok (.aload_n 0, 1) := by decide +kernel
theorem dL_law_884 : decode cL_law 884 = .ok (.iload_n 3, 1) := by decide +kernel
theorem dL_law_885 : decode cL_law 885 = .ok (.iconst 3, 1) := by decide +kernel
theorem dL_law_886 : decode cL_law 886 = .ok (.iadd, 1) := by decide +kernel
theorem dL_law_887 : decode cL_law 887 = .ok (.iaload, 1) := by decide +kernel
theorem dL_law_888 : decode cL_law 888 = .ok (.invokevirtual 129, 3) := by decide +kernel
theorem dL_law_891 : decode cL_law 891 = .ok (.if_icmp .eq 54, 3) := by decide +kernel
theorem dL_law_894 : decode cL_law 894 = .ok (.iconst 0, 1) := by decide +kernel
theorem dL_law_895 : decode cL_law 895 = .ok (.ireturn, 1) := by decide +kernel
theorem dL_law_896 : decode cL_law 896 = .ok (.aload_n 1, 1) := by decide +kernel
theorem dL_law_897 : decode cL_law 897 = .ok (.invokevirtual 130, 3) := by decide +kernel
theorem dL_law_900 : decode cL_law 900 = .ok (.aload_n 2, 1) := by decide +kernel
theorem dL_law_901 : decode cL_law 901 = .ok (.invokevirtual 133, 3) := by decide +kernel
theorem dL_law_904 : decode cL_law 904 = .ok (.if_icmp .eq 41, 3) := by decide +kernel
theorem dL_law_907 : decode cL_law 907 = .ok (.iconst 0, 1) := by decide +kernel
theorem dL_law_908 : decode cL_law 908 = .ok (.ireturn, 1) := by decide +kernel
theorem dL_law_909 : decode cL_law 909 = .ok (.aload_n 1, 1) := by decide +kernel
theorem dL_law_910 : decode cL_law 910 = .ok (.invokevirtual 134, 3) := by decide +kernel
theorem dL_law_913 : decode cL_law 913 = .ok (.aload_n 2, 1) := by decide +kernel
theorem dL_law_914 : decode cL_law 914 = .ok (.invokevirtual 137, 3) := by decide +kernel
theorem dL_law_917 : decode cL_law 917 = .ok (.if_icmp .eq 28, 3) := by decide +kernel
theorem dL_law_920 : decode cL_law 920 = .ok (.iconst 0, 1) := by decide +kernel
theorem dL_law_921 : decode cL_law 921 = .ok (.ireturn, 1) := by decide +kernel
theorem dL_law_922 : decode cL_law 922 = .ok (.aload_n 1, 1) := by decide +kernel
theorem dL_law_923 : decode cL_law 923 = .ok (.aload_n 0, 1) := by decide +kernel
theorem dL_law_924 : decode cL_law 924 = .ok (.iload_n 3, 1) := by decide +kernel
theorem dL_law_925 : decode cL_law 925 = .ok (.iconst 1, 1) := by decide +kernel
theorem dL_law_926 : decode cL_law 926 = .ok (.iadd, 1) := by decide +kernel
theorem dL_law_927 : decode cL_law 927 = .ok (.iaload, 1) := by decide +kernel
theorem dL_law_928 : decode cL_law 928 = .ok (.invokevirtual 138, 3) := by decide +kernel
theorem dL_law_931 : decode cL_law 931 = .ok (.aload_n 2, 1) := by decide +kernel
theorem dL_law_932 : decode cL_law 932 = .ok (.aload_n 0, 1) := by decide +kernel
theorem dL_law_933 : decode cL_law 933 = .ok (.iload_n 3, 1) := by decide +kernel
theorem dL_law_934 : decode cL_law 934 = .ok (.iconst 1, 1) := by decide +kernel
theorem dL_law_935 : decode cL_law 935 = .ok (.iadd, 1) := by decide +kernel
theorem dL_law_936 : decode cL_law 936 = .ok (.iaload, 1) := by decide +kernel
theorem dL_law_937 : decode cL_law 937 = .ok (.invokevirtual 141, 3) := by decide +kernel
theorem dL_law_940 : decode cL_law 940 = .ok (.if_icmp .eq 5, 3) := by decide +kernel
theorem dL_law_943 : decode cL_law 943 = .ok (.iconst 0, 1) := by decide +kernel
theorem dL_law_944 : decode cL_law 944 = .ok (.ireturn, 1) := by decide +kernel
theorem dL_law_945 : decode cL_law 945 = .ok (.iinc 3 5, 3) := by decide +kernel
theorem dL_law_948 : decode cL_law 948 = .ok (.goto (-930), 3) := by decide +kernel
theorem dL_law_951 : decode cL_law 951 = .ok (.iconst 1, 1) := by decide +kernel
theorem dL_law_952 : decode cL_law 952 = .ok (.ireturn, 1) := by decide +kernel
end
section
/-! THE ABSTRACT MACHINE: cells have numbers 0, 1, ..; cell k lies at bb.1 + k. sh: their shapes, Mr: their references, M: their ints. -/
abbrev AV : Type := Value
abbrev MI : Type := MethodName × ByteArray × Nat × Option FieldType × Nat × Nat
abbrev GE : Type := va_G × ClassId × ClassId × ClassId
abbrev Sh : Type := List (Nat × Nat)
abbrev MR : Type := Nat → Nat → Option Nat
abbrev MM : Type := Nat → Nat → Int32
abbrev XT : Type := Nat × Nat → State → Prop
def isNest (w : Cond) : Bool := match w with
  | .fieldLinkNest _ _ _ _ _ _ => true
  | .methodLinkNest _ _ _ _ => true
  | _ => false
def okW (w : Cond) : Bool := goodWord w || isNest w
def gdW : List Cond := lw_tbl.filter goodWord
/-- which fields of a kind are references -/
def fR : List (List Bool) := [[true, true, true, false], [false, true, true, true, true, true, false, true, true, true, true, false], [true, false], [true, true, false], [true, false, false], [true], [true, true, true, false], [false, true, true, true, false], [true, true, true, true, true, true, true, true, true, true, true], [false, true, false, true, true, false, true, false, true, false, true, false, true, true, false, false, true, false, true, false, true, true, false, true, true, false, true, true, true, true]]
def cv (bb : Nat × Nat) : AV → Value := fun v => match v with
  | .ref k => .ref (bb.1 + k)
  | .float _ => .ref bb.2
  | .int x => .int x
  | .long x => .long x
  | .double x => .double x
  | .null => .null
  | .retAddr x => .retAddr x
def tysE (E : GE) : List (ClassId × FieldType) := [(E.2.1, .int), (E.2.2.1, .object RX7), (E.2.2.2, .array .int)]
def flds (bb : Nat × Nat) (Mr : MR) (M : MM) (c : Nat) (ci : Nat) : List Value := (fR.getD ci []).mapIdx (fun j b => if b then va_rf ((Mr c j).map (fun q => bb.1 + q)) else .int (M c j))
def cellV (E : GE) (bb : Nat × Nat) (Mr : MR) (M : MM) (c : Nat) (q : Nat × Nat) : va_E := match q.1 with
  | 0 => .inl (E.2.1, q.2, .inl (M c))
  | 1 => .inl (E.2.2.1, q.2, .inr (.inr (.inr (.inr (fun j => (Mr c j).map (fun q => bb.1 + q))))))
  | 2 => .inl (E.2.2.2, q.2, .inr (.inr (.inr (.inr (fun j => (Mr c j).map (fun q => bb.1 + q))))))
  | k + 3 => .inr (k, flds bb Mr M c k)
def wld (E : GE) (bb : Nat × Nat) (sh : Sh) (Mr : MR) (M : MM) : va_W := sh.mapIdx (fun c q => (bb.1 + c, cellV E bb Mr M c q))
def Ab (bb : Nat × Nat) : Nat → Prop := fun q => bb.1 ≤ q
def wr (M : MM) (c i : Nat) (x : Int32) : MM := fun c2 j => if c2 = c then (if j = i then x else M c j) else M c2 j
def wrR (Mr : MR) (c i : Nat) (x : Option Nat) : MR := fun c2 j => if c2 = c then (if j = i then x else Mr c j) else Mr c2 j
def lvl (bb : Nat × Nat) : Nat → List (Option AV) → List (Nat × Value)
  | _, [] => []
  | i, none :: r => lvl bb (i + 1) r
  | i, some v :: r => (i, cv bb v) :: lvl bb (i + 1) r
def LH (bb : Nat × Nat) (nL : Nat) (lsA : Array Slot) (ls : List (Option AV)) : Prop := lv_has lsA nL (lvl bb 0 ls)
def Fix (mi : MI) (X : XT) (E : GE) (bb : Nat × Nat) (p : Program) (s : State) (m : MethodId) (args : Array Value) (meth : Method) (c : Code) : Prop :=
  p.tables.exec = Jvm.exec ∧ c.code = mi.2.1 ∧ meth.sig.returnType = mi.2.2.2.1 ∧ c.maxLocals = mi.2.2.1 ∧ s.vm.findClass mi.1.cls = some m.cls ∧ (∀ w ∈ lw_tbl, okW w = true → w.before args s = true) ∧ meth.locks = false ∧ meth.name = mi.1.name ∧ va_K E.1 vwCl (tysE E) s ∧ bb.1 ≤ s.heap.size ∧ va_AO RX7 s ∧ va_AOA .int s ∧ X bb s
/-- the judgement: from this abstract state of this method the machine comes to Z -/
def Ex (mi : MI) (R : Room) (Z : GE → Nat × Nat → List Frame → Array Value → State → State → Prop) (X : XT) (kc ks pc : Nat) (ls : List (Option AV)) (st : List AV) (sh : Sh) (Mr : MR) (M : MM) : Prop :=
  ∀ (l : Launch) (E : GE) (bb : Nat × Nat) (p : Program) (e : Env) (s : State) (m : MethodId) (args : Array Value) (below : List Frame) (meth : Method) (c : Code), Fix mi X E bb p s m args meth c →
    ∀ (H : Heap) (locs : List Loc) (lsA : Array Slot), va_P E.1 vwCl (wld E bb sh Mr M) H → va_S (Ab bb) s.heap H locs → LH bb mi.2.2.1 lsA ls → s.heap.size + kc = bb.1 + sh.length →
      W p l e R s m args below meth c H locs kc ks (Z E bb below args s) (F0 m pc lsA (st.map (cv bb)))
def rmOf (mi : MI) (mc ms : Nat) : Room := { frames := mi.2.2.2.2.1, cells := mc, slots := ms, locals := mi.2.2.2.2.2 }
def wsOf (mi : MI) : List Cond := .code mi.1 mi.2.1 mi.2.2.1 mi.2.2.2.1 :: gdW
/-- what is carried into a call: the nest's words, the arrays' classes -/
def KN (U : State) : Prop := (∀ w ∈ lw_tbl, isNest w = true → va_Nw w U) ∧ va_AO RX7 U ∧ va_AOA .int U
def CPre (E : GE) (bb : Nat × Nat) (X : XT) (args : List AV) (sh : Sh) (Mr : MR) (M : MM) : Array Value → State → Prop := va_Pc (args.map (cv bb)) (fun U => va_P E.1 vwCl (wld E bb sh Mr M) U.heap ∧ va_K E.1 vwCl (tysE E) U ∧ U.heap.size = bb.1 + sh.length ∧ KN U ∧ X bb U)
def CPost (E : GE) (bb : Nat × Nat) (mc : Nat) (sh0 : Sh) (Q : Option AV → Sh → MR → MM → Prop) : Array Value → State → Outcome → State → Prop := fun _ st o t =>
  (∃ (r : Option AV) (sh : Sh) (Mr : MR) (M : MM), o = .returned (r.map (cv bb)) ∧ Q r sh Mr M ∧ sh.length = sh0.length + mc ∧ va_P E.1 vwCl (wld E bb sh Mr M) t.heap) ∧ va_F (Ab bb) st t
def ZM (sh0 : Sh) (mc ms : Nat) (Q : Option AV → Sh → MR → MM → Prop) : GE → Nat × Nat → List Frame → Array Value → State → State → Prop := fun E bb below args s => MQ below (CPost E bb mc sh0 Q) args s mc ms (Ab bb)
/-- a method's contract at these arguments and this heap -/
def Ct (mi : MI) (X : XT) (args : List AV) (sh : Sh) (Mr : MR) (M : MM) (mc ms : Nat) (Q : Option AV → Sh → MR → MM → Prop) : Prop := ∀ (l : Launch) (E : GE) (bb : Nat × Nat), Met l mi.1 (wsOf mi) (rmOf mi mc ms) (CPre E bb X args sh Mr M) (CPost E bb mc sh Q) mc ms (Ab bb)
def XTr : XT := fun _ _ => True


theorem wld_at {E : GE} {bb : Nat × Nat} {sh : Sh} {Mr : MR} {M : MM} {c : Nat} {q : Nat × Nat} (h : sh[c]? = some q) : (wld E bb sh Mr M)[c]? = some (bb.1 + c, cellV E bb Mr M c q) := by
  unfold wld
  rw [List.getElem?_mapIdx, h]
  rfl
theorem wld_D {E : GE} {bb : Nat × Nat} {sh : Sh} {Mr : MR} {M : MM} : va_D (Ab bb) (wld E bb sh Mr M) := by
  have key : ∀ (i : Nat) (q : Nat × va_E), (wld E bb sh Mr M)[i]? = some q → q.1 = bb.1 + i := by
    intro i q h
    unfold wld at h
    rw [List.getElem?_mapIdx] at h
    cases hs : sh[i]? with
    | none => rw [hs] at h; cases h
    | some z => rw [hs] at h; cases h; rfl
  refine ⟨fun i j p q hi hj hpq => ?_, fun k q hk => ?_⟩
  · have h1 := key i p hi
    have h2 := key j q hj
    omega
  · have h1 := key k q hk
    show bb.1 ≤ q.1
    omega
theorem wld_set {E : GE} {bb : Nat × Nat} {sh : Sh} {Mr Mr' : MR} {M M' : MM} {c : Nat} {q : Nat × Nat} {x : va_E} (h : sh[c]? = some q) (hx : x = cellV E bb Mr' M' c q) (ho : ∀ c2 q2, c2 ≠ c → cellV E bb Mr' M' c2 q2 = cellV E bb Mr M c2 q2) : (wld E bb sh Mr M).set c (bb.1 + c, x) = wld E bb sh Mr' M' := by
  apply List.ext_getElem?
  intro i
  by_cases hi : i = c
  · subst hi
    rw [List.getElem?_set_self (by unfold wld; rw [List.length_mapIdx]; exact (List.getElem?_eq_some_iff.mp h).1), wld_at h, hx]
  · rw [List.getElem?_set_ne (Ne.symm hi)]
    unfold wld
    rw [List.getElem?_mapIdx, List.getElem?_mapIdx]
    cases hs : sh[i]? with
    | none => rfl
    | some z => simp only [Option.map_some]; rw [ho i z hi]
theorem cell_ne {E : GE} {bb : Nat × Nat} {Mr Mr' : MR} {M M' : MM} {c : Nat} (h1 : Mr' c = Mr c) (h2 : M' c = M c) (q : Nat × Nat) : cellV E bb Mr' M' c q = cellV E bb Mr M c q := by
  obtain ⟨a, b⟩ := q
  match a with
  | 0 => simp only [cellV, h2]
  | 1 => simp only [cellV, h1]
  | 2 => simp only [cellV, h1]
  | k + 3 => simp only [cellV, flds, h1, h2]
theorem wr_oc {M : MM} {c i c2 : Nat} {x : Int32} (h : c2 ≠ c) : wr M c i x c2 = M c2 := by
  funext j
  simp [wr, h]
theorem wrR_oc {M : MR} {c i c2 : Nat} {x : Option Nat} (h : c2 ≠ c) : wrR M c i x c2 = M c2 := by
  funext j
  simp [wrR, h]
theorem wr_s {M : MM} {c i : Nat} {x : Int32} : wr M c i x c i = x := by simp [wr]
theorem wr_oi {M : MM} {c i j : Nat} {x : Int32} (h : j ≠ i) : wr M c i x c j = M c j := by simp [wr, h]
theorem wrR_s {M : MR} {c i : Nat} {x : Option Nat} : wrR M c i x c i = x := by simp [wrR]
theorem wrR_oi {M : MR} {c i j : Nat} {x : Option Nat} (h : j ≠ i) : wrR M c i x c j = M c j := by simp [wrR, h]
theorem flds_len (bb : Nat × Nat) (Mr : MR) (M : MM) (c ci : Nat) : (flds bb Mr M c ci).length = (fR.getD ci []).length := by simp [flds]
theorem flds_I {bb : Nat × Nat} {Mr : MR} {M : MM} {c ci k : Nat} (h : (fR.getD ci [])[k]? = some false) : (flds bb Mr M c ci)[k]? = some (.int (M c k)) := by
  unfold flds
  rw [List.getElem?_mapIdx, h]
  rfl
theorem flds_R {bb : Nat × Nat} {Mr : MR} {M : MM} {c ci k : Nat} (h : (fR.getD ci [])[k]? = some true) : (flds bb Mr M c ci)[k]? = some (va_rf ((Mr c k).map (fun q => bb.1 + q))) := by
  unfold flds
  rw [List.getElem?_mapIdx, h]
  rfl
theorem flds_setI {bb : Nat × Nat} {Mr : MR} {M : MM} {c ci k : Nat} {x : Int32} (h : (fR.getD ci [])[k]? = some false) : (flds bb Mr M c ci).set k (.int x) = flds bb Mr (wr M c k x) c ci := by
  apply List.ext_getElem?
  intro i
  by_cases hi : i = k
  · subst hi
    rw [List.getElem?_set_self (by rw [flds_len]; exact (List.getElem?_eq_some_iff.mp h).1), flds_I h, wr_s]
  · rw [List.getElem?_set_ne (Ne.symm hi)]
    unfold flds
    rw [List.getElem?_mapIdx, List.getElem?_mapIdx]
    cases hs : (fR.getD ci [])[i]? with
    | none => rfl
    | some z => simp only [Option.map_some]; rw [wr_oi hi]
theorem flds_setR {bb : Nat × Nat} {Mr : MR} {M : MM} {c ci k : Nat} {x : Option Nat} (h : (fR.getD ci [])[k]? = some true) : (flds bb Mr M c ci).set k (va_rf (x.map (fun q => bb.1 + q))) = flds bb (wrR Mr c k x) M c ci := by
  apply List.ext_getElem?
  intro i
  by_cases hi : i = k
  · subst hi
    rw [List.getElem?_set_self (by rw [flds_len]; exact (List.getElem?_eq_some_iff.mp h).1), flds_R h, wrR_s]
  · rw [List.getElem?_set_ne (Ne.symm hi)]
    unfold flds
    rw [List.getElem?_mapIdx, List.getElem?_mapIdx]
    cases hs : (fR.getD ci [])[i]? with
    | none => rfl
    | some z => simp only [Option.map_some]; rw [wrR_oi hi]
theorem lvl_mem {bb : Nat × Nat} : ∀ (ls : List (Option AV)) (b i : Nat) (v : AV), ls[i]? = some (some v) → (b + i, cv bb v) ∈ lvl bb b ls
  | [], b, i, v, h => by simp at h
  | none :: r, b, 0, v, h => by simp at h
  | none :: r, b, i + 1, v, h => by
    have h2 := lvl_mem (bb := bb) r (b + 1) i v (by simpa using h)
    rw [show b + (i + 1) = b + 1 + i by omega]
    exact h2
  | some w :: r, b, 0, v, h => by
    have e : w = v := by simpa using h
    subst e
    exact List.mem_cons_self
  | some w :: r, b, i + 1, v, h => by
    have h2 := lvl_mem (bb := bb) r (b + 1) i v (by simpa using h)
    rw [show b + (i + 1) = b + 1 + i by omega]
    exact List.mem_cons_of_mem _ h2
theorem mem_lvl {bb : Nat × Nat} : ∀ (ls : List (Option AV)) (b : Nat) (q : Nat × Value), q ∈ lvl bb b ls → ∃ i v, ls[i]? = some (some v) ∧ q = (b + i, cv bb v)
  | [], b, q, h => by cases h
  | none :: r, b, q, h => by
    obtain ⟨i, v, h1, h2⟩ := mem_lvl (bb := bb) r (b + 1) q h
    exact ⟨i + 1, v, by simpa using h1, by rw [h2]; congr 1; omega⟩
  | some w :: r, b, q, h => by
    rcases List.mem_cons.mp h with h | h
    · exact ⟨0, w, rfl, h⟩
    · obtain ⟨i, v, h1, h2⟩ := mem_lvl (bb := bb) r (b + 1) q h
      exact ⟨i + 1, v, by simpa using h1, by rw [h2]; congr 1; omega⟩
theorem LH_get {bb : Nat × Nat} {nL : Nat} {lsA : Array Slot} {ls : List (Option AV)} (h : LH bb nL lsA ls) {i : Nat} {v : AV} (hi : ls[i]? = some (some v)) : lsA[i]? = some (.val (cv bb v)) := by
  have := h.2.2 _ (lvl_mem (bb := bb) ls 0 i v hi)
  simpa using this
/-- not a long -/
def nl : Option AV → Bool := fun v => match v with
  | some (.long _) => false
  | some (.double _) => false
  | _ => true
theorem nl_cat {bb : Nat × Nat} {v : AV} (h : nl (some v) = true) : (cv bb v).category = 1 := by
  cases v <;> first | rfl | (simp [nl] at h)
/-- the place before i holds no long -/
def nlb (ls : List (Option AV)) (i : Nat) : Bool := match i with
  | 0 => true
  | j + 1 => nl (ls.getD j none)
theorem LH_store {bb : Nat × Nat} {nL : Nat} {lsA : Array Slot} {ls : List (Option AV)} {i : Nat} {v : AV} (hb : nlb ls i = true)
    (h : lv_has lsA nL ((i, cv bb v) :: (lvl bb 0 ls).filter (fun q => !(q.1 == i) && !(q.1 + 1 == i && q.2.category == 2)))) : LH bb nL lsA (ls.set i (some v)) := by
  refine ⟨h.1, h.2.1, fun q hq => h.2.2 q ?_⟩
  obtain ⟨j, w, h1, rfl⟩ := mem_lvl _ _ _ hq
  by_cases hj : j = i
  · subst hj
    have hlt : j < ls.length := by
      have := (List.getElem?_eq_some_iff.mp h1).1
      simpa using this
    rw [List.getElem?_set_self hlt] at h1
    cases h1
    rw [Nat.zero_add]
    exact List.mem_cons_self
  · rw [List.getElem?_set_ne (Ne.symm hj)] at h1
    refine List.mem_cons_of_mem _ (List.mem_filter.mpr ⟨lvl_mem ls 0 j w h1, ?_⟩)
    rw [Nat.zero_add]
    have e1 : (j == i) = false := by simpa using hj
    simp only [e1, Bool.not_false, Bool.true_and]
    by_cases h2 : j + 1 = i
    · subst h2
      have h3 : nl (some w) = true := by
        have : nl (ls.getD j none) = true := hb
        rw [List.getD_eq_getElem?_getD, h1] at this
        exact this
      rw [nl_cat h3]
      simp
    · have e2 : (j + 1 == i) = false := by simpa using h2
      simp [e2]
theorem LH_storeL {bb : Nat × Nat} {nL : Nat} {lsA : Array Slot} {ls : List (Option AV)} {i : Nat} {v : AV} (hb : nlb ls i = true)
    (h : lv_has lsA nL ((i, cv bb v) :: (lvl bb 0 ls).filter (fun q => !(q.1 == i) && (!(q.1 == i + 1) && !(q.1 + 1 == i && q.2.category == 2))))) : LH bb nL lsA ((ls.set i (some v)).set (i + 1) none) := by
  refine ⟨h.1, h.2.1, fun q hq => h.2.2 q ?_⟩
  obtain ⟨j, w, h1, rfl⟩ := mem_lvl _ _ _ hq
  have hj1 : j ≠ i + 1 := by
    intro e
    subst e
    have hlt : i + 1 < (ls.set i (some v)).length := by
      have := (List.getElem?_eq_some_iff.mp h1).1
      simpa using this
    rw [List.getElem?_set_self hlt] at h1
    cases h1
  rw [List.getElem?_set_ne (Ne.symm hj1)] at h1
  by_cases hj : j = i
  · subst hj
    have hlt : j < ls.length := by
      have := (List.getElem?_eq_some_iff.mp h1).1
      simpa using this
    rw [List.getElem?_set_self hlt] at h1
    cases h1
    rw [Nat.zero_add]
    exact List.mem_cons_self
  · rw [List.getElem?_set_ne (Ne.symm hj)] at h1
    refine List.mem_cons_of_mem _ (List.mem_filter.mpr ⟨lvl_mem ls 0 j w h1, ?_⟩)
    rw [Nat.zero_add]
    have e1 : (j == i) = false := by simpa using hj
    have e3 : (j == i + 1) = false := by simpa using hj1
    simp only [e1, e3, Bool.not_false, Bool.true_and]
    by_cases h2 : j + 1 = i
    · subst h2
      have h3 : nl (some w) = true := by
        have : nl (ls.getD j none) = true := hb
        rw [List.getD_eq_getElem?_getD, h1] at this
        exact this
      rw [nl_cat h3]
      simp
    · have e2 : (j + 1 == i) = false := by simpa using h2
      simp [e2]

section EX
variable {mi : MI} {R : Room} {Z : GE → Nat × Nat → List Frame → Array Value → State → State → Prop} {X : XT} {kc ks pc : Nat} {ls : List (Option AV)} {st : List AV} {sh : Sh} {Mr : MR} {M : MM}
theorem ex_iadd {x y : Int32} (d : decode mi.2.1 pc = .ok (.iadd, 1)) (k : Ex mi R Z X kc ks (pc + 1) ls (.int (x + y) :: st) sh Mr M) : Ex mi R Z X kc ks pc ls (.int y :: .int x :: st) sh Mr M := by
  intro l E bb p e s m args below meth c F H locs lsA hP hS hl hk
  exact lv_iadd F.1 F.2.1 d (k l E bb p e s m args below meth c F H locs lsA hP hS hl hk)
theorem ex_isub {x y : Int32} (d : decode mi.2.1 pc = .ok (.isub, 1)) (k : Ex mi R Z X kc ks (pc + 1) ls (.int (x - y) :: st) sh Mr M) : Ex mi R Z X kc ks pc ls (.int y :: .int x :: st) sh Mr M := by
  intro l E bb p e s m args below meth c F H locs lsA hP hS hl hk
  exact lv_isub F.1 F.2.1 d (k l E bb p e s m args below meth c F H locs lsA hP hS hl hk)
theorem ex_imul {x y : Int32} (d : decode mi.2.1 pc = .ok (.imul, 1)) (k : Ex mi R Z X kc ks (pc + 1) ls (.int (x * y) :: st) sh Mr M) : Ex mi R Z X kc ks pc ls (.int y :: .int x :: st) sh Mr M := by
  intro l E bb p e s m args below meth c F H locs lsA hP hS hl hk
  exact lv_imul F.1 F.2.1 d (k l E bb p e s m args below meth c F H locs lsA hP hS hl hk)
theorem ex_iand {x y : Int32} (d : decode mi.2.1 pc = .ok (.iand, 1)) (k : Ex mi R Z X kc ks (pc + 1) ls (.int (x &&& y) :: st) sh Mr M) : Ex mi R Z X kc ks pc ls (.int y :: .int x :: st) sh Mr M := by
  intro l E bb p e s m args below meth c F H locs lsA hP hS hl hk
  exact lv_iand F.1 F.2.1 d (k l E bb p e s m args below meth c F H locs lsA hP hS hl hk)
theorem ex_ior {x y : Int32} (d : decode mi.2.1 pc = .ok (.ior, 1)) (k : Ex mi R Z X kc ks (pc + 1) ls (.int (x ||| y) :: st) sh Mr M) : Ex mi R Z X kc ks pc ls (.int y :: .int x :: st) sh Mr M := by
  intro l E bb p e s m args below meth c F H locs lsA hP hS hl hk
  exact lv_ior F.1 F.2.1 d (k l E bb p e s m args below meth c F H locs lsA hP hS hl hk)
theorem ex_ixor {x y : Int32} (d : decode mi.2.1 pc = .ok (.ixor, 1)) (k : Ex mi R Z X kc ks (pc + 1) ls (.int (x ^^^ y) :: st) sh Mr M) : Ex mi R Z X kc ks pc ls (.int y :: .int x :: st) sh Mr M := by
  intro l E bb p e s m args below meth c F H locs lsA hP hS hl hk
  exact lv_ixor F.1 F.2.1 d (k l E bb p e s m args below meth c F H locs lsA hP hS hl hk)
theorem ex_idiv {x y : Int32} (d : decode mi.2.1 pc = .ok (.idiv, 1)) (hne : ¬ y = 0) (k : Ex mi R Z X kc ks (pc + 1) ls (.int (x / y) :: st) sh Mr M) : Ex mi R Z X kc ks pc ls (.int y :: .int x :: st) sh Mr M := by
  intro l E bb p e s m args below meth c F H locs lsA hP hS hl hk
  exact lv_idiv F.1 F.2.1 d hne (k l E bb p e s m args below meth c F H locs lsA hP hS hl hk)
theorem ex_irem {x y : Int32} (d : decode mi.2.1 pc = .ok (.irem, 1)) (hne : ¬ y = 0) (k : Ex mi R Z X kc ks (pc + 1) ls (.int (x - x / y * y) :: st) sh Mr M) : Ex mi R Z X kc ks pc ls (.int y :: .int x :: st) sh Mr M := by
  intro l E bb p e s m args below meth c F H locs lsA hP hS hl hk
  exact lv_irem F.1 F.2.1 d hne (k l E bb p e s m args below meth c F H locs lsA hP hS hl hk)
theorem ex_ishl {x y : Int32} (d : decode mi.2.1 pc = .ok (.ishl, 1)) (k : Ex mi R Z X kc ks (pc + 1) ls (.int (x <<< (y &&& 31)) :: st) sh Mr M) : Ex mi R Z X kc ks pc ls (.int y :: .int x :: st) sh Mr M := by
  intro l E bb p e s m args below meth c F H locs lsA hP hS hl hk
  exact lv_ishl F.1 F.2.1 d (k l E bb p e s m args below meth c F H locs lsA hP hS hl hk)
theorem ex_ishr {x y : Int32} (d : decode mi.2.1 pc = .ok (.ishr, 1)) (k : Ex mi R Z X kc ks (pc + 1) ls (.int (x >>> (y &&& 31)) :: st) sh Mr M) : Ex mi R Z X kc ks pc ls (.int y :: .int x :: st) sh Mr M := by
  intro l E bb p e s m args below meth c F H locs lsA hP hS hl hk
  exact lv_ishr F.1 F.2.1 d (k l E bb p e s m args below meth c F H locs lsA hP hS hl hk)
theorem ex_iushr {x y : Int32} (d : decode mi.2.1 pc = .ok (.iushr, 1)) (k : Ex mi R Z X kc ks (pc + 1) ls (.int (x.toUInt32 >>> (y.toUInt32 &&& Int32.toUInt32 31)).toInt32 :: st) sh Mr M) : Ex mi R Z X kc ks pc ls (.int y :: .int x :: st) sh Mr M := by
  intro l E bb p e s m args below meth c F H locs lsA hP hS hl hk
  exact lv_iushr F.1 F.2.1 d rfl (k l E bb p e s m args below meth c F H locs lsA hP hS hl hk)
theorem ex_ladd {x y : Int64} (d : decode mi.2.1 pc = .ok (.ladd, 1)) (k : Ex mi R Z X kc ks (pc + 1) ls (.long (x + y) :: st) sh Mr M) : Ex mi R Z X kc ks pc ls (.long y :: .long x :: st) sh Mr M := by
  intro l E bb p e s m args below meth c F H locs lsA hP hS hl hk
  exact lv_ladd F.1 F.2.1 d (k l E bb p e s m args below meth c F H locs lsA hP hS hl hk)
theorem ex_lmul {x y : Int64} (d : decode mi.2.1 pc = .ok (.lmul, 1)) (k : Ex mi R Z X kc ks (pc + 1) ls (.long (x * y) :: st) sh Mr M) : Ex mi R Z X kc ks pc ls (.long y :: .long x :: st) sh Mr M := by
  intro l E bb p e s m args below meth c F H locs lsA hP hS hl hk
  exact lv_lmul F.1 F.2.1 d (k l E bb p e s m args below meth c F H locs lsA hP hS hl hk)
theorem ex_land {x y : Int64} (d : decode mi.2.1 pc = .ok (.land, 1)) (k : Ex mi R Z X kc ks (pc + 1) ls (.long (x &&& y) :: st) sh Mr M) : Ex mi R Z X kc ks pc ls (.long y :: .long x :: st) sh Mr M := by
  intro l E bb p e s m args below meth c F H locs lsA hP hS hl hk
  exact lv_land F.1 F.2.1 d (k l E bb p e s m args below meth c F H locs lsA hP hS hl hk)
theorem ex_lor {x y : Int64} (d : decode mi.2.1 pc = .ok (.lor, 1)) (k : Ex mi R Z X kc ks (pc + 1) ls (.long (x ||| y) :: st) sh Mr M) : Ex mi R Z X kc ks pc ls (.long y :: .long x :: st) sh Mr M := by
  intro l E bb p e s m args below meth c F H locs lsA hP hS hl hk
  exact lv_lor F.1 F.2.1 d (k l E bb p e s m args below meth c F H locs lsA hP hS hl hk)
theorem ex_ldiv {x y : Int64} (d : decode mi.2.1 pc = .ok (.ldiv, 1)) (hne : ¬ y = 0) (k : Ex mi R Z X kc ks (pc + 1) ls (.long (x / y) :: st) sh Mr M) : Ex mi R Z X kc ks pc ls (.long y :: .long x :: st) sh Mr M := by
  intro l E bb p e s m args below meth c F H locs lsA hP hS hl hk
  exact lv_ldiv F.1 F.2.1 d hne (k l E bb p e s m args below meth c F H locs lsA hP hS hl hk)
theorem ex_lrem {x y : Int64} (d : decode mi.2.1 pc = .ok (.lrem, 1)) (hne : ¬ y = 0) (k : Ex mi R Z X kc ks (pc + 1) ls (.long (x - x / y * y) :: st) sh Mr M) : Ex mi R Z X kc ks pc ls (.long y :: .long x :: st) sh Mr M := by
  intro l E bb p e s m args below meth c F H locs lsA hP hS hl hk
  exact lv_lrem F.1 F.2.1 d hne (k l E bb p e s m args below meth c F H locs lsA hP hS hl hk)
theorem ex_lshl {x : Int64} {y : Int32} (d : decode mi.2.1 pc = .ok (.lshl, 1)) (k : Ex mi R Z X kc ks (pc + 1) ls (.long (x <<< (y.toInt64 &&& 63)) :: st) sh Mr M) : Ex mi R Z X kc ks pc ls (.int y :: .long x :: st) sh Mr M := by
  intro l E bb p e s m args below meth c F H locs lsA hP hS hl hk
  exact lv_lshl F.1 F.2.1 d rfl (k l E bb p e s m args below meth c F H locs lsA hP hS hl hk)
theorem ex_lushr {x : Int64} {y : Int32} (d : decode mi.2.1 pc = .ok (.lushr, 1)) (k : Ex mi R Z X kc ks (pc + 1) ls (.long (x.toUInt64 >>> (y.toInt64.toUInt64 &&& Int64.toUInt64 63)).toInt64 :: st) sh Mr M) : Ex mi R Z X kc ks pc ls (.int y :: .long x :: st) sh Mr M := by
  intro l E bb p e s m args below meth c F H locs lsA hP hS hl hk
  exact lv_lushr F.1 F.2.1 d rfl (k l E bb p e s m args below meth c F H locs lsA hP hS hl hk)
theorem ex_i2l {x : Int32} (d : decode mi.2.1 pc = .ok (.i2l, 1)) (k : Ex mi R Z X kc ks (pc + 1) ls (.long x.toInt64 :: st) sh Mr M) : Ex mi R Z X kc ks pc ls (.int x :: st) sh Mr M := by
  intro l E bb p e s m args below meth c F H locs lsA hP hS hl hk
  exact lv_i2l F.1 F.2.1 d rfl (k l E bb p e s m args below meth c F H locs lsA hP hS hl hk)
theorem ex_l2i {x : Int64} (d : decode mi.2.1 pc = .ok (.l2i, 1)) (k : Ex mi R Z X kc ks (pc + 1) ls (.int x.toInt32 :: st) sh Mr M) : Ex mi R Z X kc ks pc ls (.long x :: st) sh Mr M := by
  intro l E bb p e s m args below meth c F H locs lsA hP hS hl hk
  exact lv_l2i F.1 F.2.1 d rfl (k l E bb p e s m args below meth c F H locs lsA hP hS hl hk)
theorem ex_iconst {n : Int} {v : Int32} (d : decode mi.2.1 pc = .ok (.iconst n, 1)) (hv : Int32.ofInt n = v) (k : Ex mi R Z X kc ks (pc + 1) ls (.int v :: st) sh Mr M) : Ex mi R Z X kc ks pc ls st sh Mr M := by
  intro l E bb p e s m args below meth c F H locs lsA hP hS hl hk
  exact lv_iconst F.1 F.2.1 d hv (k l E bb p e s m args below meth c F H locs lsA hP hS hl hk)
theorem ex_bipush {n : Int} {v : Int32} (d : decode mi.2.1 pc = .ok (.bipush n, 2)) (hv : (Int8.ofInt n).toInt32 = v) (k : Ex mi R Z X kc ks (pc + 2) ls (.int v :: st) sh Mr M) : Ex mi R Z X kc ks pc ls st sh Mr M := by
  intro l E bb p e s m args below meth c F H locs lsA hP hS hl hk
  exact lv_bipush F.1 F.2.1 d hv (k l E bb p e s m args below meth c F H locs lsA hP hS hl hk)
theorem ex_sipush {n : Int} {v : Int32} (d : decode mi.2.1 pc = .ok (.sipush n, 3)) (hv : (Int16.ofInt n).toInt32 = v) (k : Ex mi R Z X kc ks (pc + 3) ls (.int v :: st) sh Mr M) : Ex mi R Z X kc ks pc ls st sh Mr M := by
  intro l E bb p e s m args below meth c F H locs lsA hP hS hl hk
  exact lv_sipush F.1 F.2.1 d hv (k l E bb p e s m args below meth c F H locs lsA hP hS hl hk)
theorem ex_lconst {n : Fin 2} {v : Int64} (d : decode mi.2.1 pc = .ok (.lconst n, 1)) (hv : Int64.ofNat (n : Nat) = v) (k : Ex mi R Z X kc ks (pc + 1) ls (.long v :: st) sh Mr M) : Ex mi R Z X kc ks pc ls st sh Mr M := by
  intro l E bb p e s m args below meth c F H locs lsA hP hS hl hk
  exact lv_lconst F.1 F.2.1 d hv (k l E bb p e s m args below meth c F H locs lsA hP hS hl hk)
theorem ex_dupR {c : Nat} (d : decode mi.2.1 pc = .ok (.dup, 1)) (k : Ex mi R Z X kc ks (pc + 1) ls (.ref c :: .ref c :: st) sh Mr M) : Ex mi R Z X kc ks pc ls (.ref c :: st) sh Mr M := by
  intro l E bb p e s m args below meth c F H locs lsA hP hS hl hk
  exact lv_dup F.1 F.2.1 d rfl (k l E bb p e s m args below meth c F H locs lsA hP hS hl hk)
theorem ex_dupI {x : Int32} (d : decode mi.2.1 pc = .ok (.dup, 1)) (k : Ex mi R Z X kc ks (pc + 1) ls (.int x :: .int x :: st) sh Mr M) : Ex mi R Z X kc ks pc ls (.int x :: st) sh Mr M := by
  intro l E bb p e s m args below meth c F H locs lsA hP hS hl hk
  exact lv_dup F.1 F.2.1 d rfl (k l E bb p e s m args below meth c F H locs lsA hP hS hl hk)
theorem ex_dup2 {x : Int32} {c : Nat} (d : decode mi.2.1 pc = .ok (.dup2, 1)) (k : Ex mi R Z X kc ks (pc + 1) ls (.int x :: .ref c :: .int x :: .ref c :: st) sh Mr M) : Ex mi R Z X kc ks pc ls (.int x :: .ref c :: st) sh Mr M := by
  intro l E bb p e s m args below meth c F H locs lsA hP hS hl hk
  exact lv_dup2_11 F.1 F.2.1 d rfl rfl (k l E bb p e s m args below meth c F H locs lsA hP hS hl hk)
theorem ex_popI {x : Int32} (d : decode mi.2.1 pc = .ok (.pop, 1)) (k : Ex mi R Z X kc ks (pc + 1) ls st sh Mr M) : Ex mi R Z X kc ks pc ls (.int x :: st) sh Mr M := by
  intro l E bb p e s m args below meth c F H locs lsA hP hS hl hk
  exact lv_pop F.1 F.2.1 d rfl (k l E bb p e s m args below meth c F H locs lsA hP hS hl hk)
theorem ex_ldcw {idx : Nat} {v : Int32} (d : decode mi.2.1 pc = .ok (.ldc_w idx, 3)) (hc : Cond.constant mi.1.cls idx v ∈ lw_tbl) (k : Ex mi R Z X kc ks (pc + 3) ls (.int v :: st) sh Mr M) : Ex mi R Z X kc ks pc ls st sh Mr M := by
  intro l E bb p e s m args below meth c F H locs lsA hP hS hl hk
  exact lv_ldcw F.1 F.2.1 F.2.2.2.2.1 (F.2.2.2.2.2.1 _ hc rfl) d (k l E bb p e s m args below meth c F H locs lsA hP hS hl hk)
theorem ex_ldc2 {idx : Nat} {v : Int64} (d : decode mi.2.1 pc = .ok (.ldc2_w idx, 3)) (hc : Cond.constantLong mi.1.cls idx v ∈ lw_tbl) (k : Ex mi R Z X kc ks (pc + 3) ls (.long v :: st) sh Mr M) : Ex mi R Z X kc ks pc ls st sh Mr M := by
  intro l E bb p e s m args below meth c F H locs lsA hP hS hl hk
  exact lv_ldc2 F.1 F.2.1 F.2.2.2.2.1 (F.2.2.2.2.2.1 _ hc rfl) d (k l E bb p e s m args below meth c F H locs lsA hP hS hl hk)
theorem ex_if_eq {x : Int32} {off : Int} {tgt : Nat} (d : decode mi.2.1 pc = .ok (.ifCond .eq off, 3)) (ht : (pc : Int) + off = (tgt : Int)) (kt : x = 0 → Ex mi R Z X kc ks tgt ls st sh Mr M) (kf : ¬ x = 0 → Ex mi R Z X kc ks (pc + 3) ls st sh Mr M) : Ex mi R Z X kc ks pc ls (.int x :: st) sh Mr M := by
  intro l E bb p e s m args below meth c F H locs lsA hP hS hl hk
  exact lv_if_eq F.1 F.2.1 d ht (fun q => kt q l E bb p e s m args below meth c F H locs lsA hP hS hl hk) (fun q => kf q l E bb p e s m args below meth c F H locs lsA hP hS hl hk)
theorem ex_if_ne {x : Int32} {off : Int} {tgt : Nat} (d : decode mi.2.1 pc = .ok (.ifCond .ne off, 3)) (ht : (pc : Int) + off = (tgt : Int)) (kt : ¬ x = 0 → Ex mi R Z X kc ks tgt ls st sh Mr M) (kf : x = 0 → Ex mi R Z X kc ks (pc + 3) ls st sh Mr M) : Ex mi R Z X kc ks pc ls (.int x :: st) sh Mr M := by
  intro l E bb p e s m args below meth c F H locs lsA hP hS hl hk
  exact lv_if_ne F.1 F.2.1 d ht (fun q => kt q l E bb p e s m args below meth c F H locs lsA hP hS hl hk) (fun q => kf q l E bb p e s m args below meth c F H locs lsA hP hS hl hk)
theorem ex_if_lt {x : Int32} {off : Int} {tgt : Nat} (d : decode mi.2.1 pc = .ok (.ifCond .lt off, 3)) (ht : (pc : Int) + off = (tgt : Int)) (kt : x < 0 → Ex mi R Z X kc ks tgt ls st sh Mr M) (kf : ¬ x < 0 → Ex mi R Z X kc ks (pc + 3) ls st sh Mr M) : Ex mi R Z X kc ks pc ls (.int x :: st) sh Mr M := by
  intro l E bb p e s m args below meth c F H locs lsA hP hS hl hk
  exact lv_if_lt F.1 F.2.1 d ht (fun q => kt q l E bb p e s m args below meth c F H locs lsA hP hS hl hk) (fun q => kf q l E bb p e s m args below meth c F H locs lsA hP hS hl hk)
theorem ex_if_ge {x : Int32} {off : Int} {tgt : Nat} (d : decode mi.2.1 pc = .ok (.ifCond .ge off, 3)) (ht : (pc : Int) + off = (tgt : Int)) (kt : 0 ≤ x → Ex mi R Z X kc ks tgt ls st sh Mr M) (kf : ¬ 0 ≤ x → Ex mi R Z X kc ks (pc + 3) ls st sh Mr M) : Ex mi R Z X kc ks pc ls (.int x :: st) sh Mr M := by
  intro l E bb p e s m args below meth c F H locs lsA hP hS hl hk
  exact lv_if_ge F.1 F.2.1 d ht (fun q => kt q l E bb p e s m args below meth c F H locs lsA hP hS hl hk) (fun q => kf q l E bb p e s m args below meth c F H locs lsA hP hS hl hk)
theorem ex_if_gt {x : Int32} {off : Int} {tgt : Nat} (d : decode mi.2.1 pc = .ok (.ifCond .gt off, 3)) (ht : (pc : Int) + off = (tgt : Int)) (kt : 0 < x → Ex mi R Z X kc ks tgt ls st sh Mr M) (kf : ¬ 0 < x → Ex mi R Z X kc ks (pc + 3) ls st sh Mr M) : Ex mi R Z X kc ks pc ls (.int x :: st) sh Mr M := by
  intro l E bb p e s m args below meth c F H locs lsA hP hS hl hk
  exact lv_if_gt F.1 F.2.1 d ht (fun q => kt q l E bb p e s m args below meth c F H locs lsA hP hS hl hk) (fun q => kf q l E bb p e s m args below meth c F H locs lsA hP hS hl hk)
theorem ex_if_le {x : Int32} {off : Int} {tgt : Nat} (d : decode mi.2.1 pc = .ok (.ifCond .le off, 3)) (ht : (pc : Int) + off = (tgt : Int)) (kt : x ≤ 0 → Ex mi R Z X kc ks tgt ls st sh Mr M) (kf : ¬ x ≤ 0 → Ex mi R Z X kc ks (pc + 3) ls st sh Mr M) : Ex mi R Z X kc ks pc ls (.int x :: st) sh Mr M := by
  intro l E bb p e s m args below meth c F H locs lsA hP hS hl hk
  exact lv_if_le F.1 F.2.1 d ht (fun q => kt q l E bb p e s m args below meth c F H locs lsA hP hS hl hk) (fun q => kf q l E bb p e s m args below meth c F H locs lsA hP hS hl hk)
theorem ex_icmp_eq {x y : Int32} {off : Int} {tgt : Nat} (d : decode mi.2.1 pc = .ok (.if_icmp .eq off, 3)) (ht : (pc : Int) + off = (tgt : Int)) (kt : x = y → Ex mi R Z X kc ks tgt ls st sh Mr M) (kf : ¬ x = y → Ex mi R Z X kc ks (pc + 3) ls st sh Mr M) : Ex mi R Z X kc ks pc ls (.int y :: .int x :: st) sh Mr M := by
  intro l E bb p e s m args below meth c F H locs lsA hP hS hl hk
  exact lv_icmp_eq F.1 F.2.1 d ht (fun q => kt q l E bb p e s m args below meth c F H locs lsA hP hS hl hk) (fun q => kf q l E bb p e s m args below meth c F H locs lsA hP hS hl hk)
theorem ex_icmp_ne {x y : Int32} {off : Int} {tgt : Nat} (d : decode mi.2.1 pc = .ok (.if_icmp .ne off, 3)) (ht : (pc : Int) + off = (tgt : Int)) (kt : ¬ x = y → Ex mi R Z X kc ks tgt ls st sh Mr M) (kf : x = y → Ex mi R Z X kc ks (pc + 3) ls st sh Mr M) : Ex mi R Z X kc ks pc ls (.int y :: .int x :: st) sh Mr M := by
  intro l E bb p e s m args below meth c F H locs lsA hP hS hl hk
  exact lv_icmp_ne F.1 F.2.1 d ht (fun q => kt q l E bb p e s m args below meth c F H locs lsA hP hS hl hk) (fun q => kf q l E bb p e s m args below meth c F H locs lsA hP hS hl hk)
theorem ex_icmp_lt {x y : Int32} {off : Int} {tgt : Nat} (d : decode mi.2.1 pc = .ok (.if_icmp .lt off, 3)) (ht : (pc : Int) + off = (tgt : Int)) (kt : x < y → Ex mi R Z X kc ks tgt ls st sh Mr M) (kf : ¬ x < y → Ex mi R Z X kc ks (pc + 3) ls st sh Mr M) : Ex mi R Z X kc ks pc ls (.int y :: .int x :: st) sh Mr M := by
  intro l E bb p e s m args below meth c F H locs lsA hP hS hl hk
  exact lv_icmp_lt F.1 F.2.1 d ht (fun q => kt q l E bb p e s m args below meth c F H locs lsA hP hS hl hk) (fun q => kf q l E bb p e s m args below meth c F H locs lsA hP hS hl hk)
theorem ex_icmp_ge {x y : Int32} {off : Int} {tgt : Nat} (d : decode mi.2.1 pc = .ok (.if_icmp .ge off, 3)) (ht : (pc : Int) + off = (tgt : Int)) (kt : y ≤ x → Ex mi R Z X kc ks tgt ls st sh Mr M) (kf : ¬ y ≤ x → Ex mi R Z X kc ks (pc + 3) ls st sh Mr M) : Ex mi R Z X kc ks pc ls (.int y :: .int x :: st) sh Mr M := by
  intro l E bb p e s m args below meth c F H locs lsA hP hS hl hk
  exact lv_icmp_ge F.1 F.2.1 d ht (fun q => kt q l E bb p e s m args below meth c F H locs lsA hP hS hl hk) (fun q => kf q l E bb p e s m args below meth c F H locs lsA hP hS hl hk)
theorem ex_icmp_gt {x y : Int32} {off : Int} {tgt : Nat} (d : decode mi.2.1 pc = .ok (.if_icmp .gt off, 3)) (ht : (pc : Int) + off = (tgt : Int)) (kt : y < x → Ex mi R Z X kc ks tgt ls st sh Mr M) (kf : ¬ y < x → Ex mi R Z X kc ks (pc + 3) ls st sh Mr M) : Ex mi R Z X kc ks pc ls (.int y :: .int x :: st) sh Mr M := by
  intro l E bb p e s m args below meth c F H locs lsA hP hS hl hk
  exact lv_icmp_gt F.1 F.2.1 d ht (fun q => kt q l E bb p e s m args below meth c F H locs lsA hP hS hl hk) (fun q => kf q l E bb p e s m args below meth c F H locs lsA hP hS hl hk)
theorem ex_icmp_le {x y : Int32} {off : Int} {tgt : Nat} (d : decode mi.2.1 pc = .ok (.if_icmp .le off, 3)) (ht : (pc : Int) + off = (tgt : Int)) (kt : x ≤ y → Ex mi R Z X kc ks tgt ls st sh Mr M) (kf : ¬ x ≤ y → Ex mi R Z X kc ks (pc + 3) ls st sh Mr M) : Ex mi R Z X kc ks pc ls (.int y :: .int x :: st) sh Mr M := by
  intro l E bb p e s m args below meth c F H locs lsA hP hS hl hk
  exact lv_icmp_le F.1 F.2.1 d ht (fun q => kt q l E bb p e s m args below meth c F H locs lsA hP hS hl hk) (fun q => kf q l E bb p e s m args below meth c F H locs lsA hP hS hl hk)
theorem ex_goto {off : Int} {tgt : Nat} (d : decode mi.2.1 pc = .ok (.goto off, 3)) (ht : (pc : Int) + off = (tgt : Int)) (k : Ex mi R Z X kc ks tgt ls st sh Mr M) : Ex mi R Z X kc ks pc ls st sh Mr M := by
  intro l E bb p e s m args below meth c F H locs lsA hP hS hl hk
  exact lv_goto F.1 F.2.1 d ht (k l E bb p e s m args below meth c F H locs lsA hP hS hl hk)
theorem ex_lookup {dflt : Int} {ps : Array (Int × Int)} {len : Nat} {x : Int32} {off : Int} {tgt : Nat} (d : decode mi.2.1 pc = .ok (.lookupswitch dflt ps, len)) (hp : (ps.toList.zip (ps.toList.drop 1)).all (fun (a, next) => a.1 < next.1) = true) (ho : Op.lookupswitch.offset ps.toList dflt x.toInt = off) (ht : (pc : Int) + off = (tgt : Int)) (k : Ex mi R Z X kc ks tgt ls st sh Mr M) : Ex mi R Z X kc ks pc ls (.int x :: st) sh Mr M := by
  intro l E bb p e s m args below meth c F H locs lsA hP hS hl hk
  exact lv_lookup F.1 F.2.1 d hp ho ht (k l E bb p e s m args below meth c F H locs lsA hP hS hl hk)
theorem ex_tableOut {dflt lo hi : Int} {offs : Array Int} {len : Nat} {x : Int32} {tgt : Nat} (d : decode mi.2.1 pc = .ok (.tableswitch dflt lo hi offs, len)) (h : x.toInt < lo ∨ hi < x.toInt) (ht : (pc : Int) + dflt = (tgt : Int)) (k : Ex mi R Z X kc ks tgt ls st sh Mr M) : Ex mi R Z X kc ks pc ls (.int x :: st) sh Mr M := by
  intro l E bb p e s m args below meth c F H locs lsA hP hS hl hk
  exact lv_tableOut F.1 F.2.1 d h ht (k l E bb p e s m args below meth c F H locs lsA hP hS hl hk)
theorem ex_tableIn {dflt lo hi : Int} {offs : Array Int} {len : Nat} {x : Int32} {off : Int} {tgt : Nat} (d : decode mi.2.1 pc = .ok (.tableswitch dflt lo hi offs, len)) (h1 : ¬ x.toInt < lo) (h2 : ¬ hi < x.toInt) (ho : offs[(x.toInt - lo).toNat]? = some off) (ht : (pc : Int) + off = (tgt : Int)) (k : Ex mi R Z X kc ks tgt ls st sh Mr M) : Ex mi R Z X kc ks pc ls (.int x :: st) sh Mr M := by
  intro l E bb p e s m args below meth c F H locs lsA hP hS hl hk
  exact lv_tableIn F.1 F.2.1 d h1 h2 ho ht (k l E bb p e s m args below meth c F H locs lsA hP hS hl hk)
theorem ex_iload_gn {q : Fin 4} {x : Int32} (d : decode mi.2.1 pc = .ok (.iload_n q, 1)) (hg : ls[(q : Nat)]? = some (some (.int x))) (k : Ex mi R Z X kc ks (pc + 1) ls (.int x :: st) sh Mr M) : Ex mi R Z X kc ks pc ls st sh Mr M := by
  intro l E bb p e s m args below meth c F H locs lsA hP hS hl hk
  exact lv_iload_n F.1 F.2.1 d rfl (LH_get hl hg) (k l E bb p e s m args below meth c F H locs lsA hP hS hl hk)
theorem ex_iload_g {q : Nat} {x : Int32} (d : decode mi.2.1 pc = .ok (.iload q, 2)) (hg : ls[q]? = some (some (.int x))) (k : Ex mi R Z X kc ks (pc + 2) ls (.int x :: st) sh Mr M) : Ex mi R Z X kc ks pc ls st sh Mr M := by
  intro l E bb p e s m args below meth c F H locs lsA hP hS hl hk
  exact lv_iload F.1 F.2.1 d (LH_get hl hg) (k l E bb p e s m args below meth c F H locs lsA hP hS hl hk)
theorem ex_aload_gn {q : Fin 4} {x : Nat} (d : decode mi.2.1 pc = .ok (.aload_n q, 1)) (hg : ls[(q : Nat)]? = some (some (.ref x))) (k : Ex mi R Z X kc ks (pc + 1) ls (.ref x :: st) sh Mr M) : Ex mi R Z X kc ks pc ls st sh Mr M := by
  intro l E bb p e s m args below meth c F H locs lsA hP hS hl hk
  exact lv_aload_n F.1 F.2.1 d rfl (LH_get hl hg) (k l E bb p e s m args below meth c F H locs lsA hP hS hl hk)
theorem ex_aload_g {q : Nat} {x : Nat} (d : decode mi.2.1 pc = .ok (.aload q, 2)) (hg : ls[q]? = some (some (.ref x))) (k : Ex mi R Z X kc ks (pc + 2) ls (.ref x :: st) sh Mr M) : Ex mi R Z X kc ks pc ls st sh Mr M := by
  intro l E bb p e s m args below meth c F H locs lsA hP hS hl hk
  exact lv_aload F.1 F.2.1 d (LH_get hl hg) (k l E bb p e s m args below meth c F H locs lsA hP hS hl hk)
theorem ex_lload_gn {q : Fin 4} {x : Int64} (d : decode mi.2.1 pc = .ok (.lload_n q, 1)) (hg : ls[(q : Nat)]? = some (some (.long x))) (k : Ex mi R Z X kc ks (pc + 1) ls (.long x :: st) sh Mr M) : Ex mi R Z X kc ks pc ls st sh Mr M := by
  intro l E bb p e s m args below meth c F H locs lsA hP hS hl hk
  exact lv_lload_n F.1 F.2.1 d rfl (LH_get hl hg) (k l E bb p e s m args below meth c F H locs lsA hP hS hl hk)
theorem ex_lload_g {q : Nat} {x : Int64} (d : decode mi.2.1 pc = .ok (.lload q, 2)) (hg : ls[q]? = some (some (.long x))) (k : Ex mi R Z X kc ks (pc + 2) ls (.long x :: st) sh Mr M) : Ex mi R Z X kc ks pc ls st sh Mr M := by
  intro l E bb p e s m args below meth c F H locs lsA hP hS hl hk
  exact lv_lload F.1 F.2.1 d (LH_get hl hg) (k l E bb p e s m args below meth c F H locs lsA hP hS hl hk)
theorem ex_istore_gn {q : Fin 4} {x : Int32} (d : decode mi.2.1 pc = .ok (.istore_n q, 1)) (hn : (q : Nat) < mi.2.2.1) (hb : nlb ls q = true) (k : Ex mi R Z X kc ks (pc + 1) (ls.set q (some (.int x))) st sh Mr M) : Ex mi R Z X kc ks pc ls (.int x :: st) sh Mr M := by
  intro l E bb p e s m args below meth c F H locs lsA hP hS hl hk
  exact lv_istore_n F.1 F.2.1 d rfl hl hn rfl (fun ls2 hl2 => k l E bb p e s m args below meth c F H locs ls2 hP hS (LH_store (v := .int x) hb hl2) hk)
theorem ex_istore_g {q : Nat} {x : Int32} (d : decode mi.2.1 pc = .ok (.istore q, 2)) (hn : q < mi.2.2.1) (hb : nlb ls q = true) (k : Ex mi R Z X kc ks (pc + 2) (ls.set q (some (.int x))) st sh Mr M) : Ex mi R Z X kc ks pc ls (.int x :: st) sh Mr M := by
  intro l E bb p e s m args below meth c F H locs lsA hP hS hl hk
  exact lv_istore F.1 F.2.1 d hl hn rfl (fun ls2 hl2 => k l E bb p e s m args below meth c F H locs ls2 hP hS (LH_store (v := .int x) hb hl2) hk)
theorem ex_astore_gn {q : Fin 4} {x : Nat} (d : decode mi.2.1 pc = .ok (.astore_n q, 1)) (hn : (q : Nat) < mi.2.2.1) (hb : nlb ls q = true) (k : Ex mi R Z X kc ks (pc + 1) (ls.set q (some (.ref x))) st sh Mr M) : Ex mi R Z X kc ks pc ls (.ref x :: st) sh Mr M := by
  intro l E bb p e s m args below meth c F H locs lsA hP hS hl hk
  exact lv_astore_n F.1 F.2.1 d rfl hl hn rfl (fun ls2 hl2 => k l E bb p e s m args below meth c F H locs ls2 hP hS (LH_store (v := .ref x) hb hl2) hk)
theorem ex_astore_g {q : Nat} {x : Nat} (d : decode mi.2.1 pc = .ok (.astore q, 2)) (hn : q < mi.2.2.1) (hb : nlb ls q = true) (k : Ex mi R Z X kc ks (pc + 2) (ls.set q (some (.ref x))) st sh Mr M) : Ex mi R Z X kc ks pc ls (.ref x :: st) sh Mr M := by
  intro l E bb p e s m args below meth c F H locs lsA hP hS hl hk
  exact lv_astore F.1 F.2.1 d hl hn rfl (fun ls2 hl2 => k l E bb p e s m args below meth c F H locs ls2 hP hS (LH_store (v := .ref x) hb hl2) hk)
theorem ex_lstore_gn {q : Fin 4} {x : Int64} (d : decode mi.2.1 pc = .ok (.lstore_n q, 1)) (hn : (q : Nat) + 1 < mi.2.2.1) (hb : nlb ls q = true) (k : Ex mi R Z X kc ks (pc + 1) ((ls.set q (some (.long x))).set (q + 1) none) st sh Mr M) : Ex mi R Z X kc ks pc ls (.long x :: st) sh Mr M := by
  intro l E bb p e s m args below meth c F H locs lsA hP hS hl hk
  exact lv_lstore_n F.1 F.2.1 d rfl hl hn rfl (fun ls2 hl2 => k l E bb p e s m args below meth c F H locs ls2 hP hS (LH_storeL (v := .long x) hb hl2) hk)
theorem ex_lstore_g {q : Nat} {x : Int64} (d : decode mi.2.1 pc = .ok (.lstore q, 2)) (hn : q + 1 < mi.2.2.1) (hb : nlb ls q = true) (k : Ex mi R Z X kc ks (pc + 2) ((ls.set q (some (.long x))).set (q + 1) none) st sh Mr M) : Ex mi R Z X kc ks pc ls (.long x :: st) sh Mr M := by
  intro l E bb p e s m args below meth c F H locs lsA hP hS hl hk
  exact lv_lstore F.1 F.2.1 d hl hn rfl (fun ls2 hl2 => k l E bb p e s m args below meth c F H locs ls2 hP hS (LH_storeL (v := .long x) hb hl2) hk)
theorem ex_iinc_g {q : Nat} {n : Int} {x : Int32} (d : decode mi.2.1 pc = .ok (.iinc q n, 3)) (hn : q < mi.2.2.1) (hb : nlb ls q = true) (hg : ls[q]? = some (some (.int x))) (k : Ex mi R Z X kc ks (pc + 3) (ls.set q (some (.int (x + Int32.ofInt n)))) st sh Mr M) : Ex mi R Z X kc ks pc ls st sh Mr M := by
  intro l E bb p e s m args below meth c F H locs lsA hP hS hl hk
  have hm := lvl_mem (bb := bb) ls 0 q (.int x) hg
  rw [Nat.zero_add] at hm
  obtain ⟨j, hj⟩ := List.getElem?_of_mem hm
  exact lv_iinc F.1 F.2.1 d hl hj rfl hn rfl (fun ls2 hl2 => k l E bb p e s m args below meth c F H locs ls2 hP hS (LH_store (v := .int (x + Int32.ofInt n)) hb hl2) hk)
end EX
end
section
/-! rows of the abstract machine that touch the heap; calls; returns; a method's entry -/
theorem va_AOA.moved {t : FieldType} {u U : State} (hvm : u.vm.Alike U.vm) (h : va_AOA t u) : va_AOA t U := by
  obtain ⟨comp, c, k, h1, h2, h3, h4, h5⟩ := arrayOverA_spec h
  obtain ⟨k', hk', he⟩ := hvm.2.2 _ _ h3
  have e1 := va_idx_bare U.vm comp
  have e2 := va_idx_bare u.vm comp
  have hb : U.vm.bare = u.vm.bare := by first | exact hvm.bare_eq | exact hvm.bare_eq.symm
  have hi : (U.vm.classes.findIdx? fun (x : Class) => match x.kind with | .array component _ => component == comp | _ => false) = some c := by
    refine Eq.trans e1.symm ?_
    rw [hb]
    exact e2.trans h2
  have hkind : k'.kind = .array comp (.array t) := by rw [he]; exact h4
  have f1 : U.vm.findClass (FieldType.array t).toString = some comp := by rw [hvm.findClass]; exact h1
  have f2 : U.vm.findClass ("[" ++ (FieldType.array t).toString) = some c := by rw [hvm.findClass]; exact h5
  unfold va_AOA Cond.before Cond.holds
  simp only [Cond.value]
  rw [f1, Option.bind_some]
  refine (congrArg (fun o : Option Nat => (o.bind (fun c => (U.vm.classes[c]?).map fun (k : Class) => match k.kind with | .array _ ty => decide (ty = FieldType.array t) && decide (U.vm.findClass ("[" ++ (FieldType.array t).toString) = some c) | _ => false) == some true)) hi).trans ?_
  simp [hk', hkind, f2]
theorem KN.same {u U : State} (h : KN u) (hv : u.vm = U.vm) : KN U := ⟨fun w hw hn => va_Nw.same (by cases w <;> first | rfl | (simp [isNest] at hn)) hv (h.1 w hw hn), va_AO.moved (by rw [hv]; exact Vm.Alike.refl _) h.2.1, va_AOA.moved (by rw [hv]; exact Vm.Alike.refl _) h.2.2⟩
theorem KN.warm {s U : State} (h : KN s) (hW : s.WarmedH U.vm) : KN U := by
  refine ⟨fun w hw hn => ?_, va_AO.moved hW.alike h.2.1, va_AOA.moved hW.alike h.2.2⟩
  have h1 := h.1 w hw hn
  cases w <;> first | exact va_Nw.warmF hW h1 | exact va_Nw.warmM hW h1 | (simp [isNest] at hn)
theorem cl_ok : ∀ (ci : Nat) (q : vw_C), vwCl[ci]? = some q → (∀ w ∈ u_ws q.1 q.2.1 q.2.2, w ∈ lw_tbl) ∧ ∃ ty0 : Nat → FieldType, (∀ k, k < q.2.2 → parseFieldDescriptor (q.2.1 k).2.2.1 = some (ty0 k)) ∧ (∀ a, a < q.2.2 → ∀ b, b < q.2.2 → a ≠ b → (q.2.1 a).2.1 ≠ (q.2.1 b).2.1) ∧ q.2.2 = (fR.getD ci []).length ∧ (∀ k, k < q.2.2 → ((fR.getD ci [])[k]? = some false ∧ ty0 k = .int) ∨ ((fR.getD ci [])[k]? = some true ∧ defaultValue (ty0 k) = .null ∧ (∀ a, narrow (ty0 k) (.ref a) = .ref a ∧ fits (ty0 k) (.ref a) = true))) := by
  intro ci q hq
  have hlt : ci < 10 := (List.getElem?_eq_some_iff.mp hq).1
  have fin : ∀ (ty0 : Nat → FieldType) (n : Nat) (l : List Bool), (∀ k, k < n → (l[k]? = some false ∧ ty0 k = .int) ∨ (l[k]? = some true ∧ ∃ t, ty0 k = .array t ∨ ∃ t, ty0 k = .object t)) → ∀ k, k < n → (l[k]? = some false ∧ ty0 k = .int) ∨ (l[k]? = some true ∧ defaultValue (ty0 k) = .null ∧ (∀ a, narrow (ty0 k) (.ref a) = .ref a ∧ fits (ty0 k) (.ref a) = true)) := by
    intro ty0 n l h k hk
    rcases h k hk with h1 | ⟨h1, t, h2 | ⟨t2, h2⟩⟩
    · exact Or.inl h1
    · exact Or.inr ⟨h1, by rw [h2]; rfl, fun a => by rw [h2]; exact ⟨rfl, rfl⟩⟩
    · exact Or.inr ⟨h1, by rw [h2]; rfl, fun a => by rw [h2]; exact ⟨rfl, rfl⟩⟩
  match ci, hlt, hq with
  | 0, _, hq => cases hq; exact ⟨by decide +kernel, tyX0, tyX0_ok, nmX0, rfl, fin _ _ _ (by intro k hk; match k, hk with | 0, _ => exact Or.inr ⟨rfl, _, Or.inl rfl⟩ | 1, _ => exact Or.inr ⟨rfl, _, Or.inl rfl⟩ | 2, _ => exact Or.inr ⟨rfl, _, Or.inl rfl⟩ | 3, _ => exact Or.inl ⟨rfl, rfl⟩)⟩
  | 1, _, hq => cases hq; exact ⟨by decide +kernel, tyX1, tyX1_ok, nmX1, rfl, fin _ _ _ (by intro k hk; match k, hk with | 0, _ => exact Or.inl ⟨rfl, rfl⟩ | 1, _ => exact Or.inr ⟨rfl, _, Or.inl rfl⟩ | 2, _ => exact Or.inr ⟨rfl, _, Or.inl rfl⟩ | 3, _ => exact Or.inr ⟨rfl, _, Or.inl rfl⟩ | 4, _ => exact Or.inr ⟨rfl, _, Or.inl rfl⟩ | 5, _ => exact Or.inr ⟨rfl, _, Or.inl rfl⟩ | 6, _ => exact Or.inl ⟨rfl, rfl⟩ | 7, _ => exact Or.inr ⟨rfl, _, Or.inl rfl⟩ | 8, _ => exact Or.inr ⟨rfl, _, Or.inl rfl⟩ | 9, _ => exact Or.inr ⟨rfl, _, Or.inl rfl⟩ | 10, _ => exact Or.inr ⟨rfl, _, Or.inl rfl⟩ | 11, _ => exact Or.inl ⟨rfl, rfl⟩)⟩
  | 2, _, hq => cases hq; exact ⟨by decide +kernel, tyX2, tyX2_ok, nmX2, rfl, fin _ _ _ (by intro k hk; match k, hk with | 0, _ => exact Or.inr ⟨rfl, _, Or.inl rfl⟩ | 1, _ => exact Or.inl ⟨rfl, rfl⟩)⟩
  | 3, _, hq => cases hq; exact ⟨by decide +kernel, tyX3, tyX3_ok, nmX3, rfl, fin _ _ _ (by intro k hk; match k, hk with | 0, _ => exact Or.inr ⟨rfl, _, Or.inl rfl⟩ | 1, _ => exact Or.inr ⟨rfl, _, Or.inl rfl⟩ | 2, _ => exact Or.inl ⟨rfl, rfl⟩)⟩
  | 4, _, hq => cases hq; exact ⟨by decide +kernel, tyX4, tyX4_ok, nmX4, rfl, fin _ _ _ (by intro k hk; match k, hk with | 0, _ => exact Or.inr ⟨rfl, _, Or.inl rfl⟩ | 1, _ => exact Or.inl ⟨rfl, rfl⟩ | 2, _ => exact Or.inl ⟨rfl, rfl⟩)⟩
  | 5, _, hq => cases hq; exact ⟨by decide +kernel, tyX5, tyX5_ok, nmX5, rfl, fin _ _ _ (by intro k hk; match k, hk with | 0, _ => exact Or.inr ⟨rfl, _, Or.inl rfl⟩)⟩
  | 6, _, hq => cases hq; exact ⟨by decide +kernel, tyX6, tyX6_ok, nmX6, rfl, fin _ _ _ (by intro k hk; match k, hk with | 0, _ => exact Or.inr ⟨rfl, _, Or.inl rfl⟩ | 1, _ => exact Or.inr ⟨rfl, _, Or.inl rfl⟩ | 2, _ => exact Or.inr ⟨rfl, _, Or.inl rfl⟩ | 3, _ => exact Or.inl ⟨rfl, rfl⟩)⟩
  | 7, _, hq => cases hq; exact ⟨by decide +kernel, tyX7, tyX7_ok, nmX7, rfl, fin _ _ _ (by intro k hk; match k, hk with | 0, _ => exact Or.inl ⟨rfl, rfl⟩ | 1, _ => exact Or.inr ⟨rfl, _, Or.inl rfl⟩ | 2, _ => exact Or.inr ⟨rfl, _, Or.inl rfl⟩ | 3, _ => exact Or.inr ⟨rfl, _, Or.inl rfl⟩ | 4, _ => exact Or.inl ⟨rfl, rfl⟩)⟩
  | 8, _, hq => cases hq; exact ⟨by decide +kernel, tyX8, tyX8_ok, nmX8, rfl, fin _ _ _ (by intro k hk; match k, hk with | 0, _ => exact Or.inr ⟨rfl, .int, Or.inr ⟨_, rfl⟩⟩ | 1, _ => exact Or.inr ⟨rfl, .int, Or.inr ⟨_, rfl⟩⟩ | 2, _ => exact Or.inr ⟨rfl, .int, Or.inr ⟨_, rfl⟩⟩ | 3, _ => exact Or.inr ⟨rfl, .int, Or.inr ⟨_, rfl⟩⟩ | 4, _ => exact Or.inr ⟨rfl, .int, Or.inr ⟨_, rfl⟩⟩ | 5, _ => exact Or.inr ⟨rfl, .int, Or.inr ⟨_, rfl⟩⟩ | 6, _ => exact Or.inr ⟨rfl, .int, Or.inr ⟨_, rfl⟩⟩ | 7, _ => exact Or.inr ⟨rfl, .int, Or.inr ⟨_, rfl⟩⟩ | 8, _ => exact Or.inr ⟨rfl, .int, Or.inr ⟨_, rfl⟩⟩ | 9, _ => exact Or.inr ⟨rfl, .int, Or.inr ⟨_, rfl⟩⟩ | 10, _ => exact Or.inr ⟨rfl, .int, Or.inr ⟨_, rfl⟩⟩)⟩
  | 9, _, hq => cases hq; exact ⟨by decide +kernel, tyX9, tyX9_ok, nmX9, rfl, fin _ _ _ (by intro k hk; match k, hk with | 0, _ => exact Or.inl ⟨rfl, rfl⟩ | 1, _ => exact Or.inr ⟨rfl, _, Or.inl rfl⟩ | 2, _ => exact Or.inl ⟨rfl, rfl⟩ | 3, _ => exact Or.inr ⟨rfl, _, Or.inl rfl⟩ | 4, _ => exact Or.inr ⟨rfl, _, Or.inl rfl⟩ | 5, _ => exact Or.inl ⟨rfl, rfl⟩ | 6, _ => exact Or.inr ⟨rfl, _, Or.inl rfl⟩ | 7, _ => exact Or.inl ⟨rfl, rfl⟩ | 8, _ => exact Or.inr ⟨rfl, _, Or.inl rfl⟩ | 9, _ => exact Or.inl ⟨rfl, rfl⟩ | 10, _ => exact Or.inr ⟨rfl, _, Or.inl rfl⟩ | 11, _ => exact Or.inl ⟨rfl, rfl⟩ | 12, _ => exact Or.inr ⟨rfl, _, Or.inl rfl⟩ | 13, _ => exact Or.inr ⟨rfl, _, Or.inl rfl⟩ | 14, _ => exact Or.inl ⟨rfl, rfl⟩ | 15, _ => exact Or.inl ⟨rfl, rfl⟩ | 16, _ => exact Or.inr ⟨rfl, _, Or.inl rfl⟩ | 17, _ => exact Or.inl ⟨rfl, rfl⟩ | 18, _ => exact Or.inr ⟨rfl, _, Or.inl rfl⟩ | 19, _ => exact Or.inl ⟨rfl, rfl⟩ | 20, _ => exact Or.inr ⟨rfl, _, Or.inl rfl⟩ | 21, _ => exact Or.inr ⟨rfl, _, Or.inl rfl⟩ | 22, _ => exact Or.inl ⟨rfl, rfl⟩ | 23, _ => exact Or.inr ⟨rfl, _, Or.inl rfl⟩ | 24, _ => exact Or.inr ⟨rfl, _, Or.inl rfl⟩ | 25, _ => exact Or.inl ⟨rfl, rfl⟩ | 26, _ => exact Or.inr ⟨rfl, _, Or.inl rfl⟩ | 27, _ => exact Or.inr ⟨rfl, _, Or.inl rfl⟩ | 28, _ => exact Or.inr ⟨rfl, _, Or.inl rfl⟩ | 29, _ => exact Or.inr ⟨rfl, _, Or.inl rfl⟩ | n + 30, hk => exact absurd (show n + 30 < 30 from hk) (by omega))⟩
end
section
/-- a field's link -/
def FL (own : String) (idx ci k : Nat) (b : Bool) : Prop := ∃ (C : String) (T : u_T) (N : Nat), vwCl[ci]? = some (C, T, N) ∧ k < N ∧ (T k).1 = C ∧ (Cond.fieldLink own idx C (T k).2.1 (T k).2.2.1 ∈ lw_tbl ∨ ∃ host, Cond.fieldLinkNest own idx C (T k).2.1 (T k).2.2.1 host ∈ lw_tbl) ∧ (fR.getD ci [])[k]? = some b
/-- a field that may be put: not final, or the class's own constructor puts it -/
def FP (own nm : String) (idx ci k : Nat) (b : Bool) : Prop := ∃ (C : String) (T : u_T) (N : Nat), vwCl[ci]? = some (C, T, N) ∧ k < N ∧ (T k).1 = C ∧ (((T k).2.2.2 = false ∧ (Cond.fieldLink own idx C (T k).2.1 (T k).2.2.1 ∈ lw_tbl ∨ ∃ host, Cond.fieldLinkNest own idx C (T k).2.1 (T k).2.2.1 host ∈ lw_tbl)) ∨ ((T k).2.2.2 = true ∧ Cond.fieldLink own idx C (T k).2.1 (T k).2.2.1 ∈ lw_tbl ∧ C = own ∧ nm = "<init>")) ∧ (fR.getD ci [])[k]? = some b
theorem W.sz {p : Program} {l : Launch} {e : Env} {R : Room} {s : State} {m : MethodId} {args : Array Value} {below : List Frame} {meth : Method} {c : Code} {H : Heap} {locs : List Loc} {cells slots : Nat} {Q : State → Prop} {g : JFrame} (h : H.size ≤ s.heap.size + cells → W p l e R s m args below meth c H locs cells slots Q g) : W p l e R s m args below meth c H locs cells slots Q g :=
  fun T hT X => h (by have h2 := X.same.2.2.1; rw [← hT]; exact h2) T hT X
theorem wld_len {E : GE} {bb : Nat × Nat} {sh : Sh} {Mr : MR} {M : MM} : (wld E bb sh Mr M).length = sh.length := by simp [wld]
theorem wld_le {E : GE} {bb : Nat × Nat} {sh : Sh} {Mr : MR} {M : MM} {H : Heap} (hP : va_P E.1 vwCl (wld E bb sh Mr M) H) (h0 : bb.1 ≤ H.size) : bb.1 + sh.length ≤ H.size := by
  by_cases hs : sh.length = 0
  · omega
  · have hlt : sh.length - 1 < sh.length := by omega
    have h1 := (hP _ _ (wld_at (c := sh.length - 1) (List.getElem?_eq_getElem hlt))).lt
    have h2 : bb.1 + (sh.length - 1) < H.size := h1
    omega
theorem pig {E : GE} {bb : Nat × Nat} {sh : Sh} {Mr : MR} {M : MM} {H1 : Heap} {q : Nat} {x : va_E} (hP : va_P E.1 vwCl (wld E bb sh Mr M ++ [(q, x)]) H1) (hD : va_D (Ab bb) (wld E bb sh Mr M ++ [(q, x)])) (hz : H1.size ≤ bb.1 + sh.length + 1) : q = bb.1 + sh.length := by
  have hq : (wld E bb sh Mr M ++ [(q, x)])[sh.length]? = some (q, x) := by
    rw [List.getElem?_append_right (by rw [wld_len]; omega), wld_len, Nat.sub_self]; rfl
  have h1 : q < H1.size := (hP _ _ hq).lt
  have h2 : bb.1 ≤ q := hD.2 _ _ hq
  by_cases hc : q < bb.1 + sh.length
  · exfalso
    have hlt : q - bb.1 < sh.length := by omega
    have h3 := wld_at (E := E) (bb := bb) (Mr := Mr) (M := M) (c := q - bb.1) (List.getElem?_eq_getElem hlt)
    have h4 : (wld E bb sh Mr M ++ [(q, x)])[q - bb.1]? = some (bb.1 + (q - bb.1), cellV E bb Mr M (q - bb.1) sh[q - bb.1]) := by
      rw [List.getElem?_append_left (by rw [wld_len]; exact hlt)]; exact h3
    have h5 := hD.1 _ _ _ _ h4 hq (by show bb.1 + (q - bb.1) = q; omega)
    omega
  · omega
/-- a new cell holds nothing -/
def clr (M : MM) (c : Nat) : MM := fun c2 j => if c2 = c then 0 else M c2 j
def clrR (Mr : MR) (c : Nat) : MR := fun c2 j => if c2 = c then none else Mr c2 j
theorem wld_push {E : GE} {bb : Nat × Nat} {sh : Sh} {Mr : MR} {M : MM} {q : Nat × Nat} {x : va_E} (hx : x = cellV E bb (clrR Mr sh.length) (clr M sh.length) sh.length q) : wld E bb sh Mr M ++ [(bb.1 + sh.length, x)] = wld E bb (sh ++ [q]) (clrR Mr sh.length) (clr M sh.length) := by
  apply List.ext_getElem?
  intro i
  by_cases hi : i < sh.length
  · rw [List.getElem?_append_left (by rw [wld_len]; exact hi), wld_at (List.getElem?_eq_getElem hi), wld_at (c := i) (q := sh[i]) (by rw [List.getElem?_append_left hi]; exact List.getElem?_eq_getElem hi)]
    have h1 : clrR Mr sh.length i = Mr i := by funext j; simp [clrR, Nat.ne_of_lt hi]
    have h2 : clr M sh.length i = M i := by funext j; simp [clr, Nat.ne_of_lt hi]
    rw [cell_ne h1 h2]
  · by_cases he : i = sh.length
    · subst he
      rw [List.getElem?_append_right (by rw [wld_len]; omega), wld_len, Nat.sub_self, wld_at (c := sh.length) (q := q) (by simp), hx]
      rfl
    · rw [List.getElem?_eq_none (by rw [List.length_append, wld_len]; simp; omega), List.getElem?_eq_none (by rw [wld_len, List.length_append]; simp; omega)]
section EXH
variable {mi : MI} {R : Room} {Z : GE → Nat × Nat → List Frame → Array Value → State → State → Prop} {X : XT} {kc ks pc : Nat} {ls : List (Option AV)} {st : List AV} {sh : Sh} {Mr : MR} {M : MM}
theorem hts_gd {args : Array Value} {s : State} (h : ∀ w ∈ lw_tbl, okW w = true → w.before args s = true) : ∀ w ∈ gdW, w.before args s = true := fun w hw => by
  have h2 := List.mem_filter.mp hw
  exact h w h2.1 (by simp [okW, h2.2])
theorem ws_gd {C : String} {T : u_T} {N : Nat} (h : ∀ w ∈ u_ws C T N, w ∈ lw_tbl) : ∀ w ∈ u_ws C T N, w ∈ gdW := fun w hw => by
  refine List.mem_filter.mpr ⟨h w hw, ?_⟩
  obtain ⟨k, -, rfl⟩ := List.mem_map.mp hw
  unfold u_lay
  split <;> rfl
theorem ex_getG {idx ci k c n : Nat} {b : Bool} {v : AV} (d : decode mi.2.1 pc = .ok (.getfield idx, 3)) (f : FL mi.1.cls idx ci k b) (hs : sh[c]? = some (ci + 3, n)) (hv : ∀ bb, (fR.getD ci [])[k]? = some b → (flds bb Mr M c ci)[k]? = some (cv bb v)) (kk : Ex mi R Z X kc ks (pc + 3) ls (v :: st) sh Mr M) : Ex mi R Z X kc ks pc ls (.ref c :: st) sh Mr M := by
  intro l E bb p e s m args below meth c0 F H locs lsA hP hS hl hk
  obtain ⟨C, T, N, h1, h2, h3, h4, h5⟩ := f
  have hw := wld_at (E := E) (bb := bb) (Mr := Mr) (M := M) hs
  have hg := hts_gd F.2.2.2.2.2.1
  have hin := ws_gd (cl_ok ci _ h1).1
  have hsame : ∀ x, s.fieldFound? (T k).1 (T k).2.1 (T k).2.2.1 = some x → s.fieldFound? C (T k).2.1 (T k).2.2.1 = some x := fun x h => by rw [h3] at h; exact h
  rcases h4 with h4 | ⟨host, h4⟩
  · exact va_get F.1 F.2.1 hg hin F.2.2.2.2.1 F.2.2.2.2.2.2.2.2.1 hP c hw h1 k h2 (F.2.2.2.2.2.1 _ h4 rfl) hsame (hv bb h5) d (kk l E bb p e s m args below meth c0 F H locs lsA hP hS hl hk)
  · exact va_getN F.1 F.2.1 hg hin F.2.2.2.2.1 F.2.2.2.2.2.2.2.2.1 hP c hw h1 k h2 (F.2.2.2.2.2.1 _ h4 rfl) hsame (hv bb h5) d (kk l E bb p e s m args below meth c0 F H locs lsA hP hS hl hk)
theorem ex_getI {idx ci k c n : Nat} (d : decode mi.2.1 pc = .ok (.getfield idx, 3)) (f : FL mi.1.cls idx ci k false) (hs : sh[c]? = some (ci + 3, n)) (kk : Ex mi R Z X kc ks (pc + 3) ls (.int (M c k) :: st) sh Mr M) : Ex mi R Z X kc ks pc ls (.ref c :: st) sh Mr M :=
  ex_getG d f hs (fun _ h => flds_I h) kk
theorem ex_getR {idx ci k c n a : Nat} (d : decode mi.2.1 pc = .ok (.getfield idx, 3)) (f : FL mi.1.cls idx ci k true) (hs : sh[c]? = some (ci + 3, n)) (hr : Mr c k = some a) (kk : Ex mi R Z X kc ks (pc + 3) ls (.ref a :: st) sh Mr M) : Ex mi R Z X kc ks pc ls (.ref c :: st) sh Mr M :=
  ex_getG d f hs (fun _ h => by rw [flds_R h, hr]; rfl) kk
theorem ex_putG {idx ci k c n : Nat} {b : Bool} {v : AV} {Mr' : MR} {M' : MM} (d : decode mi.2.1 pc = .ok (.putfield idx, 3)) (f : FP mi.1.cls mi.1.name idx ci k b) (hs : sh[c]? = some (ci + 3, n))
    (hv : (b = false ∧ ∃ x, v = .int x) ∨ (b = true ∧ ∃ x, v = .ref x)) (hset : ∀ bb, (fR.getD ci [])[k]? = some b → (flds bb Mr M c ci).set k (cv bb v) = flds bb Mr' M' c ci) (ho : ∀ c2, c2 ≠ c → Mr' c2 = Mr c2 ∧ M' c2 = M c2) (kk : Ex mi R Z X kc ks (pc + 3) ls st sh Mr' M') : Ex mi R Z X kc ks pc ls (v :: .ref c :: st) sh Mr M := by
  intro l E bb p e s m args below meth c0 F H locs lsA hP hS hl hk
  obtain ⟨C, T, N, h1, h2, h3, h4, h5⟩ := f
  have hw := wld_at (E := E) (bb := bb) (Mr := Mr) (M := M) hs
  have hg := hts_gd F.2.2.2.2.2.1
  obtain ⟨hin0, ty0, q1, q2, q3, q4⟩ := cl_ok ci _ h1
  have hin := ws_gd hin0
  have hsame : ∀ x, s.fieldFound? (T k).1 (T k).2.1 (T k).2.2.1 = some x → s.fieldFound? C (T k).2.1 (T k).2.2.1 = some x := fun x h => by rw [h3] at h; exact h
  have hlen : k < (flds bb Mr M c ci).length := by rw [flds_len, ← q3]; exact h2
  have hnf : narrow (ty0 k) (cv bb v) = cv bb v ∧ fits (ty0 k) (cv bb v) = true := by
    rcases hv with ⟨rfl, x, rfl⟩ | ⟨rfl, x, rfl⟩
    · rcases q4 k h2 with ⟨_, h⟩ | ⟨h, _⟩
      · rw [h]; exact ⟨rfl, rfl⟩
      · have h6 := h.symm.trans h5
        cases h6
    · rcases q4 k h2 with ⟨h, _⟩ | ⟨_, _, h⟩
      · have h6 := h.symm.trans h5
        cases h6
      · exact h _
  have fin : ∀ (H1 : Heap) (locs1 : List Loc), va_P E.1 vwCl ((wld E bb sh Mr M).set c (bb.1 + c, .inr (ci, (flds bb Mr M c ci).set k (cv bb v)))) H1 → va_D (Ab bb) ((wld E bb sh Mr M).set c (bb.1 + c, .inr (ci, (flds bb Mr M c ci).set k (cv bb v)))) → va_S (Ab bb) s.heap H1 locs1 → W p l e R s m args below meth c0 H1 locs1 kc ks (Z E bb below args s) (F0 m (pc + 3) lsA (st.map (cv bb))) := by
    intro H1 locs1 g1 g2 g3
    rw [wld_set (Mr' := Mr') (M' := M') hs (by rw [hset bb h5]; rfl) (fun c2 q2 hc => cell_ne (ho c2 hc).1 (ho c2 hc).2 q2)] at g1
    exact kk l E bb p e s m args below meth c0 F H1 locs1 lsA g1 g3 hl hk
  rcases h4 with ⟨hf, h4 | ⟨host, h4⟩⟩ | ⟨hf, h4, hown, hini⟩
  · exact va_put F.1 F.2.1 hg hin ty0 q1 q2 F.2.2.2.2.1 F.2.2.2.2.2.2.2.2.1 hP wld_D hS c hw h1 k h2 (F.2.2.2.2.2.1 _ h4 rfl) hsame hf (q1 k h2) hnf.1 hnf.2 hlen d fin
  · exact va_putN F.1 F.2.1 hg hin ty0 q1 q2 F.2.2.2.2.1 F.2.2.2.2.2.2.2.2.1 hP wld_D hS c hw h1 k h2 (F.2.2.2.2.2.1 _ h4 rfl) hsame hf (q1 k h2) hnf.1 hnf.2 hlen d fin
  · exact va_putF F.1 F.2.1 hg hin ty0 q1 q2 F.2.2.2.2.1 F.2.2.2.2.2.2.2.2.1 hP wld_D hS c hw h1 k h2 (F.2.2.2.2.2.1 _ h4 rfl) hsame hf (F.2.2.2.2.2.2.2.1.trans hini) (h3.trans hown) (q1 k h2) hnf.1 hnf.2 hlen d fin
theorem ex_putI {idx ci k c n : Nat} {x : Int32} (d : decode mi.2.1 pc = .ok (.putfield idx, 3)) (f : FP mi.1.cls mi.1.name idx ci k false) (hs : sh[c]? = some (ci + 3, n)) (kk : Ex mi R Z X kc ks (pc + 3) ls st sh Mr (wr M c k x)) : Ex mi R Z X kc ks pc ls (.int x :: .ref c :: st) sh Mr M :=
  ex_putG d f hs (Or.inl ⟨rfl, x, rfl⟩) (fun _ h => flds_setI h) (fun _ h => ⟨rfl, wr_oc h⟩) kk
theorem ex_putR {idx ci k c n a : Nat} (d : decode mi.2.1 pc = .ok (.putfield idx, 3)) (f : FP mi.1.cls mi.1.name idx ci k true) (hs : sh[c]? = some (ci + 3, n)) (kk : Ex mi R Z X kc ks (pc + 3) ls st sh (wrR Mr c k (some a)) M) : Ex mi R Z X kc ks pc ls (.ref a :: .ref c :: st) sh Mr M :=
  ex_putG d f hs (Or.inr ⟨rfl, a, rfl⟩) (fun bb h => flds_setR (x := some a) h) (fun _ h => ⟨wrR_oc h, rfl⟩) kk
theorem ex_iald {c n : Nat} {i : Int32} (d : decode mi.2.1 pc = .ok (.iaload, 1)) (hs : sh[c]? = some (0, n)) (hi : vp_in i n) (kk : Ex mi R Z X kc ks (pc + 1) ls (.int (M c i.toNatClampNeg) :: st) sh Mr M) : Ex mi R Z X kc ks pc ls (.int i :: .ref c :: st) sh Mr M := by
  intro l E bb p e s m args below meth c0 F H locs lsA hP hS hl hk
  exact va_iald F.1 F.2.1 F.2.2.2.2.2.2.2.2.1 hP c 0 (wld_at hs) rfl hi d (kk l E bb p e s m args below meth c0 F H locs lsA hP hS hl hk)
theorem ex_iast {c n : Nat} {i x : Int32} (d : decode mi.2.1 pc = .ok (.iastore, 1)) (hs : sh[c]? = some (0, n)) (hi : vp_in i n) (kk : Ex mi R Z X kc ks (pc + 1) ls st sh Mr (wr M c i.toNatClampNeg x)) : Ex mi R Z X kc ks pc ls (.int x :: .int i :: .ref c :: st) sh Mr M := by
  intro l E bb p e s m args below meth c0 F H locs lsA hP hS hl hk
  refine va_iast F.1 F.2.1 F.2.2.2.2.2.2.2.2.1 hP wld_D hS c 0 (wld_at hs) rfl hi d (fun H1 locs1 g1 g2 g3 => ?_)
  rw [wld_set (Mr' := Mr) (M' := wr M c i.toNatClampNeg x) hs (by
    simp only [cellV]
    congr 4
    funext j
    simp [wr, upd]) (fun c2 q2 hc => cell_ne rfl (wr_oc hc) q2)] at g1
  exact kk l E bb p e s m args below meth c0 F H1 locs1 lsA g1 g3 hl hk
theorem ex_alen {c n : Nat} {q : Nat} (d : decode mi.2.1 pc = .ok (.arraylength, 1)) (hs : sh[c]? = some (q, n)) (hq : q < 3) (kk : Ex mi R Z X kc ks (pc + 1) ls (.int (nI n) :: st) sh Mr M) : Ex mi R Z X kc ks pc ls (.ref c :: st) sh Mr M := by
  intro l E bb p e s m args below meth c0 F H locs lsA hP hS hl hk
  have hh := kk l E bb p e s m args below meth c0 F H locs lsA hP hS hl hk
  match q, hq, hs with
  | 0, _, hs => exact va_alen F.1 F.2.1 F.2.2.2.2.2.2.2.2.1 hP c 0 (wld_at hs) (ty := .int) rfl (v := nI n) rfl d hh
  | 1, _, hs => exact va_alen F.1 F.2.1 F.2.2.2.2.2.2.2.2.1 hP c 1 (wld_at hs) (ty := .object RX7) rfl (v := nI n) rfl d hh
  | 2, _, hs => exact va_alen F.1 F.2.1 F.2.2.2.2.2.2.2.2.1 hP c 2 (wld_at hs) (ty := .array .int) rfl (v := nI n) rfl d hh
theorem ex_aald1 {c n a : Nat} {i : Int32} (d : decode mi.2.1 pc = .ok (.aaload, 1)) (hs : sh[c]? = some (1, n)) (hi : vp_in i n) (hr : Mr c i.toNatClampNeg = some a) (kk : Ex mi R Z X kc ks (pc + 1) ls (.ref a :: st) sh Mr M) : Ex mi R Z X kc ks pc ls (.int i :: .ref c :: st) sh Mr M := by
  intro l E bb p e s m args below meth c0 F H locs lsA hP hS hl hk
  refine va_aldq F.1 F.2.1 F.2.2.2.2.2.2.2.2.1 hP c 1 (wld_at hs) (C := RX7) rfl hi d ?_
  rw [hr]
  exact kk l E bb p e s m args below meth c0 F H locs lsA hP hS hl hk
theorem ex_aald2 {c n a : Nat} {i : Int32} (d : decode mi.2.1 pc = .ok (.aaload, 1)) (hs : sh[c]? = some (2, n)) (hi : vp_in i n) (hr : Mr c i.toNatClampNeg = some a) (kk : Ex mi R Z X kc ks (pc + 1) ls (.ref a :: st) sh Mr M) : Ex mi R Z X kc ks pc ls (.int i :: .ref c :: st) sh Mr M := by
  intro l E bb p e s m args below meth c0 F H locs lsA hP hS hl hk
  have hlt : i.toNatClampNeg < n := Nat.not_le.mp fun q => hi (Or.inr q)
  have hK := F.2.2.2.2.2.2.2.2.1
  have hcell := hP c _ (wld_at (E := E) (bb := bb) (Mr := Mr) (M := M) hs)
  refine W.aald (v := .ref (bb.1 + a)) (ty := .array .int) F.1 F.2.1 hcell ((hK.2 2 _ rfl).1 n (fun j => va_rf ((Mr c j).map (fun q => bb.1 + q)))) rfl (fun q => by cases q) (by show ¬ (i < 0 ∨ (arrV _ _ _).slots.size ≤ _); rw [arrV_size]; exact hi) (by show (arrV _ _ _).slots[_]? = _; rw [arrV_read _ _ hlt]; show some (va_rf ((Mr c i.toNatClampNeg).map (fun q => bb.1 + q))) = _; rw [hr]; rfl) rfl rfl d ?_
  exact kk l E bb p e s m args below meth c0 F H locs lsA hP hS hl hk
theorem ex_aast {c n a z : Nat} {i : Int32} (d : decode mi.2.1 pc = .ok (.aastore, 1)) (hs : sh[c]? = some (1, n)) (hi : vp_in i n) (ha : sh[a]? = some (7 + 3, z)) (kk : Ex mi R Z X kc ks (pc + 1) ls st sh (wrR Mr c i.toNatClampNeg (some a)) M) : Ex mi R Z X kc ks pc ls (.ref a :: .int i :: .ref c :: st) sh Mr M := by
  intro l E bb p e s m args below meth c0 F H locs lsA hP hS hl hk
  refine va_astq F.1 F.2.1 F.2.2.2.2.2.2.2.2.1 hP wld_D hS c 1 a 7 (r := (RX7, TX7, 5)) (wld_at hs) rfl (wld_at ha) rfl hi d (fun H1 locs1 g1 g2 g3 => ?_)
  rw [wld_set (Mr' := wrR Mr c i.toNatClampNeg (some a)) (M' := M) hs (by
    simp only [cellV]
    congr 7
    funext j
    by_cases hj : j = i.toNatClampNeg
    · subst hj
      simp [wrR, va_up]
    · simp [wrR, va_up, hj]) (fun c2 q2 hc => cell_ne (wrR_oc hc) rfl q2)] at g1
  exact kk l E bb p e s m args below meth c0 F H1 locs1 lsA g1 g3 hl hk
end EXH
end
section
/-! new cells; calls; returns; a method's entry -/
theorem W.szE {E : GE} {bb : Nat × Nat} {sh : Sh} {Mr : MR} {M : MM} {p : Program} {l : Launch} {e : Env} {R : Room} {s : State} {m : MethodId} {args : Array Value} {below : List Frame} {meth : Method} {c : Code} {H : Heap} {locs : List Loc} {kc ks : Nat} {Q : State → Prop} {g : JFrame}
    (hP : va_P E.1 vwCl (wld E bb sh Mr M) H) (hS : va_S (Ab bb) s.heap H locs) (h0 : bb.1 ≤ s.heap.size) (hk : s.heap.size + kc = bb.1 + sh.length) (h : H.size = bb.1 + sh.length → W p l e R s m args below meth c H locs kc ks Q g) : W p l e R s m args below meth c H locs kc ks Q g :=
  W.sz fun hz => h (by have h1 := wld_le hP (Nat.le_trans h0 hS.1); omega)
/-- what a call's words are -/
def LK (own : String) (idx : Nat) (ce : MI) (n : Nat) : Prop := (Cond.methodLink own idx ce.1 ∈ lw_tbl ∨ ∃ host, Cond.methodLinkNest own idx ce.1 host ∈ lw_tbl) ∧ Cond.initialized ce.1.cls ∈ lw_tbl ∧ Cond.code ce.1 ce.2.1 ce.2.2.1 ce.2.2.2.1 ∈ lw_tbl ∧ (ce.1.cls ≠ "java/lang/invoke/MethodHandle" ∧ ce.1.cls ≠ "java/lang/invoke/VarHandle" ∧ (parseMethodDescriptor ce.1.desc).map (fun d => d.parameters.length) = some n)
def LKV (own : String) (idx : Nat) (ce : MI) (n : Nat) : Prop := LK own idx ce n ∧ Cond.instanceMethod ce.1 ∈ lw_tbl ∧ Cond.selects ce.1.cls ce.1 ce.1 ∈ lw_tbl
def LKS (own : String) (idx : Nat) (ce : MI) (n : Nat) : Prop := LK own idx ce n ∧ Cond.static ce.1 ∈ lw_tbl
def LKI (own : String) (idx : Nat) (ce : MI) (n : Nat) : Prop := LK own idx ce n ∧ Cond.instanceMethod ce.1 ∈ lw_tbl ∧ ce.1.name = "<init>"
/-- what the callee's extra premise asks of the caller's -/
def XMove (X X' : XT) : Prop := (∀ (bb : Nat × Nat) (u U : State), U.heap = u.heap → U.vm = u.vm → X' bb u → X' bb U) ∧ ∀ (bb : Nat × Nat) (s : State) (H : Heap) (U : State) (locs : List Loc), X bb s → va_S (Ab bb) s.heap H locs → U.heap = H → s.WarmedH U.vm → X' bb U
theorem xm_tr {X : XT} : XMove X XTr := ⟨fun _ _ _ _ _ _ => trivial, fun _ _ _ _ _ _ _ _ _ => trivial⟩
theorem good_in {ce : MI} (h : Cond.code ce.1 ce.2.1 ce.2.2.1 ce.2.2.2.1 ∈ lw_tbl) : GoodIn gdW (wsOf ce) := by
  have g : ∀ w ∈ gdW, w ∈ gdW ∧ ((w.onTables && w.keeps) = true ∨ ∃ ty, w = .arrayClass ty) := fun w hw => ⟨hw, good_of_word (List.mem_filter.mp hw).2⟩
  intro w hw
  rcases List.mem_cons.mp hw with rfl | hw
  · exact g _ (List.mem_filter.mpr ⟨h, rfl⟩)
  · exact g w hw
theorem cpre_blind {E : GE} {bb : Nat × Nat} {X X' : XT} {As : List AV} {sh : Sh} {Mr : MR} {M : MM} (hX : XMove X X') : FrameBlind (CPre E bb X' As sh Mr M) := by
  intro a U g mk h
  obtain ⟨h1, h2, h3, h4, h5, h6⟩ := h
  exact ⟨h1, h2, va_K.moved (u := U) (U := U.calling g mk a) (Vm.Alike.refl U.vm) h3, h4, h5.same rfl, hX.1 bb U _ rfl rfl h6⟩
theorem cat_sum {bb : Nat × Nat} : ∀ (rest : List AV), ((rest.map (cv bb)).map fun v => v.category).sum ≤ 2 * rest.length
  | [] => by simp
  | v :: r => by
    have h := cat_sum (bb := bb) r
    have h2 : (cv bb v).category ≤ 2 := by rcases lv_cat (cv bb v) with e | e <;> rw [e] <;> decide
    simp only [List.map_cons, List.sum_cons, List.length_cons] at h ⊢
    omega
section EXC
variable {mi : MI} {R : Room} {Z : GE → Nat × Nat → List Frame → Array Value → State → State → Prop} {X : XT} {kc ks pc : Nat} {ls : List (Option AV)} {st : List AV} {sh : Sh} {Mr : MR} {M : MM}
theorem kn_of {E : GE} {bb : Nat × Nat} {p : Program} {s : State} {m : MethodId} {args : Array Value} {meth : Method} {c : Code} (F : Fix mi X E bb p s m args meth c) : KN s := ⟨fun w hw hn => va_Nw.of (by cases w <;> first | rfl | (simp [isNest] at hn)) (F.2.2.2.2.2.1 w hw (by simp [okW, hn])), F.2.2.2.2.2.2.2.2.2.2.1, F.2.2.2.2.2.2.2.2.2.2.2.1⟩
theorem pre_at {E : GE} {bb : Nat × Nat} {X' : XT} {p : Program} {s : State} {m : MethodId} {args : Array Value} {meth : Method} {c : Code} {H : Heap} {locs : List Loc} {As : List AV} (F : Fix mi X E bb p s m args meth c) (hX : XMove X X') (hP : va_P E.1 vwCl (wld E bb sh Mr M) H) (hS : va_S (Ab bb) s.heap H locs) (hz : H.size = bb.1 + sh.length) (U : State) (hU : U.heap = H) (hW : s.WarmedH U.vm) : CPre E bb X' As sh Mr M (As.map (cv bb)).toArray U :=
  ⟨rfl, by rw [hU]; exact hP, va_K.moved hW.alike F.2.2.2.2.2.2.2.2.1, by rw [hU]; exact hz, (kn_of F).warm hW, hX.2 bb s H U locs F.2.2.2.2.2.2.2.2.2.2.2.2 hS hU hW⟩
theorem run_post {E : GE} {bb : Nat × Nat} {p : Program} {l : Launch} {e : Env} {s : State} {m : MethodId} {args : Array Value} {below : List Frame} {meth : Method} {c : Code} {H : Heap} {locs : List Loc} {mc ms : Nat} {Q : Option AV → Sh → MR → MM → Prop} {Qf : State → Prop} {lsA : Array Slot} {st0 rest : List Value} {a : Array Value}
    (hr : va_Run p l e R s m args below meth c H locs kc ks mc ms (F0 m pc lsA st0) rest (CPost E bb mc sh Q a) (Ab bb)) (hS : va_S (Ab bb) s.heap H locs)
    (kk : ∀ (r : Option AV) (sh' : Sh) (Mr' : MR) (M' : MM) (H1 : Heap) (locs1 : List Loc), Q r sh' Mr' M' → sh'.length = sh.length + mc → va_P E.1 vwCl (wld E bb sh' Mr' M') H1 → va_S (Ab bb) s.heap H1 locs1 → W p l e R s m args below meth c H1 locs1 (kc + mc) (ks + ms) Qf (F0 m (pc + 3) lsA ((r.map (cv bb)).toList ++ rest))) : W p l e R s m args below meth c H locs kc ks Qf (F0 m pc lsA st0) := by
  intro T hT Y
  obtain ⟨v, st₀, t, T', L, h0, Y', hL, e1, e2, ⟨⟨r, sh', Mr', M', hv, hq, hlen, hp⟩, hz, hkk⟩, stp⟩ := hr T hT Y
  cases hv
  rw [h0] at hz hkk
  obtain ⟨t2, a1, b1⟩ := kk r sh' Mr' M' T'.heap (locs ++ L) hq hlen (by rw [e1]; exact hp)
    ⟨Nat.le_trans hS.1 (by rw [e1]; exact hz), fun q h1 h2 => by rw [e1, hkk q (Nat.lt_of_lt_of_le h1 hS.1) h2]; exact hS.2.1 q h1 h2, fun q hq => by
      rcases List.mem_append.mp hq with h | h
      · exact hS.2.2 q h
      · exact hL q h⟩ T' rfl Y'
  exact ⟨t2, stp t2 a1, b1⟩
theorem ex_callS {ce : MI} {X' : XT} {idx n mc ms : Nat} {As rest : List AV} {Q : Option AV → Sh → MR → MM → Prop} (d : decode mi.2.1 pc = .ok (.invokestatic idx, 3)) (hL : LKS mi.1.cls idx ce n) (hX : XMove X X') (hC : Ct ce X' As sh Mr M mc ms Q) (hn : As.length = n) (hst : st = As.reverse ++ rest) (hw : rest.length ≤ 4)
    (hR : ce.2.2.2.2.1 + 1 ≤ R.frames ∧ 8 + (ce.2.2.1 + 11) + ce.2.2.2.2.2 ≤ R.locals) (hf : kc + mc ≤ R.cells ∧ ks + ms ≤ R.slots) (k : ∀ r sh' Mr' M', Q r sh' Mr' M' → Ex mi R Z X (kc + mc) (ks + ms) (pc + 3) ls (r.toList ++ rest) sh' Mr' M') : Ex mi R Z X kc ks pc ls st sh Mr M := by
  intro l E bb p e s m args below meth c F H locs lsA hP hS hl hk
  subst hst
  refine W.szE hP hS F.2.2.2.2.2.2.2.2.2.1 hk fun hz => ?_
  obtain ⟨⟨hlk, hini, hcode, hd⟩, hsta⟩ := hL
  have hg := hts_gd F.2.2.2.2.2.1
  have S : CallFix p m c mi.2.1 mi.2.2.1 s args gdW mi.1.cls := ⟨F.1, F.2.1, F.2.2.2.1, F.2.2.2.2.1, hg⟩
  have hp : PreS s H (CPre E bb X' As sh Mr M) (As.map (cv bb)) := ⟨cpre_blind hX, fun U hU hW => pre_at F hX hP hS hz U hU hW⟩
  have hh := F.2.2.2.2.2.1
  have hstk : ((As.reverse ++ rest).map (cv bb)) = (As.map (cv bb)).reverse ++ rest.map (cv bb) := by simp
  have hw8 : 2 * (F0 m pc lsA ((As.reverse ++ rest).map (cv bb))).monitorRoom + ((rest.map (cv bb)).map fun v => v.category).sum ≤ 8 := lv_room (by have := cat_sum (bb := bb) rest; omega)
  have run : va_Run p l e R s m args below meth c H locs kc ks mc ms (F0 m pc lsA ((As.reverse ++ rest).map (cv bb))) (rest.map (cv bb)) (CPost E bb mc sh Q (As.map (cv bb)).toArray) (Ab bb) := by
    rcases hlk with hlk | ⟨host, hlk⟩
    · exact va_runS S (hC l E bb) ⟨callB_of n hg (good_in hcode) rfl rfl rfl (hh _ hini rfl) (hh _ hlk rfl) hd hR, hh _ hsta rfl⟩ hp rfl (by simp [hn]) hl.1 hstk hw8 d hf
    · exact va_runSN S (hC l E bb) ⟨va_cnB n hg (good_in hcode) rfl rfl rfl (va_Nw.of rfl (hh _ hlk rfl)) (hh _ hini rfl) hd hR, hh _ hsta rfl, trivial⟩ hp rfl (by simp [hn]) hl.1 hstk hw8 d hf
  refine run_post run hS fun r sh' Mr' M' H1 locs1 hq hlen hP1 hS1 => ?_
  have hgo := k r sh' Mr' M' hq l E bb p e s m args below meth c F H1 locs1 lsA hP1 hS1 hl (by omega)
  cases r <;> exact hgo
theorem ex_callV {ce : MI} {X' : XT} {idx n mc ms c0 ci z : Nat} {As rest : List AV} {Q : Option AV → Sh → MR → MM → Prop} (d : decode mi.2.1 pc = .ok (.invokevirtual idx, 3)) (hL : LKV mi.1.cls idx ce n) (hs : sh[c0]? = some (ci + 3, z)) (hcl : ∃ (T : u_T) (N : Nat), vwCl[ci]? = some (ce.1.cls, T, N)) (hX : XMove X X') (hC : Ct ce X' (.ref c0 :: As) sh Mr M mc ms Q) (hn : As.length = n) (hst : st = As.reverse ++ .ref c0 :: rest) (hw : rest.length ≤ 4)
    (hR : ce.2.2.2.2.1 + 1 ≤ R.frames ∧ 8 + (ce.2.2.1 + 11) + ce.2.2.2.2.2 ≤ R.locals) (hf : kc + mc ≤ R.cells ∧ ks + ms ≤ R.slots) (k : ∀ r sh' Mr' M', Q r sh' Mr' M' → Ex mi R Z X (kc + mc) (ks + ms) (pc + 3) ls (r.toList ++ rest) sh' Mr' M') : Ex mi R Z X kc ks pc ls st sh Mr M := by
  intro l E bb p e s m args below meth c F H locs lsA hP hS hl hk
  subst hst
  refine W.szE hP hS F.2.2.2.2.2.2.2.2.2.1 hk fun hz => ?_
  obtain ⟨⟨hlk, hini, hcode, hd⟩, hins, hsel⟩ := hL
  obtain ⟨T, N, hcl⟩ := hcl
  have hg := hts_gd F.2.2.2.2.2.1
  have S : CallFix p m c mi.2.1 mi.2.2.1 s args gdW mi.1.cls := ⟨F.1, F.2.1, F.2.2.2.1, F.2.2.2.2.1, hg⟩
  have hrecv := va_recv F.2.2.2.2.2.2.2.2.1 hP hcl (wld_at hs)
  have hp : PreV s H ce.1.cls (bb.1 + c0) (CPre E bb X' (.ref c0 :: As) sh Mr M) (As.map (cv bb)) := ⟨cpre_blind hX, hrecv, fun U hU hW => pre_at F hX hP hS hz U hU hW⟩
  have hh := F.2.2.2.2.2.1
  have hstk : ((As.reverse ++ .ref c0 :: rest).map (cv bb)) = (As.map (cv bb)).reverse ++ .ref (bb.1 + c0) :: rest.map (cv bb) := by simp [cv]
  have hw8 : 2 * (F0 m pc lsA ((As.reverse ++ .ref c0 :: rest).map (cv bb))).monitorRoom + ((rest.map (cv bb)).map fun v => v.category).sum ≤ 8 := lv_room (by have := cat_sum (bb := bb) rest; omega)
  have run : va_Run p l e R s m args below meth c H locs kc ks mc ms (F0 m pc lsA ((As.reverse ++ .ref c0 :: rest).map (cv bb))) (rest.map (cv bb)) (CPost E bb mc sh Q (Value.ref (bb.1 + c0) :: As.map (cv bb)).toArray) (Ab bb) := by
    rcases hlk with hlk | ⟨host, hlk⟩
    · exact va_runV S (hC l E bb) ⟨callB_of n hg (good_in hcode) rfl rfl rfl (hh _ hini rfl) (hh _ hlk rfl) hd hR, hh _ hins rfl, hh _ hsel rfl⟩ hp rfl (by simp [hn]) hl.1 hstk hw8 d hf
    · exact va_runVN S (hC l E bb) ⟨va_cnB n hg (good_in hcode) rfl rfl rfl (va_Nw.of rfl (hh _ hlk rfl)) (hh _ hini rfl) hd hR, hh _ hins rfl, hh _ hsel rfl⟩ hp rfl (by simp [hn]) hl.1 hstk hw8 d hf
  refine run_post run hS fun r sh' Mr' M' H1 locs1 hq hlen hP1 hS1 => ?_
  have hgo := k r sh' Mr' M' hq l E bb p e s m args below meth c F H1 locs1 lsA hP1 hS1 hl (by omega)
  cases r <;> exact hgo
theorem ex_callI {ce : MI} {X' : XT} {idx n mc ms c0 : Nat} {As rest : List AV} {Q : Option AV → Sh → MR → MM → Prop} (d : decode mi.2.1 pc = .ok (.invokespecial idx, 3)) (hL : LKI mi.1.cls idx ce n) (hr0 : ce.2.2.2.1 = none) (hX : XMove X X') (hC : Ct ce X' (.ref c0 :: As) sh Mr M mc ms Q) (hn : As.length = n) (hst : st = As.reverse ++ .ref c0 :: rest) (hw : rest.length ≤ 4)
    (hR : ce.2.2.2.2.1 + 1 ≤ R.frames ∧ 8 + (ce.2.2.1 + 11) + ce.2.2.2.2.2 ≤ R.locals) (hf : kc + mc ≤ R.cells ∧ ks + ms ≤ R.slots) (k : ∀ r sh' Mr' M', Q r sh' Mr' M' → Ex mi R Z X (kc + mc) (ks + ms) (pc + 3) ls (r.toList ++ rest) sh' Mr' M') : Ex mi R Z X kc ks pc ls st sh Mr M := by
  intro l E bb p e s m args below meth c F H locs lsA hP hS hl hk
  subst hst
  refine W.szE hP hS F.2.2.2.2.2.2.2.2.2.1 hk fun hz => ?_
  obtain ⟨⟨hlk, hini, hcode, hd⟩, hins, hnm⟩ := hL
  have hg := hts_gd F.2.2.2.2.2.1
  have S : CallFix p m c mi.2.1 mi.2.2.1 s args gdW mi.1.cls := ⟨F.1, F.2.1, F.2.2.2.1, F.2.2.2.2.1, hg⟩
  have hp : PreS s H (CPre E bb X' (.ref c0 :: As) sh Mr M) (.ref (bb.1 + c0) :: As.map (cv bb)) := ⟨cpre_blind hX, fun U hU hW => pre_at F hX hP hS hz U hU hW⟩
  have hh := F.2.2.2.2.2.1
  have hstk : ((As.reverse ++ .ref c0 :: rest).map (cv bb)) = (As.map (cv bb)).reverse ++ .ref (bb.1 + c0) :: rest.map (cv bb) := by simp [cv]
  have hw8 : 2 * (F0 m pc lsA ((As.reverse ++ .ref c0 :: rest).map (cv bb))).monitorRoom + ((rest.map (cv bb)).map fun v => v.category).sum ≤ 8 := lv_room (by have := cat_sum (bb := bb) rest; omega)
  have hgi : GoodIn gdW (.code ce.1 ce.2.1 ce.2.2.1 none :: gdW) := by have := good_in hcode; unfold wsOf at this; rw [hr0] at this; exact this
  have hM : Met l ce.1 (.code ce.1 ce.2.1 ce.2.2.1 none :: gdW) (rmOf ce mc ms) (CPre E bb X' (.ref c0 :: As) sh Mr M) (CPost E bb mc sh Q) mc ms (Ab bb) := by have := hC l E bb; unfold wsOf at this; rw [hr0] at this; exact this
  have run : va_Run p l e R s m args below meth c H locs kc ks mc ms (F0 m pc lsA ((As.reverse ++ .ref c0 :: rest).map (cv bb))) (rest.map (cv bb)) (CPost E bb mc sh Q (Value.ref (bb.1 + c0) :: As.map (cv bb)).toArray) (Ab bb) := by
    rcases hlk with hlk | ⟨host, hlk⟩
    · exact va_runI S hM ⟨callB_of n hg hgi rfl rfl rfl (hh _ hini rfl) (hh _ hlk rfl) hd hR, hnm, hh _ hins rfl⟩ hp rfl (by simp [hn]) hl.1 hstk hw8 d hf
    · exact va_runIN S hM ⟨va_cnB n hg hgi rfl rfl rfl (va_Nw.of rfl (hh _ hlk rfl)) (hh _ hini rfl) hd hR, hnm, hh _ hins rfl⟩ hp rfl (by simp [hn]) hl.1 hstk hw8 d hf
  refine run_post run hS fun r sh' Mr' M' H1 locs1 hq hlen hP1 hS1 => ?_
  have hgo := k r sh' Mr' M' hq l E bb p e s m args below meth c F H1 locs1 lsA hP1 hS1 hl (by omega)
  cases r <;> exact hgo
/-- the ends -/
theorem ex_iret {sh0 : Sh} {mc ms : Nat} {Q : Option AV → Sh → MR → MM → Prop} {v : Int32} {ty : FieldType} (d : decode mi.2.1 pc = .ok (.ireturn, 1)) (hr : mi.2.2.2.1 = some ty) (hn : narrow ty (.int v) = .int v) (hlen : sh.length = sh0.length + mc) (hq : Q (some (.int v)) sh Mr M) : Ex mi R (ZM sh0 mc ms Q) X mc ms pc ls [.int v] sh Mr M := by
  intro l E bb p e s m args below meth c F H locs lsA hP hS hl hk
  have hlocks := F.2.2.2.2.2.2.1
  exact W.zret F.1 F.2.1 (F.2.2.1.trans hr) hn (fun t ht hW => ⟨⟨some (.int v), sh, Mr, M, rfl, hq, hlen, by rw [ht]; exact hP⟩, hS.F ht⟩) hS.2.2 d hlocks
theorem ex_vret {sh0 : Sh} {mc ms : Nat} {Q : Option AV → Sh → MR → MM → Prop} (d : decode mi.2.1 pc = .ok (.return_, 1)) (hr : mi.2.2.2.1 = none) (hlen : sh.length = sh0.length + mc) (hq : Q none sh Mr M) : Ex mi R (ZM sh0 mc ms Q) X mc ms pc ls [] sh Mr M := by
  intro l E bb p e s m args below meth c F H locs lsA hP hS hl hk
  have hlocks := F.2.2.2.2.2.2.1
  exact W.vret F.1 F.2.1 (F.2.2.1.trans hr) (fun t ht hW => ⟨⟨none, sh, Mr, M, rfl, hq, hlen, by rw [ht]; exact hP⟩, hS.F ht⟩) hS.2.2 d hlocks
theorem lg_sl_len {bb : Nat × Nat} : ∀ (As : List AV), As.all (fun v => nl (some v)) = true → lg_sl (As.map (cv bb)) = (As.map (cv bb)).map Slot.val
  | [], _ => rfl
  | v :: r, h => by
    simp only [List.all_cons, Bool.and_eq_true] at h
    have ih := lg_sl_len (bb := bb) r h.2
    have hc := nl_cat (bb := bb) h.1
    simp only [lg_sl, List.map_cons, List.flatMap_cons, hc] at ih ⊢
    simp [ih]
theorem lv_args_mem {bb : Nat × Nat} : ∀ (As : List AV) (b i : Nat) (v : AV), As.all (fun v => nl (some v)) = true → As[i]? = some v → (b + i, cv bb v) ∈ lv_args b (As.map (cv bb))
  | [], b, i, v, _, h => by simp at h
  | w :: r, b, 0, v, ha, h => by
    have e : w = v := by simpa using h
    subst e
    exact List.mem_cons_self
  | w :: r, b, i + 1, v, ha, h => by
    simp only [List.all_cons, Bool.and_eq_true] at ha
    have hc := nl_cat (bb := bb) ha.1
    have h2 := lv_args_mem (bb := bb) r (b + 1) i v ha.2 (by simpa using h)
    simp only [List.map_cons, lv_args, hc]
    rw [show b + (i + 1) = b + 1 + i by omega]
    exact List.mem_cons_of_mem _ h2
theorem ct_of {args : List AV} {mc ms : Nat} {Q : Option AV → Sh → MR → MM → Prop} (hy : plainName mi.1.cls = true) (ha : args.all (fun v => nl (some v)) = true) (hn : args.length ≤ mi.2.2.1) (hls : args.map some ++ List.replicate (mi.2.2.1 - args.length) none = ls) (k : Ex mi (rmOf mi mc ms) (ZM sh mc ms Q) X 0 0 0 ls [] sh Mr M) : Ct mi X args sh Mr M mc ms Q := by
  intro l E bb
  refine Met.ofW (cc := mi.2.1) (maxL := mi.2.2.1) (ret := mi.2.2.2.1) hy rfl ?_
  intro p e s m a below meth c s₁ B hml hv
  obtain ⟨rfl, hP, hK, hsz, hN, hX⟩ := hv
  have hts := atoms_spec (ws := wsOf mi) B.pre
  have hh : ∀ w ∈ lw_tbl, okW w = true → w.before (args.map (cv bb)).toArray s = true := fun w hw ho => by
    by_cases hg : goodWord w = true
    · exact hts w (List.mem_cons_of_mem _ (List.mem_filter.mpr ⟨hw, hg⟩))
    · have hn : isNest w = true := by simpa [okW, hg] using ho
      exact va_Nw.use (by cases w <;> first | rfl | (simp [isNest] at hn)) (hN.1 w hw hn)
  have F : Fix mi X E bb p s m (args.map (cv bb)).toArray meth c := ⟨B.exec, B.bytes, B.returns, hml, findClass_of_methodNamed B.named, hh, B.notSynchronized, (name_of_methodNamed B.named B.method).1, hK, by omega, hN.2.1, hN.2.2, hX⟩
  have e1 := lg_sl_len (bb := bb) args ha
  have hl := lv_entry (args.map (cv bb)) (n := mi.2.2.1) (by rw [e1]; simpa using hn)
  rw [lg_entry_eq]
  generalize (lg_sl (args.map (cv bb)) ++ List.replicate (mi.2.2.1 - (lg_sl (args.map (cv bb))).length) Slot.unset).toArray = lsA at hl ⊢
  refine k l E bb p e s m _ below meth c F s.heap [] lsA hP va_S.rf ⟨hl.1, hl.2.1, fun q hq => hl.2.2 q ?_⟩ (by omega)
  obtain ⟨i, v, h1, rfl⟩ := mem_lvl _ _ _ hq
  rw [← hls] at h1
  have h2 : args[i]? = some v := by
    by_cases hi : i < args.length
    · rw [List.getElem?_append_left (by simpa using hi), List.getElem?_map] at h1
      cases hz : args[i]? with
      | none => rw [hz] at h1; cases h1
      | some w => rw [hz] at h1; simpa using h1
    · rw [List.getElem?_append_right (by simpa using hi)] at h1
      have := List.eq_of_mem_replicate (List.mem_of_getElem? h1)
      cases this
  exact lv_args_mem args 0 i v ha h2
end EXC
end
section
/-! new cells, Object's constructor, Math.max, System.arraycopy -/
def NC (own : String) (idx ci : Nat) : Prop := ∃ (C : String) (T : u_T) (N : Nat), vwCl[ci]? = some (C, T, N) ∧ Cond.classLink own idx C ∈ lw_tbl ∧ Cond.instantiable C N ∈ lw_tbl ∧ Cond.initialized C ∈ lw_tbl
section EXN
variable {mi : MI} {R : Room} {Z : GE → Nat × Nat → List Frame → Array Value → State → State → Prop} {X : XT} {kc ks pc : Nat} {ls : List (Option AV)} {st : List AV} {sh : Sh} {Mr : MR} {M : MM}
theorem ex_new {idx ci : Nat} (d : decode mi.2.1 pc = .ok (.new idx, 3)) (hN : NC mi.1.cls idx ci) (hf : kc + 1 ≤ R.cells ∧ ks + (fR.getD ci []).length ≤ R.slots) (k : Ex mi R Z X (kc + 1) (ks + (fR.getD ci []).length) (pc + 3) ls (.ref sh.length :: st) (sh ++ [(ci + 3, 0)]) (clrR Mr sh.length) (clr M sh.length)) : Ex mi R Z X kc ks pc ls st sh Mr M := by
  intro l E bb p e s m args below meth c F H locs lsA hP hS hl hk
  obtain ⟨C, T, N, h1, h2, h3, h4⟩ := hN
  have hg := hts_gd F.2.2.2.2.2.1
  obtain ⟨hin0, ty0, q1, q2, q3, q4⟩ := cl_ok ci _ h1
  have q3 : N = (fR.getD ci []).length := q3
  have hh := F.2.2.2.2.2.1
  refine va_new (ci := ci) (fs := flds bb (clrR Mr sh.length) (clr M sh.length) sh.length ci) F.1 F.2.1 hg (ws_gd hin0) ty0 q1 F.2.2.2.2.1 (hh _ h2 rfl) (hh _ h3 rfl) (hh _ h4 rfl) F.2.2.2.2.2.2.2.2.1 hP wld_D hS (fun q hq => Nat.le_trans F.2.2.2.2.2.2.2.2.2.1 hq) h1 ?_ hf.1 (by rw [q3]; exact hf.2) d (fun q H1 g1 g2 g3 => ?_)
  · intro j hj
    unfold vp_V
    rw [List.getD_eq_getElem?_getD]
    rcases q4 j hj with ⟨z1, z2⟩ | ⟨z1, z2, -⟩
    · rw [flds_I z1, z2]; simp [clr]; rfl
    · rw [flds_R z1, z2]; simp [clrR, va_rf]
  · refine W.sz fun hz => ?_
    have hq := pig g1 g2 (by omega)
    subst hq
    rw [wld_push (x := .inr (ci, flds bb (clrR Mr sh.length) (clr M sh.length) sh.length ci)) (q := (ci + 3, 0)) rfl] at g1
    have hgo := k l E bb p e s m args below meth c F H1 locs lsA g1 g3 hl (by simp; omega)
    rw [← q3] at hgo
    exact hgo
theorem ex_newa {n : Nat} {x : Int32} (d : decode mi.2.1 pc = .ok (.newarray .int, 2)) (hw : Cond.arrayClass .int ∈ lw_tbl) (hx : x = nI n) (hn : n ≤ 1000) (hf : kc + 1 ≤ R.cells ∧ ks + n ≤ R.slots) (k : Ex mi R Z X (kc + 1) (ks + n) (pc + 2) ls (.ref sh.length :: st) (sh ++ [(0, n)]) (clrR Mr sh.length) (clr M sh.length)) : Ex mi R Z X kc ks pc ls (.int x :: st) sh Mr M := by
  intro l E bb p e s m args below meth c F H locs lsA hP hS hl hk
  subst hx
  have hh := F.2.2.2.2.2.1
  refine va_newa (atype := .int) (a0 := (n, .inl (fun _ => 0))) (ty := .int) F.1 F.2.1 (hh _ hw rfl) rfl F.2.2.2.2.2.2.2.2.1 hP wld_D hS (fun q hq => Nat.le_trans F.2.2.2.2.2.2.2.2.2.1 hq) (fun cA => rfl) (nI_pos (by omega)) (nI_clamp (by omega)) (by simp [componentBytes]; omega) hf.1 hf.2 d (fun q cA H1 gK g1 g2 g3 => ?_)
  refine W.sz fun hz => ?_
  have hcA : cA = E.2.1 := by
    have a1 := (gK.2 3 (cA, .int) rfl).2
    have a2 := (gK.2 0 (E.2.1, .int) rfl).2
    exact Option.some.inj (a1.symm.trans a2)
  subst hcA
  have hq := pig g1 g2 (by omega)
  subst hq
  rw [wld_push (q := (0, n)) (by simp only [cellV]; congr 4; funext j; simp [clr])] at g1
  exact k l E bb p e s m args below meth c F H1 locs lsA g1 g3 hl (by simp; omega)
theorem ex_newq {idx n : Nat} {x : Int32} (d : decode mi.2.1 pc = .ok (.anewarray idx, 3)) (hc : Cond.classLink mi.1.cls idx RX7 ∈ lw_tbl) (hx : x = nI n) (hn : n ≤ 1000) (hf : kc + 1 ≤ R.cells ∧ ks + n ≤ R.slots) (k : Ex mi R Z X (kc + 1) (ks + n) (pc + 3) ls (.ref sh.length :: st) (sh ++ [(1, n)]) (clrR Mr sh.length) (clr M sh.length)) : Ex mi R Z X kc ks pc ls (.int x :: st) sh Mr M := by
  intro l E bb p e s m args below meth c F H locs lsA hP hS hl hk
  subst hx
  have hh := F.2.2.2.2.2.1
  refine va_newq (C := RX7) F.1 F.2.1 F.2.2.2.2.1 (hh _ hc rfl) F.2.2.2.2.2.2.2.2.2.2.1 F.2.2.2.2.2.2.2.2.1 hP wld_D hS (fun q hq => Nat.le_trans F.2.2.2.2.2.2.2.2.2.1 hq) (nI_pos (by omega)) (nI_clamp (by omega)) (by omega) hf.1 hf.2 d (fun q cA H1 gK g1 g2 g3 => ?_)
  refine W.sz fun hz => ?_
  have hcA : cA = E.2.2.1 := by
    obtain ⟨_, _, _, _, _, a1⟩ := (gK.2 3 (cA, .object RX7) rfl).2
    obtain ⟨_, _, _, _, _, a2⟩ := (gK.2 1 (E.2.2.1, .object RX7) rfl).2
    exact Option.some.inj (a1.symm.trans a2)
  subst hcA
  have hq := pig g1 g2 (by omega)
  subst hq
  rw [wld_push (q := (1, n)) (by simp only [cellV]; congr 7; funext j; simp [clrR])] at g1
  exact k l E bb p e s m args below meth c F H1 locs lsA g1 g3 hl (by simp; omega)
theorem ex_objInit {idx c0 : Nat} (d : decode mi.2.1 pc = .ok (.invokespecial idx, 3)) (hl0 : Cond.methodLink mi.1.cls idx Lib.objectInit ∈ lw_tbl) (hi0 : Cond.instanceMethod Lib.objectInit ∈ lw_tbl) (hc0 : Cond.code Lib.objectInit ⟨#[0xb1]⟩ 1 none ∈ lw_tbl) (hR : 1 ≤ R.frames ∧ 20 ≤ R.locals) (hw : st.length ≤ 4) (k : Ex mi R Z X kc ks (pc + 3) ls st sh Mr M) : Ex mi R Z X kc ks pc ls (.ref c0 :: st) sh Mr M := by
  intro l E bb p e s m args below meth c F H locs lsA hP hS hl hk
  have hh := F.2.2.2.2.2.1
  have hw8 : 2 * (F0 m pc lsA (((.ref c0 :: st)).map (cv bb))).monitorRoom + ((st.map (cv bb)).map fun v => v.category).sum ≤ 8 := lv_room (by have := cat_sum (bb := bb) st; omega)
  exact W.objInit F.1 F.2.1 F.2.2.2.2.1 (hh _ hl0 rfl) (hh _ hi0 rfl) (hh _ hc0 rfl) rfl (hl.1.trans F.2.2.2.1.symm) rfl d hR.1 (by omega) (k l E bb p e s m args below meth c F H locs lsA hP hS hl hk)
theorem ex_copy {idx c0 c1 n0 n1 sp dp n : Nat} {xs xd xn : Int32} (d : decode mi.2.1 pc = .ok (.invokestatic idx, 3)) (hl0 : Cond.methodLink mi.1.cls idx arraycopyName ∈ lw_tbl) (hn0 : Cond.native arraycopyName ∈ lw_tbl) (hs0 : Cond.static arraycopyName ∈ lw_tbl) (hi0 : Cond.initialized "java/lang/System" ∈ lw_tbl)
    (h0 : sh[c0]? = some (0, n0)) (h1 : sh[c1]? = some (0, n1)) (e1 : xs = nI sp) (e2 : xd = nI dp) (e3 : xn = nI n) (b1 : sp + n ≤ n0) (b2 : dp + n ≤ n1) (hb : n0 < 2 ^ 31 ∧ n1 < 2 ^ 31) (hR : 1 ≤ R.frames ∧ 60 ≤ R.locals) (hw : st.length ≤ 4) (hbig : nativeFrameWords "java/lang/System" "arraycopy" 5 ≤ 40)
    (k : Ex mi R Z X kc ks (pc + 3) ls st sh Mr (fun c2 j => if c2 = c1 ∧ dp ≤ j ∧ j < dp + n then M c0 (sp + (j - dp)) else M c2 j)) : Ex mi R Z X kc ks pc ls (.int xn :: .int xd :: .ref c1 :: .int xs :: .ref c0 :: st) sh Mr M := by
  intro l E bb p e s m args below meth c F H locs lsA hP hS hl hk
  subst e1; subst e2; subst e3
  have hh := F.2.2.2.2.2.1
  have hsum := cat_sum (bb := bb) st
  refine va_copyi F.1 F.2.1 (F.2.2.2.1.trans hl.1.symm) F.2.2.2.2.1 (hh _ hl0 rfl) (hh _ hn0 rfl) (hh _ hs0 rfl) (hh _ hi0 rfl) F.2.2.2.2.2.2.2.2.1 hP wld_D hS c0 c1 0 0 (ty := .int) (wld_at h0) (wld_at h1) rfl rfl rfl (nI_pos (by omega)) (nI_pos (by omega)) (nI_pos (by omega)) (by rw [nI_clamp (by omega), nI_clamp (by omega)]; exact b1) (by rw [nI_clamp (by omega), nI_clamp (by omega)]; exact b2) (fun i _ => rfl) hR.1 (by omega) d (fun H1 locs1 g1 g2 g3 => ?_)
  rw [wld_set (Mr' := Mr) (M' := fun c2 j => if c2 = c1 ∧ dp ≤ j ∧ j < dp + n then M c0 (sp + (j - dp)) else M c2 j) h1 (by
    simp only [cellV]
    congr 4
    funext j
    rw [nI_clamp (by omega), nI_clamp (by omega), nI_clamp (by omega)]
    simp [va_cpy]) (fun c2 q2 hc => cell_ne rfl (by funext j; simp [hc]) q2)] at g1
  exact k l E bb p e s m args below meth c F H1 locs1 lsA g1 g3 hl hk
theorem ex_max {idx : Nat} {x y : Int32} (d : decode mi.2.1 pc = .ok (.invokestatic idx, 3)) (hl0 : Cond.methodLink mi.1.cls idx Lib.Math.max.name ∈ lw_tbl) (hs0 : Cond.static Lib.Math.max.name ∈ lw_tbl) (hi0 : Cond.initialized "java/lang/Math" ∈ lw_tbl) (hc0 : Cond.code Lib.Math.max.name Lib.Math.max.code 2 (some .int) ∈ lw_tbl) (hR : 1 ≤ R.frames ∧ 21 ≤ R.locals) (hcs : kc ≤ R.cells ∧ ks ≤ R.slots) (hw : st.length ≤ 4) (k : Ex mi R Z X kc ks (pc + 3) ls (.int (if x < y then y else x) :: st) sh Mr M) : Ex mi R Z X kc ks pc ls (.int y :: .int x :: st) sh Mr M := by
  intro l E bb p e s m args below meth c F H locs lsA hP hS hl hk
  have hh := F.2.2.2.2.2.1
  have hsum := cat_sum (bb := bb) st
  exact va_mmax F.1 F.2.1 (F.2.2.2.1.trans hl.1.symm) F.2.2.2.2.1 (hh _ hl0 rfl) (hh _ hs0 rfl) (hh _ hi0 rfl) (hh _ hc0 rfl) hR.1 (by omega) hcs.1 hcs.2 d (k l E bb p e s m args below meth c F H locs lsA hP hS hl hk)
end EXN
end
section
abbrev mX0_init : MI := (yX0_init, cX0_init, 1, none, 1, 20)
abbrev mX0_turn : MI := (yX0_turn, cX0_turn, 4, none, 2, 49)
abbrev mX0_show : MI := (yX0_show, cX0_show, 5, none, 1, 23)
abbrev mX0_colourAt : MI := (yX0_colourAt, cX0_colourAt, 3, (some .int), 0, 0)
abbrev mX0_ownerAt : MI := (yX0_ownerAt, cX0_ownerAt, 3, (some .int), 0, 0)
abbrev mX0_firstSign : MI := (yX0_firstSign, cX0_firstSign, 4, (some .int), 1, 20)
abbrev mX0_sureShips : MI := (yX0_sureShips, cX0_sureShips, 5, (some .int), 2, 43)
abbrev mX0_sureInAnyFog : MI := (yX0_sureInAnyFog, cX0_sureInAnyFog, 2, (some .int), 3, 67)
abbrev mX0_unsureInAllFogs : MI := (yX0_unsureInAllFogs, cX0_unsureInAllFogs, 4, (some .int), 3, 67)
abbrev mX1_init : MI := (yX1_init, cX1_init, 1, none, 1, 20)
abbrev mX1_clear : MI := (yX1_clear, cX1_clear, 1, none, 1, 23)
abbrev mX1_everybody : MI := (yX1_everybody, cX1_everybody, 1, (some .int), 0, 0)
abbrev mX1_allShips : MI := (yX1_allShips, cX1_allShips, 1, (some .int), 0, 0)
abbrev mX1_accept : MI := (yX1_accept, cX1_accept, 3, (some .boolean), 3, 65)
abbrev mX1_isPlace : MI := (yX1_isPlace, cX1_isPlace, 2, (some .boolean), 1, 22)
abbrev mX1_addTenant : MI := (yX1_addTenant, cX1_addTenant, 2, (some .boolean), 2, 43)
abbrev mX1_addShip : MI := (yX1_addShip, cX1_addShip, 3, (some .boolean), 2, 43)
abbrev mX1_setFog : MI := (yX1_setFog, cX1_setFog, 4, (some .boolean), 0, 0)
abbrev mX1_setLimit : MI := (yX1_setLimit, cX1_setLimit, 2, (some .boolean), 0, 0)
abbrev mX1_paysMostOfHisColour : MI := (yX1_paysMostOfHisColour, cX1_paysMostOfHisColour, 3, (some .boolean), 0, 0)
abbrev mX1_shineOf : MI := (yX1_shineOf, cX1_shineOf, 7, (some .int), 1, 23)
abbrev mX2_init : MI := (yX2_init, cX2_init, 1, none, 1, 20)
abbrev mX2_append : MI := (yX2_append, cX2_append, 2, (some .boolean), 0, 0)
abbrev mX2_at : MI := (yX2_at, cX2_at, 2, (some .int), 1, 22)
abbrev mX2_isFigure : MI := (yX2_isFigure, cX2_isFigure, 2, (some .boolean), 2, 43)
abbrev mX3_init : MI := (yX3_init, cX3_init, 1, none, 1, 20)
abbrev mX3_append : MI := (yX3_append, cX3_append, 3, (some .boolean), 0, 0)
abbrev mX3_fit : MI := (yX3_fit, cX3_fit, 3, (some .boolean), 1, 22)
abbrev mX3_darkStripes : MI := (yX3_darkStripes, cX3_darkStripes, 3, (some .int), 0, 0)
abbrev mX4_init : MI := (yX4_init, cX4_init, 3, none, 2, 40)
abbrev mX4_rowAt : MI := (yX4_rowAt, cX4_rowAt, 3, (some .int), 0, 0)
abbrev mX4_put : MI := (yX4_put, cX4_put, 2, none, 1, 22)
abbrev mX4_takeInto : MI := (yX4_takeInto, cX4_takeInto, 2, (some .boolean), 1, 22)
abbrev mX5_init : MI := (yX5_init, cX5_init, 1, none, 1, 20)
abbrev mX5_readAll : MI := (yX5_readAll, cX5_readAll, 6, (some .int), 5, 115)
abbrev mX5_readItem : MI := (yX5_readItem, cX5_readItem, 9, (some .int), 4, 87)
abbrev mX5_numbersBehind : MI := (yX5_numbersBehind, cX5_numbersBehind, 1, (some .int), 0, 0)
abbrev mX5_numberAt : MI := (yX5_numberAt, cX5_numberAt, 5, (some .int), 2, 43)
abbrev mX6_init : MI := (yX6_init, cX6_init, 1, none, 1, 20)
abbrev mX6_run : MI := (yX6_run, cX6_run, 8, none, 4, 88)
abbrev mX6_prepare : MI := (yX6_prepare, cX6_prepare, 5, none, 2, 49)
abbrev mX6_nextWay : MI := (yX6_nextWay, cX6_nextWay, 6, (some .boolean), 1, 23)
abbrev mX7_init : MI := (yX7_init, cX7_init, 1, none, 1, 20)
abbrev mX7_begin : MI := (yX7_begin, cX7_begin, 3, none, 0, 0)
abbrev mX7_copy : MI := (yX7_copy, cX7_copy, 3, none, 0, 0)
abbrev mX7_goBy : MI := (yX7_goBy, cX7_goBy, 4, none, 0, 0)
abbrev mX7_paying : MI := (yX7_paying, cX7_paying, 4, (some .int), 0, 0)
abbrev mX8_init : MI := (yX8_init, cX8_init, 2, none, 6, 140)
abbrev mX8_write : MI := (yX8_write, cX8_write, 2, (some .int), 1, 22)
abbrev mX8_wipe : MI := (yX8_wipe, cX8_wipe, 2, (some .int), 0, 0)
abbrev mX8_fault : MI := (yX8_fault, cX8_fault, 1, (some .int), 6, 140)
abbrev mX8_lay : MI := (yX8_lay, cX8_lay, 2, (some .int), 6, 140)
abbrev mX8_tenant : MI := (yX8_tenant, cX8_tenant, 3, (some .int), 2, 43)
abbrev mX8_ship : MI := (yX8_ship, cX8_ship, 3, (some .int), 2, 43)
abbrev mX8_stripe : MI := (yX8_stripe, cX8_stripe, 3, (some .int), 5, 113)
abbrev mX8_pass : MI := (yX8_pass, cX8_pass, 2, (some .int), 2, 43)
abbrev mX8_pay : MI := (yX8_pay, cX8_pay, 3, (some .int), 2, 43)
abbrev mX8_change : MI := (yX8_change, cX8_change, 3, (some .int), 2, 43)
abbrev mX8_smoke : MI := (yX8_smoke, cX8_smoke, 2, (some .int), 2, 43)
abbrev mX8_undo : MI := (yX8_undo, cX8_undo, 1, (some .int), 2, 43)
abbrev mX8_seen : MI := (yX8_seen, cX8_seen, 3, (some .int), 5, 113)
abbrev mX8_sign : MI := (yX8_sign, cX8_sign, 3, (some .int), 5, 113)
abbrev mX8_fleet : MI := (yX8_fleet, cX8_fleet, 2, (some .int), 5, 113)
abbrev mX8_order : MI := (yX8_order, cX8_order, 2, (some .int), 5, 115)
abbrev mX8_needed : MI := (yX8_needed, cX8_needed, 6, (some .int), 5, 113)
abbrev mX8_least : MI := (yX8_least, cX8_least, 7, (some .int), 5, 113)
abbrev mX8_rock : MI := (yX8_rock, cX8_rock, 8, (some .int), 5, 113)
abbrev mX8_row : MI := (yX8_row, cX8_row, 8, (some .int), 5, 113)
abbrev mX8_look : MI := (yX8_look, cX8_look, 3, (some .int), 2, 42)
abbrev mX8_forget : MI := (yX8_forget, cX8_forget, 2, (some .int), 0, 0)
abbrev mX8_behind : MI := (yX8_behind, cX8_behind, 6, (some .int), 3, 72)
abbrev mX8_panes : MI := (yX8_panes, cX8_panes, 1, (some .int), 5, 113)
abbrev mX8_odds : MI := (yX8_odds, cX8_odds, 3, (some .int), 5, 113)
abbrev mX8_mean : MI := (yX8_mean, cX8_mean, 2, (some .int), 5, 113)
abbrev mX8_owed : MI := (yX8_owed, cX8_owed, 4, (some .int), 1, 22)
abbrev mX8_weeks : MI := (yX8_weeks, cX8_weeks, 8, (some .int), 4, 93)
abbrev mX8_keep : MI := (yX8_keep, cX8_keep, 1, (some .int), 2, 43)
abbrev mX8_back : MI := (yX8_back, cX8_back, 1, (some .int), 2, 43)
abbrev mX8_count : MI := (yX8_count, cX8_count, 2, (some .int), 1, 23)
abbrev mX8_within : MI := (yX8_within, cX8_within, 3, (some .boolean), 0, 0)
abbrev mX8_isStripe : MI := (yX8_isStripe, cX8_isStripe, 1, (some .boolean), 1, 22)
abbrev mX8_isFog : MI := (yX8_isFog, cX8_isFog, 1, (some .boolean), 1, 22)
abbrev mX8_isColourOrDark : MI := (yX8_isColourOrDark, cX8_isColourOrDark, 1, (some .boolean), 1, 22)
abbrev mX8_isTenant : MI := (yX8_isTenant, cX8_isTenant, 2, (some .boolean), 1, 22)
abbrev mX8_isShip : MI := (yX8_isShip, cX8_isShip, 2, (some .boolean), 1, 22)
abbrev mX8_coloursSeenIn : MI := (yX8_coloursSeenIn, cX8_coloursSeenIn, 1, (some .int), 0, 0)
abbrev mX8_swap : MI := (yX8_swap, cX8_swap, 4, none, 0, 0)
abbrev mX8_stripesFrom : MI := (yX8_stripesFrom, cX8_stripesFrom, 4, (some .int), 0, 0)
abbrev mX8_drawnFog : MI := (yX8_drawnFog, cX8_drawnFog, 6, (some .int), 0, 0)
abbrev mX8_partOfTenths : MI := (yX8_partOfTenths, cX8_partOfTenths, 4, (some .int), 0, 0)
abbrev mX8_lightAsNow : MI := (yX8_lightAsNow, cX8_lightAsNow, 1, none, 4, 93)
abbrev mX8_lightAs : MI := (yX8_lightAs, cX8_lightAs, 2, none, 3, 72)
abbrev mX8_sureByLightOf : MI := (yX8_sureByLightOf, cX8_sureByLightOf, 3, (some .int), 3, 67)
abbrev mX8_sureTenths : MI := (yX8_sureTenths, cX8_sureTenths, 4, (some .int), 3, 67)
abbrev mX9_init : MI := (yX9_init, cX9_init, 1, none, 2, 44)
abbrev mX9_tells : MI := (yX9_tells, cX9_tells, 6, none, 0, 0)
abbrev mX9_tellsShip : MI := (yX9_tellsShip, cX9_tellsShip, 3, none, 0, 0)
abbrev mX9_in : MI := (yX9_in, cX9_in, 3, (some .boolean), 0, 0)
abbrev mX9_has : MI := (yX9_has, cX9_has, 2, (some .boolean), 0, 0)
abbrev mX9_bits : MI := (yX9_bits, cX9_bits, 3, (some .int), 0, 0)
abbrev mX9_isTenant : MI := (yX9_isTenant, cX9_isTenant, 2, (some .boolean), 1, 22)
abbrev mX9_isShip : MI := (yX9_isShip, cX9_isShip, 2, (some .boolean), 1, 22)
abbrev mX9_isStripe : MI := (yX9_isStripe, cX9_isStripe, 1, (some .boolean), 1, 22)
abbrev mX9_isFog : MI := (yX9_isFog, cX9_isFog, 1, (some .boolean), 1, 22)
abbrev mX9_write : MI := (yX9_write, cX9_write, 2, (some .int), 1, 22)
abbrev mX9_wipe : MI := (yX9_wipe, cX9_wipe, 2, (some .int), 0, 0)
abbrev mX9_letterAt : MI := (yX9_letterAt, cX9_letterAt, 2, (some .int), 0, 0)
abbrev mX9_isFigure : MI := (yX9_isFigure, cX9_isFigure, 1, (some .boolean), 1, 22)
abbrev mX9_readNumbers : MI := (yX9_readNumbers, cX9_readNumbers, 3, (some .boolean), 2, 42)
abbrev mX9_isTold : MI := (yX9_isTold, cX9_isTold, 4, (some .boolean), 1, 22)
abbrev mX9_put : MI := (yX9_put, cX9_put, 5, none, 0, 0)
abbrev mX9_clearTold : MI := (yX9_clearTold, cX9_clearTold, 2, none, 1, 23)
abbrev mX9_tellsFog : MI := (yX9_tellsFog, cX9_tellsFog, 4, none, 0, 0)
abbrev mX9_readTenantOf : MI := (yX9_readTenantOf, cX9_readTenantOf, 1, (some .boolean), 3, 64)
abbrev mX9_readShipOf : MI := (yX9_readShipOf, cX9_readShipOf, 1, (some .boolean), 3, 64)
abbrev mX9_readFogOf : MI := (yX9_readFogOf, cX9_readFogOf, 1, (some .boolean), 3, 64)
abbrev mX9_readMostOf : MI := (yX9_readMostOf, cX9_readMostOf, 2, (some .boolean), 3, 64)
abbrev mX9_readItem : MI := (yX9_readItem, cX9_readItem, 2, (some .boolean), 4, 85)
abbrev mX9_fault : MI := (yX9_fault, cX9_fault, 2, (some .int), 5, 106)
abbrev mX9_lay : MI := (yX9_lay, cX9_lay, 1, (some .int), 6, 127)
abbrev mX9_settles : MI := (yX9_settles, cX9_settles, 1, none, 1, 24)
abbrev mX9_asItIs : MI := (yX9_asItIs, cX9_asItIs, 1, none, 1, 24)
abbrev mX9_behindNow : MI := (yX9_behindNow, cX9_behindNow, 3, (some .int), 0, 0)
abbrev mX9_isProudest : MI := (yX9_isProudest, cX9_isProudest, 4, (some .boolean), 0, 0)
abbrev mX9_shines : MI := (yX9_shines, cX9_shines, 4, (some .boolean), 1, 23)
abbrev mX9_paint : MI := (yX9_paint, cX9_paint, 5, none, 2, 46)
abbrev mX9_isSeen : MI := (yX9_isSeen, cX9_isSeen, 2, (some .boolean), 0, 0)
abbrev mX9_sees : MI := (yX9_sees, cX9_sees, 3, (some .boolean), 0, 0)
abbrev mX9_signOf : MI := (yX9_signOf, cX9_signOf, 7, (some .int), 1, 22)
abbrev mX9_sureIn : MI := (yX9_sureIn, cX9_sureIn, 4, (some .int), 2, 48)
abbrev mX9_sureInAny : MI := (yX9_sureInAny, cX9_sureInAny, 1, (some .int), 3, 71)
abbrev mX9_tenant : MI := (yX9_tenant, cX9_tenant, 3, (some .int), 2, 44)
abbrev mX9_ship : MI := (yX9_ship, cX9_ship, 3, (some .int), 2, 43)
abbrev mX9_stripe : MI := (yX9_stripe, cX9_stripe, 3, (some .int), 3, 70)
abbrev mX9_remembers : MI := (yX9_remembers, cX9_remembers, 2, none, 1, 24)
abbrev mX9_pass : MI := (yX9_pass, cX9_pass, 3, (some .int), 2, 45)
abbrev mX9_pay : MI := (yX9_pay, cX9_pay, 3, (some .int), 2, 45)
abbrev mX9_swap : MI := (yX9_swap, cX9_swap, 4, none, 0, 0)
abbrev mX9_change : MI := (yX9_change, cX9_change, 3, (some .int), 2, 45)
abbrev mX9_smoke : MI := (yX9_smoke, cX9_smoke, 2, (some .int), 2, 45)
abbrev mX9_undo : MI := (yX9_undo, cX9_undo, 2, (some .int), 0, 0)
abbrev mX9_seen : MI := (yX9_seen, cX9_seen, 3, (some .int), 3, 70)
abbrev mX9_sign : MI := (yX9_sign, cX9_sign, 4, (some .int), 3, 70)
abbrev mX9_fleet : MI := (yX9_fleet, cX9_fleet, 2, (some .int), 4, 91)
abbrev mX9_isOrder : MI := (yX9_isOrder, cX9_isOrder, 5, (some .boolean), 0, 0)
abbrev mX9_order : MI := (yX9_order, cX9_order, 6, (some .int), 4, 91)
abbrev mX9_needed : MI := (yX9_needed, cX9_needed, 5, (some .int), 3, 71)
abbrev mX9_least : MI := (yX9_least, cX9_least, 5, (some .int), 3, 71)
abbrev mX9_rock : MI := (yX9_rock, cX9_rock, 8, (some .int), 3, 71)
abbrev mX9_row : MI := (yX9_row, cX9_row, 9, (some .int), 3, 70)
abbrev mX9_look : MI := (yX9_look, cX9_look, 3, (some .int), 2, 42)
abbrev mX9_forget : MI := (yX9_forget, cX9_forget, 2, (some .int), 0, 0)
abbrev mX9_behind : MI := (yX9_behind, cX9_behind, 7, (some .int), 3, 70)
abbrev mX9_panes : MI := (yX9_panes, cX9_panes, 4, (some .int), 3, 70)
abbrev mX9_tenths : MI := (yX9_tenths, cX9_tenths, 4, (some .int), 2, 48)
abbrev mX9_lowest : MI := (yX9_lowest, cX9_lowest, 6, (some .int), 0, 0)
abbrev mX9_odds : MI := (yX9_odds, cX9_odds, 3, (some .int), 3, 71)
abbrev mX9_mean : MI := (yX9_mean, cX9_mean, 4, (some .int), 3, 71)
abbrev mX9_owed : MI := (yX9_owed, cX9_owed, 4, (some .int), 1, 22)
abbrev mX9_weeks : MI := (yX9_weeks, cX9_weeks, 12, (some .int), 3, 71)
abbrev mX9_keep : MI := (yX9_keep, cX9_keep, 1, (some .int), 1, 24)
abbrev mX9_back : MI := (yX9_back, cX9_back, 2, (some .int), 0, 0)
abbrev mX9_count : MI := (yX9_count, cX9_count, 2, (some .int), 2, 44)
abbrev mJ6_bitCount_0f7a4 : MI := (yJ6_bitCount_0f7a4, cJ6_bitCount_0f7a4, 1, (some .int), 0, 0)
abbrev mJ9_max_7cf53 : MI := (yJ9_max_7cf53, cJ9_max_7cf53, 2, (some .int), 0, 0)
abbrev mJ0_length_8abf5 : MI := (yJ0_length_8abf5, cJ0_length_8abf5, 1, (some .int), 1, 20)
abbrev mJ0_charAt_5068e : MI := (yJ0_charAt_5068e, cJ0_charAt_5068e, 2, (some .char), 4, 85)
abbrev mJ0_coder_7d493 : MI := (yJ0_coder_7d493, cJ0_coder_7d493, 1, (some .byte), 0, 0)
abbrev mJ0_isLatin1_aae02 : MI := (yJ0_isLatin1_aae02, cJ0_isLatin1_aae02, 1, (some .boolean), 0, 0)
abbrev mJ0_checkIndex_df160 : MI := (yJ0_checkIndex_df160, cJ0_checkIndex_df160, 2, none, 1, 22)
abbrev mJ1_charAt_3b067 : MI := (yJ1_charAt_3b067, cJ1_charAt_3b067, 2, (some .char), 2, 43)
abbrev mJ2_getChar_3b067 : MI := (yJ2_getChar_3b067, cJ2_getChar_3b067, 2, (some .char), 1, 20)
abbrev mJ2_length_9d52b : MI := (yJ2_length_9d52b, cJ2_length_9d52b, 1, (some .int), 0, 0)
abbrev mJ2_charAt_3b067 : MI := (yJ2_charAt_3b067, cJ2_charAt_3b067, 2, (some .char), 3, 64)
abbrev mJ2_checkIndex_2214a : MI := (yJ2_checkIndex_2214a, cJ2_checkIndex_2214a, 2, none, 2, 43)
abbrev mJ7_fill_53178 : MI := (yJ7_fill_53178, cJ7_fill_53178, 4, none, 0, 0)
abbrev mJ3_checkIndex_8e157 : MI := (yJ3_checkIndex_8e157, cJ3_checkIndex_8e157, 3, (some .int), 0, 0)
theorem flX8_10 : FL RX8 10 8 0 true := ⟨RX8, TX8, 11, rfl, by decide, rfl, Or.inl (List.mem_of_getElem? (i := 416) (by decide +kernel)), rfl⟩
theorem flX8_19 : FL RX8 19 8 1 true := ⟨RX8, TX8, 11, rfl, by decide, rfl, Or.inl (List.mem_of_getElem? (i := 417) (by decide +kernel)), rfl⟩
theorem flX8_26 : FL RX8 26 8 2 true := ⟨RX8, TX8, 11, rfl, by decide, rfl, Or.inl (List.mem_of_getElem? (i := 418) (by decide +kernel)), rfl⟩
theorem flX8_30 : FL RX8 30 8 3 true := ⟨RX8, TX8, 11, rfl, by decide, rfl, Or.inl (List.mem_of_getElem? (i := 419) (by decide +kernel)), rfl⟩
theorem flX8_36 : FL RX8 36 8 4 true := ⟨RX8, TX8, 11, rfl, by decide, rfl, Or.inl (List.mem_of_getElem? (i := 420) (by decide +kernel)), rfl⟩
theorem flX8_40 : FL RX8 40 8 5 true := ⟨RX8, TX8, 11, rfl, by decide, rfl, Or.inl (List.mem_of_getElem? (i := 421) (by decide +kernel)), rfl⟩
theorem flX8_48 : FL RX8 48 8 6 true := ⟨RX8, TX8, 11, rfl, by decide, rfl, Or.inl (List.mem_of_getElem? (i := 422) (by decide +kernel)), rfl⟩
theorem flX8_52 : FL RX8 52 8 7 true := ⟨RX8, TX8, 11, rfl, by decide, rfl, Or.inl (List.mem_of_getElem? (i := 423) (by decide +kernel)), rfl⟩
theorem flX8_58 : FL RX8 58 8 8 true := ⟨RX8, TX8, 11, rfl, by decide, rfl, Or.inl (List.mem_of_getElem? (i := 424) (by decide +kernel)), rfl⟩
theorem flX8_65 : FL RX8 65 8 9 true := ⟨RX8, TX8, 11, rfl, by decide, rfl, Or.inl (List.mem_of_getElem? (i := 425) (by decide +kernel)), rfl⟩
theorem flX8_72 : FL RX8 72 8 10 true := ⟨RX8, TX8, 11, rfl, by decide, rfl, Or.inl (List.mem_of_getElem? (i := 426) (by decide +kernel)), rfl⟩
theorem flX8_96 : FL RX8 96 2 1 false := ⟨RX2, TX2, 2, rfl, by decide, rfl, Or.inr ⟨"LetByColours", (List.mem_of_getElem? (i := 103) (by decide +kernel))⟩, rfl⟩
theorem flX8_107 : FL RX8 107 1 0 false := ⟨RX1, TX1, 12, rfl, by decide, rfl, Or.inr ⟨"LetByColours", (List.mem_of_getElem? (i := 132) (by decide +kernel))⟩, rfl⟩
theorem flX8_110 : FL RX8 110 3 2 false := ⟨RX3, TX3, 3, rfl, by decide, rfl, Or.inr ⟨"LetByColours", (List.mem_of_getElem? (i := 249) (by decide +kernel))⟩, rfl⟩
theorem flX8_113 : FL RX8 113 4 2 false := ⟨RX4, TX4, 3, rfl, by decide, rfl, Or.inr ⟨"LetByColours", (List.mem_of_getElem? (i := 232) (by decide +kernel))⟩, rfl⟩
theorem flX8_117 : FL RX8 117 1 1 true := ⟨RX1, TX1, 12, rfl, by decide, rfl, Or.inr ⟨"LetByColours", (List.mem_of_getElem? (i := 135) (by decide +kernel))⟩, rfl⟩
theorem flX8_121 : FL RX8 121 7 2 true := ⟨RX7, TX7, 5, rfl, by decide, rfl, Or.inr ⟨"LetByColours", (List.mem_of_getElem? (i := 201) (by decide +kernel))⟩, rfl⟩
theorem flX8_124 : FL RX8 124 7 3 true := ⟨RX7, TX7, 5, rfl, by decide, rfl, Or.inr ⟨"LetByColours", (List.mem_of_getElem? (i := 205) (by decide +kernel))⟩, rfl⟩
theorem flX8_127 : FL RX8 127 1 4 true := ⟨RX1, TX1, 12, rfl, by decide, rfl, Or.inr ⟨"LetByColours", (List.mem_of_getElem? (i := 142) (by decide +kernel))⟩, rfl⟩
theorem flX8_130 : FL RX8 130 1 5 true := ⟨RX1, TX1, 12, rfl, by decide, rfl, Or.inr ⟨"LetByColours", (List.mem_of_getElem? (i := 144) (by decide +kernel))⟩, rfl⟩
theorem flX8_133 : FL RX8 133 7 1 true := ⟨RX7, TX7, 5, rfl, by decide, rfl, Or.inr ⟨"LetByColours", (List.mem_of_getElem? (i := 197) (by decide +kernel))⟩, rfl⟩
theorem flX8_136 : FL RX8 136 1 11 false := ⟨RX1, TX1, 12, rfl, by decide, rfl, Or.inr ⟨"LetByColours", (List.mem_of_getElem? (i := 160) (by decide +kernel))⟩, rfl⟩
theorem flX8_142 : FL RX8 142 1 7 true := ⟨RX1, TX1, 12, rfl, by decide, rfl, Or.inr ⟨"LetByColours", (List.mem_of_getElem? (i := 150) (by decide +kernel))⟩, rfl⟩
theorem flX8_145 : FL RX8 145 1 8 true := ⟨RX1, TX1, 12, rfl, by decide, rfl, Or.inr ⟨"LetByColours", (List.mem_of_getElem? (i := 152) (by decide +kernel))⟩, rfl⟩
theorem flX8_151 : FL RX8 151 7 4 false := ⟨RX7, TX7, 5, rfl, by decide, rfl, Or.inr ⟨"LetByColours", (List.mem_of_getElem? (i := 208) (by decide +kernel))⟩, rfl⟩
theorem flX8_164 : FL RX8 164 7 0 false := ⟨RX7, TX7, 5, rfl, by decide, rfl, Or.inr ⟨"LetByColours", (List.mem_of_getElem? (i := 195) (by decide +kernel))⟩, rfl⟩
theorem flX8_195 : FL RX8 195 1 9 true := ⟨RX1, TX1, 12, rfl, by decide, rfl, Or.inr ⟨"LetByColours", (List.mem_of_getElem? (i := 155) (by decide +kernel))⟩, rfl⟩
theorem flX8_213 : FL RX8 213 6 3 false := ⟨RX6, TX6, 4, rfl, by decide, rfl, Or.inr ⟨"LetByColours", (List.mem_of_getElem? (i := 291) (by decide +kernel))⟩, rfl⟩
theorem flX8_216 : FL RX8 216 6 2 true := ⟨RX6, TX6, 4, rfl, by decide, rfl, Or.inr ⟨"LetByColours", (List.mem_of_getElem? (i := 289) (by decide +kernel))⟩, rfl⟩
theorem flX8_233 : FL RX8 233 0 3 false := ⟨RX0, TX0, 4, rfl, by decide, rfl, Or.inr ⟨"LetByColours", (List.mem_of_getElem? (i := 268) (by decide +kernel))⟩, rfl⟩
theorem flX8_278 : FL RX8 278 1 6 false := ⟨RX1, TX1, 12, rfl, by decide, rfl, Or.inr ⟨"LetByColours", (List.mem_of_getElem? (i := 148) (by decide +kernel))⟩, rfl⟩
theorem flX8_291 : FL RX8 291 1 10 true := ⟨RX1, TX1, 12, rfl, by decide, rfl, Or.inr ⟨"LetByColours", (List.mem_of_getElem? (i := 157) (by decide +kernel))⟩, rfl⟩
theorem flX0_9 : FL RX0 9 0 0 true := ⟨RX0, TX0, 4, rfl, by decide, rfl, Or.inl (List.mem_of_getElem? (i := 263) (by decide +kernel)), rfl⟩
theorem flX0_15 : FL RX0 15 0 1 true := ⟨RX0, TX0, 4, rfl, by decide, rfl, Or.inl (List.mem_of_getElem? (i := 265) (by decide +kernel)), rfl⟩
theorem flX0_18 : FL RX0 18 0 2 true := ⟨RX0, TX0, 4, rfl, by decide, rfl, Or.inl (List.mem_of_getElem? (i := 266) (by decide +kernel)), rfl⟩
theorem flX0_21 : FL RX0 21 1 0 false := ⟨RX1, TX1, 12, rfl, by decide, rfl, Or.inr ⟨"LetByColours", (List.mem_of_getElem? (i := 129) (by decide +kernel))⟩, rfl⟩
theorem flX0_27 : FL RX0 27 7 2 true := ⟨RX7, TX7, 5, rfl, by decide, rfl, Or.inr ⟨"LetByColours", (List.mem_of_getElem? (i := 199) (by decide +kernel))⟩, rfl⟩
theorem flX0_32 : FL RX0 32 7 3 true := ⟨RX7, TX7, 5, rfl, by decide, rfl, Or.inr ⟨"LetByColours", (List.mem_of_getElem? (i := 203) (by decide +kernel))⟩, rfl⟩
theorem flX0_35 : FL RX0 35 7 0 false := ⟨RX7, TX7, 5, rfl, by decide, rfl, Or.inr ⟨"LetByColours", (List.mem_of_getElem? (i := 193) (by decide +kernel))⟩, rfl⟩
theorem flX0_42 : FL RX0 42 0 3 false := ⟨RX0, TX0, 4, rfl, by decide, rfl, Or.inl (List.mem_of_getElem? (i := 267) (by decide +kernel)), rfl⟩
theorem flX0_51 : FL RX0 51 1 1 true := ⟨RX1, TX1, 12, rfl, by decide, rfl, Or.inr ⟨"LetByColours", (List.mem_of_getElem? (i := 134) (by decide +kernel))⟩, rfl⟩
theorem flX0_58 : FL RX0 58 1 6 false := ⟨RX1, TX1, 12, rfl, by decide, rfl, Or.inr ⟨"LetByColours", (List.mem_of_getElem? (i := 147) (by decide +kernel))⟩, rfl⟩
theorem flX0_61 : FL RX0 61 1 9 true := ⟨RX1, TX1, 12, rfl, by decide, rfl, Or.inr ⟨"LetByColours", (List.mem_of_getElem? (i := 154) (by decide +kernel))⟩, rfl⟩
theorem flX1_9 : FL RX1 9 1 1 true := ⟨RX1, TX1, 12, rfl, by decide, rfl, Or.inl (List.mem_of_getElem? (i := 133) (by decide +kernel)), rfl⟩
theorem flX1_15 : FL RX1 15 1 2 true := ⟨RX1, TX1, 12, rfl, by decide, rfl, Or.inl (List.mem_of_getElem? (i := 136) (by decide +kernel)), rfl⟩
theorem flX1_18 : FL RX1 18 1 3 true := ⟨RX1, TX1, 12, rfl, by decide, rfl, Or.inl (List.mem_of_getElem? (i := 138) (by decide +kernel)), rfl⟩
theorem flX1_21 : FL RX1 21 1 4 true := ⟨RX1, TX1, 12, rfl, by decide, rfl, Or.inl (List.mem_of_getElem? (i := 140) (by decide +kernel)), rfl⟩
theorem flX1_24 : FL RX1 24 1 5 true := ⟨RX1, TX1, 12, rfl, by decide, rfl, Or.inl (List.mem_of_getElem? (i := 143) (by decide +kernel)), rfl⟩
theorem flX1_27 : FL RX1 27 1 7 true := ⟨RX1, TX1, 12, rfl, by decide, rfl, Or.inl (List.mem_of_getElem? (i := 149) (by decide +kernel)), rfl⟩
theorem flX1_30 : FL RX1 30 1 8 true := ⟨RX1, TX1, 12, rfl, by decide, rfl, Or.inl (List.mem_of_getElem? (i := 151) (by decide +kernel)), rfl⟩
theorem flX1_33 : FL RX1 33 1 9 true := ⟨RX1, TX1, 12, rfl, by decide, rfl, Or.inl (List.mem_of_getElem? (i := 153) (by decide +kernel)), rfl⟩
theorem flX1_36 : FL RX1 36 1 10 true := ⟨RX1, TX1, 12, rfl, by decide, rfl, Or.inl (List.mem_of_getElem? (i := 156) (by decide +kernel)), rfl⟩
theorem flX1_39 : FL RX1 39 1 0 false := ⟨RX1, TX1, 12, rfl, by decide, rfl, Or.inl (List.mem_of_getElem? (i := 128) (by decide +kernel)), rfl⟩
theorem flX1_43 : FL RX1 43 1 6 false := ⟨RX1, TX1, 12, rfl, by decide, rfl, Or.inl (List.mem_of_getElem? (i := 145) (by decide +kernel)), rfl⟩
theorem flX2_9 : FL RX2 9 2 0 true := ⟨RX2, TX2, 2, rfl, by decide, rfl, Or.inl (List.mem_of_getElem? (i := 102) (by decide +kernel)), rfl⟩
theorem flX2_15 : FL RX2 15 2 1 false := ⟨RX2, TX2, 2, rfl, by decide, rfl, Or.inl (List.mem_of_getElem? (i := 104) (by decide +kernel)), rfl⟩
theorem flX3_9 : FL RX3 9 3 0 true := ⟨RX3, TX3, 3, rfl, by decide, rfl, Or.inl (List.mem_of_getElem? (i := 246) (by decide +kernel)), rfl⟩
theorem flX3_15 : FL RX3 15 3 1 true := ⟨RX3, TX3, 3, rfl, by decide, rfl, Or.inl (List.mem_of_getElem? (i := 247) (by decide +kernel)), rfl⟩
theorem flX3_18 : FL RX3 18 3 2 false := ⟨RX3, TX3, 3, rfl, by decide, rfl, Or.inl (List.mem_of_getElem? (i := 248) (by decide +kernel)), rfl⟩
theorem flX4_9 : FL RX4 9 4 0 true := ⟨RX4, TX4, 3, rfl, by decide, rfl, Or.inl (List.mem_of_getElem? (i := 229) (by decide +kernel)), rfl⟩
theorem flX4_16 : FL RX4 16 4 1 false := ⟨RX4, TX4, 3, rfl, by decide, rfl, Or.inl (List.mem_of_getElem? (i := 230) (by decide +kernel)), rfl⟩
theorem flX4_20 : FL RX4 20 4 2 false := ⟨RX4, TX4, 3, rfl, by decide, rfl, Or.inl (List.mem_of_getElem? (i := 231) (by decide +kernel)), rfl⟩
theorem flX5_11 : FL RX5 11 5 0 true := ⟨RX5, TX5, 1, rfl, by decide, rfl, Or.inl (List.mem_of_getElem? (i := 118) (by decide +kernel)), rfl⟩
theorem flX5_20 : FL RX5 20 2 1 false := ⟨RX2, TX2, 2, rfl, by decide, rfl, Or.inr ⟨"LetByColours", (List.mem_of_getElem? (i := 105) (by decide +kernel))⟩, rfl⟩
theorem flX6_11 : FL RX6 11 6 0 true := ⟨RX6, TX6, 4, rfl, by decide, rfl, Or.inl (List.mem_of_getElem? (i := 286) (by decide +kernel)), rfl⟩
theorem flX6_16 : FL RX6 16 6 1 true := ⟨RX6, TX6, 4, rfl, by decide, rfl, Or.inl (List.mem_of_getElem? (i := 287) (by decide +kernel)), rfl⟩
theorem flX6_20 : FL RX6 20 6 2 true := ⟨RX6, TX6, 4, rfl, by decide, rfl, Or.inl (List.mem_of_getElem? (i := 288) (by decide +kernel)), rfl⟩
theorem flX6_33 : FL RX6 33 1 0 false := ⟨RX1, TX1, 12, rfl, by decide, rfl, Or.inr ⟨"LetByColours", (List.mem_of_getElem? (i := 130) (by decide +kernel))⟩, rfl⟩
theorem flX6_39 : FL RX6 39 0 0 true := ⟨RX0, TX0, 4, rfl, by decide, rfl, Or.inr ⟨"LetByColours", (List.mem_of_getElem? (i := 264) (by decide +kernel))⟩, rfl⟩
theorem flX6_44 : FL RX6 44 7 4 false := ⟨RX7, TX7, 5, rfl, by decide, rfl, Or.inr ⟨"LetByColours", (List.mem_of_getElem? (i := 207) (by decide +kernel))⟩, rfl⟩
theorem flX6_60 : FL RX6 60 6 3 false := ⟨RX6, TX6, 4, rfl, by decide, rfl, Or.inl (List.mem_of_getElem? (i := 290) (by decide +kernel)), rfl⟩
theorem flX6_69 : FL RX6 69 1 6 false := ⟨RX1, TX1, 12, rfl, by decide, rfl, Or.inr ⟨"LetByColours", (List.mem_of_getElem? (i := 146) (by decide +kernel))⟩, rfl⟩
theorem flX6_76 : FL RX6 76 7 2 true := ⟨RX7, TX7, 5, rfl, by decide, rfl, Or.inr ⟨"LetByColours", (List.mem_of_getElem? (i := 200) (by decide +kernel))⟩, rfl⟩
theorem flX6_79 : FL RX6 79 7 3 true := ⟨RX7, TX7, 5, rfl, by decide, rfl, Or.inr ⟨"LetByColours", (List.mem_of_getElem? (i := 204) (by decide +kernel))⟩, rfl⟩
theorem flX6_82 : FL RX6 82 7 0 false := ⟨RX7, TX7, 5, rfl, by decide, rfl, Or.inr ⟨"LetByColours", (List.mem_of_getElem? (i := 194) (by decide +kernel))⟩, rfl⟩
theorem flX7_9 : FL RX7 9 7 1 true := ⟨RX7, TX7, 5, rfl, by decide, rfl, Or.inl (List.mem_of_getElem? (i := 196) (by decide +kernel)), rfl⟩
theorem flX7_15 : FL RX7 15 7 2 true := ⟨RX7, TX7, 5, rfl, by decide, rfl, Or.inl (List.mem_of_getElem? (i := 198) (by decide +kernel)), rfl⟩
theorem flX7_18 : FL RX7 18 7 3 true := ⟨RX7, TX7, 5, rfl, by decide, rfl, Or.inl (List.mem_of_getElem? (i := 202) (by decide +kernel)), rfl⟩
theorem flX7_21 : FL RX7 21 7 0 false := ⟨RX7, TX7, 5, rfl, by decide, rfl, Or.inl (List.mem_of_getElem? (i := 192) (by decide +kernel)), rfl⟩
theorem flX7_25 : FL RX7 25 7 4 false := ⟨RX7, TX7, 5, rfl, by decide, rfl, Or.inl (List.mem_of_getElem? (i := 206) (by decide +kernel)), rfl⟩
theorem flX7_28 : FL RX7 28 1 2 true := ⟨RX1, TX1, 12, rfl, by decide, rfl, Or.inr ⟨"LetByColours", (List.mem_of_getElem? (i := 137) (by decide +kernel))⟩, rfl⟩
theorem flX7_31 : FL RX7 31 1 3 true := ⟨RX1, TX1, 12, rfl, by decide, rfl, Or.inr ⟨"LetByColours", (List.mem_of_getElem? (i := 139) (by decide +kernel))⟩, rfl⟩
theorem flX7_32 : FL RX7 32 1 0 false := ⟨RX1, TX1, 12, rfl, by decide, rfl, Or.inr ⟨"LetByColours", (List.mem_of_getElem? (i := 131) (by decide +kernel))⟩, rfl⟩
theorem flX7_35 : FL RX7 35 1 4 true := ⟨RX1, TX1, 12, rfl, by decide, rfl, Or.inr ⟨"LetByColours", (List.mem_of_getElem? (i := 141) (by decide +kernel))⟩, rfl⟩
theorem flX7_38 : FL RX7 38 1 11 false := ⟨RX1, TX1, 12, rfl, by decide, rfl, Or.inr ⟨"LetByColours", (List.mem_of_getElem? (i := 159) (by decide +kernel))⟩, rfl⟩
theorem flX9_7 : FL RX9 7 9 1 true := ⟨RX9, TX9, 30, rfl, by decide, rfl, Or.inl (List.mem_of_getElem? (i := 778) (by decide +kernel)), rfl⟩
theorem flX9_13 : FL RX9 13 9 3 true := ⟨RX9, TX9, 30, rfl, by decide, rfl, Or.inl (List.mem_of_getElem? (i := 780) (by decide +kernel)), rfl⟩
theorem flX9_16 : FL RX9 16 9 4 true := ⟨RX9, TX9, 30, rfl, by decide, rfl, Or.inl (List.mem_of_getElem? (i := 781) (by decide +kernel)), rfl⟩
theorem flX9_19 : FL RX9 19 9 6 true := ⟨RX9, TX9, 30, rfl, by decide, rfl, Or.inl (List.mem_of_getElem? (i := 783) (by decide +kernel)), rfl⟩
theorem flX9_22 : FL RX9 22 9 8 true := ⟨RX9, TX9, 30, rfl, by decide, rfl, Or.inl (List.mem_of_getElem? (i := 785) (by decide +kernel)), rfl⟩
theorem flX9_25 : FL RX9 25 9 10 true := ⟨RX9, TX9, 30, rfl, by decide, rfl, Or.inl (List.mem_of_getElem? (i := 787) (by decide +kernel)), rfl⟩
theorem flX9_28 : FL RX9 28 9 12 true := ⟨RX9, TX9, 30, rfl, by decide, rfl, Or.inl (List.mem_of_getElem? (i := 789) (by decide +kernel)), rfl⟩
theorem flX9_31 : FL RX9 31 9 13 true := ⟨RX9, TX9, 30, rfl, by decide, rfl, Or.inl (List.mem_of_getElem? (i := 790) (by decide +kernel)), rfl⟩
theorem flX9_34 : FL RX9 34 9 16 true := ⟨RX9, TX9, 30, rfl, by decide, rfl, Or.inl (List.mem_of_getElem? (i := 793) (by decide +kernel)), rfl⟩
theorem flX9_37 : FL RX9 37 9 18 true := ⟨RX9, TX9, 30, rfl, by decide, rfl, Or.inl (List.mem_of_getElem? (i := 795) (by decide +kernel)), rfl⟩
theorem flX9_40 : FL RX9 40 9 20 true := ⟨RX9, TX9, 30, rfl, by decide, rfl, Or.inl (List.mem_of_getElem? (i := 797) (by decide +kernel)), rfl⟩
theorem flX9_43 : FL RX9 43 9 21 true := ⟨RX9, TX9, 30, rfl, by decide, rfl, Or.inl (List.mem_of_getElem? (i := 798) (by decide +kernel)), rfl⟩
theorem flX9_46 : FL RX9 46 9 23 true := ⟨RX9, TX9, 30, rfl, by decide, rfl, Or.inl (List.mem_of_getElem? (i := 800) (by decide +kernel)), rfl⟩
theorem flX9_49 : FL RX9 49 9 24 true := ⟨RX9, TX9, 30, rfl, by decide, rfl, Or.inl (List.mem_of_getElem? (i := 801) (by decide +kernel)), rfl⟩
theorem flX9_52 : FL RX9 52 9 26 true := ⟨RX9, TX9, 30, rfl, by decide, rfl, Or.inl (List.mem_of_getElem? (i := 803) (by decide +kernel)), rfl⟩
theorem flX9_55 : FL RX9 55 9 27 true := ⟨RX9, TX9, 30, rfl, by decide, rfl, Or.inl (List.mem_of_getElem? (i := 804) (by decide +kernel)), rfl⟩
theorem flX9_58 : FL RX9 58 9 28 true := ⟨RX9, TX9, 30, rfl, by decide, rfl, Or.inl (List.mem_of_getElem? (i := 805) (by decide +kernel)), rfl⟩
theorem flX9_61 : FL RX9 61 9 29 true := ⟨RX9, TX9, 30, rfl, by decide, rfl, Or.inl (List.mem_of_getElem? (i := 806) (by decide +kernel)), rfl⟩
theorem flX9_78 : FL RX9 78 9 17 false := ⟨RX9, TX9, 30, rfl, by decide, rfl, Or.inl (List.mem_of_getElem? (i := 794) (by decide +kernel)), rfl⟩
theorem flX9_82 : FL RX9 82 9 19 false := ⟨RX9, TX9, 30, rfl, by decide, rfl, Or.inl (List.mem_of_getElem? (i := 796) (by decide +kernel)), rfl⟩
theorem flX9_85 : FL RX9 85 9 0 false := ⟨RX9, TX9, 30, rfl, by decide, rfl, Or.inl (List.mem_of_getElem? (i := 777) (by decide +kernel)), rfl⟩
theorem flX9_92 : FL RX9 92 9 2 false := ⟨RX9, TX9, 30, rfl, by decide, rfl, Or.inl (List.mem_of_getElem? (i := 779) (by decide +kernel)), rfl⟩
theorem flX9_95 : FL RX9 95 9 14 false := ⟨RX9, TX9, 30, rfl, by decide, rfl, Or.inl (List.mem_of_getElem? (i := 791) (by decide +kernel)), rfl⟩
theorem flX9_98 : FL RX9 98 9 15 false := ⟨RX9, TX9, 30, rfl, by decide, rfl, Or.inl (List.mem_of_getElem? (i := 792) (by decide +kernel)), rfl⟩
theorem flX9_113 : FL RX9 113 9 22 false := ⟨RX9, TX9, 30, rfl, by decide, rfl, Or.inl (List.mem_of_getElem? (i := 799) (by decide +kernel)), rfl⟩
theorem flX9_142 : FL RX9 142 9 5 false := ⟨RX9, TX9, 30, rfl, by decide, rfl, Or.inl (List.mem_of_getElem? (i := 782) (by decide +kernel)), rfl⟩
theorem flX9_149 : FL RX9 149 9 7 false := ⟨RX9, TX9, 30, rfl, by decide, rfl, Or.inl (List.mem_of_getElem? (i := 784) (by decide +kernel)), rfl⟩
theorem flX9_152 : FL RX9 152 9 9 false := ⟨RX9, TX9, 30, rfl, by decide, rfl, Or.inl (List.mem_of_getElem? (i := 786) (by decide +kernel)), rfl⟩
theorem flX9_155 : FL RX9 155 9 11 false := ⟨RX9, TX9, 30, rfl, by decide, rfl, Or.inl (List.mem_of_getElem? (i := 788) (by decide +kernel)), rfl⟩
theorem flX9_161 : FL RX9 161 9 25 false := ⟨RX9, TX9, 30, rfl, by decide, rfl, Or.inl (List.mem_of_getElem? (i := 802) (by decide +kernel)), rfl⟩
theorem fpX8_10 : FP RX8 "<init>" 10 8 0 true := ⟨RX8, TX8, 11, rfl, by decide, rfl, Or.inr ⟨rfl, (List.mem_of_getElem? (i := 416) (by decide +kernel)), rfl, rfl⟩, rfl⟩
theorem fpX8_19 : FP RX8 "<init>" 19 8 1 true := ⟨RX8, TX8, 11, rfl, by decide, rfl, Or.inr ⟨rfl, (List.mem_of_getElem? (i := 417) (by decide +kernel)), rfl, rfl⟩, rfl⟩
theorem fpX8_26 (nm : String) : FP RX8 nm 26 8 2 true := ⟨RX8, TX8, 11, rfl, by decide, rfl, Or.inl ⟨rfl, Or.inl (List.mem_of_getElem? (i := 418) (by decide +kernel))⟩, rfl⟩
theorem fpX8_30 (nm : String) : FP RX8 nm 30 8 3 true := ⟨RX8, TX8, 11, rfl, by decide, rfl, Or.inl ⟨rfl, Or.inl (List.mem_of_getElem? (i := 419) (by decide +kernel))⟩, rfl⟩
theorem fpX8_36 : FP RX8 "<init>" 36 8 4 true := ⟨RX8, TX8, 11, rfl, by decide, rfl, Or.inr ⟨rfl, (List.mem_of_getElem? (i := 420) (by decide +kernel)), rfl, rfl⟩, rfl⟩
theorem fpX8_40 : FP RX8 "<init>" 40 8 5 true := ⟨RX8, TX8, 11, rfl, by decide, rfl, Or.inr ⟨rfl, (List.mem_of_getElem? (i := 421) (by decide +kernel)), rfl, rfl⟩, rfl⟩
theorem fpX8_48 : FP RX8 "<init>" 48 8 6 true := ⟨RX8, TX8, 11, rfl, by decide, rfl, Or.inr ⟨rfl, (List.mem_of_getElem? (i := 422) (by decide +kernel)), rfl, rfl⟩, rfl⟩
theorem fpX8_52 : FP RX8 "<init>" 52 8 7 true := ⟨RX8, TX8, 11, rfl, by decide, rfl, Or.inr ⟨rfl, (List.mem_of_getElem? (i := 423) (by decide +kernel)), rfl, rfl⟩, rfl⟩
theorem fpX8_58 : FP RX8 "<init>" 58 8 8 true := ⟨RX8, TX8, 11, rfl, by decide, rfl, Or.inr ⟨rfl, (List.mem_of_getElem? (i := 424) (by decide +kernel)), rfl, rfl⟩, rfl⟩
theorem fpX8_65 : FP RX8 "<init>" 65 8 9 true := ⟨RX8, TX8, 11, rfl, by decide, rfl, Or.inr ⟨rfl, (List.mem_of_getElem? (i := 425) (by decide +kernel)), rfl, rfl⟩, rfl⟩
theorem fpX8_72 : FP RX8 "<init>" 72 8 10 true := ⟨RX8, TX8, 11, rfl, by decide, rfl, Or.inr ⟨rfl, (List.mem_of_getElem? (i := 426) (by decide +kernel)), rfl, rfl⟩, rfl⟩
theorem fpX8_96 (nm : String) : FP RX8 nm 96 2 1 false := ⟨RX2, TX2, 2, rfl, by decide, rfl, Or.inl ⟨rfl, Or.inr ⟨"LetByColours", (List.mem_of_getElem? (i := 103) (by decide +kernel))⟩⟩, rfl⟩
theorem fpX8_110 (nm : String) : FP RX8 nm 110 3 2 false := ⟨RX3, TX3, 3, rfl, by decide, rfl, Or.inl ⟨rfl, Or.inr ⟨"LetByColours", (List.mem_of_getElem? (i := 249) (by decide +kernel))⟩⟩, rfl⟩
theorem fpX8_113 (nm : String) : FP RX8 nm 113 4 2 false := ⟨RX4, TX4, 3, rfl, by decide, rfl, Or.inl ⟨rfl, Or.inr ⟨"LetByColours", (List.mem_of_getElem? (i := 232) (by decide +kernel))⟩⟩, rfl⟩
theorem fpX8_151 (nm : String) : FP RX8 nm 151 7 4 false := ⟨RX7, TX7, 5, rfl, by decide, rfl, Or.inl ⟨rfl, Or.inr ⟨"LetByColours", (List.mem_of_getElem? (i := 208) (by decide +kernel))⟩⟩, rfl⟩
theorem fpX0_9 : FP RX0 "<init>" 9 0 0 true := ⟨RX0, TX0, 4, rfl, by decide, rfl, Or.inr ⟨rfl, (List.mem_of_getElem? (i := 263) (by decide +kernel)), rfl, rfl⟩, rfl⟩
theorem fpX0_15 : FP RX0 "<init>" 15 0 1 true := ⟨RX0, TX0, 4, rfl, by decide, rfl, Or.inr ⟨rfl, (List.mem_of_getElem? (i := 265) (by decide +kernel)), rfl, rfl⟩, rfl⟩
theorem fpX0_18 : FP RX0 "<init>" 18 0 2 true := ⟨RX0, TX0, 4, rfl, by decide, rfl, Or.inr ⟨rfl, (List.mem_of_getElem? (i := 266) (by decide +kernel)), rfl, rfl⟩, rfl⟩
theorem fpX0_42 (nm : String) : FP RX0 nm 42 0 3 false := ⟨RX0, TX0, 4, rfl, by decide, rfl, Or.inl ⟨rfl, Or.inl (List.mem_of_getElem? (i := 267) (by decide +kernel))⟩, rfl⟩
theorem fpX1_9 : FP RX1 "<init>" 9 1 1 true := ⟨RX1, TX1, 12, rfl, by decide, rfl, Or.inr ⟨rfl, (List.mem_of_getElem? (i := 133) (by decide +kernel)), rfl, rfl⟩, rfl⟩
theorem fpX1_15 : FP RX1 "<init>" 15 1 2 true := ⟨RX1, TX1, 12, rfl, by decide, rfl, Or.inr ⟨rfl, (List.mem_of_getElem? (i := 136) (by decide +kernel)), rfl, rfl⟩, rfl⟩
theorem fpX1_18 : FP RX1 "<init>" 18 1 3 true := ⟨RX1, TX1, 12, rfl, by decide, rfl, Or.inr ⟨rfl, (List.mem_of_getElem? (i := 138) (by decide +kernel)), rfl, rfl⟩, rfl⟩
theorem fpX1_21 : FP RX1 "<init>" 21 1 4 true := ⟨RX1, TX1, 12, rfl, by decide, rfl, Or.inr ⟨rfl, (List.mem_of_getElem? (i := 140) (by decide +kernel)), rfl, rfl⟩, rfl⟩
theorem fpX1_24 : FP RX1 "<init>" 24 1 5 true := ⟨RX1, TX1, 12, rfl, by decide, rfl, Or.inr ⟨rfl, (List.mem_of_getElem? (i := 143) (by decide +kernel)), rfl, rfl⟩, rfl⟩
theorem fpX1_27 : FP RX1 "<init>" 27 1 7 true := ⟨RX1, TX1, 12, rfl, by decide, rfl, Or.inr ⟨rfl, (List.mem_of_getElem? (i := 149) (by decide +kernel)), rfl, rfl⟩, rfl⟩
theorem fpX1_30 : FP RX1 "<init>" 30 1 8 true := ⟨RX1, TX1, 12, rfl, by decide, rfl, Or.inr ⟨rfl, (List.mem_of_getElem? (i := 151) (by decide +kernel)), rfl, rfl⟩, rfl⟩
theorem fpX1_33 : FP RX1 "<init>" 33 1 9 true := ⟨RX1, TX1, 12, rfl, by decide, rfl, Or.inr ⟨rfl, (List.mem_of_getElem? (i := 153) (by decide +kernel)), rfl, rfl⟩, rfl⟩
theorem fpX1_36 : FP RX1 "<init>" 36 1 10 true := ⟨RX1, TX1, 12, rfl, by decide, rfl, Or.inr ⟨rfl, (List.mem_of_getElem? (i := 156) (by decide +kernel)), rfl, rfl⟩, rfl⟩
theorem fpX1_39 (nm : String) : FP RX1 nm 39 1 0 false := ⟨RX1, TX1, 12, rfl, by decide, rfl, Or.inl ⟨rfl, Or.inl (List.mem_of_getElem? (i := 128) (by decide +kernel))⟩, rfl⟩
theorem fpX1_43 (nm : String) : FP RX1 nm 43 1 6 false := ⟨RX1, TX1, 12, rfl, by decide, rfl, Or.inl ⟨rfl, Or.inl (List.mem_of_getElem? (i := 145) (by decide +kernel))⟩, rfl⟩
theorem fpX1_50 (nm : String) : FP RX1 nm 50 1 11 false := ⟨RX1, TX1, 12, rfl, by decide, rfl, Or.inl ⟨rfl, Or.inl (List.mem_of_getElem? (i := 158) (by decide +kernel))⟩, rfl⟩
theorem fpX2_9 : FP RX2 "<init>" 9 2 0 true := ⟨RX2, TX2, 2, rfl, by decide, rfl, Or.inr ⟨rfl, (List.mem_of_getElem? (i := 102) (by decide +kernel)), rfl, rfl⟩, rfl⟩
theorem fpX2_15 (nm : String) : FP RX2 nm 15 2 1 false := ⟨RX2, TX2, 2, rfl, by decide, rfl, Or.inl ⟨rfl, Or.inl (List.mem_of_getElem? (i := 104) (by decide +kernel))⟩, rfl⟩
theorem fpX3_9 : FP RX3 "<init>" 9 3 0 true := ⟨RX3, TX3, 3, rfl, by decide, rfl, Or.inr ⟨rfl, (List.mem_of_getElem? (i := 246) (by decide +kernel)), rfl, rfl⟩, rfl⟩
theorem fpX3_15 : FP RX3 "<init>" 15 3 1 true := ⟨RX3, TX3, 3, rfl, by decide, rfl, Or.inr ⟨rfl, (List.mem_of_getElem? (i := 247) (by decide +kernel)), rfl, rfl⟩, rfl⟩
theorem fpX3_18 (nm : String) : FP RX3 nm 18 3 2 false := ⟨RX3, TX3, 3, rfl, by decide, rfl, Or.inl ⟨rfl, Or.inl (List.mem_of_getElem? (i := 248) (by decide +kernel))⟩, rfl⟩
theorem fpX4_9 : FP RX4 "<init>" 9 4 0 true := ⟨RX4, TX4, 3, rfl, by decide, rfl, Or.inr ⟨rfl, (List.mem_of_getElem? (i := 229) (by decide +kernel)), rfl, rfl⟩, rfl⟩
theorem fpX4_16 (nm : String) : FP RX4 nm 16 4 1 false := ⟨RX4, TX4, 3, rfl, by decide, rfl, Or.inl ⟨rfl, Or.inl (List.mem_of_getElem? (i := 230) (by decide +kernel))⟩, rfl⟩
theorem fpX4_20 (nm : String) : FP RX4 nm 20 4 2 false := ⟨RX4, TX4, 3, rfl, by decide, rfl, Or.inl ⟨rfl, Or.inl (List.mem_of_getElem? (i := 231) (by decide +kernel))⟩, rfl⟩
theorem fpX5_11 : FP RX5 "<init>" 11 5 0 true := ⟨RX5, TX5, 1, rfl, by decide, rfl, Or.inr ⟨rfl, (List.mem_of_getElem? (i := 118) (by decide +kernel)), rfl, rfl⟩, rfl⟩
theorem fpX6_11 : FP RX6 "<init>" 11 6 0 true := ⟨RX6, TX6, 4, rfl, by decide, rfl, Or.inr ⟨rfl, (List.mem_of_getElem? (i := 286) (by decide +kernel)), rfl, rfl⟩, rfl⟩
theorem fpX6_16 : FP RX6 "<init>" 16 6 1 true := ⟨RX6, TX6, 4, rfl, by decide, rfl, Or.inr ⟨rfl, (List.mem_of_getElem? (i := 287) (by decide +kernel)), rfl, rfl⟩, rfl⟩
theorem fpX6_20 : FP RX6 "<init>" 20 6 2 true := ⟨RX6, TX6, 4, rfl, by decide, rfl, Or.inr ⟨rfl, (List.mem_of_getElem? (i := 288) (by decide +kernel)), rfl, rfl⟩, rfl⟩
theorem fpX6_60 (nm : String) : FP RX6 nm 60 6 3 false := ⟨RX6, TX6, 4, rfl, by decide, rfl, Or.inl ⟨rfl, Or.inl (List.mem_of_getElem? (i := 290) (by decide +kernel))⟩, rfl⟩
theorem fpX7_9 : FP RX7 "<init>" 9 7 1 true := ⟨RX7, TX7, 5, rfl, by decide, rfl, Or.inr ⟨rfl, (List.mem_of_getElem? (i := 196) (by decide +kernel)), rfl, rfl⟩, rfl⟩
theorem fpX7_15 : FP RX7 "<init>" 15 7 2 true := ⟨RX7, TX7, 5, rfl, by decide, rfl, Or.inr ⟨rfl, (List.mem_of_getElem? (i := 198) (by decide +kernel)), rfl, rfl⟩, rfl⟩
theorem fpX7_18 : FP RX7 "<init>" 18 7 3 true := ⟨RX7, TX7, 5, rfl, by decide, rfl, Or.inr ⟨rfl, (List.mem_of_getElem? (i := 202) (by decide +kernel)), rfl, rfl⟩, rfl⟩
theorem fpX7_21 (nm : String) : FP RX7 nm 21 7 0 false := ⟨RX7, TX7, 5, rfl, by decide, rfl, Or.inl ⟨rfl, Or.inl (List.mem_of_getElem? (i := 192) (by decide +kernel))⟩, rfl⟩
theorem fpX7_25 (nm : String) : FP RX7 nm 25 7 4 false := ⟨RX7, TX7, 5, rfl, by decide, rfl, Or.inl ⟨rfl, Or.inl (List.mem_of_getElem? (i := 206) (by decide +kernel))⟩, rfl⟩
theorem fpX9_7 : FP RX9 "<init>" 7 9 1 true := ⟨RX9, TX9, 30, rfl, by decide, rfl, Or.inr ⟨rfl, (List.mem_of_getElem? (i := 778) (by decide +kernel)), rfl, rfl⟩, rfl⟩
theorem fpX9_13 : FP RX9 "<init>" 13 9 3 true := ⟨RX9, TX9, 30, rfl, by decide, rfl, Or.inr ⟨rfl, (List.mem_of_getElem? (i := 780) (by decide +kernel)), rfl, rfl⟩, rfl⟩
theorem fpX9_16 : FP RX9 "<init>" 16 9 4 true := ⟨RX9, TX9, 30, rfl, by decide, rfl, Or.inr ⟨rfl, (List.mem_of_getElem? (i := 781) (by decide +kernel)), rfl, rfl⟩, rfl⟩
theorem fpX9_19 : FP RX9 "<init>" 19 9 6 true := ⟨RX9, TX9, 30, rfl, by decide, rfl, Or.inr ⟨rfl, (List.mem_of_getElem? (i := 783) (by decide +kernel)), rfl, rfl⟩, rfl⟩
theorem fpX9_22 : FP RX9 "<init>" 22 9 8 true := ⟨RX9, TX9, 30, rfl, by decide, rfl, Or.inr ⟨rfl, (List.mem_of_getElem? (i := 785) (by decide +kernel)), rfl, rfl⟩, rfl⟩
theorem fpX9_25 : FP RX9 "<init>" 25 9 10 true := ⟨RX9, TX9, 30, rfl, by decide, rfl, Or.inr ⟨rfl, (List.mem_of_getElem? (i := 787) (by decide +kernel)), rfl, rfl⟩, rfl⟩
theorem fpX9_28 : FP RX9 "<init>" 28 9 12 true := ⟨RX9, TX9, 30, rfl, by decide, rfl, Or.inr ⟨rfl, (List.mem_of_getElem? (i := 789) (by decide +kernel)), rfl, rfl⟩, rfl⟩
theorem fpX9_31 : FP RX9 "<init>" 31 9 13 true := ⟨RX9, TX9, 30, rfl, by decide, rfl, Or.inr ⟨rfl, (List.mem_of_getElem? (i := 790) (by decide +kernel)), rfl, rfl⟩, rfl⟩
theorem fpX9_34 : FP RX9 "<init>" 34 9 16 true := ⟨RX9, TX9, 30, rfl, by decide, rfl, Or.inr ⟨rfl, (List.mem_of_getElem? (i := 793) (by decide +kernel)), rfl, rfl⟩, rfl⟩
theorem fpX9_37 : FP RX9 "<init>" 37 9 18 true := ⟨RX9, TX9, 30, rfl, by decide, rfl, Or.inr ⟨rfl, (List.mem_of_getElem? (i := 795) (by decide +kernel)), rfl, rfl⟩, rfl⟩
theorem fpX9_40 : FP RX9 "<init>" 40 9 20 true := ⟨RX9, TX9, 30, rfl, by decide, rfl, Or.inr ⟨rfl, (List.mem_of_getElem? (i := 797) (by decide +kernel)), rfl, rfl⟩, rfl⟩
theorem fpX9_43 : FP RX9 "<init>" 43 9 21 true := ⟨RX9, TX9, 30, rfl, by decide, rfl, Or.inr ⟨rfl, (List.mem_of_getElem? (i := 798) (by decide +kernel)), rfl, rfl⟩, rfl⟩
theorem fpX9_46 : FP RX9 "<init>" 46 9 23 true := ⟨RX9, TX9, 30, rfl, by decide, rfl, Or.inr ⟨rfl, (List.mem_of_getElem? (i := 800) (by decide +kernel)), rfl, rfl⟩, rfl⟩
theorem fpX9_49 : FP RX9 "<init>" 49 9 24 true := ⟨RX9, TX9, 30, rfl, by decide, rfl, Or.inr ⟨rfl, (List.mem_of_getElem? (i := 801) (by decide +kernel)), rfl, rfl⟩, rfl⟩
theorem fpX9_52 : FP RX9 "<init>" 52 9 26 true := ⟨RX9, TX9, 30, rfl, by decide, rfl, Or.inr ⟨rfl, (List.mem_of_getElem? (i := 803) (by decide +kernel)), rfl, rfl⟩, rfl⟩
theorem fpX9_55 : FP RX9 "<init>" 55 9 27 true := ⟨RX9, TX9, 30, rfl, by decide, rfl, Or.inr ⟨rfl, (List.mem_of_getElem? (i := 804) (by decide +kernel)), rfl, rfl⟩, rfl⟩
theorem fpX9_58 : FP RX9 "<init>" 58 9 28 true := ⟨RX9, TX9, 30, rfl, by decide, rfl, Or.inr ⟨rfl, (List.mem_of_getElem? (i := 805) (by decide +kernel)), rfl, rfl⟩, rfl⟩
theorem fpX9_61 : FP RX9 "<init>" 61 9 29 true := ⟨RX9, TX9, 30, rfl, by decide, rfl, Or.inr ⟨rfl, (List.mem_of_getElem? (i := 806) (by decide +kernel)), rfl, rfl⟩, rfl⟩
theorem fpX9_78 (nm : String) : FP RX9 nm 78 9 17 false := ⟨RX9, TX9, 30, rfl, by decide, rfl, Or.inl ⟨rfl, Or.inl (List.mem_of_getElem? (i := 794) (by decide +kernel))⟩, rfl⟩
theorem fpX9_82 (nm : String) : FP RX9 nm 82 9 19 false := ⟨RX9, TX9, 30, rfl, by decide, rfl, Or.inl ⟨rfl, Or.inl (List.mem_of_getElem? (i := 796) (by decide +kernel))⟩, rfl⟩
theorem fpX9_85 (nm : String) : FP RX9 nm 85 9 0 false := ⟨RX9, TX9, 30, rfl, by decide, rfl, Or.inl ⟨rfl, Or.inl (List.mem_of_getElem? (i := 777) (by decide +kernel))⟩, rfl⟩
theorem fpX9_92 (nm : String) : FP RX9 nm 92 9 2 false := ⟨RX9, TX9, 30, rfl, by decide, rfl, Or.inl ⟨rfl, Or.inl (List.mem_of_getElem? (i := 779) (by decide +kernel))⟩, rfl⟩
theorem fpX9_95 (nm : String) : FP RX9 nm 95 9 14 false := ⟨RX9, TX9, 30, rfl, by decide, rfl, Or.inl ⟨rfl, Or.inl (List.mem_of_getElem? (i := 791) (by decide +kernel))⟩, rfl⟩
theorem fpX9_98 (nm : String) : FP RX9 nm 98 9 15 false := ⟨RX9, TX9, 30, rfl, by decide, rfl, Or.inl ⟨rfl, Or.inl (List.mem_of_getElem? (i := 792) (by decide +kernel))⟩, rfl⟩
theorem fpX9_113 (nm : String) : FP RX9 nm 113 9 22 false := ⟨RX9, TX9, 30, rfl, by decide, rfl, Or.inl ⟨rfl, Or.inl (List.mem_of_getElem? (i := 799) (by decide +kernel))⟩, rfl⟩
theorem fpX9_142 (nm : String) : FP RX9 nm 142 9 5 false := ⟨RX9, TX9, 30, rfl, by decide, rfl, Or.inl ⟨rfl, Or.inl (List.mem_of_getElem? (i := 782) (by decide +kernel))⟩, rfl⟩
theorem fpX9_149 (nm : String) : FP RX9 nm 149 9 7 false := ⟨RX9, TX9, 30, rfl, by decide, rfl, Or.inl ⟨rfl, Or.inl (List.mem_of_getElem? (i := 784) (by decide +kernel))⟩, rfl⟩
theorem fpX9_152 (nm : String) : FP RX9 nm 152 9 9 false := ⟨RX9, TX9, 30, rfl, by decide, rfl, Or.inl ⟨rfl, Or.inl (List.mem_of_getElem? (i := 786) (by decide +kernel))⟩, rfl⟩
theorem fpX9_155 (nm : String) : FP RX9 nm 155 9 11 false := ⟨RX9, TX9, 30, rfl, by decide, rfl, Or.inl ⟨rfl, Or.inl (List.mem_of_getElem? (i := 788) (by decide +kernel))⟩, rfl⟩
theorem fpX9_161 (nm : String) : FP RX9 nm 161 9 25 false := ⟨RX9, TX9, 30, rfl, by decide, rfl, Or.inl ⟨rfl, Or.inl (List.mem_of_getElem? (i := 802) (by decide +kernel))⟩, rfl⟩
theorem lkX0_38 : LKV RX0 38 mX1_shineOf 4 := ⟨⟨Or.inr ⟨"LetByColours", (List.mem_of_getElem? (i := 503) (by decide +kernel))⟩, (List.mem_of_getElem? (i := 73) (by decide +kernel)), (List.mem_of_getElem? (i := 506) (by decide +kernel)), by decide +kernel, by decide +kernel, by decide +kernel⟩, (List.mem_of_getElem? (i := 505) (by decide +kernel)), (List.mem_of_getElem? (i := 17) (by decide +kernel))⟩
theorem lkX0_45 : LKS RX0 45 mJ7_fill_53178 2 := ⟨⟨Or.inl (List.mem_of_getElem? (i := 519) (by decide +kernel)), (List.mem_of_getElem? (i := 84) (by decide +kernel)), (List.mem_of_getElem? (i := 521) (by decide +kernel)), by decide +kernel, by decide +kernel, by decide +kernel⟩, (List.mem_of_getElem? (i := 520) (by decide +kernel))⟩
theorem lkX0_54 : LKS RX0 54 mX8_coloursSeenIn 1 := ⟨⟨Or.inr ⟨"LetByColours", (List.mem_of_getElem? (i := 594) (by decide +kernel))⟩, (List.mem_of_getElem? (i := 70) (by decide +kernel)), (List.mem_of_getElem? (i := 585) (by decide +kernel)), by decide +kernel, by decide +kernel, by decide +kernel⟩, (List.mem_of_getElem? (i := 584) (by decide +kernel))⟩
theorem lkX0_64 : LKV RX0 64 mX0_firstSign 2 := ⟨⟨Or.inl (List.mem_of_getElem? (i := 607) (by decide +kernel)), (List.mem_of_getElem? (i := 77) (by decide +kernel)), (List.mem_of_getElem? (i := 593) (by decide +kernel)), by decide +kernel, by decide +kernel, by decide +kernel⟩, (List.mem_of_getElem? (i := 592) (by decide +kernel)), (List.mem_of_getElem? (i := 28) (by decide +kernel))⟩
theorem lkX0_68 : LKV RX0 68 mX0_sureShips 2 := ⟨⟨Or.inl (List.mem_of_getElem? (i := 603) (by decide +kernel)), (List.mem_of_getElem? (i := 77) (by decide +kernel)), (List.mem_of_getElem? (i := 606) (by decide +kernel)), by decide +kernel, by decide +kernel, by decide +kernel⟩, (List.mem_of_getElem? (i := 605) (by decide +kernel)), (List.mem_of_getElem? (i := 30) (by decide +kernel))⟩
theorem lkX0_72 : LKS RX0 72 mJ6_bitCount_0f7a4 1 := ⟨⟨Or.inl (List.mem_of_getElem? (i := 664) (by decide +kernel)), (List.mem_of_getElem? (i := 86) (by decide +kernel)), (List.mem_of_getElem? (i := 627) (by decide +kernel)), by decide +kernel, by decide +kernel, by decide +kernel⟩, (List.mem_of_getElem? (i := 626) (by decide +kernel))⟩
theorem lkX1_46 : LKV RX1 46 mX1_setFog 3 := ⟨⟨Or.inl (List.mem_of_getElem? (i := 362) (by decide +kernel)), (List.mem_of_getElem? (i := 73) (by decide +kernel)), (List.mem_of_getElem? (i := 365) (by decide +kernel)), by decide +kernel, by decide +kernel, by decide +kernel⟩, (List.mem_of_getElem? (i := 364) (by decide +kernel)), (List.mem_of_getElem? (i := 3) (by decide +kernel))⟩
theorem lkX1_53 : LKV RX1 53 mX1_addTenant 1 := ⟨⟨Or.inl (List.mem_of_getElem? (i := 392) (by decide +kernel)), (List.mem_of_getElem? (i := 73) (by decide +kernel)), (List.mem_of_getElem? (i := 395) (by decide +kernel)), by decide +kernel, by decide +kernel, by decide +kernel⟩, (List.mem_of_getElem? (i := 394) (by decide +kernel)), (List.mem_of_getElem? (i := 8) (by decide +kernel))⟩
theorem lkX1_57 : LKV RX1 57 mX1_addShip 2 := ⟨⟨Or.inl (List.mem_of_getElem? (i := 400) (by decide +kernel)), (List.mem_of_getElem? (i := 73) (by decide +kernel)), (List.mem_of_getElem? (i := 403) (by decide +kernel)), by decide +kernel, by decide +kernel, by decide +kernel⟩, (List.mem_of_getElem? (i := 402) (by decide +kernel)), (List.mem_of_getElem? (i := 9) (by decide +kernel))⟩
theorem lkX1_61 : LKV RX1 61 mX1_setLimit 1 := ⟨⟨Or.inl (List.mem_of_getElem? (i := 408) (by decide +kernel)), (List.mem_of_getElem? (i := 73) (by decide +kernel)), (List.mem_of_getElem? (i := 411) (by decide +kernel)), by decide +kernel, by decide +kernel, by decide +kernel⟩, (List.mem_of_getElem? (i := 410) (by decide +kernel)), (List.mem_of_getElem? (i := 10) (by decide +kernel))⟩
theorem lkX1_65 : LKS RX1 65 mX8_within 3 := ⟨⟨Or.inr ⟨"LetByColours", (List.mem_of_getElem? (i := 396) (by decide +kernel))⟩, (List.mem_of_getElem? (i := 70) (by decide +kernel)), (List.mem_of_getElem? (i := 376) (by decide +kernel)), by decide +kernel, by decide +kernel, by decide +kernel⟩, (List.mem_of_getElem? (i := 375) (by decide +kernel))⟩
theorem lkX1_68 : LKS RX1 68 mX1_isPlace 2 := ⟨⟨Or.inl (List.mem_of_getElem? (i := 397) (by decide +kernel)), (List.mem_of_getElem? (i := 73) (by decide +kernel)), (List.mem_of_getElem? (i := 399) (by decide +kernel)), by decide +kernel, by decide +kernel, by decide +kernel⟩, (List.mem_of_getElem? (i := 398) (by decide +kernel))⟩
theorem lkX1_71 : LKS RX1 71 mX8_stripesFrom 2 := ⟨⟨Or.inr ⟨"LetByColours", (List.mem_of_getElem? (i := 404) (by decide +kernel))⟩, (List.mem_of_getElem? (i := 70) (by decide +kernel)), (List.mem_of_getElem? (i := 406) (by decide +kernel)), by decide +kernel, by decide +kernel, by decide +kernel⟩, (List.mem_of_getElem? (i := 405) (by decide +kernel))⟩
theorem lkX1_75 : LKV RX1 75 mX1_paysMostOfHisColour 1 := ⟨⟨Or.inl (List.mem_of_getElem? (i := 507) (by decide +kernel)), (List.mem_of_getElem? (i := 73) (by decide +kernel)), (List.mem_of_getElem? (i := 510) (by decide +kernel)), by decide +kernel, by decide +kernel, by decide +kernel⟩, (List.mem_of_getElem? (i := 509) (by decide +kernel)), (List.mem_of_getElem? (i := 18) (by decide +kernel))⟩
theorem lkX2_19 : LKS RX2 19 mX8_within 3 := ⟨⟨Or.inr ⟨"LetByColours", (List.mem_of_getElem? (i := 374) (by decide +kernel))⟩, (List.mem_of_getElem? (i := 70) (by decide +kernel)), (List.mem_of_getElem? (i := 376) (by decide +kernel)), by decide +kernel, by decide +kernel, by decide +kernel⟩, (List.mem_of_getElem? (i := 375) (by decide +kernel))⟩
theorem lkX2_23 : LKV RX2 23 mX2_at 1 := ⟨⟨Or.inl (List.mem_of_getElem? (i := 384) (by decide +kernel)), (List.mem_of_getElem? (i := 71) (by decide +kernel)), (List.mem_of_getElem? (i := 373) (by decide +kernel)), by decide +kernel, by decide +kernel, by decide +kernel⟩, (List.mem_of_getElem? (i := 372) (by decide +kernel)), (List.mem_of_getElem? (i := 5) (by decide +kernel))⟩
theorem lkX3_22 : LKV RX3 22 mX0_colourAt 1 := ⟨⟨Or.inr ⟨"LetByColours", (List.mem_of_getElem? (i := 692) (by decide +kernel))⟩, (List.mem_of_getElem? (i := 77) (by decide +kernel)), (List.mem_of_getElem? (i := 525) (by decide +kernel)), by decide +kernel, by decide +kernel, by decide +kernel⟩, (List.mem_of_getElem? (i := 524) (by decide +kernel)), (List.mem_of_getElem? (i := 21) (by decide +kernel))⟩
theorem lkX4_15 : LKI RX4 15 mX7_init 0 := ⟨⟨Or.inr ⟨"LetByColours", (List.mem_of_getElem? (i := 228) (by decide +kernel))⟩, (List.mem_of_getElem? (i := 74) (by decide +kernel)), (List.mem_of_getElem? (i := 190) (by decide +kernel)), by decide +kernel, by decide +kernel, by decide +kernel⟩, (List.mem_of_getElem? (i := 189) (by decide +kernel)), rfl⟩
theorem lkX4_23 : LKV RX4 23 mX4_rowAt 1 := ⟨⟨Or.inl (List.mem_of_getElem? (i := 538) (by decide +kernel)), (List.mem_of_getElem? (i := 75) (by decide +kernel)), (List.mem_of_getElem? (i := 541) (by decide +kernel)), by decide +kernel, by decide +kernel, by decide +kernel⟩, (List.mem_of_getElem? (i := 540) (by decide +kernel)), (List.mem_of_getElem? (i := 24) (by decide +kernel))⟩
theorem lkX4_27 : LKV RX4 27 mX7_copy 1 := ⟨⟨Or.inr ⟨"LetByColours", (List.mem_of_getElem? (i := 542) (by decide +kernel))⟩, (List.mem_of_getElem? (i := 74) (by decide +kernel)), (List.mem_of_getElem? (i := 545) (by decide +kernel)), by decide +kernel, by decide +kernel, by decide +kernel⟩, (List.mem_of_getElem? (i := 544) (by decide +kernel)), (List.mem_of_getElem? (i := 25) (by decide +kernel))⟩
theorem lkX5_15 : LKV RX5 15 mX1_clear 0 := ⟨⟨Or.inr ⟨"LetByColours", (List.mem_of_getElem? (i := 358) (by decide +kernel))⟩, (List.mem_of_getElem? (i := 73) (by decide +kernel)), (List.mem_of_getElem? (i := 361) (by decide +kernel)), by decide +kernel, by decide +kernel, by decide +kernel⟩, (List.mem_of_getElem? (i := 360) (by decide +kernel)), (List.mem_of_getElem? (i := 2) (by decide +kernel))⟩
theorem lkX5_26 : LKV RX5 26 mX5_readItem 3 := ⟨⟨Or.inl (List.mem_of_getElem? (i := 366) (by decide +kernel)), (List.mem_of_getElem? (i := 72) (by decide +kernel)), (List.mem_of_getElem? (i := 369) (by decide +kernel)), by decide +kernel, by decide +kernel, by decide +kernel⟩, (List.mem_of_getElem? (i := 368) (by decide +kernel)), (List.mem_of_getElem? (i := 4) (by decide +kernel))⟩
theorem lkX5_30 : LKV RX5 30 mX2_at 1 := ⟨⟨Or.inr ⟨"LetByColours", (List.mem_of_getElem? (i := 370) (by decide +kernel))⟩, (List.mem_of_getElem? (i := 71) (by decide +kernel)), (List.mem_of_getElem? (i := 373) (by decide +kernel)), by decide +kernel, by decide +kernel, by decide +kernel⟩, (List.mem_of_getElem? (i := 372) (by decide +kernel)), (List.mem_of_getElem? (i := 5) (by decide +kernel))⟩
theorem lkX5_34 : LKS RX5 34 mX5_numbersBehind 1 := ⟨⟨Or.inl (List.mem_of_getElem? (i := 377) (by decide +kernel)), (List.mem_of_getElem? (i := 72) (by decide +kernel)), (List.mem_of_getElem? (i := 379) (by decide +kernel)), by decide +kernel, by decide +kernel, by decide +kernel⟩, (List.mem_of_getElem? (i := 378) (by decide +kernel))⟩
theorem lkX5_37 : LKV RX5 37 mX2_isFigure 1 := ⟨⟨Or.inr ⟨"LetByColours", (List.mem_of_getElem? (i := 380) (by decide +kernel))⟩, (List.mem_of_getElem? (i := 71) (by decide +kernel)), (List.mem_of_getElem? (i := 383) (by decide +kernel)), by decide +kernel, by decide +kernel, by decide +kernel⟩, (List.mem_of_getElem? (i := 382) (by decide +kernel)), (List.mem_of_getElem? (i := 6) (by decide +kernel))⟩
theorem lkX5_41 : LKS RX5 41 mX5_numberAt 3 := ⟨⟨Or.inl (List.mem_of_getElem? (i := 385) (by decide +kernel)), (List.mem_of_getElem? (i := 72) (by decide +kernel)), (List.mem_of_getElem? (i := 387) (by decide +kernel)), by decide +kernel, by decide +kernel, by decide +kernel⟩, (List.mem_of_getElem? (i := 386) (by decide +kernel))⟩
theorem lkX5_45 : LKV RX5 45 mX1_accept 2 := ⟨⟨Or.inr ⟨"LetByColours", (List.mem_of_getElem? (i := 388) (by decide +kernel))⟩, (List.mem_of_getElem? (i := 73) (by decide +kernel)), (List.mem_of_getElem? (i := 391) (by decide +kernel)), by decide +kernel, by decide +kernel, by decide +kernel⟩, (List.mem_of_getElem? (i := 390) (by decide +kernel)), (List.mem_of_getElem? (i := 7) (by decide +kernel))⟩
theorem lkX6_23 : LKV RX6 23 mX6_prepare 2 := ⟨⟨Or.inl (List.mem_of_getElem? (i := 617) (by decide +kernel)), (List.mem_of_getElem? (i := 78) (by decide +kernel)), (List.mem_of_getElem? (i := 620) (by decide +kernel)), by decide +kernel, by decide +kernel, by decide +kernel⟩, (List.mem_of_getElem? (i := 619) (by decide +kernel)), (List.mem_of_getElem? (i := 32) (by decide +kernel))⟩
theorem lkX6_27 : LKV RX6 27 mX7_paying 1 := ⟨⟨Or.inr ⟨"LetByColours", (List.mem_of_getElem? (i := 622) (by decide +kernel))⟩, (List.mem_of_getElem? (i := 74) (by decide +kernel)), (List.mem_of_getElem? (i := 514) (by decide +kernel)), by decide +kernel, by decide +kernel, by decide +kernel⟩, (List.mem_of_getElem? (i := 513) (by decide +kernel)), (List.mem_of_getElem? (i := 19) (by decide +kernel))⟩
theorem lkX6_47 : LKV RX6 47 mX0_show 3 := ⟨⟨Or.inr ⟨"LetByColours", (List.mem_of_getElem? (i := 623) (by decide +kernel))⟩, (List.mem_of_getElem? (i := 77) (by decide +kernel)), (List.mem_of_getElem? (i := 518) (by decide +kernel)), by decide +kernel, by decide +kernel, by decide +kernel⟩, (List.mem_of_getElem? (i := 517) (by decide +kernel)), (List.mem_of_getElem? (i := 20) (by decide +kernel))⟩
theorem lkX6_51 : LKV RX6 51 mX0_sureInAnyFog 1 := ⟨⟨Or.inr ⟨"LetByColours", (List.mem_of_getElem? (i := 624) (by decide +kernel))⟩, (List.mem_of_getElem? (i := 77) (by decide +kernel)), (List.mem_of_getElem? (i := 602) (by decide +kernel)), by decide +kernel, by decide +kernel, by decide +kernel⟩, (List.mem_of_getElem? (i := 601) (by decide +kernel)), (List.mem_of_getElem? (i := 29) (by decide +kernel))⟩
theorem lkX6_54 : LKS RX6 54 mJ6_bitCount_0f7a4 1 := ⟨⟨Or.inl (List.mem_of_getElem? (i := 625) (by decide +kernel)), (List.mem_of_getElem? (i := 86) (by decide +kernel)), (List.mem_of_getElem? (i := 627) (by decide +kernel)), by decide +kernel, by decide +kernel, by decide +kernel⟩, (List.mem_of_getElem? (i := 626) (by decide +kernel))⟩
theorem lkX6_72 : LKV RX6 72 mX6_nextWay 1 := ⟨⟨Or.inl (List.mem_of_getElem? (i := 634) (by decide +kernel)), (List.mem_of_getElem? (i := 78) (by decide +kernel)), (List.mem_of_getElem? (i := 637) (by decide +kernel)), by decide +kernel, by decide +kernel, by decide +kernel⟩, (List.mem_of_getElem? (i := 636) (by decide +kernel)), (List.mem_of_getElem? (i := 33) (by decide +kernel))⟩
theorem lkX6_85 : LKV RX6 85 mX1_shineOf 4 := ⟨⟨Or.inr ⟨"LetByColours", (List.mem_of_getElem? (i := 621) (by decide +kernel))⟩, (List.mem_of_getElem? (i := 73) (by decide +kernel)), (List.mem_of_getElem? (i := 506) (by decide +kernel)), by decide +kernel, by decide +kernel, by decide +kernel⟩, (List.mem_of_getElem? (i := 505) (by decide +kernel)), (List.mem_of_getElem? (i := 17) (by decide +kernel))⟩
theorem lkX6_89 : LKS RX6 89 mX8_swap 3 := ⟨⟨Or.inr ⟨"LetByColours", (List.mem_of_getElem? (i := 638) (by decide +kernel))⟩, (List.mem_of_getElem? (i := 70) (by decide +kernel)), (List.mem_of_getElem? (i := 563) (by decide +kernel)), by decide +kernel, by decide +kernel, by decide +kernel⟩, (List.mem_of_getElem? (i := 562) (by decide +kernel))⟩
theorem lkX8_103 : LKS RX8 103 mX8_within 3 := ⟨⟨Or.inl (List.mem_of_getElem? (i := 455) (by decide +kernel)), (List.mem_of_getElem? (i := 70) (by decide +kernel)), (List.mem_of_getElem? (i := 376) (by decide +kernel)), by decide +kernel, by decide +kernel, by decide +kernel⟩, (List.mem_of_getElem? (i := 375) (by decide +kernel))⟩
theorem lkX8_114 : LKV RX8 114 mX8_isTenant 1 := ⟨⟨Or.inl (List.mem_of_getElem? (i := 472) (by decide +kernel)), (List.mem_of_getElem? (i := 70) (by decide +kernel)), (List.mem_of_getElem? (i := 475) (by decide +kernel)), by decide +kernel, by decide +kernel, by decide +kernel⟩, (List.mem_of_getElem? (i := 474) (by decide +kernel)), (List.mem_of_getElem? (i := 12) (by decide +kernel))⟩
theorem lkX8_139 : LKV RX8 139 mX8_isShip 1 := ⟨⟨Or.inl (List.mem_of_getElem? (i := 480) (by decide +kernel)), (List.mem_of_getElem? (i := 70) (by decide +kernel)), (List.mem_of_getElem? (i := 483) (by decide +kernel)), by decide +kernel, by decide +kernel, by decide +kernel⟩, (List.mem_of_getElem? (i := 482) (by decide +kernel)), (List.mem_of_getElem? (i := 13) (by decide +kernel))⟩
theorem lkX8_148 : LKS RX8 148 mX8_isStripe 1 := ⟨⟨Or.inl (List.mem_of_getElem? (i := 488) (by decide +kernel)), (List.mem_of_getElem? (i := 70) (by decide +kernel)), (List.mem_of_getElem? (i := 490) (by decide +kernel)), by decide +kernel, by decide +kernel, by decide +kernel⟩, (List.mem_of_getElem? (i := 489) (by decide +kernel))⟩
theorem lkX8_154 : LKV RX8 154 mX8_lightAsNow 0 := ⟨⟨Or.inl (List.mem_of_getElem? (i := 491) (by decide +kernel)), (List.mem_of_getElem? (i := 70) (by decide +kernel)), (List.mem_of_getElem? (i := 494) (by decide +kernel)), by decide +kernel, by decide +kernel, by decide +kernel⟩, (List.mem_of_getElem? (i := 493) (by decide +kernel)), (List.mem_of_getElem? (i := 14) (by decide +kernel))⟩
theorem lkX8_157 : LKV RX8 157 mX0_colourAt 1 := ⟨⟨Or.inr ⟨"LetByColours", (List.mem_of_getElem? (i := 522) (by decide +kernel))⟩, (List.mem_of_getElem? (i := 77) (by decide +kernel)), (List.mem_of_getElem? (i := 525) (by decide +kernel)), by decide +kernel, by decide +kernel, by decide +kernel⟩, (List.mem_of_getElem? (i := 524) (by decide +kernel)), (List.mem_of_getElem? (i := 21) (by decide +kernel))⟩
theorem lkX8_161 : LKV RX8 161 mX0_ownerAt 1 := ⟨⟨Or.inr ⟨"LetByColours", (List.mem_of_getElem? (i := 526) (by decide +kernel))⟩, (List.mem_of_getElem? (i := 77) (by decide +kernel)), (List.mem_of_getElem? (i := 529) (by decide +kernel)), by decide +kernel, by decide +kernel, by decide +kernel⟩, (List.mem_of_getElem? (i := 528) (by decide +kernel)), (List.mem_of_getElem? (i := 22) (by decide +kernel))⟩
theorem lkX8_167 : LKV RX8 167 mX4_put 1 := ⟨⟨Or.inr ⟨"LetByColours", (List.mem_of_getElem? (i := 534) (by decide +kernel))⟩, (List.mem_of_getElem? (i := 75) (by decide +kernel)), (List.mem_of_getElem? (i := 537) (by decide +kernel)), by decide +kernel, by decide +kernel, by decide +kernel⟩, (List.mem_of_getElem? (i := 536) (by decide +kernel)), (List.mem_of_getElem? (i := 23) (by decide +kernel))⟩
theorem lkX8_171 : LKV RX8 171 mX7_goBy 2 := ⟨⟨Or.inr ⟨"LetByColours", (List.mem_of_getElem? (i := 546) (by decide +kernel))⟩, (List.mem_of_getElem? (i := 74) (by decide +kernel)), (List.mem_of_getElem? (i := 549) (by decide +kernel)), by decide +kernel, by decide +kernel, by decide +kernel⟩, (List.mem_of_getElem? (i := 548) (by decide +kernel)), (List.mem_of_getElem? (i := 26) (by decide +kernel))⟩
theorem lkX8_175 : LKS RX8 175 mJ9_max_7cf53 2 := ⟨⟨Or.inl (List.mem_of_getElem? (i := 554) (by decide +kernel)), (List.mem_of_getElem? (i := 85) (by decide +kernel)), (List.mem_of_getElem? (i := 556) (by decide +kernel)), by decide +kernel, by decide +kernel, by decide +kernel⟩, (List.mem_of_getElem? (i := 555) (by decide +kernel))⟩
theorem lkX8_18 : LKI RX8 18 mX5_init 0 := ⟨⟨Or.inr ⟨"LetByColours", (List.mem_of_getElem? (i := 114) (by decide +kernel))⟩, (List.mem_of_getElem? (i := 72) (by decide +kernel)), (List.mem_of_getElem? (i := 116) (by decide +kernel)), by decide +kernel, by decide +kernel, by decide +kernel⟩, (List.mem_of_getElem? (i := 115) (by decide +kernel)), rfl⟩
theorem lkX8_181 : LKS RX8 181 mX8_swap 3 := ⟨⟨Or.inl (List.mem_of_getElem? (i := 561) (by decide +kernel)), (List.mem_of_getElem? (i := 70) (by decide +kernel)), (List.mem_of_getElem? (i := 563) (by decide +kernel)), by decide +kernel, by decide +kernel, by decide +kernel⟩, (List.mem_of_getElem? (i := 562) (by decide +kernel))⟩
theorem lkX8_185 : LKV RX8 185 mX4_takeInto 1 := ⟨⟨Or.inr ⟨"LetByColours", (List.mem_of_getElem? (i := 572) (by decide +kernel))⟩, (List.mem_of_getElem? (i := 75) (by decide +kernel)), (List.mem_of_getElem? (i := 575) (by decide +kernel)), by decide +kernel, by decide +kernel, by decide +kernel⟩, (List.mem_of_getElem? (i := 574) (by decide +kernel)), (List.mem_of_getElem? (i := 27) (by decide +kernel))⟩
theorem lkX8_189 : LKS RX8 189 mX8_isFog 1 := ⟨⟨Or.inl (List.mem_of_getElem? (i := 580) (by decide +kernel)), (List.mem_of_getElem? (i := 70) (by decide +kernel)), (List.mem_of_getElem? (i := 582) (by decide +kernel)), by decide +kernel, by decide +kernel, by decide +kernel⟩, (List.mem_of_getElem? (i := 581) (by decide +kernel))⟩
theorem lkX8_192 : LKS RX8 192 mX8_coloursSeenIn 1 := ⟨⟨Or.inl (List.mem_of_getElem? (i := 583) (by decide +kernel)), (List.mem_of_getElem? (i := 70) (by decide +kernel)), (List.mem_of_getElem? (i := 585) (by decide +kernel)), by decide +kernel, by decide +kernel, by decide +kernel⟩, (List.mem_of_getElem? (i := 584) (by decide +kernel))⟩
theorem lkX8_198 : LKV RX8 198 mX0_firstSign 2 := ⟨⟨Or.inr ⟨"LetByColours", (List.mem_of_getElem? (i := 590) (by decide +kernel))⟩, (List.mem_of_getElem? (i := 77) (by decide +kernel)), (List.mem_of_getElem? (i := 593) (by decide +kernel)), by decide +kernel, by decide +kernel, by decide +kernel⟩, (List.mem_of_getElem? (i := 592) (by decide +kernel)), (List.mem_of_getElem? (i := 28) (by decide +kernel))⟩
theorem lkX8_201 : LKV RX8 201 mX0_sureInAnyFog 1 := ⟨⟨Or.inr ⟨"LetByColours", (List.mem_of_getElem? (i := 599) (by decide +kernel))⟩, (List.mem_of_getElem? (i := 77) (by decide +kernel)), (List.mem_of_getElem? (i := 602) (by decide +kernel)), by decide +kernel, by decide +kernel, by decide +kernel⟩, (List.mem_of_getElem? (i := 601) (by decide +kernel)), (List.mem_of_getElem? (i := 29) (by decide +kernel))⟩
theorem lkX8_205 : LKV RX8 205 mX0_sureShips 2 := ⟨⟨Or.inr ⟨"LetByColours", (List.mem_of_getElem? (i := 608) (by decide +kernel))⟩, (List.mem_of_getElem? (i := 77) (by decide +kernel)), (List.mem_of_getElem? (i := 606) (by decide +kernel)), by decide +kernel, by decide +kernel, by decide +kernel⟩, (List.mem_of_getElem? (i := 605) (by decide +kernel)), (List.mem_of_getElem? (i := 30) (by decide +kernel))⟩
theorem lkX8_209 : LKV RX8 209 mX6_run 3 := ⟨⟨Or.inr ⟨"LetByColours", (List.mem_of_getElem? (i := 613) (by decide +kernel))⟩, (List.mem_of_getElem? (i := 78) (by decide +kernel)), (List.mem_of_getElem? (i := 616) (by decide +kernel)), by decide +kernel, by decide +kernel, by decide +kernel⟩, (List.mem_of_getElem? (i := 615) (by decide +kernel)), (List.mem_of_getElem? (i := 31) (by decide +kernel))⟩
theorem lkX8_219 : LKV RX8 219 mX7_paying 1 := ⟨⟨Or.inr ⟨"LetByColours", (List.mem_of_getElem? (i := 511) (by decide +kernel))⟩, (List.mem_of_getElem? (i := 74) (by decide +kernel)), (List.mem_of_getElem? (i := 514) (by decide +kernel)), by decide +kernel, by decide +kernel, by decide +kernel⟩, (List.mem_of_getElem? (i := 513) (by decide +kernel)), (List.mem_of_getElem? (i := 19) (by decide +kernel))⟩
theorem lkX8_222 : LKS RX8 222 mJ6_bitCount_0f7a4 1 := ⟨⟨Or.inl (List.mem_of_getElem? (i := 643) (by decide +kernel)), (List.mem_of_getElem? (i := 86) (by decide +kernel)), (List.mem_of_getElem? (i := 627) (by decide +kernel)), by decide +kernel, by decide +kernel, by decide +kernel⟩, (List.mem_of_getElem? (i := 626) (by decide +kernel))⟩
theorem lkX8_227 : LKV RX8 227 mX8_sureByLightOf 2 := ⟨⟨Or.inl (List.mem_of_getElem? (i := 644) (by decide +kernel)), (List.mem_of_getElem? (i := 70) (by decide +kernel)), (List.mem_of_getElem? (i := 647) (by decide +kernel)), by decide +kernel, by decide +kernel, by decide +kernel⟩, (List.mem_of_getElem? (i := 646) (by decide +kernel)), (List.mem_of_getElem? (i := 34) (by decide +kernel))⟩
theorem lkX8_230 : LKV RX8 230 mX1_everybody 0 := ⟨⟨Or.inr ⟨"LetByColours", (List.mem_of_getElem? (i := 652) (by decide +kernel))⟩, (List.mem_of_getElem? (i := 73) (by decide +kernel)), (List.mem_of_getElem? (i := 655) (by decide +kernel)), by decide +kernel, by decide +kernel, by decide +kernel⟩, (List.mem_of_getElem? (i := 654) (by decide +kernel)), (List.mem_of_getElem? (i := 35) (by decide +kernel))⟩
theorem lkX8_236 : LKV RX8 236 mX0_show 3 := ⟨⟨Or.inr ⟨"LetByColours", (List.mem_of_getElem? (i := 515) (by decide +kernel))⟩, (List.mem_of_getElem? (i := 77) (by decide +kernel)), (List.mem_of_getElem? (i := 518) (by decide +kernel)), by decide +kernel, by decide +kernel, by decide +kernel⟩, (List.mem_of_getElem? (i := 517) (by decide +kernel)), (List.mem_of_getElem? (i := 20) (by decide +kernel))⟩
theorem lkX8_240 : LKV RX8 240 mX0_unsureInAllFogs 1 := ⟨⟨Or.inr ⟨"LetByColours", (List.mem_of_getElem? (i := 660) (by decide +kernel))⟩, (List.mem_of_getElem? (i := 77) (by decide +kernel)), (List.mem_of_getElem? (i := 663) (by decide +kernel)), by decide +kernel, by decide +kernel, by decide +kernel⟩, (List.mem_of_getElem? (i := 662) (by decide +kernel)), (List.mem_of_getElem? (i := 36) (by decide +kernel))⟩
theorem lkX8_243 : LKS RX8 243 mX8_isColourOrDark 1 := ⟨⟨Or.inl (List.mem_of_getElem? (i := 669) (by decide +kernel)), (List.mem_of_getElem? (i := 70) (by decide +kernel)), (List.mem_of_getElem? (i := 671) (by decide +kernel)), by decide +kernel, by decide +kernel, by decide +kernel⟩, (List.mem_of_getElem? (i := 670) (by decide +kernel))⟩
theorem lkX8_246 : LKV RX8 246 mX3_append 2 := ⟨⟨Or.inr ⟨"LetByColours", (List.mem_of_getElem? (i := 676) (by decide +kernel))⟩, (List.mem_of_getElem? (i := 76) (by decide +kernel)), (List.mem_of_getElem? (i := 679) (by decide +kernel)), by decide +kernel, by decide +kernel, by decide +kernel⟩, (List.mem_of_getElem? (i := 678) (by decide +kernel)), (List.mem_of_getElem? (i := 37) (by decide +kernel))⟩
theorem lkX8_249 : LKV RX8 249 mX0_turn 2 := ⟨⟨Or.inr ⟨"LetByColours", (List.mem_of_getElem? (i := 499) (by decide +kernel))⟩, (List.mem_of_getElem? (i := 77) (by decide +kernel)), (List.mem_of_getElem? (i := 502) (by decide +kernel)), by decide +kernel, by decide +kernel, by decide +kernel⟩, (List.mem_of_getElem? (i := 501) (by decide +kernel)), (List.mem_of_getElem? (i := 16) (by decide +kernel))⟩
theorem lkX8_25 : LKI RX8 25 mX1_init 0 := ⟨⟨Or.inr ⟨"LetByColours", (List.mem_of_getElem? (i := 124) (by decide +kernel))⟩, (List.mem_of_getElem? (i := 73) (by decide +kernel)), (List.mem_of_getElem? (i := 126) (by decide +kernel)), by decide +kernel, by decide +kernel, by decide +kernel⟩, (List.mem_of_getElem? (i := 125) (by decide +kernel)), rfl⟩
theorem lkX8_253 : LKV RX8 253 mX3_fit 1 := ⟨⟨Or.inr ⟨"LetByColours", (List.mem_of_getElem? (i := 688) (by decide +kernel))⟩, (List.mem_of_getElem? (i := 76) (by decide +kernel)), (List.mem_of_getElem? (i := 691) (by decide +kernel)), by decide +kernel, by decide +kernel, by decide +kernel⟩, (List.mem_of_getElem? (i := 690) (by decide +kernel)), (List.mem_of_getElem? (i := 38) (by decide +kernel))⟩
theorem lkX8_257 : LKV RX8 257 mX3_darkStripes 0 := ⟨⟨Or.inr ⟨"LetByColours", (List.mem_of_getElem? (i := 697) (by decide +kernel))⟩, (List.mem_of_getElem? (i := 76) (by decide +kernel)), (List.mem_of_getElem? (i := 700) (by decide +kernel)), by decide +kernel, by decide +kernel, by decide +kernel⟩, (List.mem_of_getElem? (i := 699) (by decide +kernel)), (List.mem_of_getElem? (i := 39) (by decide +kernel))⟩
theorem lkX8_260 : LKV RX8 260 mX8_sureTenths 1 := ⟨⟨Or.inl (List.mem_of_getElem? (i := 705) (by decide +kernel)), (List.mem_of_getElem? (i := 70) (by decide +kernel)), (List.mem_of_getElem? (i := 708) (by decide +kernel)), by decide +kernel, by decide +kernel, by decide +kernel⟩, (List.mem_of_getElem? (i := 707) (by decide +kernel)), (List.mem_of_getElem? (i := 40) (by decide +kernel))⟩
theorem lkX8_263 : LKS RX8 263 mX8_partOfTenths 2 := ⟨⟨Or.inl (List.mem_of_getElem? (i := 709) (by decide +kernel)), (List.mem_of_getElem? (i := 70) (by decide +kernel)), (List.mem_of_getElem? (i := 711) (by decide +kernel)), by decide +kernel, by decide +kernel, by decide +kernel⟩, (List.mem_of_getElem? (i := 710) (by decide +kernel))⟩
theorem lkX8_266 : LKV RX8 266 mX1_allShips 0 := ⟨⟨Or.inr ⟨"LetByColours", (List.mem_of_getElem? (i := 716) (by decide +kernel))⟩, (List.mem_of_getElem? (i := 73) (by decide +kernel)), (List.mem_of_getElem? (i := 719) (by decide +kernel)), by decide +kernel, by decide +kernel, by decide +kernel⟩, (List.mem_of_getElem? (i := 718) (by decide +kernel)), (List.mem_of_getElem? (i := 41) (by decide +kernel))⟩
theorem lkX8_269 : LKV RX8 269 mX7_copy 1 := ⟨⟨Or.inr ⟨"LetByColours", (List.mem_of_getElem? (i := 728) (by decide +kernel))⟩, (List.mem_of_getElem? (i := 74) (by decide +kernel)), (List.mem_of_getElem? (i := 545) (by decide +kernel)), by decide +kernel, by decide +kernel, by decide +kernel⟩, (List.mem_of_getElem? (i := 544) (by decide +kernel)), (List.mem_of_getElem? (i := 25) (by decide +kernel))⟩
theorem lkX8_272 : LKV RX8 272 mX8_lightAs 1 := ⟨⟨Or.inl (List.mem_of_getElem? (i := 495) (by decide +kernel)), (List.mem_of_getElem? (i := 70) (by decide +kernel)), (List.mem_of_getElem? (i := 498) (by decide +kernel)), by decide +kernel, by decide +kernel, by decide +kernel⟩, (List.mem_of_getElem? (i := 497) (by decide +kernel)), (List.mem_of_getElem? (i := 15) (by decide +kernel))⟩
theorem lkX8_275 : LKS RX8 275 mX8_drawnFog 2 := ⟨⟨Or.inl (List.mem_of_getElem? (i := 729) (by decide +kernel)), (List.mem_of_getElem? (i := 70) (by decide +kernel)), (List.mem_of_getElem? (i := 731) (by decide +kernel)), by decide +kernel, by decide +kernel, by decide +kernel⟩, (List.mem_of_getElem? (i := 730) (by decide +kernel))⟩
theorem lkX8_35 : LKI RX8 35 mX7_init 0 := ⟨⟨Or.inr ⟨"LetByColours", (List.mem_of_getElem? (i := 188) (by decide +kernel))⟩, (List.mem_of_getElem? (i := 74) (by decide +kernel)), (List.mem_of_getElem? (i := 190) (by decide +kernel)), by decide +kernel, by decide +kernel, by decide +kernel⟩, (List.mem_of_getElem? (i := 189) (by decide +kernel)), rfl⟩
theorem lkX8_45 : LKI RX8 45 mX4_init 1 := ⟨⟨Or.inr ⟨"LetByColours", (List.mem_of_getElem? (i := 222) (by decide +kernel))⟩, (List.mem_of_getElem? (i := 75) (by decide +kernel)), (List.mem_of_getElem? (i := 224) (by decide +kernel)), by decide +kernel, by decide +kernel, by decide +kernel⟩, (List.mem_of_getElem? (i := 223) (by decide +kernel)), rfl⟩
theorem lkX8_57 : LKI RX8 57 mX3_init 0 := ⟨⟨Or.inr ⟨"LetByColours", (List.mem_of_getElem? (i := 242) (by decide +kernel))⟩, (List.mem_of_getElem? (i := 76) (by decide +kernel)), (List.mem_of_getElem? (i := 244) (by decide +kernel)), by decide +kernel, by decide +kernel, by decide +kernel⟩, (List.mem_of_getElem? (i := 243) (by decide +kernel)), rfl⟩
theorem lkX8_64 : LKI RX8 64 mX0_init 0 := ⟨⟨Or.inr ⟨"LetByColours", (List.mem_of_getElem? (i := 259) (by decide +kernel))⟩, (List.mem_of_getElem? (i := 77) (by decide +kernel)), (List.mem_of_getElem? (i := 261) (by decide +kernel)), by decide +kernel, by decide +kernel, by decide +kernel⟩, (List.mem_of_getElem? (i := 260) (by decide +kernel)), rfl⟩
theorem lkX8_71 : LKI RX8 71 mX6_init 0 := ⟨⟨Or.inr ⟨"LetByColours", (List.mem_of_getElem? (i := 280) (by decide +kernel))⟩, (List.mem_of_getElem? (i := 78) (by decide +kernel)), (List.mem_of_getElem? (i := 282) (by decide +kernel)), by decide +kernel, by decide +kernel, by decide +kernel⟩, (List.mem_of_getElem? (i := 281) (by decide +kernel)), rfl⟩
theorem lkX8_78 : LKV RX8 78 mJ0_length_8abf5 0 := ⟨⟨Or.inl (List.mem_of_getElem? (i := 302) (by decide +kernel)), (List.mem_of_getElem? (i := 79) (by decide +kernel)), (List.mem_of_getElem? (i := 305) (by decide +kernel)), by decide +kernel, by decide +kernel, by decide +kernel⟩, (List.mem_of_getElem? (i := 303) (by decide +kernel)), (List.mem_of_getElem? (i := 304) (by decide +kernel))⟩
theorem lkX8_84 : LKV RX8 84 mJ0_charAt_5068e 1 := ⟨⟨Or.inl (List.mem_of_getElem? (i := 312) (by decide +kernel)), (List.mem_of_getElem? (i := 79) (by decide +kernel)), (List.mem_of_getElem? (i := 315) (by decide +kernel)), by decide +kernel, by decide +kernel, by decide +kernel⟩, (List.mem_of_getElem? (i := 313) (by decide +kernel)), (List.mem_of_getElem? (i := 314) (by decide +kernel))⟩
theorem lkX8_88 : LKV RX8 88 mX2_append 1 := ⟨⟨Or.inr ⟨"LetByColours", (List.mem_of_getElem? (i := 350) (by decide +kernel))⟩, (List.mem_of_getElem? (i := 71) (by decide +kernel)), (List.mem_of_getElem? (i := 353) (by decide +kernel)), by decide +kernel, by decide +kernel, by decide +kernel⟩, (List.mem_of_getElem? (i := 352) (by decide +kernel)), (List.mem_of_getElem? (i := 0) (by decide +kernel))⟩
theorem lkX8_9 : LKI RX8 9 mX2_init 0 := ⟨⟨Or.inr ⟨"LetByColours", (List.mem_of_getElem? (i := 98) (by decide +kernel))⟩, (List.mem_of_getElem? (i := 71) (by decide +kernel)), (List.mem_of_getElem? (i := 100) (by decide +kernel)), by decide +kernel, by decide +kernel, by decide +kernel⟩, (List.mem_of_getElem? (i := 99) (by decide +kernel)), rfl⟩
theorem lkX8_92 : LKV RX8 92 mX5_readAll 2 := ⟨⟨Or.inr ⟨"LetByColours", (List.mem_of_getElem? (i := 354) (by decide +kernel))⟩, (List.mem_of_getElem? (i := 72) (by decide +kernel)), (List.mem_of_getElem? (i := 357) (by decide +kernel)), by decide +kernel, by decide +kernel, by decide +kernel⟩, (List.mem_of_getElem? (i := 356) (by decide +kernel)), (List.mem_of_getElem? (i := 1) (by decide +kernel))⟩
theorem lkX8_99 : LKV RX8 99 mX7_begin 1 := ⟨⟨Or.inr ⟨"LetByColours", (List.mem_of_getElem? (i := 412) (by decide +kernel))⟩, (List.mem_of_getElem? (i := 74) (by decide +kernel)), (List.mem_of_getElem? (i := 415) (by decide +kernel)), by decide +kernel, by decide +kernel, by decide +kernel⟩, (List.mem_of_getElem? (i := 414) (by decide +kernel)), (List.mem_of_getElem? (i := 11) (by decide +kernel))⟩
theorem lkL_100 : LKV RL 100 mX9_look 2 := ⟨⟨Or.inl (List.mem_of_getElem? (i := 1057) (by decide +kernel)), (List.mem_of_getElem? (i := 83) (by decide +kernel)), (List.mem_of_getElem? (i := 1060) (by decide +kernel)), by decide +kernel, by decide +kernel, by decide +kernel⟩, (List.mem_of_getElem? (i := 1058) (by decide +kernel)), (List.mem_of_getElem? (i := 1059) (by decide +kernel))⟩
theorem lkL_101 : LKV RL 101 mX8_forget 0 := ⟨⟨Or.inl (List.mem_of_getElem? (i := 680) (by decide +kernel)), (List.mem_of_getElem? (i := 70) (by decide +kernel)), (List.mem_of_getElem? (i := 683) (by decide +kernel)), by decide +kernel, by decide +kernel, by decide +kernel⟩, (List.mem_of_getElem? (i := 681) (by decide +kernel)), (List.mem_of_getElem? (i := 682) (by decide +kernel))⟩
theorem lkL_104 : LKV RL 104 mX9_forget 0 := ⟨⟨Or.inl (List.mem_of_getElem? (i := 1061) (by decide +kernel)), (List.mem_of_getElem? (i := 83) (by decide +kernel)), (List.mem_of_getElem? (i := 1064) (by decide +kernel)), by decide +kernel, by decide +kernel, by decide +kernel⟩, (List.mem_of_getElem? (i := 1062) (by decide +kernel)), (List.mem_of_getElem? (i := 1063) (by decide +kernel))⟩
theorem lkL_105 : LKV RL 105 mX8_behind 1 := ⟨⟨Or.inl (List.mem_of_getElem? (i := 684) (by decide +kernel)), (List.mem_of_getElem? (i := 70) (by decide +kernel)), (List.mem_of_getElem? (i := 687) (by decide +kernel)), by decide +kernel, by decide +kernel, by decide +kernel⟩, (List.mem_of_getElem? (i := 685) (by decide +kernel)), (List.mem_of_getElem? (i := 686) (by decide +kernel))⟩
theorem lkL_108 : LKV RL 108 mX9_behind 1 := ⟨⟨Or.inl (List.mem_of_getElem? (i := 1065) (by decide +kernel)), (List.mem_of_getElem? (i := 83) (by decide +kernel)), (List.mem_of_getElem? (i := 1068) (by decide +kernel)), by decide +kernel, by decide +kernel, by decide +kernel⟩, (List.mem_of_getElem? (i := 1066) (by decide +kernel)), (List.mem_of_getElem? (i := 1067) (by decide +kernel))⟩
theorem lkL_109 : LKV RL 109 mX8_panes 0 := ⟨⟨Or.inl (List.mem_of_getElem? (i := 693) (by decide +kernel)), (List.mem_of_getElem? (i := 70) (by decide +kernel)), (List.mem_of_getElem? (i := 696) (by decide +kernel)), by decide +kernel, by decide +kernel, by decide +kernel⟩, (List.mem_of_getElem? (i := 694) (by decide +kernel)), (List.mem_of_getElem? (i := 695) (by decide +kernel))⟩
theorem lkL_112 : LKV RL 112 mX9_panes 0 := ⟨⟨Or.inl (List.mem_of_getElem? (i := 1069) (by decide +kernel)), (List.mem_of_getElem? (i := 83) (by decide +kernel)), (List.mem_of_getElem? (i := 1072) (by decide +kernel)), by decide +kernel, by decide +kernel, by decide +kernel⟩, (List.mem_of_getElem? (i := 1070) (by decide +kernel)), (List.mem_of_getElem? (i := 1071) (by decide +kernel))⟩
theorem lkL_113 : LKV RL 113 mX8_odds 2 := ⟨⟨Or.inl (List.mem_of_getElem? (i := 701) (by decide +kernel)), (List.mem_of_getElem? (i := 70) (by decide +kernel)), (List.mem_of_getElem? (i := 704) (by decide +kernel)), by decide +kernel, by decide +kernel, by decide +kernel⟩, (List.mem_of_getElem? (i := 702) (by decide +kernel)), (List.mem_of_getElem? (i := 703) (by decide +kernel))⟩
theorem lkL_116 : LKV RL 116 mX9_odds 2 := ⟨⟨Or.inl (List.mem_of_getElem? (i := 1073) (by decide +kernel)), (List.mem_of_getElem? (i := 83) (by decide +kernel)), (List.mem_of_getElem? (i := 1076) (by decide +kernel)), by decide +kernel, by decide +kernel, by decide +kernel⟩, (List.mem_of_getElem? (i := 1074) (by decide +kernel)), (List.mem_of_getElem? (i := 1075) (by decide +kernel))⟩
theorem lkL_117 : LKV RL 117 mX8_mean 1 := ⟨⟨Or.inl (List.mem_of_getElem? (i := 712) (by decide +kernel)), (List.mem_of_getElem? (i := 70) (by decide +kernel)), (List.mem_of_getElem? (i := 715) (by decide +kernel)), by decide +kernel, by decide +kernel, by decide +kernel⟩, (List.mem_of_getElem? (i := 713) (by decide +kernel)), (List.mem_of_getElem? (i := 714) (by decide +kernel))⟩
theorem lkL_12 : LKI RL 12 mX9_init 0 := ⟨⟨Or.inl (List.mem_of_getElem? (i := 750) (by decide +kernel)), (List.mem_of_getElem? (i := 83) (by decide +kernel)), (List.mem_of_getElem? (i := 752) (by decide +kernel)), by decide +kernel, by decide +kernel, by decide +kernel⟩, (List.mem_of_getElem? (i := 751) (by decide +kernel)), rfl⟩
theorem lkL_120 : LKV RL 120 mX9_mean 1 := ⟨⟨Or.inl (List.mem_of_getElem? (i := 1084) (by decide +kernel)), (List.mem_of_getElem? (i := 83) (by decide +kernel)), (List.mem_of_getElem? (i := 1087) (by decide +kernel)), by decide +kernel, by decide +kernel, by decide +kernel⟩, (List.mem_of_getElem? (i := 1085) (by decide +kernel)), (List.mem_of_getElem? (i := 1086) (by decide +kernel))⟩
theorem lkL_121 : LKV RL 121 mX8_owed 1 := ⟨⟨Or.inl (List.mem_of_getElem? (i := 720) (by decide +kernel)), (List.mem_of_getElem? (i := 70) (by decide +kernel)), (List.mem_of_getElem? (i := 723) (by decide +kernel)), by decide +kernel, by decide +kernel, by decide +kernel⟩, (List.mem_of_getElem? (i := 721) (by decide +kernel)), (List.mem_of_getElem? (i := 722) (by decide +kernel))⟩
theorem lkL_124 : LKV RL 124 mX9_owed 1 := ⟨⟨Or.inl (List.mem_of_getElem? (i := 1088) (by decide +kernel)), (List.mem_of_getElem? (i := 83) (by decide +kernel)), (List.mem_of_getElem? (i := 1091) (by decide +kernel)), by decide +kernel, by decide +kernel, by decide +kernel⟩, (List.mem_of_getElem? (i := 1089) (by decide +kernel)), (List.mem_of_getElem? (i := 1090) (by decide +kernel))⟩
theorem lkL_125 : LKV RL 125 mX8_weeks 3 := ⟨⟨Or.inl (List.mem_of_getElem? (i := 724) (by decide +kernel)), (List.mem_of_getElem? (i := 70) (by decide +kernel)), (List.mem_of_getElem? (i := 727) (by decide +kernel)), by decide +kernel, by decide +kernel, by decide +kernel⟩, (List.mem_of_getElem? (i := 725) (by decide +kernel)), (List.mem_of_getElem? (i := 726) (by decide +kernel))⟩
theorem lkL_129 : LKV RL 129 mX9_weeks 3 := ⟨⟨Or.inl (List.mem_of_getElem? (i := 1092) (by decide +kernel)), (List.mem_of_getElem? (i := 83) (by decide +kernel)), (List.mem_of_getElem? (i := 1095) (by decide +kernel)), by decide +kernel, by decide +kernel, by decide +kernel⟩, (List.mem_of_getElem? (i := 1093) (by decide +kernel)), (List.mem_of_getElem? (i := 1094) (by decide +kernel))⟩
theorem lkL_13 : LKV RL 13 mX8_write 1 := ⟨⟨Or.inl (List.mem_of_getElem? (i := 451) (by decide +kernel)), (List.mem_of_getElem? (i := 70) (by decide +kernel)), (List.mem_of_getElem? (i := 454) (by decide +kernel)), by decide +kernel, by decide +kernel, by decide +kernel⟩, (List.mem_of_getElem? (i := 452) (by decide +kernel)), (List.mem_of_getElem? (i := 453) (by decide +kernel))⟩
theorem lkL_130 : LKV RL 130 mX8_keep 0 := ⟨⟨Or.inl (List.mem_of_getElem? (i := 736) (by decide +kernel)), (List.mem_of_getElem? (i := 70) (by decide +kernel)), (List.mem_of_getElem? (i := 739) (by decide +kernel)), by decide +kernel, by decide +kernel, by decide +kernel⟩, (List.mem_of_getElem? (i := 737) (by decide +kernel)), (List.mem_of_getElem? (i := 738) (by decide +kernel))⟩
theorem lkL_133 : LKV RL 133 mX9_keep 0 := ⟨⟨Or.inl (List.mem_of_getElem? (i := 1100) (by decide +kernel)), (List.mem_of_getElem? (i := 83) (by decide +kernel)), (List.mem_of_getElem? (i := 1103) (by decide +kernel)), by decide +kernel, by decide +kernel, by decide +kernel⟩, (List.mem_of_getElem? (i := 1101) (by decide +kernel)), (List.mem_of_getElem? (i := 1102) (by decide +kernel))⟩
theorem lkL_134 : LKV RL 134 mX8_back 0 := ⟨⟨Or.inl (List.mem_of_getElem? (i := 740) (by decide +kernel)), (List.mem_of_getElem? (i := 70) (by decide +kernel)), (List.mem_of_getElem? (i := 743) (by decide +kernel)), by decide +kernel, by decide +kernel, by decide +kernel⟩, (List.mem_of_getElem? (i := 741) (by decide +kernel)), (List.mem_of_getElem? (i := 742) (by decide +kernel))⟩
theorem lkL_137 : LKV RL 137 mX9_back 0 := ⟨⟨Or.inl (List.mem_of_getElem? (i := 1104) (by decide +kernel)), (List.mem_of_getElem? (i := 83) (by decide +kernel)), (List.mem_of_getElem? (i := 1107) (by decide +kernel)), by decide +kernel, by decide +kernel, by decide +kernel⟩, (List.mem_of_getElem? (i := 1105) (by decide +kernel)), (List.mem_of_getElem? (i := 1106) (by decide +kernel))⟩
theorem lkL_138 : LKV RL 138 mX8_count 1 := ⟨⟨Or.inl (List.mem_of_getElem? (i := 744) (by decide +kernel)), (List.mem_of_getElem? (i := 70) (by decide +kernel)), (List.mem_of_getElem? (i := 747) (by decide +kernel)), by decide +kernel, by decide +kernel, by decide +kernel⟩, (List.mem_of_getElem? (i := 745) (by decide +kernel)), (List.mem_of_getElem? (i := 746) (by decide +kernel))⟩
theorem lkL_141 : LKV RL 141 mX9_count 1 := ⟨⟨Or.inl (List.mem_of_getElem? (i := 1108) (by decide +kernel)), (List.mem_of_getElem? (i := 83) (by decide +kernel)), (List.mem_of_getElem? (i := 1111) (by decide +kernel)), by decide +kernel, by decide +kernel, by decide +kernel⟩, (List.mem_of_getElem? (i := 1109) (by decide +kernel)), (List.mem_of_getElem? (i := 1110) (by decide +kernel))⟩
theorem lkL_17 : LKV RL 17 mX9_write 1 := ⟨⟨Or.inl (List.mem_of_getElem? (i := 868) (by decide +kernel)), (List.mem_of_getElem? (i := 83) (by decide +kernel)), (List.mem_of_getElem? (i := 871) (by decide +kernel)), by decide +kernel, by decide +kernel, by decide +kernel⟩, (List.mem_of_getElem? (i := 869) (by decide +kernel)), (List.mem_of_getElem? (i := 870) (by decide +kernel))⟩
theorem lkL_18 : LKV RL 18 mX8_wipe 0 := ⟨⟨Or.inl (List.mem_of_getElem? (i := 456) (by decide +kernel)), (List.mem_of_getElem? (i := 70) (by decide +kernel)), (List.mem_of_getElem? (i := 459) (by decide +kernel)), by decide +kernel, by decide +kernel, by decide +kernel⟩, (List.mem_of_getElem? (i := 457) (by decide +kernel)), (List.mem_of_getElem? (i := 458) (by decide +kernel))⟩
theorem lkL_22 : LKV RL 22 mX9_wipe 0 := ⟨⟨Or.inl (List.mem_of_getElem? (i := 875) (by decide +kernel)), (List.mem_of_getElem? (i := 83) (by decide +kernel)), (List.mem_of_getElem? (i := 878) (by decide +kernel)), by decide +kernel, by decide +kernel, by decide +kernel⟩, (List.mem_of_getElem? (i := 876) (by decide +kernel)), (List.mem_of_getElem? (i := 877) (by decide +kernel))⟩
theorem lkL_23 : LKV RL 23 mX8_fault 0 := ⟨⟨Or.inl (List.mem_of_getElem? (i := 460) (by decide +kernel)), (List.mem_of_getElem? (i := 70) (by decide +kernel)), (List.mem_of_getElem? (i := 463) (by decide +kernel)), by decide +kernel, by decide +kernel, by decide +kernel⟩, (List.mem_of_getElem? (i := 461) (by decide +kernel)), (List.mem_of_getElem? (i := 462) (by decide +kernel))⟩
theorem lkL_26 : LKV RL 26 mX9_fault 0 := ⟨⟨Or.inl (List.mem_of_getElem? (i := 879) (by decide +kernel)), (List.mem_of_getElem? (i := 83) (by decide +kernel)), (List.mem_of_getElem? (i := 882) (by decide +kernel)), by decide +kernel, by decide +kernel, by decide +kernel⟩, (List.mem_of_getElem? (i := 880) (by decide +kernel)), (List.mem_of_getElem? (i := 881) (by decide +kernel))⟩
theorem lkL_27 : LKV RL 27 mX8_lay 0 := ⟨⟨Or.inl (List.mem_of_getElem? (i := 464) (by decide +kernel)), (List.mem_of_getElem? (i := 70) (by decide +kernel)), (List.mem_of_getElem? (i := 467) (by decide +kernel)), by decide +kernel, by decide +kernel, by decide +kernel⟩, (List.mem_of_getElem? (i := 465) (by decide +kernel)), (List.mem_of_getElem? (i := 466) (by decide +kernel))⟩
theorem lkL_30 : LKV RL 30 mX9_lay 0 := ⟨⟨Or.inl (List.mem_of_getElem? (i := 918) (by decide +kernel)), (List.mem_of_getElem? (i := 83) (by decide +kernel)), (List.mem_of_getElem? (i := 921) (by decide +kernel)), by decide +kernel, by decide +kernel, by decide +kernel⟩, (List.mem_of_getElem? (i := 919) (by decide +kernel)), (List.mem_of_getElem? (i := 920) (by decide +kernel))⟩
theorem lkL_31 : LKV RL 31 mX8_tenant 2 := ⟨⟨Or.inl (List.mem_of_getElem? (i := 468) (by decide +kernel)), (List.mem_of_getElem? (i := 70) (by decide +kernel)), (List.mem_of_getElem? (i := 471) (by decide +kernel)), by decide +kernel, by decide +kernel, by decide +kernel⟩, (List.mem_of_getElem? (i := 469) (by decide +kernel)), (List.mem_of_getElem? (i := 470) (by decide +kernel))⟩
theorem lkL_35 : LKV RL 35 mX9_tenant 2 := ⟨⟨Or.inl (List.mem_of_getElem? (i := 923) (by decide +kernel)), (List.mem_of_getElem? (i := 83) (by decide +kernel)), (List.mem_of_getElem? (i := 926) (by decide +kernel)), by decide +kernel, by decide +kernel, by decide +kernel⟩, (List.mem_of_getElem? (i := 924) (by decide +kernel)), (List.mem_of_getElem? (i := 925) (by decide +kernel))⟩
theorem lkL_36 : LKV RL 36 mX8_ship 2 := ⟨⟨Or.inl (List.mem_of_getElem? (i := 476) (by decide +kernel)), (List.mem_of_getElem? (i := 70) (by decide +kernel)), (List.mem_of_getElem? (i := 479) (by decide +kernel)), by decide +kernel, by decide +kernel, by decide +kernel⟩, (List.mem_of_getElem? (i := 477) (by decide +kernel)), (List.mem_of_getElem? (i := 478) (by decide +kernel))⟩
theorem lkL_39 : LKV RL 39 mX9_ship 2 := ⟨⟨Or.inl (List.mem_of_getElem? (i := 942) (by decide +kernel)), (List.mem_of_getElem? (i := 83) (by decide +kernel)), (List.mem_of_getElem? (i := 945) (by decide +kernel)), by decide +kernel, by decide +kernel, by decide +kernel⟩, (List.mem_of_getElem? (i := 943) (by decide +kernel)), (List.mem_of_getElem? (i := 944) (by decide +kernel))⟩
theorem lkL_40 : LKV RL 40 mX8_stripe 2 := ⟨⟨Or.inl (List.mem_of_getElem? (i := 484) (by decide +kernel)), (List.mem_of_getElem? (i := 70) (by decide +kernel)), (List.mem_of_getElem? (i := 487) (by decide +kernel)), by decide +kernel, by decide +kernel, by decide +kernel⟩, (List.mem_of_getElem? (i := 485) (by decide +kernel)), (List.mem_of_getElem? (i := 486) (by decide +kernel))⟩
theorem lkL_43 : LKV RL 43 mX9_stripe 2 := ⟨⟨Or.inl (List.mem_of_getElem? (i := 950) (by decide +kernel)), (List.mem_of_getElem? (i := 83) (by decide +kernel)), (List.mem_of_getElem? (i := 953) (by decide +kernel)), by decide +kernel, by decide +kernel, by decide +kernel⟩, (List.mem_of_getElem? (i := 951) (by decide +kernel)), (List.mem_of_getElem? (i := 952) (by decide +kernel))⟩
theorem lkL_44 : LKV RL 44 mX8_pass 1 := ⟨⟨Or.inl (List.mem_of_getElem? (i := 530) (by decide +kernel)), (List.mem_of_getElem? (i := 70) (by decide +kernel)), (List.mem_of_getElem? (i := 533) (by decide +kernel)), by decide +kernel, by decide +kernel, by decide +kernel⟩, (List.mem_of_getElem? (i := 531) (by decide +kernel)), (List.mem_of_getElem? (i := 532) (by decide +kernel))⟩
theorem lkL_47 : LKV RL 47 mX9_pass 1 := ⟨⟨Or.inl (List.mem_of_getElem? (i := 969) (by decide +kernel)), (List.mem_of_getElem? (i := 83) (by decide +kernel)), (List.mem_of_getElem? (i := 972) (by decide +kernel)), by decide +kernel, by decide +kernel, by decide +kernel⟩, (List.mem_of_getElem? (i := 970) (by decide +kernel)), (List.mem_of_getElem? (i := 971) (by decide +kernel))⟩
theorem lkL_48 : LKV RL 48 mX8_pay 2 := ⟨⟨Or.inl (List.mem_of_getElem? (i := 550) (by decide +kernel)), (List.mem_of_getElem? (i := 70) (by decide +kernel)), (List.mem_of_getElem? (i := 553) (by decide +kernel)), by decide +kernel, by decide +kernel, by decide +kernel⟩, (List.mem_of_getElem? (i := 551) (by decide +kernel)), (List.mem_of_getElem? (i := 552) (by decide +kernel))⟩
theorem lkL_51 : LKV RL 51 mX9_pay 2 := ⟨⟨Or.inl (List.mem_of_getElem? (i := 977) (by decide +kernel)), (List.mem_of_getElem? (i := 83) (by decide +kernel)), (List.mem_of_getElem? (i := 980) (by decide +kernel)), by decide +kernel, by decide +kernel, by decide +kernel⟩, (List.mem_of_getElem? (i := 978) (by decide +kernel)), (List.mem_of_getElem? (i := 979) (by decide +kernel))⟩
theorem lkL_52 : LKV RL 52 mX8_change 2 := ⟨⟨Or.inl (List.mem_of_getElem? (i := 557) (by decide +kernel)), (List.mem_of_getElem? (i := 70) (by decide +kernel)), (List.mem_of_getElem? (i := 560) (by decide +kernel)), by decide +kernel, by decide +kernel, by decide +kernel⟩, (List.mem_of_getElem? (i := 558) (by decide +kernel)), (List.mem_of_getElem? (i := 559) (by decide +kernel))⟩
theorem lkL_55 : LKV RL 55 mX9_change 2 := ⟨⟨Or.inl (List.mem_of_getElem? (i := 981) (by decide +kernel)), (List.mem_of_getElem? (i := 83) (by decide +kernel)), (List.mem_of_getElem? (i := 984) (by decide +kernel)), by decide +kernel, by decide +kernel, by decide +kernel⟩, (List.mem_of_getElem? (i := 982) (by decide +kernel)), (List.mem_of_getElem? (i := 983) (by decide +kernel))⟩
theorem lkL_56 : LKV RL 56 mX8_smoke 1 := ⟨⟨Or.inl (List.mem_of_getElem? (i := 564) (by decide +kernel)), (List.mem_of_getElem? (i := 70) (by decide +kernel)), (List.mem_of_getElem? (i := 567) (by decide +kernel)), by decide +kernel, by decide +kernel, by decide +kernel⟩, (List.mem_of_getElem? (i := 565) (by decide +kernel)), (List.mem_of_getElem? (i := 566) (by decide +kernel))⟩
theorem lkL_59 : LKV RL 59 mX9_smoke 1 := ⟨⟨Or.inl (List.mem_of_getElem? (i := 988) (by decide +kernel)), (List.mem_of_getElem? (i := 83) (by decide +kernel)), (List.mem_of_getElem? (i := 991) (by decide +kernel)), by decide +kernel, by decide +kernel, by decide +kernel⟩, (List.mem_of_getElem? (i := 989) (by decide +kernel)), (List.mem_of_getElem? (i := 990) (by decide +kernel))⟩
theorem lkL_60 : LKV RL 60 mX8_undo 0 := ⟨⟨Or.inl (List.mem_of_getElem? (i := 568) (by decide +kernel)), (List.mem_of_getElem? (i := 70) (by decide +kernel)), (List.mem_of_getElem? (i := 571) (by decide +kernel)), by decide +kernel, by decide +kernel, by decide +kernel⟩, (List.mem_of_getElem? (i := 569) (by decide +kernel)), (List.mem_of_getElem? (i := 570) (by decide +kernel))⟩
theorem lkL_63 : LKV RL 63 mX9_undo 0 := ⟨⟨Or.inl (List.mem_of_getElem? (i := 992) (by decide +kernel)), (List.mem_of_getElem? (i := 83) (by decide +kernel)), (List.mem_of_getElem? (i := 995) (by decide +kernel)), by decide +kernel, by decide +kernel, by decide +kernel⟩, (List.mem_of_getElem? (i := 993) (by decide +kernel)), (List.mem_of_getElem? (i := 994) (by decide +kernel))⟩
theorem lkL_64 : LKV RL 64 mX8_seen 2 := ⟨⟨Or.inl (List.mem_of_getElem? (i := 576) (by decide +kernel)), (List.mem_of_getElem? (i := 70) (by decide +kernel)), (List.mem_of_getElem? (i := 579) (by decide +kernel)), by decide +kernel, by decide +kernel, by decide +kernel⟩, (List.mem_of_getElem? (i := 577) (by decide +kernel)), (List.mem_of_getElem? (i := 578) (by decide +kernel))⟩
theorem lkL_67 : LKV RL 67 mX9_seen 2 := ⟨⟨Or.inl (List.mem_of_getElem? (i := 996) (by decide +kernel)), (List.mem_of_getElem? (i := 83) (by decide +kernel)), (List.mem_of_getElem? (i := 999) (by decide +kernel)), by decide +kernel, by decide +kernel, by decide +kernel⟩, (List.mem_of_getElem? (i := 997) (by decide +kernel)), (List.mem_of_getElem? (i := 998) (by decide +kernel))⟩
theorem lkL_68 : LKV RL 68 mX8_sign 2 := ⟨⟨Or.inl (List.mem_of_getElem? (i := 586) (by decide +kernel)), (List.mem_of_getElem? (i := 70) (by decide +kernel)), (List.mem_of_getElem? (i := 589) (by decide +kernel)), by decide +kernel, by decide +kernel, by decide +kernel⟩, (List.mem_of_getElem? (i := 587) (by decide +kernel)), (List.mem_of_getElem? (i := 588) (by decide +kernel))⟩
theorem lkL_71 : LKV RL 71 mX9_sign 2 := ⟨⟨Or.inl (List.mem_of_getElem? (i := 1006) (by decide +kernel)), (List.mem_of_getElem? (i := 83) (by decide +kernel)), (List.mem_of_getElem? (i := 1009) (by decide +kernel)), by decide +kernel, by decide +kernel, by decide +kernel⟩, (List.mem_of_getElem? (i := 1007) (by decide +kernel)), (List.mem_of_getElem? (i := 1008) (by decide +kernel))⟩
theorem lkL_72 : LKV RL 72 mX8_fleet 1 := ⟨⟨Or.inl (List.mem_of_getElem? (i := 595) (by decide +kernel)), (List.mem_of_getElem? (i := 70) (by decide +kernel)), (List.mem_of_getElem? (i := 598) (by decide +kernel)), by decide +kernel, by decide +kernel, by decide +kernel⟩, (List.mem_of_getElem? (i := 596) (by decide +kernel)), (List.mem_of_getElem? (i := 597) (by decide +kernel))⟩
theorem lkL_75 : LKV RL 75 mX9_fleet 1 := ⟨⟨Or.inl (List.mem_of_getElem? (i := 1018) (by decide +kernel)), (List.mem_of_getElem? (i := 83) (by decide +kernel)), (List.mem_of_getElem? (i := 1021) (by decide +kernel)), by decide +kernel, by decide +kernel, by decide +kernel⟩, (List.mem_of_getElem? (i := 1019) (by decide +kernel)), (List.mem_of_getElem? (i := 1020) (by decide +kernel))⟩
theorem lkL_76 : LKV RL 76 mX8_order 1 := ⟨⟨Or.inl (List.mem_of_getElem? (i := 609) (by decide +kernel)), (List.mem_of_getElem? (i := 70) (by decide +kernel)), (List.mem_of_getElem? (i := 612) (by decide +kernel)), by decide +kernel, by decide +kernel, by decide +kernel⟩, (List.mem_of_getElem? (i := 610) (by decide +kernel)), (List.mem_of_getElem? (i := 611) (by decide +kernel))⟩
theorem lkL_79 : LKV RL 79 mX9_order 1 := ⟨⟨Or.inl (List.mem_of_getElem? (i := 1030) (by decide +kernel)), (List.mem_of_getElem? (i := 83) (by decide +kernel)), (List.mem_of_getElem? (i := 1033) (by decide +kernel)), by decide +kernel, by decide +kernel, by decide +kernel⟩, (List.mem_of_getElem? (i := 1031) (by decide +kernel)), (List.mem_of_getElem? (i := 1032) (by decide +kernel))⟩
theorem lkL_80 : LKV RL 80 mX8_needed 1 := ⟨⟨Or.inl (List.mem_of_getElem? (i := 639) (by decide +kernel)), (List.mem_of_getElem? (i := 70) (by decide +kernel)), (List.mem_of_getElem? (i := 642) (by decide +kernel)), by decide +kernel, by decide +kernel, by decide +kernel⟩, (List.mem_of_getElem? (i := 640) (by decide +kernel)), (List.mem_of_getElem? (i := 641) (by decide +kernel))⟩
theorem lkL_83 : LKV RL 83 mX9_needed 1 := ⟨⟨Or.inl (List.mem_of_getElem? (i := 1041) (by decide +kernel)), (List.mem_of_getElem? (i := 83) (by decide +kernel)), (List.mem_of_getElem? (i := 1044) (by decide +kernel)), by decide +kernel, by decide +kernel, by decide +kernel⟩, (List.mem_of_getElem? (i := 1042) (by decide +kernel)), (List.mem_of_getElem? (i := 1043) (by decide +kernel))⟩
theorem lkL_84 : LKV RL 84 mX8_least 1 := ⟨⟨Or.inl (List.mem_of_getElem? (i := 648) (by decide +kernel)), (List.mem_of_getElem? (i := 70) (by decide +kernel)), (List.mem_of_getElem? (i := 651) (by decide +kernel)), by decide +kernel, by decide +kernel, by decide +kernel⟩, (List.mem_of_getElem? (i := 649) (by decide +kernel)), (List.mem_of_getElem? (i := 650) (by decide +kernel))⟩
theorem lkL_87 : LKV RL 87 mX9_least 1 := ⟨⟨Or.inl (List.mem_of_getElem? (i := 1045) (by decide +kernel)), (List.mem_of_getElem? (i := 83) (by decide +kernel)), (List.mem_of_getElem? (i := 1048) (by decide +kernel)), by decide +kernel, by decide +kernel, by decide +kernel⟩, (List.mem_of_getElem? (i := 1046) (by decide +kernel)), (List.mem_of_getElem? (i := 1047) (by decide +kernel))⟩
theorem lkL_88 : LKV RL 88 mX8_rock 1 := ⟨⟨Or.inl (List.mem_of_getElem? (i := 656) (by decide +kernel)), (List.mem_of_getElem? (i := 70) (by decide +kernel)), (List.mem_of_getElem? (i := 659) (by decide +kernel)), by decide +kernel, by decide +kernel, by decide +kernel⟩, (List.mem_of_getElem? (i := 657) (by decide +kernel)), (List.mem_of_getElem? (i := 658) (by decide +kernel))⟩
theorem lkL_9 : LKI RL 9 mX8_init 0 := ⟨⟨Or.inl (List.mem_of_getElem? (i := 90) (by decide +kernel)), (List.mem_of_getElem? (i := 70) (by decide +kernel)), (List.mem_of_getElem? (i := 92) (by decide +kernel)), by decide +kernel, by decide +kernel, by decide +kernel⟩, (List.mem_of_getElem? (i := 91) (by decide +kernel)), rfl⟩
theorem lkL_91 : LKV RL 91 mX9_rock 1 := ⟨⟨Or.inl (List.mem_of_getElem? (i := 1049) (by decide +kernel)), (List.mem_of_getElem? (i := 83) (by decide +kernel)), (List.mem_of_getElem? (i := 1052) (by decide +kernel)), by decide +kernel, by decide +kernel, by decide +kernel⟩, (List.mem_of_getElem? (i := 1050) (by decide +kernel)), (List.mem_of_getElem? (i := 1051) (by decide +kernel))⟩
theorem lkL_92 : LKV RL 92 mX8_row 4 := ⟨⟨Or.inl (List.mem_of_getElem? (i := 665) (by decide +kernel)), (List.mem_of_getElem? (i := 70) (by decide +kernel)), (List.mem_of_getElem? (i := 668) (by decide +kernel)), by decide +kernel, by decide +kernel, by decide +kernel⟩, (List.mem_of_getElem? (i := 666) (by decide +kernel)), (List.mem_of_getElem? (i := 667) (by decide +kernel))⟩
theorem lkL_96 : LKV RL 96 mX9_row 4 := ⟨⟨Or.inl (List.mem_of_getElem? (i := 1053) (by decide +kernel)), (List.mem_of_getElem? (i := 83) (by decide +kernel)), (List.mem_of_getElem? (i := 1056) (by decide +kernel)), by decide +kernel, by decide +kernel, by decide +kernel⟩, (List.mem_of_getElem? (i := 1054) (by decide +kernel)), (List.mem_of_getElem? (i := 1055) (by decide +kernel))⟩
theorem lkL_97 : LKV RL 97 mX8_look 2 := ⟨⟨Or.inl (List.mem_of_getElem? (i := 672) (by decide +kernel)), (List.mem_of_getElem? (i := 70) (by decide +kernel)), (List.mem_of_getElem? (i := 675) (by decide +kernel)), by decide +kernel, by decide +kernel, by decide +kernel⟩, (List.mem_of_getElem? (i := 673) (by decide +kernel)), (List.mem_of_getElem? (i := 674) (by decide +kernel))⟩
theorem lkX9_101 : LKV RX9 101 mX9_letterAt 1 := ⟨⟨Or.inl (List.mem_of_getElem? (i := 887) (by decide +kernel)), (List.mem_of_getElem? (i := 83) (by decide +kernel)), (List.mem_of_getElem? (i := 890) (by decide +kernel)), by decide +kernel, by decide +kernel, by decide +kernel⟩, (List.mem_of_getElem? (i := 889) (by decide +kernel)), (List.mem_of_getElem? (i := 48) (by decide +kernel))⟩
theorem lkX9_105 : LKS RX9 105 mX9_isFigure 1 := ⟨⟨Or.inl (List.mem_of_getElem? (i := 899) (by decide +kernel)), (List.mem_of_getElem? (i := 83) (by decide +kernel)), (List.mem_of_getElem? (i := 901) (by decide +kernel)), by decide +kernel, by decide +kernel, by decide +kernel⟩, (List.mem_of_getElem? (i := 900) (by decide +kernel))⟩
theorem lkX9_109 : LKV RX9 109 mX9_tellsFog 3 := ⟨⟨Or.inl (List.mem_of_getElem? (i := 758) (by decide +kernel)), (List.mem_of_getElem? (i := 83) (by decide +kernel)), (List.mem_of_getElem? (i := 761) (by decide +kernel)), by decide +kernel, by decide +kernel, by decide +kernel⟩, (List.mem_of_getElem? (i := 760) (by decide +kernel)), (List.mem_of_getElem? (i := 43) (by decide +kernel))⟩
theorem lkX9_116 : LKV RX9 116 mX9_readNumbers 1 := ⟨⟨Or.inl (List.mem_of_getElem? (i := 895) (by decide +kernel)), (List.mem_of_getElem? (i := 83) (by decide +kernel)), (List.mem_of_getElem? (i := 898) (by decide +kernel)), by decide +kernel, by decide +kernel, by decide +kernel⟩, (List.mem_of_getElem? (i := 897) (by decide +kernel)), (List.mem_of_getElem? (i := 50) (by decide +kernel))⟩
theorem lkX9_119 : LKV RX9 119 mX9_isTold 3 := ⟨⟨Or.inl (List.mem_of_getElem? (i := 902) (by decide +kernel)), (List.mem_of_getElem? (i := 83) (by decide +kernel)), (List.mem_of_getElem? (i := 905) (by decide +kernel)), by decide +kernel, by decide +kernel, by decide +kernel⟩, (List.mem_of_getElem? (i := 904) (by decide +kernel)), (List.mem_of_getElem? (i := 51) (by decide +kernel))⟩
theorem lkX9_122 : LKV RX9 122 mX9_readTenantOf 0 := ⟨⟨Or.inl (List.mem_of_getElem? (i := 891) (by decide +kernel)), (List.mem_of_getElem? (i := 83) (by decide +kernel)), (List.mem_of_getElem? (i := 894) (by decide +kernel)), by decide +kernel, by decide +kernel, by decide +kernel⟩, (List.mem_of_getElem? (i := 893) (by decide +kernel)), (List.mem_of_getElem? (i := 49) (by decide +kernel))⟩
theorem lkX9_126 : LKV RX9 126 mX9_readShipOf 0 := ⟨⟨Or.inl (List.mem_of_getElem? (i := 906) (by decide +kernel)), (List.mem_of_getElem? (i := 83) (by decide +kernel)), (List.mem_of_getElem? (i := 909) (by decide +kernel)), by decide +kernel, by decide +kernel, by decide +kernel⟩, (List.mem_of_getElem? (i := 908) (by decide +kernel)), (List.mem_of_getElem? (i := 52) (by decide +kernel))⟩
theorem lkX9_129 : LKV RX9 129 mX9_readFogOf 0 := ⟨⟨Or.inl (List.mem_of_getElem? (i := 910) (by decide +kernel)), (List.mem_of_getElem? (i := 83) (by decide +kernel)), (List.mem_of_getElem? (i := 913) (by decide +kernel)), by decide +kernel, by decide +kernel, by decide +kernel⟩, (List.mem_of_getElem? (i := 912) (by decide +kernel)), (List.mem_of_getElem? (i := 53) (by decide +kernel))⟩
theorem lkX9_132 : LKV RX9 132 mX9_readMostOf 0 := ⟨⟨Or.inl (List.mem_of_getElem? (i := 914) (by decide +kernel)), (List.mem_of_getElem? (i := 83) (by decide +kernel)), (List.mem_of_getElem? (i := 917) (by decide +kernel)), by decide +kernel, by decide +kernel, by decide +kernel⟩, (List.mem_of_getElem? (i := 916) (by decide +kernel)), (List.mem_of_getElem? (i := 54) (by decide +kernel))⟩
theorem lkX9_135 : LKV RX9 135 mX9_readItem 0 := ⟨⟨Or.inl (List.mem_of_getElem? (i := 883) (by decide +kernel)), (List.mem_of_getElem? (i := 83) (by decide +kernel)), (List.mem_of_getElem? (i := 886) (by decide +kernel)), by decide +kernel, by decide +kernel, by decide +kernel⟩, (List.mem_of_getElem? (i := 885) (by decide +kernel)), (List.mem_of_getElem? (i := 47) (by decide +kernel))⟩
theorem lkX9_138 : LKV RX9 138 mX9_fault 0 := ⟨⟨Or.inl (List.mem_of_getElem? (i := 922) (by decide +kernel)), (List.mem_of_getElem? (i := 83) (by decide +kernel)), (List.mem_of_getElem? (i := 882) (by decide +kernel)), by decide +kernel, by decide +kernel, by decide +kernel⟩, (List.mem_of_getElem? (i := 880) (by decide +kernel)), (List.mem_of_getElem? (i := 881) (by decide +kernel))⟩
theorem lkX9_145 : LKS RX9 145 mX9_put 4 := ⟨⟨Or.inl (List.mem_of_getElem? (i := 774) (by decide +kernel)), (List.mem_of_getElem? (i := 83) (by decide +kernel)), (List.mem_of_getElem? (i := 776) (by decide +kernel)), by decide +kernel, by decide +kernel, by decide +kernel⟩, (List.mem_of_getElem? (i := 775) (by decide +kernel))⟩
theorem lkX9_158 : LKV RX9 158 mX9_behindNow 0 := ⟨⟨Or.inl (List.mem_of_getElem? (i := 935) (by decide +kernel)), (List.mem_of_getElem? (i := 83) (by decide +kernel)), (List.mem_of_getElem? (i := 938) (by decide +kernel)), by decide +kernel, by decide +kernel, by decide +kernel⟩, (List.mem_of_getElem? (i := 937) (by decide +kernel)), (List.mem_of_getElem? (i := 57) (by decide +kernel))⟩
theorem lkX9_164 : LKV RX9 164 mX9_isProudest 1 := ⟨⟨Or.inl (List.mem_of_getElem? (i := 965) (by decide +kernel)), (List.mem_of_getElem? (i := 83) (by decide +kernel)), (List.mem_of_getElem? (i := 968) (by decide +kernel)), by decide +kernel, by decide +kernel, by decide +kernel⟩, (List.mem_of_getElem? (i := 967) (by decide +kernel)), (List.mem_of_getElem? (i := 61) (by decide +kernel))⟩
theorem lkX9_167 : LKS RX9 167 mX9_has 2 := ⟨⟨Or.inl (List.mem_of_getElem? (i := 939) (by decide +kernel)), (List.mem_of_getElem? (i := 83) (by decide +kernel)), (List.mem_of_getElem? (i := 941) (by decide +kernel)), by decide +kernel, by decide +kernel, by decide +kernel⟩, (List.mem_of_getElem? (i := 940) (by decide +kernel))⟩
theorem lkX9_171 : LKV RX9 171 mX9_shines 2 := ⟨⟨Or.inl (List.mem_of_getElem? (i := 961) (by decide +kernel)), (List.mem_of_getElem? (i := 83) (by decide +kernel)), (List.mem_of_getElem? (i := 964) (by decide +kernel)), by decide +kernel, by decide +kernel, by decide +kernel⟩, (List.mem_of_getElem? (i := 963) (by decide +kernel)), (List.mem_of_getElem? (i := 60) (by decide +kernel))⟩
theorem lkX9_174 : LKV RX9 174 mX9_sees 2 := ⟨⟨Or.inl (List.mem_of_getElem? (i := 1014) (by decide +kernel)), (List.mem_of_getElem? (i := 83) (by decide +kernel)), (List.mem_of_getElem? (i := 1017) (by decide +kernel)), by decide +kernel, by decide +kernel, by decide +kernel⟩, (List.mem_of_getElem? (i := 1016) (by decide +kernel)), (List.mem_of_getElem? (i := 64) (by decide +kernel))⟩
theorem lkX9_177 : LKS RX9 177 mX9_isSeen 2 := ⟨⟨Or.inl (List.mem_of_getElem? (i := 1003) (by decide +kernel)), (List.mem_of_getElem? (i := 83) (by decide +kernel)), (List.mem_of_getElem? (i := 1005) (by decide +kernel)), by decide +kernel, by decide +kernel, by decide +kernel⟩, (List.mem_of_getElem? (i := 1004) (by decide +kernel))⟩
theorem lkX9_180 : LKV RX9 180 mX9_signOf 2 := ⟨⟨Or.inl (List.mem_of_getElem? (i := 1010) (by decide +kernel)), (List.mem_of_getElem? (i := 83) (by decide +kernel)), (List.mem_of_getElem? (i := 1013) (by decide +kernel)), by decide +kernel, by decide +kernel, by decide +kernel⟩, (List.mem_of_getElem? (i := 1012) (by decide +kernel)), (List.mem_of_getElem? (i := 63) (by decide +kernel))⟩
theorem lkX9_184 : LKV RX9 184 mX9_sureIn 1 := ⟨⟨Or.inl (List.mem_of_getElem? (i := 1026) (by decide +kernel)), (List.mem_of_getElem? (i := 83) (by decide +kernel)), (List.mem_of_getElem? (i := 1029) (by decide +kernel)), by decide +kernel, by decide +kernel, by decide +kernel⟩, (List.mem_of_getElem? (i := 1028) (by decide +kernel)), (List.mem_of_getElem? (i := 66) (by decide +kernel))⟩
theorem lkX9_187 : LKV RX9 187 mX9_isTenant 1 := ⟨⟨Or.inl (List.mem_of_getElem? (i := 927) (by decide +kernel)), (List.mem_of_getElem? (i := 83) (by decide +kernel)), (List.mem_of_getElem? (i := 930) (by decide +kernel)), by decide +kernel, by decide +kernel, by decide +kernel⟩, (List.mem_of_getElem? (i := 929) (by decide +kernel)), (List.mem_of_getElem? (i := 55) (by decide +kernel))⟩
theorem lkX9_190 : LKV RX9 190 mX9_asItIs 0 := ⟨⟨Or.inl (List.mem_of_getElem? (i := 931) (by decide +kernel)), (List.mem_of_getElem? (i := 83) (by decide +kernel)), (List.mem_of_getElem? (i := 934) (by decide +kernel)), by decide +kernel, by decide +kernel, by decide +kernel⟩, (List.mem_of_getElem? (i := 933) (by decide +kernel)), (List.mem_of_getElem? (i := 56) (by decide +kernel))⟩
theorem lkX9_193 : LKV RX9 193 mX9_isShip 1 := ⟨⟨Or.inl (List.mem_of_getElem? (i := 946) (by decide +kernel)), (List.mem_of_getElem? (i := 83) (by decide +kernel)), (List.mem_of_getElem? (i := 949) (by decide +kernel)), by decide +kernel, by decide +kernel, by decide +kernel⟩, (List.mem_of_getElem? (i := 948) (by decide +kernel)), (List.mem_of_getElem? (i := 58) (by decide +kernel))⟩
theorem lkX9_196 : LKS RX9 196 mX9_isStripe 1 := ⟨⟨Or.inl (List.mem_of_getElem? (i := 954) (by decide +kernel)), (List.mem_of_getElem? (i := 83) (by decide +kernel)), (List.mem_of_getElem? (i := 956) (by decide +kernel)), by decide +kernel, by decide +kernel, by decide +kernel⟩, (List.mem_of_getElem? (i := 955) (by decide +kernel))⟩
theorem lkX9_199 : LKV RX9 199 mX9_paint 0 := ⟨⟨Or.inl (List.mem_of_getElem? (i := 957) (by decide +kernel)), (List.mem_of_getElem? (i := 83) (by decide +kernel)), (List.mem_of_getElem? (i := 960) (by decide +kernel)), by decide +kernel, by decide +kernel, by decide +kernel⟩, (List.mem_of_getElem? (i := 959) (by decide +kernel)), (List.mem_of_getElem? (i := 59) (by decide +kernel))⟩
theorem lkX9_202 : LKV RX9 202 mX9_remembers 0 := ⟨⟨Or.inl (List.mem_of_getElem? (i := 973) (by decide +kernel)), (List.mem_of_getElem? (i := 83) (by decide +kernel)), (List.mem_of_getElem? (i := 976) (by decide +kernel)), by decide +kernel, by decide +kernel, by decide +kernel⟩, (List.mem_of_getElem? (i := 975) (by decide +kernel)), (List.mem_of_getElem? (i := 62) (by decide +kernel))⟩
theorem lkX9_205 : LKS RX9 205 mX9_swap 3 := ⟨⟨Or.inl (List.mem_of_getElem? (i := 985) (by decide +kernel)), (List.mem_of_getElem? (i := 83) (by decide +kernel)), (List.mem_of_getElem? (i := 987) (by decide +kernel)), by decide +kernel, by decide +kernel, by decide +kernel⟩, (List.mem_of_getElem? (i := 986) (by decide +kernel))⟩
theorem lkX9_209 : LKS RX9 209 mX9_isFog 1 := ⟨⟨Or.inl (List.mem_of_getElem? (i := 1000) (by decide +kernel)), (List.mem_of_getElem? (i := 83) (by decide +kernel)), (List.mem_of_getElem? (i := 1002) (by decide +kernel)), by decide +kernel, by decide +kernel, by decide +kernel⟩, (List.mem_of_getElem? (i := 1001) (by decide +kernel))⟩
theorem lkX9_212 : LKV RX9 212 mX9_sureInAny 0 := ⟨⟨Or.inl (List.mem_of_getElem? (i := 1022) (by decide +kernel)), (List.mem_of_getElem? (i := 83) (by decide +kernel)), (List.mem_of_getElem? (i := 1025) (by decide +kernel)), by decide +kernel, by decide +kernel, by decide +kernel⟩, (List.mem_of_getElem? (i := 1024) (by decide +kernel)), (List.mem_of_getElem? (i := 65) (by decide +kernel))⟩
theorem lkX9_215 : LKV RX9 215 mX9_isOrder 1 := ⟨⟨Or.inl (List.mem_of_getElem? (i := 1034) (by decide +kernel)), (List.mem_of_getElem? (i := 83) (by decide +kernel)), (List.mem_of_getElem? (i := 1037) (by decide +kernel)), by decide +kernel, by decide +kernel, by decide +kernel⟩, (List.mem_of_getElem? (i := 1036) (by decide +kernel)), (List.mem_of_getElem? (i := 67) (by decide +kernel))⟩
theorem lkX9_218 : LKS RX9 218 mX9_bits 1 := ⟨⟨Or.inl (List.mem_of_getElem? (i := 1038) (by decide +kernel)), (List.mem_of_getElem? (i := 83) (by decide +kernel)), (List.mem_of_getElem? (i := 1040) (by decide +kernel)), by decide +kernel, by decide +kernel, by decide +kernel⟩, (List.mem_of_getElem? (i := 1039) (by decide +kernel))⟩
theorem lkX9_221 : LKV RX9 221 mX9_tenths 1 := ⟨⟨Or.inl (List.mem_of_getElem? (i := 1077) (by decide +kernel)), (List.mem_of_getElem? (i := 83) (by decide +kernel)), (List.mem_of_getElem? (i := 1080) (by decide +kernel)), by decide +kernel, by decide +kernel, by decide +kernel⟩, (List.mem_of_getElem? (i := 1079) (by decide +kernel)), (List.mem_of_getElem? (i := 68) (by decide +kernel))⟩
theorem lkX9_224 : LKS RX9 224 mX9_lowest 3 := ⟨⟨Or.inl (List.mem_of_getElem? (i := 1081) (by decide +kernel)), (List.mem_of_getElem? (i := 83) (by decide +kernel)), (List.mem_of_getElem? (i := 1083) (by decide +kernel)), by decide +kernel, by decide +kernel, by decide +kernel⟩, (List.mem_of_getElem? (i := 1082) (by decide +kernel))⟩
theorem lkX9_64 : LKV RX9 64 mX9_clearTold 0 := ⟨⟨Or.inl (List.mem_of_getElem? (i := 754) (by decide +kernel)), (List.mem_of_getElem? (i := 83) (by decide +kernel)), (List.mem_of_getElem? (i := 757) (by decide +kernel)), by decide +kernel, by decide +kernel, by decide +kernel⟩, (List.mem_of_getElem? (i := 756) (by decide +kernel)), (List.mem_of_getElem? (i := 42) (by decide +kernel))⟩
theorem lkX9_67 : LKV RX9 67 mX9_tells 5 := ⟨⟨Or.inl (List.mem_of_getElem? (i := 762) (by decide +kernel)), (List.mem_of_getElem? (i := 83) (by decide +kernel)), (List.mem_of_getElem? (i := 765) (by decide +kernel)), by decide +kernel, by decide +kernel, by decide +kernel⟩, (List.mem_of_getElem? (i := 764) (by decide +kernel)), (List.mem_of_getElem? (i := 44) (by decide +kernel))⟩
theorem lkX9_71 : LKV RX9 71 mX9_tellsShip 2 := ⟨⟨Or.inl (List.mem_of_getElem? (i := 766) (by decide +kernel)), (List.mem_of_getElem? (i := 83) (by decide +kernel)), (List.mem_of_getElem? (i := 769) (by decide +kernel)), by decide +kernel, by decide +kernel, by decide +kernel⟩, (List.mem_of_getElem? (i := 768) (by decide +kernel)), (List.mem_of_getElem? (i := 45) (by decide +kernel))⟩
theorem lkX9_75 : LKV RX9 75 mX9_settles 0 := ⟨⟨Or.inl (List.mem_of_getElem? (i := 770) (by decide +kernel)), (List.mem_of_getElem? (i := 83) (by decide +kernel)), (List.mem_of_getElem? (i := 773) (by decide +kernel)), by decide +kernel, by decide +kernel, by decide +kernel⟩, (List.mem_of_getElem? (i := 772) (by decide +kernel)), (List.mem_of_getElem? (i := 46) (by decide +kernel))⟩
theorem lkX9_88 : LKS RX9 88 mX9_in 3 := ⟨⟨Or.inl (List.mem_of_getElem? (i := 872) (by decide +kernel)), (List.mem_of_getElem? (i := 83) (by decide +kernel)), (List.mem_of_getElem? (i := 874) (by decide +kernel)), by decide +kernel, by decide +kernel, by decide +kernel⟩, (List.mem_of_getElem? (i := 873) (by decide +kernel))⟩
theorem lkJ0_1059 : LKS RJ0 1059 mJ3_checkIndex_8e157 3 := ⟨⟨Or.inl (List.mem_of_getElem? (i := 328) (by decide +kernel)), (List.mem_of_getElem? (i := 81) (by decide +kernel)), (List.mem_of_getElem? (i := 330) (by decide +kernel)), by decide +kernel, by decide +kernel, by decide +kernel⟩, (List.mem_of_getElem? (i := 329) (by decide +kernel))⟩
theorem lkJ0_335 : LKV RJ0 335 mJ0_coder_7d493 0 := ⟨⟨Or.inl (List.mem_of_getElem? (i := 306) (by decide +kernel)), (List.mem_of_getElem? (i := 79) (by decide +kernel)), (List.mem_of_getElem? (i := 309) (by decide +kernel)), by decide +kernel, by decide +kernel, by decide +kernel⟩, (List.mem_of_getElem? (i := 307) (by decide +kernel)), (List.mem_of_getElem? (i := 308) (by decide +kernel))⟩
theorem lkJ0_492 : LKV RJ0 492 mJ0_isLatin1_aae02 0 := ⟨⟨Or.inl (List.mem_of_getElem? (i := 316) (by decide +kernel)), (List.mem_of_getElem? (i := 79) (by decide +kernel)), (List.mem_of_getElem? (i := 319) (by decide +kernel)), by decide +kernel, by decide +kernel, by decide +kernel⟩, (List.mem_of_getElem? (i := 317) (by decide +kernel)), (List.mem_of_getElem? (i := 318) (by decide +kernel))⟩
theorem lkJ0_495 : LKS RJ0 495 mJ1_charAt_3b067 2 := ⟨⟨Or.inl (List.mem_of_getElem? (i := 320) (by decide +kernel)), (List.mem_of_getElem? (i := 80) (by decide +kernel)), (List.mem_of_getElem? (i := 322) (by decide +kernel)), by decide +kernel, by decide +kernel, by decide +kernel⟩, (List.mem_of_getElem? (i := 321) (by decide +kernel))⟩
theorem lkJ0_498 : LKS RJ0 498 mJ2_charAt_3b067 2 := ⟨⟨Or.inl (List.mem_of_getElem? (i := 331) (by decide +kernel)), (List.mem_of_getElem? (i := 82) (by decide +kernel)), (List.mem_of_getElem? (i := 333) (by decide +kernel)), by decide +kernel, by decide +kernel, by decide +kernel⟩, (List.mem_of_getElem? (i := 332) (by decide +kernel))⟩
theorem lkJ1_9 : LKS RJ1 9 mJ0_checkIndex_df160 2 := ⟨⟨Or.inl (List.mem_of_getElem? (i := 323) (by decide +kernel)), (List.mem_of_getElem? (i := 79) (by decide +kernel)), (List.mem_of_getElem? (i := 325) (by decide +kernel)), by decide +kernel, by decide +kernel, by decide +kernel⟩, (List.mem_of_getElem? (i := 324) (by decide +kernel))⟩
theorem lkJ2_414 : LKS RJ2 414 mJ0_checkIndex_df160 2 := ⟨⟨Or.inl (List.mem_of_getElem? (i := 340) (by decide +kernel)), (List.mem_of_getElem? (i := 79) (by decide +kernel)), (List.mem_of_getElem? (i := 325) (by decide +kernel)), by decide +kernel, by decide +kernel, by decide +kernel⟩, (List.mem_of_getElem? (i := 324) (by decide +kernel))⟩
theorem lkJ2_48 : LKS RJ2 48 mJ2_length_9d52b 1 := ⟨⟨Or.inl (List.mem_of_getElem? (i := 337) (by decide +kernel)), (List.mem_of_getElem? (i := 82) (by decide +kernel)), (List.mem_of_getElem? (i := 339) (by decide +kernel)), by decide +kernel, by decide +kernel, by decide +kernel⟩, (List.mem_of_getElem? (i := 338) (by decide +kernel))⟩
theorem lkJ2_67 : LKS RJ2 67 mJ2_checkIndex_2214a 2 := ⟨⟨Or.inl (List.mem_of_getElem? (i := 334) (by decide +kernel)), (List.mem_of_getElem? (i := 82) (by decide +kernel)), (List.mem_of_getElem? (i := 336) (by decide +kernel)), by decide +kernel, by decide +kernel, by decide +kernel⟩, (List.mem_of_getElem? (i := 335) (by decide +kernel))⟩
theorem lkJ2_71 : LKS RJ2 71 mJ2_getChar_3b067 2 := ⟨⟨Or.inl (List.mem_of_getElem? (i := 341) (by decide +kernel)), (List.mem_of_getElem? (i := 82) (by decide +kernel)), (List.mem_of_getElem? (i := 343) (by decide +kernel)), by decide +kernel, by decide +kernel, by decide +kernel⟩, (List.mem_of_getElem? (i := 342) (by decide +kernel))⟩
theorem ncX8_7 : NC RX8 7 2 := ⟨RX2, TX2, 2, rfl, (List.mem_of_getElem? (i := 96) (by decide +kernel)), (List.mem_of_getElem? (i := 97) (by decide +kernel)), (List.mem_of_getElem? (i := 71) (by decide +kernel))⟩
theorem ncX8_16 : NC RX8 16 5 := ⟨RX5, TX5, 1, rfl, (List.mem_of_getElem? (i := 112) (by decide +kernel)), (List.mem_of_getElem? (i := 113) (by decide +kernel)), (List.mem_of_getElem? (i := 72) (by decide +kernel))⟩
theorem ncX8_23 : NC RX8 23 1 := ⟨RX1, TX1, 12, rfl, (List.mem_of_getElem? (i := 122) (by decide +kernel)), (List.mem_of_getElem? (i := 123) (by decide +kernel)), (List.mem_of_getElem? (i := 73) (by decide +kernel))⟩
theorem ncX8_33 : NC RX8 33 7 := ⟨RX7, TX7, 5, rfl, (List.mem_of_getElem? (i := 186) (by decide +kernel)), (List.mem_of_getElem? (i := 187) (by decide +kernel)), (List.mem_of_getElem? (i := 74) (by decide +kernel))⟩
theorem ncX8_43 : NC RX8 43 4 := ⟨RX4, TX4, 3, rfl, (List.mem_of_getElem? (i := 220) (by decide +kernel)), (List.mem_of_getElem? (i := 221) (by decide +kernel)), (List.mem_of_getElem? (i := 75) (by decide +kernel))⟩
theorem ncX8_55 : NC RX8 55 3 := ⟨RX3, TX3, 3, rfl, (List.mem_of_getElem? (i := 240) (by decide +kernel)), (List.mem_of_getElem? (i := 241) (by decide +kernel)), (List.mem_of_getElem? (i := 76) (by decide +kernel))⟩
theorem ncX8_62 : NC RX8 62 0 := ⟨RX0, TX0, 4, rfl, (List.mem_of_getElem? (i := 257) (by decide +kernel)), (List.mem_of_getElem? (i := 258) (by decide +kernel)), (List.mem_of_getElem? (i := 77) (by decide +kernel))⟩
theorem ncX8_69 : NC RX8 69 6 := ⟨RX6, TX6, 4, rfl, (List.mem_of_getElem? (i := 278) (by decide +kernel)), (List.mem_of_getElem? (i := 279) (by decide +kernel)), (List.mem_of_getElem? (i := 78) (by decide +kernel))⟩
theorem ncX4_7 : NC RX4 7 7 := ⟨RX7, TX7, 5, rfl, (List.mem_of_getElem? (i := 226) (by decide +kernel)), (List.mem_of_getElem? (i := 187) (by decide +kernel)), (List.mem_of_getElem? (i := 74) (by decide +kernel))⟩
theorem ncL_7 : NC RL 7 8 := ⟨RX8, TX8, 11, rfl, (List.mem_of_getElem? (i := 88) (by decide +kernel)), (List.mem_of_getElem? (i := 89) (by decide +kernel)), (List.mem_of_getElem? (i := 70) (by decide +kernel))⟩
theorem ncL_10 : NC RL 10 9 := ⟨RX9, TX9, 30, rfl, (List.mem_of_getElem? (i := 748) (by decide +kernel)), (List.mem_of_getElem? (i := 749) (by decide +kernel)), (List.mem_of_getElem? (i := 83) (by decide +kernel))⟩
theorem kcX8_281 : Cond.constantLong RX8 281 16777215 ∈ lw_tbl := (List.mem_of_getElem? (i := 407) (by decide +kernel))
theorem kcJ6_265 : Cond.constant RJ6 265 1431655765 ∈ lw_tbl := (List.mem_of_getElem? (i := 628) (by decide +kernel))
theorem kcJ6_266 : Cond.constant RJ6 266 858993459 ∈ lw_tbl := (List.mem_of_getElem? (i := 629) (by decide +kernel))
theorem kcJ6_267 : Cond.constant RJ6 267 252645135 ∈ lw_tbl := (List.mem_of_getElem? (i := 630) (by decide +kernel))
theorem kcX8_283 : Cond.constantLong RX8 283 7919 ∈ lw_tbl := (List.mem_of_getElem? (i := 732) (by decide +kernel))
theorem kcX8_285 : Cond.constantLong RX8 285 6151 ∈ lw_tbl := (List.mem_of_getElem? (i := 733) (by decide +kernel))
theorem kcX8_287 : Cond.constantLong RX8 287 65521 ∈ lw_tbl := (List.mem_of_getElem? (i := 734) (by decide +kernel))
theorem kcX8_289 : Cond.constantLong RX8 289 4 ∈ lw_tbl := (List.mem_of_getElem? (i := 735) (by decide +kernel))
theorem kcX9_228 : Cond.constantLong RX9 228 7919 ∈ lw_tbl := (List.mem_of_getElem? (i := 1096) (by decide +kernel))
theorem kcX9_230 : Cond.constantLong RX9 230 6151 ∈ lw_tbl := (List.mem_of_getElem? (i := 1097) (by decide +kernel))
theorem kcX9_232 : Cond.constantLong RX9 232 65521 ∈ lw_tbl := (List.mem_of_getElem? (i := 1098) (by decide +kernel))
theorem kcX9_234 : Cond.constantLong RX9 234 4 ∈ lw_tbl := (List.mem_of_getElem? (i := 1099) (by decide +kernel))
theorem oiX8_1 : Cond.methodLink RX8 1 Lib.objectInit ∈ lw_tbl := (List.mem_of_getElem? (i := 93) (by decide +kernel))
theorem oiX2_3 : Cond.methodLink RX2 3 Lib.objectInit ∈ lw_tbl := (List.mem_of_getElem? (i := 101) (by decide +kernel))
theorem oiX5_3 : Cond.methodLink RX5 3 Lib.objectInit ∈ lw_tbl := (List.mem_of_getElem? (i := 117) (by decide +kernel))
theorem oiX1_3 : Cond.methodLink RX1 3 Lib.objectInit ∈ lw_tbl := (List.mem_of_getElem? (i := 127) (by decide +kernel))
theorem oiX7_3 : Cond.methodLink RX7 3 Lib.objectInit ∈ lw_tbl := (List.mem_of_getElem? (i := 191) (by decide +kernel))
theorem oiX4_1 : Cond.methodLink RX4 1 Lib.objectInit ∈ lw_tbl := (List.mem_of_getElem? (i := 225) (by decide +kernel))
theorem oiX3_3 : Cond.methodLink RX3 3 Lib.objectInit ∈ lw_tbl := (List.mem_of_getElem? (i := 245) (by decide +kernel))
theorem oiX0_3 : Cond.methodLink RX0 3 Lib.objectInit ∈ lw_tbl := (List.mem_of_getElem? (i := 262) (by decide +kernel))
theorem oiX6_3 : Cond.methodLink RX6 3 Lib.objectInit ∈ lw_tbl := (List.mem_of_getElem? (i := 283) (by decide +kernel))
theorem mxX8_175 : Cond.methodLink RX8 175 Lib.Math.max.name ∈ lw_tbl := (List.mem_of_getElem? (i := 554) (by decide +kernel))
theorem acX6_63 : Cond.methodLink RX6 63 arraycopyName ∈ lw_tbl := (List.mem_of_getElem? (i := 631) (by decide +kernel))
theorem oiX9_1 : Cond.methodLink RX9 1 Lib.objectInit ∈ lw_tbl := (List.mem_of_getElem? (i := 753) (by decide +kernel))
theorem oi_ins : Cond.instanceMethod Lib.objectInit ∈ lw_tbl := (List.mem_of_getElem? (i := 94) (by decide +kernel))
theorem oi_code : Cond.code Lib.objectInit ⟨#[0xb1]⟩ 1 none ∈ lw_tbl := (List.mem_of_getElem? (i := 95) (by decide +kernel))
theorem ac_nat : Cond.native arraycopyName ∈ lw_tbl := (List.mem_of_getElem? (i := 633) (by decide +kernel))
theorem ac_sta : Cond.static arraycopyName ∈ lw_tbl := (List.mem_of_getElem? (i := 632) (by decide +kernel))
theorem ac_ini : Cond.initialized "java/lang/System" ∈ lw_tbl := (List.mem_of_getElem? (i := 87) (by decide +kernel))
theorem ac_big : nativeFrameWords "java/lang/System" "arraycopy" 5 ≤ 40 := by decide +kernel
theorem mx_sta : Cond.static Lib.Math.max.name ∈ lw_tbl := (List.mem_of_getElem? (i := 555) (by decide +kernel))
theorem mx_ini : Cond.initialized "java/lang/Math" ∈ lw_tbl := (List.mem_of_getElem? (i := 85) (by decide +kernel))
theorem mx_code : Cond.code Lib.Math.max.name Lib.Math.max.code 2 (some .int) ∈ lw_tbl := (List.mem_of_getElem? (i := 556) (by decide +kernel))
theorem ar_int : Cond.arrayClass .int ∈ lw_tbl := (List.mem_of_getElem? (i := 111) (by decide +kernel))
theorem clX4_7 : Cond.classLink RX4 7 RX7 ∈ lw_tbl := (List.mem_of_getElem? (i := 226) (by decide +kernel))
theorem clX6_9 : Cond.classLink RX6 9 "[[I" ∈ lw_tbl := (List.mem_of_getElem? (i := 284) (by decide +kernel))
end
section
/-! rows by place, calls by the number of arguments, loops -/
def bI (b : Bool) : Int32 := if b then nI 1 else nI 0
theorem bI_t : bI true = nI 1 := rfl
theorem bI_f : bI false = nI 0 := rfl
theorem bI_0 {b : Bool} : bI b = 0 ↔ b = false := by cases b <;> decide
theorem inc1 (i : Nat) : nI i + Int32.ofInt 1 = nI (i + 1) := nI_1 i
theorem inc1x (x : Int32) : x + Int32.ofInt 1 = x + nI 1 := rfl
theorem dec1 (i : Nat) : nI (i + 1) + Int32.ofInt (-1) = nI i := pk_m1 i
theorem dec1x (x : Int32) : x + Int32.ofInt (-1) = x + (-1) := rfl
/-- what a method that makes nothing and moves no reference says: an int, or nothing -/
def QI (sh : Sh) (Mr : MR) (Q : Int32 → MM → Prop) : Option AV → Sh → MR → MM → Prop := fun r sh' Mr' M' => sh' = sh ∧ Mr' = Mr ∧ ∃ v, r = some (.int v) ∧ Q v M'
def QV (sh : Sh) (Mr : MR) (Q : MM → Prop) : Option AV → Sh → MR → MM → Prop := fun r sh' Mr' M' => sh' = sh ∧ Mr' = Mr ∧ r = none ∧ Q M'
def CtI (ce : MI) (args : List AV) (sh : Sh) (Mr : MR) (M : MM) (Q : Int32 → MM → Prop) : Prop := Ct ce XTr args sh Mr M 0 0 (QI sh Mr Q)
def CtV (ce : MI) (args : List AV) (sh : Sh) (Mr : MR) (M : MM) (Q : MM → Prop) : Prop := Ct ce XTr args sh Mr M 0 0 (QV sh Mr Q)
def CtP (ce : MI) (args : List AV) (sh : Sh) (Mr : MR) (M : MM) (v : Int32) : Prop := CtI ce args sh Mr M (fun x M' => x = v ∧ M' = M)
abbrev EI (mi : MI) (sh : Sh) (Mr : MR) (Q : Int32 → MM → Prop) (pc : Nat) (ls : List (Option AV)) (st : List AV) (M : MM) : Prop := Ex mi (rmOf mi 0 0) (ZM sh 0 0 (QI sh Mr Q)) XTr 0 0 pc ls st sh Mr M
abbrev EV (mi : MI) (sh : Sh) (Mr : MR) (Q : MM → Prop) (pc : Nat) (ls : List (Option AV)) (st : List AV) (M : MM) : Prop := Ex mi (rmOf mi 0 0) (ZM sh 0 0 (QV sh Mr Q)) XTr 0 0 pc ls st sh Mr M
section EX2
variable {mi : MI} {R : Room} {Z : GE → Nat × Nat → List Frame → Array Value → State → State → Prop} {X : XT} {kc ks pc : Nat} {ls : List (Option AV)} {st : List AV} {sh : Sh} {Mr : MR} {M : MM}
/-- the top's int, rewritten -/
theorem ex_top {x y : Int32} (h : x = y) (k : Ex mi R Z X kc ks pc ls (.int y :: st) sh Mr M) : Ex mi R Z X kc ks pc ls (.int x :: st) sh Mr M := h ▸ k
theorem ex_M {M' : MM} (h : M = M') (k : Ex mi R Z X kc ks pc ls st sh Mr M') : Ex mi R Z X kc ks pc ls st sh Mr M := h ▸ k
theorem ex_ri {Q : Int32 → MM → Prop} {v : Int32} {ty : FieldType} (d : decode mi.2.1 pc = .ok (.ireturn, 1)) (hr : mi.2.2.2.1 = some ty) (hn : narrow ty (.int v) = .int v) (hq : Q v M) : EI mi sh Mr Q pc ls [.int v] M := ex_iret d hr hn rfl ⟨rfl, rfl, v, rfl, hq⟩
theorem ex_rb {Q : Int32 → MM → Prop} {b : Bool} (d : decode mi.2.1 pc = .ok (.ireturn, 1)) (hr : mi.2.2.2.1 = some .boolean) (hq : Q (bI b) M) : EI mi sh Mr Q pc ls [.int (bI b)] M := ex_iret d hr (by cases b <;> rfl) rfl ⟨rfl, rfl, _, rfl, hq⟩
theorem ex_rv {Q : MM → Prop} (d : decode mi.2.1 pc = .ok (.return_, 1)) (hr : mi.2.2.2.1 = none) (hq : Q M) : EV mi sh Mr Q pc ls [] M := ex_vret d hr rfl ⟨rfl, rfl, rfl, hq⟩
theorem ex_ifB_eq {b : Bool} {off : Int} {tgt : Nat} (d : decode mi.2.1 pc = .ok (.ifCond .eq off, 3)) (ht : (pc : Int) + off = (tgt : Int)) (kt : b = false → Ex mi R Z X kc ks tgt ls st sh Mr M) (kf : b = true → Ex mi R Z X kc ks (pc + 3) ls st sh Mr M) : Ex mi R Z X kc ks pc ls (.int (bI b) :: st) sh Mr M :=
  ex_if_eq d ht (fun h => kt (bI_0.mp h)) (fun h => kf (by cases b; exact absurd rfl h; rfl))
theorem ex_ifB_ne {b : Bool} {off : Int} {tgt : Nat} (d : decode mi.2.1 pc = .ok (.ifCond .ne off, 3)) (ht : (pc : Int) + off = (tgt : Int)) (kt : b = true → Ex mi R Z X kc ks tgt ls st sh Mr M) (kf : b = false → Ex mi R Z X kc ks (pc + 3) ls st sh Mr M) : Ex mi R Z X kc ks pc ls (.int (bI b) :: st) sh Mr M :=
  ex_if_ne d ht (fun h => kt (by cases b; exact absurd rfl h; rfl)) (fun h => kf (bI_0.mp h))
/-- a loop that counts up to n -/
theorem ex_for {I : Nat → List (Option AV) → MM → Prop} (n : Nat) (hb : ∀ i ls M, i < n → I i ls M → (∀ ls' M', I (i + 1) ls' M' → Ex mi R Z X kc ks pc ls' st sh Mr M') → Ex mi R Z X kc ks pc ls st sh Mr M) (he : ∀ ls M, I n ls M → Ex mi R Z X kc ks pc ls st sh Mr M) : ∀ i ls M, i ≤ n → I i ls M → Ex mi R Z X kc ks pc ls st sh Mr M := by
  have key : ∀ j i ls M, n - i = j → i ≤ n → I i ls M → Ex mi R Z X kc ks pc ls st sh Mr M := by
    intro j
    induction j with
    | zero =>
      intro i ls M h1 h2 h3
      have e : i = n := by omega
      subst e
      exact he ls M h3
    | succ j ih => intro i ls M h1 h2 h3; exact hb i ls M (by omega) h3 (fun ls' M' h4 => ih (i + 1) ls' M' (by omega) (by omega) h4)
  intro i ls M h1 h2
  exact key (n - i) i ls M rfl h1 h2
/-- a loop that counts down to 0 -/
theorem ex_down {I : Nat → List (Option AV) → MM → Prop} (hb : ∀ i ls M, I (i + 1) ls M → (∀ ls' M', I i ls' M' → Ex mi R Z X kc ks pc ls' st sh Mr M') → Ex mi R Z X kc ks pc ls st sh Mr M) (he : ∀ ls M, I 0 ls M → Ex mi R Z X kc ks pc ls st sh Mr M) : ∀ i ls M, I i ls M → Ex mi R Z X kc ks pc ls st sh Mr M := by
  intro i
  induction i with
  | zero => intro ls M h; exact he ls M h
  | succ i ih => intro ls M h; exact hb i ls M h (fun ls' M' h4 => ih ls' M' h4)
/-- a loop by a measure that falls -/
theorem ex_meas {I : Nat → List (Option AV) → MM → Prop} (hb : ∀ i ls M, I i ls M → (∀ j ls' M', j < i → I j ls' M' → Ex mi R Z X kc ks pc ls' st sh Mr M') → Ex mi R Z X kc ks pc ls st sh Mr M) : ∀ i ls M, I i ls M → Ex mi R Z X kc ks pc ls st sh Mr M := by
  intro i
  induction i using Nat.strongRecOn with
  | _ i ih => intro ls M h; exact hb i ls M h (fun j ls' M' hj h4 => ih j hj ls' M' h4)
theorem ex_il0 {x : Int32} (d : decode mi.2.1 pc = .ok (.iload_n 0, 1)) (k : Ex mi R Z X kc ks (pc + 1) (some (.int x) :: ls) (.int x :: st) sh Mr M) : Ex mi R Z X kc ks pc (some (.int x) :: ls) st sh Mr M := ex_iload_gn d rfl k
theorem ex_is0 {o : Option AV} {x : Int32} (d : decode mi.2.1 pc = .ok (.istore_n 0, 1)) (hn : 0 < mi.2.2.1) (k : Ex mi R Z X kc ks (pc + 1) (some (.int x) :: ls) st sh Mr M) : Ex mi R Z X kc ks pc (o :: ls) (.int x :: st) sh Mr M := ex_istore_gn d hn rfl k
theorem ex_al0 {x : Nat} (d : decode mi.2.1 pc = .ok (.aload_n 0, 1)) (k : Ex mi R Z X kc ks (pc + 1) (some (.ref x) :: ls) (.ref x :: st) sh Mr M) : Ex mi R Z X kc ks pc (some (.ref x) :: ls) st sh Mr M := ex_aload_gn d rfl k
theorem ex_as0 {o : Option AV} {x : Nat} (d : decode mi.2.1 pc = .ok (.astore_n 0, 1)) (hn : 0 < mi.2.2.1) (k : Ex mi R Z X kc ks (pc + 1) (some (.ref x) :: ls) st sh Mr M) : Ex mi R Z X kc ks pc (o :: ls) (.ref x :: st) sh Mr M := ex_astore_gn d hn rfl k
theorem ex_ll0 {x : Int64} (d : decode mi.2.1 pc = .ok (.lload_n 0, 1)) (k : Ex mi R Z X kc ks (pc + 1) (some (.long x) :: ls) (.long x :: st) sh Mr M) : Ex mi R Z X kc ks pc (some (.long x) :: ls) st sh Mr M := ex_lload_gn d rfl k
theorem ex_ls0 {o o2 : Option AV} {x : Int64} (d : decode mi.2.1 pc = .ok (.lstore_n 0, 1)) (hn : 0 + 1 < mi.2.2.1) (k : Ex mi R Z X kc ks (pc + 1) (some (.long x) :: none :: ls) st sh Mr M) : Ex mi R Z X kc ks pc (o :: o2 :: ls) (.long x :: st) sh Mr M := ex_lstore_gn d hn rfl k
theorem ex_inc0 {n : Int} {x v : Int32} (d : decode mi.2.1 pc = .ok (.iinc 0 n, 3)) (hn : 0 < mi.2.2.1) (hv : x + Int32.ofInt n = v) (k : Ex mi R Z X kc ks (pc + 3) (some (.int v) :: ls) st sh Mr M) : Ex mi R Z X kc ks pc (some (.int x) :: ls) st sh Mr M := by
  subst hv
  exact ex_iinc_g d hn rfl rfl k
theorem ex_il1 {a0 : Option AV} {x : Int32} (d : decode mi.2.1 pc = .ok (.iload_n 1, 1)) (k : Ex mi R Z X kc ks (pc + 1) (a0 :: some (.int x) :: ls) (.int x :: st) sh Mr M) : Ex mi R Z X kc ks pc (a0 :: some (.int x) :: ls) st sh Mr M := ex_iload_gn d rfl k
theorem ex_is1 {a0 : Option AV} {o : Option AV} {x : Int32} (d : decode mi.2.1 pc = .ok (.istore_n 1, 1)) (hn : 1 < mi.2.2.1) (hb : nl a0 = true) (k : Ex mi R Z X kc ks (pc + 1) (a0 :: some (.int x) :: ls) st sh Mr M) : Ex mi R Z X kc ks pc (a0 :: o :: ls) (.int x :: st) sh Mr M := ex_istore_gn d hn hb k
theorem ex_al1 {a0 : Option AV} {x : Nat} (d : decode mi.2.1 pc = .ok (.aload_n 1, 1)) (k : Ex mi R Z X kc ks (pc + 1) (a0 :: some (.ref x) :: ls) (.ref x :: st) sh Mr M) : Ex mi R Z X kc ks pc (a0 :: some (.ref x) :: ls) st sh Mr M := ex_aload_gn d rfl k
theorem ex_as1 {a0 : Option AV} {o : Option AV} {x : Nat} (d : decode mi.2.1 pc = .ok (.astore_n 1, 1)) (hn : 1 < mi.2.2.1) (hb : nl a0 = true) (k : Ex mi R Z X kc ks (pc + 1) (a0 :: some (.ref x) :: ls) st sh Mr M) : Ex mi R Z X kc ks pc (a0 :: o :: ls) (.ref x :: st) sh Mr M := ex_astore_gn d hn hb k
theorem ex_ll1 {a0 : Option AV} {x : Int64} (d : decode mi.2.1 pc = .ok (.lload_n 1, 1)) (k : Ex mi R Z X kc ks (pc + 1) (a0 :: some (.long x) :: ls) (.long x :: st) sh Mr M) : Ex mi R Z X kc ks pc (a0 :: some (.long x) :: ls) st sh Mr M := ex_lload_gn d rfl k
theorem ex_ls1 {a0 : Option AV} {o o2 : Option AV} {x : Int64} (d : decode mi.2.1 pc = .ok (.lstore_n 1, 1)) (hn : 1 + 1 < mi.2.2.1) (hb : nl a0 = true) (k : Ex mi R Z X kc ks (pc + 1) (a0 :: some (.long x) :: none :: ls) st sh Mr M) : Ex mi R Z X kc ks pc (a0 :: o :: o2 :: ls) (.long x :: st) sh Mr M := ex_lstore_gn d hn hb k
theorem ex_inc1 {a0 : Option AV} {n : Int} {x v : Int32} (d : decode mi.2.1 pc = .ok (.iinc 1 n, 3)) (hn : 1 < mi.2.2.1) (hb : nl a0 = true) (hv : x + Int32.ofInt n = v) (k : Ex mi R Z X kc ks (pc + 3) (a0 :: some (.int v) :: ls) st sh Mr M) : Ex mi R Z X kc ks pc (a0 :: some (.int x) :: ls) st sh Mr M := by
  subst hv
  exact ex_iinc_g d hn hb rfl k
theorem ex_il2 {a0 a1 : Option AV} {x : Int32} (d : decode mi.2.1 pc = .ok (.iload_n 2, 1)) (k : Ex mi R Z X kc ks (pc + 1) (a0 :: a1 :: some (.int x) :: ls) (.int x :: st) sh Mr M) : Ex mi R Z X kc ks pc (a0 :: a1 :: some (.int x) :: ls) st sh Mr M := ex_iload_gn d rfl k
theorem ex_is2 {a0 a1 : Option AV} {o : Option AV} {x : Int32} (d : decode mi.2.1 pc = .ok (.istore_n 2, 1)) (hn : 2 < mi.2.2.1) (hb : nl a1 = true) (k : Ex mi R Z X kc ks (pc + 1) (a0 :: a1 :: some (.int x) :: ls) st sh Mr M) : Ex mi R Z X kc ks pc (a0 :: a1 :: o :: ls) (.int x :: st) sh Mr M := ex_istore_gn d hn hb k
theorem ex_al2 {a0 a1 : Option AV} {x : Nat} (d : decode mi.2.1 pc = .ok (.aload_n 2, 1)) (k : Ex mi R Z X kc ks (pc + 1) (a0 :: a1 :: some (.ref x) :: ls) (.ref x :: st) sh Mr M) : Ex mi R Z X kc ks pc (a0 :: a1 :: some (.ref x) :: ls) st sh Mr M := ex_aload_gn d rfl k
theorem ex_as2 {a0 a1 : Option AV} {o : Option AV} {x : Nat} (d : decode mi.2.1 pc = .ok (.astore_n 2, 1)) (hn : 2 < mi.2.2.1) (hb : nl a1 = true) (k : Ex mi R Z X kc ks (pc + 1) (a0 :: a1 :: some (.ref x) :: ls) st sh Mr M) : Ex mi R Z X kc ks pc (a0 :: a1 :: o :: ls) (.ref x :: st) sh Mr M := ex_astore_gn d hn hb k
theorem ex_ll2 {a0 a1 : Option AV} {x : Int64} (d : decode mi.2.1 pc = .ok (.lload_n 2, 1)) (k : Ex mi R Z X kc ks (pc + 1) (a0 :: a1 :: some (.long x) :: ls) (.long x :: st) sh Mr M) : Ex mi R Z X kc ks pc (a0 :: a1 :: some (.long x) :: ls) st sh Mr M := ex_lload_gn d rfl k
theorem ex_ls2 {a0 a1 : Option AV} {o o2 : Option AV} {x : Int64} (d : decode mi.2.1 pc = .ok (.lstore_n 2, 1)) (hn : 2 + 1 < mi.2.2.1) (hb : nl a1 = true) (k : Ex mi R Z X kc ks (pc + 1) (a0 :: a1 :: some (.long x) :: none :: ls) st sh Mr M) : Ex mi R Z X kc ks pc (a0 :: a1 :: o :: o2 :: ls) (.long x :: st) sh Mr M := ex_lstore_gn d hn hb k
theorem ex_inc2 {a0 a1 : Option AV} {n : Int} {x v : Int32} (d : decode mi.2.1 pc = .ok (.iinc 2 n, 3)) (hn : 2 < mi.2.2.1) (hb : nl a1 = true) (hv : x + Int32.ofInt n = v) (k : Ex mi R Z X kc ks (pc + 3) (a0 :: a1 :: some (.int v) :: ls) st sh Mr M) : Ex mi R Z X kc ks pc (a0 :: a1 :: some (.int x) :: ls) st sh Mr M := by
  subst hv
  exact ex_iinc_g d hn hb rfl k
theorem ex_il3 {a0 a1 a2 : Option AV} {x : Int32} (d : decode mi.2.1 pc = .ok (.iload_n 3, 1)) (k : Ex mi R Z X kc ks (pc + 1) (a0 :: a1 :: a2 :: some (.int x) :: ls) (.int x :: st) sh Mr M) : Ex mi R Z X kc ks pc (a0 :: a1 :: a2 :: some (.int x) :: ls) st sh Mr M := ex_iload_gn d rfl k
theorem ex_is3 {a0 a1 a2 : Option AV} {o : Option AV} {x : Int32} (d : decode mi.2.1 pc = .ok (.istore_n 3, 1)) (hn : 3 < mi.2.2.1) (hb : nl a2 = true) (k : Ex mi R Z X kc ks (pc + 1) (a0 :: a1 :: a2 :: some (.int x) :: ls) st sh Mr M) : Ex mi R Z X kc ks pc (a0 :: a1 :: a2 :: o :: ls) (.int x :: st) sh Mr M := ex_istore_gn d hn hb k
theorem ex_al3 {a0 a1 a2 : Option AV} {x : Nat} (d : decode mi.2.1 pc = .ok (.aload_n 3, 1)) (k : Ex mi R Z X kc ks (pc + 1) (a0 :: a1 :: a2 :: some (.ref x) :: ls) (.ref x :: st) sh Mr M) : Ex mi R Z X kc ks pc (a0 :: a1 :: a2 :: some (.ref x) :: ls) st sh Mr M := ex_aload_gn d rfl k
theorem ex_as3 {a0 a1 a2 : Option AV} {o : Option AV} {x : Nat} (d : decode mi.2.1 pc = .ok (.astore_n 3, 1)) (hn : 3 < mi.2.2.1) (hb : nl a2 = true) (k : Ex mi R Z X kc ks (pc + 1) (a0 :: a1 :: a2 :: some (.ref x) :: ls) st sh Mr M) : Ex mi R Z X kc ks pc (a0 :: a1 :: a2 :: o :: ls) (.ref x :: st) sh Mr M := ex_astore_gn d hn hb k
theorem ex_ll3 {a0 a1 a2 : Option AV} {x : Int64} (d : decode mi.2.1 pc = .ok (.lload_n 3, 1)) (k : Ex mi R Z X kc ks (pc + 1) (a0 :: a1 :: a2 :: some (.long x) :: ls) (.long x :: st) sh Mr M) : Ex mi R Z X kc ks pc (a0 :: a1 :: a2 :: some (.long x) :: ls) st sh Mr M := ex_lload_gn d rfl k
theorem ex_ls3 {a0 a1 a2 : Option AV} {o o2 : Option AV} {x : Int64} (d : decode mi.2.1 pc = .ok (.lstore_n 3, 1)) (hn : 3 + 1 < mi.2.2.1) (hb : nl a2 = true) (k : Ex mi R Z X kc ks (pc + 1) (a0 :: a1 :: a2 :: some (.long x) :: none :: ls) st sh Mr M) : Ex mi R Z X kc ks pc (a0 :: a1 :: a2 :: o :: o2 :: ls) (.long x :: st) sh Mr M := ex_lstore_gn d hn hb k
theorem ex_inc3 {a0 a1 a2 : Option AV} {n : Int} {x v : Int32} (d : decode mi.2.1 pc = .ok (.iinc 3 n, 3)) (hn : 3 < mi.2.2.1) (hb : nl a2 = true) (hv : x + Int32.ofInt n = v) (k : Ex mi R Z X kc ks (pc + 3) (a0 :: a1 :: a2 :: some (.int v) :: ls) st sh Mr M) : Ex mi R Z X kc ks pc (a0 :: a1 :: a2 :: some (.int x) :: ls) st sh Mr M := by
  subst hv
  exact ex_iinc_g d hn hb rfl k
theorem ex_il4 {a0 a1 a2 a3 : Option AV} {x : Int32} (d : decode mi.2.1 pc = .ok (.iload 4, 2)) (k : Ex mi R Z X kc ks (pc + 2) (a0 :: a1 :: a2 :: a3 :: some (.int x) :: ls) (.int x :: st) sh Mr M) : Ex mi R Z X kc ks pc (a0 :: a1 :: a2 :: a3 :: some (.int x) :: ls) st sh Mr M := ex_iload_g d rfl k
theorem ex_is4 {a0 a1 a2 a3 : Option AV} {o : Option AV} {x : Int32} (d : decode mi.2.1 pc = .ok (.istore 4, 2)) (hn : 4 < mi.2.2.1) (hb : nl a3 = true) (k : Ex mi R Z X kc ks (pc + 2) (a0 :: a1 :: a2 :: a3 :: some (.int x) :: ls) st sh Mr M) : Ex mi R Z X kc ks pc (a0 :: a1 :: a2 :: a3 :: o :: ls) (.int x :: st) sh Mr M := ex_istore_g d hn hb k
theorem ex_al4 {a0 a1 a2 a3 : Option AV} {x : Nat} (d : decode mi.2.1 pc = .ok (.aload 4, 2)) (k : Ex mi R Z X kc ks (pc + 2) (a0 :: a1 :: a2 :: a3 :: some (.ref x) :: ls) (.ref x :: st) sh Mr M) : Ex mi R Z X kc ks pc (a0 :: a1 :: a2 :: a3 :: some (.ref x) :: ls) st sh Mr M := ex_aload_g d rfl k
theorem ex_as4 {a0 a1 a2 a3 : Option AV} {o : Option AV} {x : Nat} (d : decode mi.2.1 pc = .ok (.astore 4, 2)) (hn : 4 < mi.2.2.1) (hb : nl a3 = true) (k : Ex mi R Z X kc ks (pc + 2) (a0 :: a1 :: a2 :: a3 :: some (.ref x) :: ls) st sh Mr M) : Ex mi R Z X kc ks pc (a0 :: a1 :: a2 :: a3 :: o :: ls) (.ref x :: st) sh Mr M := ex_astore_g d hn hb k
theorem ex_ll4 {a0 a1 a2 a3 : Option AV} {x : Int64} (d : decode mi.2.1 pc = .ok (.lload 4, 2)) (k : Ex mi R Z X kc ks (pc + 2) (a0 :: a1 :: a2 :: a3 :: some (.long x) :: ls) (.long x :: st) sh Mr M) : Ex mi R Z X kc ks pc (a0 :: a1 :: a2 :: a3 :: some (.long x) :: ls) st sh Mr M := ex_lload_g d rfl k
theorem ex_ls4 {a0 a1 a2 a3 : Option AV} {o o2 : Option AV} {x : Int64} (d : decode mi.2.1 pc = .ok (.lstore 4, 2)) (hn : 4 + 1 < mi.2.2.1) (hb : nl a3 = true) (k : Ex mi R Z X kc ks (pc + 2) (a0 :: a1 :: a2 :: a3 :: some (.long x) :: none :: ls) st sh Mr M) : Ex mi R Z X kc ks pc (a0 :: a1 :: a2 :: a3 :: o :: o2 :: ls) (.long x :: st) sh Mr M := ex_lstore_g d hn hb k
theorem ex_inc4 {a0 a1 a2 a3 : Option AV} {n : Int} {x v : Int32} (d : decode mi.2.1 pc = .ok (.iinc 4 n, 3)) (hn : 4 < mi.2.2.1) (hb : nl a3 = true) (hv : x + Int32.ofInt n = v) (k : Ex mi R Z X kc ks (pc + 3) (a0 :: a1 :: a2 :: a3 :: some (.int v) :: ls) st sh Mr M) : Ex mi R Z X kc ks pc (a0 :: a1 :: a2 :: a3 :: some (.int x) :: ls) st sh Mr M := by
  subst hv
  exact ex_iinc_g d hn hb rfl k
theorem ex_il5 {a0 a1 a2 a3 a4 : Option AV} {x : Int32} (d : decode mi.2.1 pc = .ok (.iload 5, 2)) (k : Ex mi R Z X kc ks (pc + 2) (a0 :: a1 :: a2 :: a3 :: a4 :: some (.int x) :: ls) (.int x :: st) sh Mr M) : Ex mi R Z X kc ks pc (a0 :: a1 :: a2 :: a3 :: a4 :: some (.int x) :: ls) st sh Mr M := ex_iload_g d rfl k
theorem ex_is5 {a0 a1 a2 a3 a4 : Option AV} {o : Option AV} {x : Int32} (d : decode mi.2.1 pc = .ok (.istore 5, 2)) (hn : 5 < mi.2.2.1) (hb : nl a4 = true) (k : Ex mi R Z X kc ks (pc + 2) (a0 :: a1 :: a2 :: a3 :: a4 :: some (.int x) :: ls) st sh Mr M) : Ex mi R Z X kc ks pc (a0 :: a1 :: a2 :: a3 :: a4 :: o :: ls) (.int x :: st) sh Mr M := ex_istore_g d hn hb k
theorem ex_al5 {a0 a1 a2 a3 a4 : Option AV} {x : Nat} (d : decode mi.2.1 pc = .ok (.aload 5, 2)) (k : Ex mi R Z X kc ks (pc + 2) (a0 :: a1 :: a2 :: a3 :: a4 :: some (.ref x) :: ls) (.ref x :: st) sh Mr M) : Ex mi R Z X kc ks pc (a0 :: a1 :: a2 :: a3 :: a4 :: some (.ref x) :: ls) st sh Mr M := ex_aload_g d rfl k
theorem ex_as5 {a0 a1 a2 a3 a4 : Option AV} {o : Option AV} {x : Nat} (d : decode mi.2.1 pc = .ok (.astore 5, 2)) (hn : 5 < mi.2.2.1) (hb : nl a4 = true) (k : Ex mi R Z X kc ks (pc + 2) (a0 :: a1 :: a2 :: a3 :: a4 :: some (.ref x) :: ls) st sh Mr M) : Ex mi R Z X kc ks pc (a0 :: a1 :: a2 :: a3 :: a4 :: o :: ls) (.ref x :: st) sh Mr M := ex_astore_g d hn hb k
theorem ex_ll5 {a0 a1 a2 a3 a4 : Option AV} {x : Int64} (d : decode mi.2.1 pc = .ok (.lload 5, 2)) (k : Ex mi R Z X kc ks (pc + 2) (a0 :: a1 :: a2 :: a3 :: a4 :: some (.long x) :: ls) (.long x :: st) sh Mr M) : Ex mi R Z X kc ks pc (a0 :: a1 :: a2 :: a3 :: a4 :: some (.long x) :: ls) st sh Mr M := ex_lload_g d rfl k
theorem ex_ls5 {a0 a1 a2 a3 a4 : Option AV} {o o2 : Option AV} {x : Int64} (d : decode mi.2.1 pc = .ok (.lstore 5, 2)) (hn : 5 + 1 < mi.2.2.1) (hb : nl a4 = true) (k : Ex mi R Z X kc ks (pc + 2) (a0 :: a1 :: a2 :: a3 :: a4 :: some (.long x) :: none :: ls) st sh Mr M) : Ex mi R Z X kc ks pc (a0 :: a1 :: a2 :: a3 :: a4 :: o :: o2 :: ls) (.long x :: st) sh Mr M := ex_lstore_g d hn hb k
theorem ex_inc5 {a0 a1 a2 a3 a4 : Option AV} {n : Int} {x v : Int32} (d : decode mi.2.1 pc = .ok (.iinc 5 n, 3)) (hn : 5 < mi.2.2.1) (hb : nl a4 = true) (hv : x + Int32.ofInt n = v) (k : Ex mi R Z X kc ks (pc + 3) (a0 :: a1 :: a2 :: a3 :: a4 :: some (.int v) :: ls) st sh Mr M) : Ex mi R Z X kc ks pc (a0 :: a1 :: a2 :: a3 :: a4 :: some (.int x) :: ls) st sh Mr M := by
  subst hv
  exact ex_iinc_g d hn hb rfl k
theorem ex_il6 {a0 a1 a2 a3 a4 a5 : Option AV} {x : Int32} (d : decode mi.2.1 pc = .ok (.iload 6, 2)) (k : Ex mi R Z X kc ks (pc + 2) (a0 :: a1 :: a2 :: a3 :: a4 :: a5 :: some (.int x) :: ls) (.int x :: st) sh Mr M) : Ex mi R Z X kc ks pc (a0 :: a1 :: a2 :: a3 :: a4 :: a5 :: some (.int x) :: ls) st sh Mr M := ex_iload_g d rfl k
theorem ex_is6 {a0 a1 a2 a3 a4 a5 : Option AV} {o : Option AV} {x : Int32} (d : decode mi.2.1 pc = .ok (.istore 6, 2)) (hn : 6 < mi.2.2.1) (hb : nl a5 = true) (k : Ex mi R Z X kc ks (pc + 2) (a0 :: a1 :: a2 :: a3 :: a4 :: a5 :: some (.int x) :: ls) st sh Mr M) : Ex mi R Z X kc ks pc (a0 :: a1 :: a2 :: a3 :: a4 :: a5 :: o :: ls) (.int x :: st) sh Mr M := ex_istore_g d hn hb k
theorem ex_al6 {a0 a1 a2 a3 a4 a5 : Option AV} {x : Nat} (d : decode mi.2.1 pc = .ok (.aload 6, 2)) (k : Ex mi R Z X kc ks (pc + 2) (a0 :: a1 :: a2 :: a3 :: a4 :: a5 :: some (.ref x) :: ls) (.ref x :: st) sh Mr M) : Ex mi R Z X kc ks pc (a0 :: a1 :: a2 :: a3 :: a4 :: a5 :: some (.ref x) :: ls) st sh Mr M := ex_aload_g d rfl k
theorem ex_as6 {a0 a1 a2 a3 a4 a5 : Option AV} {o : Option AV} {x : Nat} (d : decode mi.2.1 pc = .ok (.astore 6, 2)) (hn : 6 < mi.2.2.1) (hb : nl a5 = true) (k : Ex mi R Z X kc ks (pc + 2) (a0 :: a1 :: a2 :: a3 :: a4 :: a5 :: some (.ref x) :: ls) st sh Mr M) : Ex mi R Z X kc ks pc (a0 :: a1 :: a2 :: a3 :: a4 :: a5 :: o :: ls) (.ref x :: st) sh Mr M := ex_astore_g d hn hb k
theorem ex_ll6 {a0 a1 a2 a3 a4 a5 : Option AV} {x : Int64} (d : decode mi.2.1 pc = .ok (.lload 6, 2)) (k : Ex mi R Z X kc ks (pc + 2) (a0 :: a1 :: a2 :: a3 :: a4 :: a5 :: some (.long x) :: ls) (.long x :: st) sh Mr M) : Ex mi R Z X kc ks pc (a0 :: a1 :: a2 :: a3 :: a4 :: a5 :: some (.long x) :: ls) st sh Mr M := ex_lload_g d rfl k
theorem ex_ls6 {a0 a1 a2 a3 a4 a5 : Option AV} {o o2 : Option AV} {x : Int64} (d : decode mi.2.1 pc = .ok (.lstore 6, 2)) (hn : 6 + 1 < mi.2.2.1) (hb : nl a5 = true) (k : Ex mi R Z X kc ks (pc + 2) (a0 :: a1 :: a2 :: a3 :: a4 :: a5 :: some (.long x) :: none :: ls) st sh Mr M) : Ex mi R Z X kc ks pc (a0 :: a1 :: a2 :: a3 :: a4 :: a5 :: o :: o2 :: ls) (.long x :: st) sh Mr M := ex_lstore_g d hn hb k
theorem ex_inc6 {a0 a1 a2 a3 a4 a5 : Option AV} {n : Int} {x v : Int32} (d : decode mi.2.1 pc = .ok (.iinc 6 n, 3)) (hn : 6 < mi.2.2.1) (hb : nl a5 = true) (hv : x + Int32.ofInt n = v) (k : Ex mi R Z X kc ks (pc + 3) (a0 :: a1 :: a2 :: a3 :: a4 :: a5 :: some (.int v) :: ls) st sh Mr M) : Ex mi R Z X kc ks pc (a0 :: a1 :: a2 :: a3 :: a4 :: a5 :: some (.int x) :: ls) st sh Mr M := by
  subst hv
  exact ex_iinc_g d hn hb rfl k
theorem ex_il7 {a0 a1 a2 a3 a4 a5 a6 : Option AV} {x : Int32} (d : decode mi.2.1 pc = .ok (.iload 7, 2)) (k : Ex mi R Z X kc ks (pc + 2) (a0 :: a1 :: a2 :: a3 :: a4 :: a5 :: a6 :: some (.int x) :: ls) (.int x :: st) sh Mr M) : Ex mi R Z X kc ks pc (a0 :: a1 :: a2 :: a3 :: a4 :: a5 :: a6 :: some (.int x) :: ls) st sh Mr M := ex_iload_g d rfl k
theorem ex_is7 {a0 a1 a2 a3 a4 a5 a6 : Option AV} {o : Option AV} {x : Int32} (d : decode mi.2.1 pc = .ok (.istore 7, 2)) (hn : 7 < mi.2.2.1) (hb : nl a6 = true) (k : Ex mi R Z X kc ks (pc + 2) (a0 :: a1 :: a2 :: a3 :: a4 :: a5 :: a6 :: some (.int x) :: ls) st sh Mr M) : Ex mi R Z X kc ks pc (a0 :: a1 :: a2 :: a3 :: a4 :: a5 :: a6 :: o :: ls) (.int x :: st) sh Mr M := ex_istore_g d hn hb k
theorem ex_al7 {a0 a1 a2 a3 a4 a5 a6 : Option AV} {x : Nat} (d : decode mi.2.1 pc = .ok (.aload 7, 2)) (k : Ex mi R Z X kc ks (pc + 2) (a0 :: a1 :: a2 :: a3 :: a4 :: a5 :: a6 :: some (.ref x) :: ls) (.ref x :: st) sh Mr M) : Ex mi R Z X kc ks pc (a0 :: a1 :: a2 :: a3 :: a4 :: a5 :: a6 :: some (.ref x) :: ls) st sh Mr M := ex_aload_g d rfl k
theorem ex_as7 {a0 a1 a2 a3 a4 a5 a6 : Option AV} {o : Option AV} {x : Nat} (d : decode mi.2.1 pc = .ok (.astore 7, 2)) (hn : 7 < mi.2.2.1) (hb : nl a6 = true) (k : Ex mi R Z X kc ks (pc + 2) (a0 :: a1 :: a2 :: a3 :: a4 :: a5 :: a6 :: some (.ref x) :: ls) st sh Mr M) : Ex mi R Z X kc ks pc (a0 :: a1 :: a2 :: a3 :: a4 :: a5 :: a6 :: o :: ls) (.ref x :: st) sh Mr M := ex_astore_g d hn hb k
theorem ex_ll7 {a0 a1 a2 a3 a4 a5 a6 : Option AV} {x : Int64} (d : decode mi.2.1 pc = .ok (.lload 7, 2)) (k : Ex mi R Z X kc ks (pc + 2) (a0 :: a1 :: a2 :: a3 :: a4 :: a5 :: a6 :: some (.long x) :: ls) (.long x :: st) sh Mr M) : Ex mi R Z X kc ks pc (a0 :: a1 :: a2 :: a3 :: a4 :: a5 :: a6 :: some (.long x) :: ls) st sh Mr M := ex_lload_g d rfl k
theorem ex_ls7 {a0 a1 a2 a3 a4 a5 a6 : Option AV} {o o2 : Option AV} {x : Int64} (d : decode mi.2.1 pc = .ok (.lstore 7, 2)) (hn : 7 + 1 < mi.2.2.1) (hb : nl a6 = true) (k : Ex mi R Z X kc ks (pc + 2) (a0 :: a1 :: a2 :: a3 :: a4 :: a5 :: a6 :: some (.long x) :: none :: ls) st sh Mr M) : Ex mi R Z X kc ks pc (a0 :: a1 :: a2 :: a3 :: a4 :: a5 :: a6 :: o :: o2 :: ls) (.long x :: st) sh Mr M := ex_lstore_g d hn hb k
theorem ex_inc7 {a0 a1 a2 a3 a4 a5 a6 : Option AV} {n : Int} {x v : Int32} (d : decode mi.2.1 pc = .ok (.iinc 7 n, 3)) (hn : 7 < mi.2.2.1) (hb : nl a6 = true) (hv : x + Int32.ofInt n = v) (k : Ex mi R Z X kc ks (pc + 3) (a0 :: a1 :: a2 :: a3 :: a4 :: a5 :: a6 :: some (.int v) :: ls) st sh Mr M) : Ex mi R Z X kc ks pc (a0 :: a1 :: a2 :: a3 :: a4 :: a5 :: a6 :: some (.int x) :: ls) st sh Mr M := by
  subst hv
  exact ex_iinc_g d hn hb rfl k
theorem ex_il8 {a0 a1 a2 a3 a4 a5 a6 a7 : Option AV} {x : Int32} (d : decode mi.2.1 pc = .ok (.iload 8, 2)) (k : Ex mi R Z X kc ks (pc + 2) (a0 :: a1 :: a2 :: a3 :: a4 :: a5 :: a6 :: a7 :: some (.int x) :: ls) (.int x :: st) sh Mr M) : Ex mi R Z X kc ks pc (a0 :: a1 :: a2 :: a3 :: a4 :: a5 :: a6 :: a7 :: some (.int x) :: ls) st sh Mr M := ex_iload_g d rfl k
theorem ex_is8 {a0 a1 a2 a3 a4 a5 a6 a7 : Option AV} {o : Option AV} {x : Int32} (d : decode mi.2.1 pc = .ok (.istore 8, 2)) (hn : 8 < mi.2.2.1) (hb : nl a7 = true) (k : Ex mi R Z X kc ks (pc + 2) (a0 :: a1 :: a2 :: a3 :: a4 :: a5 :: a6 :: a7 :: some (.int x) :: ls) st sh Mr M) : Ex mi R Z X kc ks pc (a0 :: a1 :: a2 :: a3 :: a4 :: a5 :: a6 :: a7 :: o :: ls) (.int x :: st) sh Mr M := ex_istore_g d hn hb k
theorem ex_al8 {a0 a1 a2 a3 a4 a5 a6 a7 : Option AV} {x : Nat} (d : decode mi.2.1 pc = .ok (.aload 8, 2)) (k : Ex mi R Z X kc ks (pc + 2) (a0 :: a1 :: a2 :: a3 :: a4 :: a5 :: a6 :: a7 :: some (.ref x) :: ls) (.ref x :: st) sh Mr M) : Ex mi R Z X kc ks pc (a0 :: a1 :: a2 :: a3 :: a4 :: a5 :: a6 :: a7 :: some (.ref x) :: ls) st sh Mr M := ex_aload_g d rfl k
theorem ex_as8 {a0 a1 a2 a3 a4 a5 a6 a7 : Option AV} {o : Option AV} {x : Nat} (d : decode mi.2.1 pc = .ok (.astore 8, 2)) (hn : 8 < mi.2.2.1) (hb : nl a7 = true) (k : Ex mi R Z X kc ks (pc + 2) (a0 :: a1 :: a2 :: a3 :: a4 :: a5 :: a6 :: a7 :: some (.ref x) :: ls) st sh Mr M) : Ex mi R Z X kc ks pc (a0 :: a1 :: a2 :: a3 :: a4 :: a5 :: a6 :: a7 :: o :: ls) (.ref x :: st) sh Mr M := ex_astore_g d hn hb k
theorem ex_ll8 {a0 a1 a2 a3 a4 a5 a6 a7 : Option AV} {x : Int64} (d : decode mi.2.1 pc = .ok (.lload 8, 2)) (k : Ex mi R Z X kc ks (pc + 2) (a0 :: a1 :: a2 :: a3 :: a4 :: a5 :: a6 :: a7 :: some (.long x) :: ls) (.long x :: st) sh Mr M) : Ex mi R Z X kc ks pc (a0 :: a1 :: a2 :: a3 :: a4 :: a5 :: a6 :: a7 :: some (.long x) :: ls) st sh Mr M := ex_lload_g d rfl k
theorem ex_ls8 {a0 a1 a2 a3 a4 a5 a6 a7 : Option AV} {o o2 : Option AV} {x : Int64} (d : decode mi.2.1 pc = .ok (.lstore 8, 2)) (hn : 8 + 1 < mi.2.2.1) (hb : nl a7 = true) (k : Ex mi R Z X kc ks (pc + 2) (a0 :: a1 :: a2 :: a3 :: a4 :: a5 :: a6 :: a7 :: some (.long x) :: none :: ls) st sh Mr M) : Ex mi R Z X kc ks pc (a0 :: a1 :: a2 :: a3 :: a4 :: a5 :: a6 :: a7 :: o :: o2 :: ls) (.long x :: st) sh Mr M := ex_lstore_g d hn hb k
theorem ex_inc8 {a0 a1 a2 a3 a4 a5 a6 a7 : Option AV} {n : Int} {x v : Int32} (d : decode mi.2.1 pc = .ok (.iinc 8 n, 3)) (hn : 8 < mi.2.2.1) (hb : nl a7 = true) (hv : x + Int32.ofInt n = v) (k : Ex mi R Z X kc ks (pc + 3) (a0 :: a1 :: a2 :: a3 :: a4 :: a5 :: a6 :: a7 :: some (.int v) :: ls) st sh Mr M) : Ex mi R Z X kc ks pc (a0 :: a1 :: a2 :: a3 :: a4 :: a5 :: a6 :: a7 :: some (.int x) :: ls) st sh Mr M := by
  subst hv
  exact ex_iinc_g d hn hb rfl k
theorem ex_il9 {a0 a1 a2 a3 a4 a5 a6 a7 a8 : Option AV} {x : Int32} (d : decode mi.2.1 pc = .ok (.iload 9, 2)) (k : Ex mi R Z X kc ks (pc + 2) (a0 :: a1 :: a2 :: a3 :: a4 :: a5 :: a6 :: a7 :: a8 :: some (.int x) :: ls) (.int x :: st) sh Mr M) : Ex mi R Z X kc ks pc (a0 :: a1 :: a2 :: a3 :: a4 :: a5 :: a6 :: a7 :: a8 :: some (.int x) :: ls) st sh Mr M := ex_iload_g d rfl k
theorem ex_is9 {a0 a1 a2 a3 a4 a5 a6 a7 a8 : Option AV} {o : Option AV} {x : Int32} (d : decode mi.2.1 pc = .ok (.istore 9, 2)) (hn : 9 < mi.2.2.1) (hb : nl a8 = true) (k : Ex mi R Z X kc ks (pc + 2) (a0 :: a1 :: a2 :: a3 :: a4 :: a5 :: a6 :: a7 :: a8 :: some (.int x) :: ls) st sh Mr M) : Ex mi R Z X kc ks pc (a0 :: a1 :: a2 :: a3 :: a4 :: a5 :: a6 :: a7 :: a8 :: o :: ls) (.int x :: st) sh Mr M := ex_istore_g d hn hb k
theorem ex_al9 {a0 a1 a2 a3 a4 a5 a6 a7 a8 : Option AV} {x : Nat} (d : decode mi.2.1 pc = .ok (.aload 9, 2)) (k : Ex mi R Z X kc ks (pc + 2) (a0 :: a1 :: a2 :: a3 :: a4 :: a5 :: a6 :: a7 :: a8 :: some (.ref x) :: ls) (.ref x :: st) sh Mr M) : Ex mi R Z X kc ks pc (a0 :: a1 :: a2 :: a3 :: a4 :: a5 :: a6 :: a7 :: a8 :: some (.ref x) :: ls) st sh Mr M := ex_aload_g d rfl k
theorem ex_as9 {a0 a1 a2 a3 a4 a5 a6 a7 a8 : Option AV} {o : Option AV} {x : Nat} (d : decode mi.2.1 pc = .ok (.astore 9, 2)) (hn : 9 < mi.2.2.1) (hb : nl a8 = true) (k : Ex mi R Z X kc ks (pc + 2) (a0 :: a1 :: a2 :: a3 :: a4 :: a5 :: a6 :: a7 :: a8 :: some (.ref x) :: ls) st sh Mr M) : Ex mi R Z X kc ks pc (a0 :: a1 :: a2 :: a3 :: a4 :: a5 :: a6 :: a7 :: a8 :: o :: ls) (.ref x :: st) sh Mr M := ex_astore_g d hn hb k
theorem ex_ll9 {a0 a1 a2 a3 a4 a5 a6 a7 a8 : Option AV} {x : Int64} (d : decode mi.2.1 pc = .ok (.lload 9, 2)) (k : Ex mi R Z X kc ks (pc + 2) (a0 :: a1 :: a2 :: a3 :: a4 :: a5 :: a6 :: a7 :: a8 :: some (.long x) :: ls) (.long x :: st) sh Mr M) : Ex mi R Z X kc ks pc (a0 :: a1 :: a2 :: a3 :: a4 :: a5 :: a6 :: a7 :: a8 :: some (.long x) :: ls) st sh Mr M := ex_lload_g d rfl k
theorem ex_ls9 {a0 a1 a2 a3 a4 a5 a6 a7 a8 : Option AV} {o o2 : Option AV} {x : Int64} (d : decode mi.2.1 pc = .ok (.lstore 9, 2)) (hn : 9 + 1 < mi.2.2.1) (hb : nl a8 = true) (k : Ex mi R Z X kc ks (pc + 2) (a0 :: a1 :: a2 :: a3 :: a4 :: a5 :: a6 :: a7 :: a8 :: some (.long x) :: none :: ls) st sh Mr M) : Ex mi R Z X kc ks pc (a0 :: a1 :: a2 :: a3 :: a4 :: a5 :: a6 :: a7 :: a8 :: o :: o2 :: ls) (.long x :: st) sh Mr M := ex_lstore_g d hn hb k
theorem ex_inc9 {a0 a1 a2 a3 a4 a5 a6 a7 a8 : Option AV} {n : Int} {x v : Int32} (d : decode mi.2.1 pc = .ok (.iinc 9 n, 3)) (hn : 9 < mi.2.2.1) (hb : nl a8 = true) (hv : x + Int32.ofInt n = v) (k : Ex mi R Z X kc ks (pc + 3) (a0 :: a1 :: a2 :: a3 :: a4 :: a5 :: a6 :: a7 :: a8 :: some (.int v) :: ls) st sh Mr M) : Ex mi R Z X kc ks pc (a0 :: a1 :: a2 :: a3 :: a4 :: a5 :: a6 :: a7 :: a8 :: some (.int x) :: ls) st sh Mr M := by
  subst hv
  exact ex_iinc_g d hn hb rfl k
theorem ex_il10 {a0 a1 a2 a3 a4 a5 a6 a7 a8 a9 : Option AV} {x : Int32} (d : decode mi.2.1 pc = .ok (.iload 10, 2)) (k : Ex mi R Z X kc ks (pc + 2) (a0 :: a1 :: a2 :: a3 :: a4 :: a5 :: a6 :: a7 :: a8 :: a9 :: some (.int x) :: ls) (.int x :: st) sh Mr M) : Ex mi R Z X kc ks pc (a0 :: a1 :: a2 :: a3 :: a4 :: a5 :: a6 :: a7 :: a8 :: a9 :: some (.int x) :: ls) st sh Mr M := ex_iload_g d rfl k
theorem ex_is10 {a0 a1 a2 a3 a4 a5 a6 a7 a8 a9 : Option AV} {o : Option AV} {x : Int32} (d : decode mi.2.1 pc = .ok (.istore 10, 2)) (hn : 10 < mi.2.2.1) (hb : nl a9 = true) (k : Ex mi R Z X kc ks (pc + 2) (a0 :: a1 :: a2 :: a3 :: a4 :: a5 :: a6 :: a7 :: a8 :: a9 :: some (.int x) :: ls) st sh Mr M) : Ex mi R Z X kc ks pc (a0 :: a1 :: a2 :: a3 :: a4 :: a5 :: a6 :: a7 :: a8 :: a9 :: o :: ls) (.int x :: st) sh Mr M := ex_istore_g d hn hb k
theorem ex_al10 {a0 a1 a2 a3 a4 a5 a6 a7 a8 a9 : Option AV} {x : Nat} (d : decode mi.2.1 pc = .ok (.aload 10, 2)) (k : Ex mi R Z X kc ks (pc + 2) (a0 :: a1 :: a2 :: a3 :: a4 :: a5 :: a6 :: a7 :: a8 :: a9 :: some (.ref x) :: ls) (.ref x :: st) sh Mr M) : Ex mi R Z X kc ks pc (a0 :: a1 :: a2 :: a3 :: a4 :: a5 :: a6 :: a7 :: a8 :: a9 :: some (.ref x) :: ls) st sh Mr M := ex_aload_g d rfl k
theorem ex_as10 {a0 a1 a2 a3 a4 a5 a6 a7 a8 a9 : Option AV} {o : Option AV} {x : Nat} (d : decode mi.2.1 pc = .ok (.astore 10, 2)) (hn : 10 < mi.2.2.1) (hb : nl a9 = true) (k : Ex mi R Z X kc ks (pc + 2) (a0 :: a1 :: a2 :: a3 :: a4 :: a5 :: a6 :: a7 :: a8 :: a9 :: some (.ref x) :: ls) st sh Mr M) : Ex mi R Z X kc ks pc (a0 :: a1 :: a2 :: a3 :: a4 :: a5 :: a6 :: a7 :: a8 :: a9 :: o :: ls) (.ref x :: st) sh Mr M := ex_astore_g d hn hb k
theorem ex_ll10 {a0 a1 a2 a3 a4 a5 a6 a7 a8 a9 : Option AV} {x : Int64} (d : decode mi.2.1 pc = .ok (.lload 10, 2)) (k : Ex mi R Z X kc ks (pc + 2) (a0 :: a1 :: a2 :: a3 :: a4 :: a5 :: a6 :: a7 :: a8 :: a9 :: some (.long x) :: ls) (.long x :: st) sh Mr M) : Ex mi R Z X kc ks pc (a0 :: a1 :: a2 :: a3 :: a4 :: a5 :: a6 :: a7 :: a8 :: a9 :: some (.long x) :: ls) st sh Mr M := ex_lload_g d rfl k
theorem ex_ls10 {a0 a1 a2 a3 a4 a5 a6 a7 a8 a9 : Option AV} {o o2 : Option AV} {x : Int64} (d : decode mi.2.1 pc = .ok (.lstore 10, 2)) (hn : 10 + 1 < mi.2.2.1) (hb : nl a9 = true) (k : Ex mi R Z X kc ks (pc + 2) (a0 :: a1 :: a2 :: a3 :: a4 :: a5 :: a6 :: a7 :: a8 :: a9 :: some (.long x) :: none :: ls) st sh Mr M) : Ex mi R Z X kc ks pc (a0 :: a1 :: a2 :: a3 :: a4 :: a5 :: a6 :: a7 :: a8 :: a9 :: o :: o2 :: ls) (.long x :: st) sh Mr M := ex_lstore_g d hn hb k
theorem ex_inc10 {a0 a1 a2 a3 a4 a5 a6 a7 a8 a9 : Option AV} {n : Int} {x v : Int32} (d : decode mi.2.1 pc = .ok (.iinc 10 n, 3)) (hn : 10 < mi.2.2.1) (hb : nl a9 = true) (hv : x + Int32.ofInt n = v) (k : Ex mi R Z X kc ks (pc + 3) (a0 :: a1 :: a2 :: a3 :: a4 :: a5 :: a6 :: a7 :: a8 :: a9 :: some (.int v) :: ls) st sh Mr M) : Ex mi R Z X kc ks pc (a0 :: a1 :: a2 :: a3 :: a4 :: a5 :: a6 :: a7 :: a8 :: a9 :: some (.int x) :: ls) st sh Mr M := by
  subst hv
  exact ex_iinc_g d hn hb rfl k
theorem ex_il11 {a0 a1 a2 a3 a4 a5 a6 a7 a8 a9 a10 : Option AV} {x : Int32} (d : decode mi.2.1 pc = .ok (.iload 11, 2)) (k : Ex mi R Z X kc ks (pc + 2) (a0 :: a1 :: a2 :: a3 :: a4 :: a5 :: a6 :: a7 :: a8 :: a9 :: a10 :: some (.int x) :: ls) (.int x :: st) sh Mr M) : Ex mi R Z X kc ks pc (a0 :: a1 :: a2 :: a3 :: a4 :: a5 :: a6 :: a7 :: a8 :: a9 :: a10 :: some (.int x) :: ls) st sh Mr M := ex_iload_g d rfl k
theorem ex_is11 {a0 a1 a2 a3 a4 a5 a6 a7 a8 a9 a10 : Option AV} {o : Option AV} {x : Int32} (d : decode mi.2.1 pc = .ok (.istore 11, 2)) (hn : 11 < mi.2.2.1) (hb : nl a10 = true) (k : Ex mi R Z X kc ks (pc + 2) (a0 :: a1 :: a2 :: a3 :: a4 :: a5 :: a6 :: a7 :: a8 :: a9 :: a10 :: some (.int x) :: ls) st sh Mr M) : Ex mi R Z X kc ks pc (a0 :: a1 :: a2 :: a3 :: a4 :: a5 :: a6 :: a7 :: a8 :: a9 :: a10 :: o :: ls) (.int x :: st) sh Mr M := ex_istore_g d hn hb k
theorem ex_al11 {a0 a1 a2 a3 a4 a5 a6 a7 a8 a9 a10 : Option AV} {x : Nat} (d : decode mi.2.1 pc = .ok (.aload 11, 2)) (k : Ex mi R Z X kc ks (pc + 2) (a0 :: a1 :: a2 :: a3 :: a4 :: a5 :: a6 :: a7 :: a8 :: a9 :: a10 :: some (.ref x) :: ls) (.ref x :: st) sh Mr M) : Ex mi R Z X kc ks pc (a0 :: a1 :: a2 :: a3 :: a4 :: a5 :: a6 :: a7 :: a8 :: a9 :: a10 :: some (.ref x) :: ls) st sh Mr M := ex_aload_g d rfl k
theorem ex_as11 {a0 a1 a2 a3 a4 a5 a6 a7 a8 a9 a10 : Option AV} {o : Option AV} {x : Nat} (d : decode mi.2.1 pc = .ok (.astore 11, 2)) (hn : 11 < mi.2.2.1) (hb : nl a10 = true) (k : Ex mi R Z X kc ks (pc + 2) (a0 :: a1 :: a2 :: a3 :: a4 :: a5 :: a6 :: a7 :: a8 :: a9 :: a10 :: some (.ref x) :: ls) st sh Mr M) : Ex mi R Z X kc ks pc (a0 :: a1 :: a2 :: a3 :: a4 :: a5 :: a6 :: a7 :: a8 :: a9 :: a10 :: o :: ls) (.ref x :: st) sh Mr M := ex_astore_g d hn hb k
theorem ex_ll11 {a0 a1 a2 a3 a4 a5 a6 a7 a8 a9 a10 : Option AV} {x : Int64} (d : decode mi.2.1 pc = .ok (.lload 11, 2)) (k : Ex mi R Z X kc ks (pc + 2) (a0 :: a1 :: a2 :: a3 :: a4 :: a5 :: a6 :: a7 :: a8 :: a9 :: a10 :: some (.long x) :: ls) (.long x :: st) sh Mr M) : Ex mi R Z X kc ks pc (a0 :: a1 :: a2 :: a3 :: a4 :: a5 :: a6 :: a7 :: a8 :: a9 :: a10 :: some (.long x) :: ls) st sh Mr M := ex_lload_g d rfl k
theorem ex_ls11 {a0 a1 a2 a3 a4 a5 a6 a7 a8 a9 a10 : Option AV} {o o2 : Option AV} {x : Int64} (d : decode mi.2.1 pc = .ok (.lstore 11, 2)) (hn : 11 + 1 < mi.2.2.1) (hb : nl a10 = true) (k : Ex mi R Z X kc ks (pc + 2) (a0 :: a1 :: a2 :: a3 :: a4 :: a5 :: a6 :: a7 :: a8 :: a9 :: a10 :: some (.long x) :: none :: ls) st sh Mr M) : Ex mi R Z X kc ks pc (a0 :: a1 :: a2 :: a3 :: a4 :: a5 :: a6 :: a7 :: a8 :: a9 :: a10 :: o :: o2 :: ls) (.long x :: st) sh Mr M := ex_lstore_g d hn hb k
theorem ex_inc11 {a0 a1 a2 a3 a4 a5 a6 a7 a8 a9 a10 : Option AV} {n : Int} {x v : Int32} (d : decode mi.2.1 pc = .ok (.iinc 11 n, 3)) (hn : 11 < mi.2.2.1) (hb : nl a10 = true) (hv : x + Int32.ofInt n = v) (k : Ex mi R Z X kc ks (pc + 3) (a0 :: a1 :: a2 :: a3 :: a4 :: a5 :: a6 :: a7 :: a8 :: a9 :: a10 :: some (.int v) :: ls) st sh Mr M) : Ex mi R Z X kc ks pc (a0 :: a1 :: a2 :: a3 :: a4 :: a5 :: a6 :: a7 :: a8 :: a9 :: a10 :: some (.int x) :: ls) st sh Mr M := by
  subst hv
  exact ex_iinc_g d hn hb rfl k
theorem ex_il12 {a0 a1 a2 a3 a4 a5 a6 a7 a8 a9 a10 a11 : Option AV} {x : Int32} (d : decode mi.2.1 pc = .ok (.iload 12, 2)) (k : Ex mi R Z X kc ks (pc + 2) (a0 :: a1 :: a2 :: a3 :: a4 :: a5 :: a6 :: a7 :: a8 :: a9 :: a10 :: a11 :: some (.int x) :: ls) (.int x :: st) sh Mr M) : Ex mi R Z X kc ks pc (a0 :: a1 :: a2 :: a3 :: a4 :: a5 :: a6 :: a7 :: a8 :: a9 :: a10 :: a11 :: some (.int x) :: ls) st sh Mr M := ex_iload_g d rfl k
theorem ex_is12 {a0 a1 a2 a3 a4 a5 a6 a7 a8 a9 a10 a11 : Option AV} {o : Option AV} {x : Int32} (d : decode mi.2.1 pc = .ok (.istore 12, 2)) (hn : 12 < mi.2.2.1) (hb : nl a11 = true) (k : Ex mi R Z X kc ks (pc + 2) (a0 :: a1 :: a2 :: a3 :: a4 :: a5 :: a6 :: a7 :: a8 :: a9 :: a10 :: a11 :: some (.int x) :: ls) st sh Mr M) : Ex mi R Z X kc ks pc (a0 :: a1 :: a2 :: a3 :: a4 :: a5 :: a6 :: a7 :: a8 :: a9 :: a10 :: a11 :: o :: ls) (.int x :: st) sh Mr M := ex_istore_g d hn hb k
theorem ex_al12 {a0 a1 a2 a3 a4 a5 a6 a7 a8 a9 a10 a11 : Option AV} {x : Nat} (d : decode mi.2.1 pc = .ok (.aload 12, 2)) (k : Ex mi R Z X kc ks (pc + 2) (a0 :: a1 :: a2 :: a3 :: a4 :: a5 :: a6 :: a7 :: a8 :: a9 :: a10 :: a11 :: some (.ref x) :: ls) (.ref x :: st) sh Mr M) : Ex mi R Z X kc ks pc (a0 :: a1 :: a2 :: a3 :: a4 :: a5 :: a6 :: a7 :: a8 :: a9 :: a10 :: a11 :: some (.ref x) :: ls) st sh Mr M := ex_aload_g d rfl k
theorem ex_as12 {a0 a1 a2 a3 a4 a5 a6 a7 a8 a9 a10 a11 : Option AV} {o : Option AV} {x : Nat} (d : decode mi.2.1 pc = .ok (.astore 12, 2)) (hn : 12 < mi.2.2.1) (hb : nl a11 = true) (k : Ex mi R Z X kc ks (pc + 2) (a0 :: a1 :: a2 :: a3 :: a4 :: a5 :: a6 :: a7 :: a8 :: a9 :: a10 :: a11 :: some (.ref x) :: ls) st sh Mr M) : Ex mi R Z X kc ks pc (a0 :: a1 :: a2 :: a3 :: a4 :: a5 :: a6 :: a7 :: a8 :: a9 :: a10 :: a11 :: o :: ls) (.ref x :: st) sh Mr M := ex_astore_g d hn hb k
theorem ex_ll12 {a0 a1 a2 a3 a4 a5 a6 a7 a8 a9 a10 a11 : Option AV} {x : Int64} (d : decode mi.2.1 pc = .ok (.lload 12, 2)) (k : Ex mi R Z X kc ks (pc + 2) (a0 :: a1 :: a2 :: a3 :: a4 :: a5 :: a6 :: a7 :: a8 :: a9 :: a10 :: a11 :: some (.long x) :: ls) (.long x :: st) sh Mr M) : Ex mi R Z X kc ks pc (a0 :: a1 :: a2 :: a3 :: a4 :: a5 :: a6 :: a7 :: a8 :: a9 :: a10 :: a11 :: some (.long x) :: ls) st sh Mr M := ex_lload_g d rfl k
theorem ex_ls12 {a0 a1 a2 a3 a4 a5 a6 a7 a8 a9 a10 a11 : Option AV} {o o2 : Option AV} {x : Int64} (d : decode mi.2.1 pc = .ok (.lstore 12, 2)) (hn : 12 + 1 < mi.2.2.1) (hb : nl a11 = true) (k : Ex mi R Z X kc ks (pc + 2) (a0 :: a1 :: a2 :: a3 :: a4 :: a5 :: a6 :: a7 :: a8 :: a9 :: a10 :: a11 :: some (.long x) :: none :: ls) st sh Mr M) : Ex mi R Z X kc ks pc (a0 :: a1 :: a2 :: a3 :: a4 :: a5 :: a6 :: a7 :: a8 :: a9 :: a10 :: a11 :: o :: o2 :: ls) (.long x :: st) sh Mr M := ex_lstore_g d hn hb k
theorem ex_inc12 {a0 a1 a2 a3 a4 a5 a6 a7 a8 a9 a10 a11 : Option AV} {n : Int} {x v : Int32} (d : decode mi.2.1 pc = .ok (.iinc 12 n, 3)) (hn : 12 < mi.2.2.1) (hb : nl a11 = true) (hv : x + Int32.ofInt n = v) (k : Ex mi R Z X kc ks (pc + 3) (a0 :: a1 :: a2 :: a3 :: a4 :: a5 :: a6 :: a7 :: a8 :: a9 :: a10 :: a11 :: some (.int v) :: ls) st sh Mr M) : Ex mi R Z X kc ks pc (a0 :: a1 :: a2 :: a3 :: a4 :: a5 :: a6 :: a7 :: a8 :: a9 :: a10 :: a11 :: some (.int x) :: ls) st sh Mr M := by
  subst hv
  exact ex_iinc_g d hn hb rfl k
theorem hf0 {a b : Nat} (h : a ≤ b) : a + 0 ≤ b := h
def roomOK (ce : MI) (R : Room) : Prop := ce.2.2.2.2.1 + 1 ≤ R.frames ∧ 8 + (ce.2.2.1 + 11) + ce.2.2.2.2.2 ≤ R.locals
theorem ex_SI0 {ce : MI} {idx : Nat} {Q : Int32 → MM → Prop} (d : decode mi.2.1 pc = .ok (.invokestatic idx, 3)) (hL : LKS mi.1.cls idx ce 0) (hR : roomOK ce R) (hf : kc ≤ R.cells ∧ ks ≤ R.slots) (hw : st.length ≤ 4) (hC : CtI ce [] sh Mr M Q) (k : ∀ v M', Q v M' → Ex mi R Z X kc ks (pc + 3) ls (.int v :: st) sh Mr M') : Ex mi R Z X kc ks pc ls (st) sh Mr M := by
  refine ex_callS d hL xm_tr hC rfl rfl hw hR ⟨hf0 hf.1, hf0 hf.2⟩ (fun r sh' Mr' M' h => ?_)
  obtain ⟨rfl, rfl, v, rfl, hq⟩ := h
  exact k v M' hq
theorem ex_SP0 {ce : MI} {idx : Nat} {v : Int32} (d : decode mi.2.1 pc = .ok (.invokestatic idx, 3)) (hL : LKS mi.1.cls idx ce 0) (hR : roomOK ce R) (hf : kc ≤ R.cells ∧ ks ≤ R.slots) (hw : st.length ≤ 4) (hC : CtP ce [] sh Mr M v) (k : Ex mi R Z X kc ks (pc + 3) ls (.int v :: st) sh Mr M) : Ex mi R Z X kc ks pc ls (st) sh Mr M := by
  refine ex_SI0 d hL hR hf hw hC (fun v M' h => ?_)
  obtain ⟨rfl, rfl⟩ := h
  exact k
theorem ex_SV0 {ce : MI} {idx : Nat} {Q : MM → Prop} (d : decode mi.2.1 pc = .ok (.invokestatic idx, 3)) (hL : LKS mi.1.cls idx ce 0) (hR : roomOK ce R) (hf : kc ≤ R.cells ∧ ks ≤ R.slots) (hw : st.length ≤ 4) (hC : CtV ce [] sh Mr M Q) (k : ∀ M', Q M' → Ex mi R Z X kc ks (pc + 3) ls st sh Mr M') : Ex mi R Z X kc ks pc ls (st) sh Mr M := by
  refine ex_callS d hL xm_tr hC rfl rfl hw hR ⟨hf0 hf.1, hf0 hf.2⟩ (fun r sh' Mr' M' h => ?_)
  obtain ⟨rfl, rfl, rfl, hq⟩ := h
  exact k M' hq
theorem ex_VI0 {ce : MI} {idx : Nat} {c0 ci z : Nat} {Q : Int32 → MM → Prop} (d : decode mi.2.1 pc = .ok (.invokevirtual idx, 3)) (hL : LKV mi.1.cls idx ce 0) (hs : sh[c0]? = some (ci + 3, z)) (hcl : ∃ (T : u_T) (N : Nat), vwCl[ci]? = some (ce.1.cls, T, N)) (hR : roomOK ce R) (hf : kc ≤ R.cells ∧ ks ≤ R.slots) (hw : st.length ≤ 4) (hC : CtI ce (.ref c0 :: []) sh Mr M Q) (k : ∀ v M', Q v M' → Ex mi R Z X kc ks (pc + 3) ls (.int v :: st) sh Mr M') : Ex mi R Z X kc ks pc ls (.ref c0 :: st) sh Mr M := by
  refine ex_callV d hL hs hcl xm_tr hC rfl rfl hw hR ⟨hf0 hf.1, hf0 hf.2⟩ (fun r sh' Mr' M' h => ?_)
  obtain ⟨rfl, rfl, v, rfl, hq⟩ := h
  exact k v M' hq
theorem ex_VP0 {ce : MI} {idx : Nat} {c0 ci z : Nat} {v : Int32} (d : decode mi.2.1 pc = .ok (.invokevirtual idx, 3)) (hL : LKV mi.1.cls idx ce 0) (hs : sh[c0]? = some (ci + 3, z)) (hcl : ∃ (T : u_T) (N : Nat), vwCl[ci]? = some (ce.1.cls, T, N)) (hR : roomOK ce R) (hf : kc ≤ R.cells ∧ ks ≤ R.slots) (hw : st.length ≤ 4) (hC : CtP ce (.ref c0 :: []) sh Mr M v) (k : Ex mi R Z X kc ks (pc + 3) ls (.int v :: st) sh Mr M) : Ex mi R Z X kc ks pc ls (.ref c0 :: st) sh Mr M := by
  refine ex_VI0 d hL hs hcl hR hf hw hC (fun v M' h => ?_)
  obtain ⟨rfl, rfl⟩ := h
  exact k
theorem ex_VV0 {ce : MI} {idx : Nat} {c0 ci z : Nat} {Q : MM → Prop} (d : decode mi.2.1 pc = .ok (.invokevirtual idx, 3)) (hL : LKV mi.1.cls idx ce 0) (hs : sh[c0]? = some (ci + 3, z)) (hcl : ∃ (T : u_T) (N : Nat), vwCl[ci]? = some (ce.1.cls, T, N)) (hR : roomOK ce R) (hf : kc ≤ R.cells ∧ ks ≤ R.slots) (hw : st.length ≤ 4) (hC : CtV ce (.ref c0 :: []) sh Mr M Q) (k : ∀ M', Q M' → Ex mi R Z X kc ks (pc + 3) ls st sh Mr M') : Ex mi R Z X kc ks pc ls (.ref c0 :: st) sh Mr M := by
  refine ex_callV d hL hs hcl xm_tr hC rfl rfl hw hR ⟨hf0 hf.1, hf0 hf.2⟩ (fun r sh' Mr' M' h => ?_)
  obtain ⟨rfl, rfl, rfl, hq⟩ := h
  exact k M' hq
theorem ex_SI1 {ce : MI} {idx : Nat} {b0 : AV} {Q : Int32 → MM → Prop} (d : decode mi.2.1 pc = .ok (.invokestatic idx, 3)) (hL : LKS mi.1.cls idx ce 1) (hR : roomOK ce R) (hf : kc ≤ R.cells ∧ ks ≤ R.slots) (hw : st.length ≤ 4) (hC : CtI ce [b0] sh Mr M Q) (k : ∀ v M', Q v M' → Ex mi R Z X kc ks (pc + 3) ls (.int v :: st) sh Mr M') : Ex mi R Z X kc ks pc ls (b0 :: st) sh Mr M := by
  refine ex_callS d hL xm_tr hC rfl rfl hw hR ⟨hf0 hf.1, hf0 hf.2⟩ (fun r sh' Mr' M' h => ?_)
  obtain ⟨rfl, rfl, v, rfl, hq⟩ := h
  exact k v M' hq
theorem ex_SP1 {ce : MI} {idx : Nat} {b0 : AV} {v : Int32} (d : decode mi.2.1 pc = .ok (.invokestatic idx, 3)) (hL : LKS mi.1.cls idx ce 1) (hR : roomOK ce R) (hf : kc ≤ R.cells ∧ ks ≤ R.slots) (hw : st.length ≤ 4) (hC : CtP ce [b0] sh Mr M v) (k : Ex mi R Z X kc ks (pc + 3) ls (.int v :: st) sh Mr M) : Ex mi R Z X kc ks pc ls (b0 :: st) sh Mr M := by
  refine ex_SI1 d hL hR hf hw hC (fun v M' h => ?_)
  obtain ⟨rfl, rfl⟩ := h
  exact k
theorem ex_SV1 {ce : MI} {idx : Nat} {b0 : AV} {Q : MM → Prop} (d : decode mi.2.1 pc = .ok (.invokestatic idx, 3)) (hL : LKS mi.1.cls idx ce 1) (hR : roomOK ce R) (hf : kc ≤ R.cells ∧ ks ≤ R.slots) (hw : st.length ≤ 4) (hC : CtV ce [b0] sh Mr M Q) (k : ∀ M', Q M' → Ex mi R Z X kc ks (pc + 3) ls st sh Mr M') : Ex mi R Z X kc ks pc ls (b0 :: st) sh Mr M := by
  refine ex_callS d hL xm_tr hC rfl rfl hw hR ⟨hf0 hf.1, hf0 hf.2⟩ (fun r sh' Mr' M' h => ?_)
  obtain ⟨rfl, rfl, rfl, hq⟩ := h
  exact k M' hq
theorem ex_VI1 {ce : MI} {idx : Nat} {b0 : AV} {c0 ci z : Nat} {Q : Int32 → MM → Prop} (d : decode mi.2.1 pc = .ok (.invokevirtual idx, 3)) (hL : LKV mi.1.cls idx ce 1) (hs : sh[c0]? = some (ci + 3, z)) (hcl : ∃ (T : u_T) (N : Nat), vwCl[ci]? = some (ce.1.cls, T, N)) (hR : roomOK ce R) (hf : kc ≤ R.cells ∧ ks ≤ R.slots) (hw : st.length ≤ 4) (hC : CtI ce (.ref c0 :: [b0]) sh Mr M Q) (k : ∀ v M', Q v M' → Ex mi R Z X kc ks (pc + 3) ls (.int v :: st) sh Mr M') : Ex mi R Z X kc ks pc ls (b0 :: .ref c0 :: st) sh Mr M := by
  refine ex_callV d hL hs hcl xm_tr hC rfl rfl hw hR ⟨hf0 hf.1, hf0 hf.2⟩ (fun r sh' Mr' M' h => ?_)
  obtain ⟨rfl, rfl, v, rfl, hq⟩ := h
  exact k v M' hq
theorem ex_VP1 {ce : MI} {idx : Nat} {b0 : AV} {c0 ci z : Nat} {v : Int32} (d : decode mi.2.1 pc = .ok (.invokevirtual idx, 3)) (hL : LKV mi.1.cls idx ce 1) (hs : sh[c0]? = some (ci + 3, z)) (hcl : ∃ (T : u_T) (N : Nat), vwCl[ci]? = some (ce.1.cls, T, N)) (hR : roomOK ce R) (hf : kc ≤ R.cells ∧ ks ≤ R.slots) (hw : st.length ≤ 4) (hC : CtP ce (.ref c0 :: [b0]) sh Mr M v) (k : Ex mi R Z X kc ks (pc + 3) ls (.int v :: st) sh Mr M) : Ex mi R Z X kc ks pc ls (b0 :: .ref c0 :: st) sh Mr M := by
  refine ex_VI1 d hL hs hcl hR hf hw hC (fun v M' h => ?_)
  obtain ⟨rfl, rfl⟩ := h
  exact k
theorem ex_VV1 {ce : MI} {idx : Nat} {b0 : AV} {c0 ci z : Nat} {Q : MM → Prop} (d : decode mi.2.1 pc = .ok (.invokevirtual idx, 3)) (hL : LKV mi.1.cls idx ce 1) (hs : sh[c0]? = some (ci + 3, z)) (hcl : ∃ (T : u_T) (N : Nat), vwCl[ci]? = some (ce.1.cls, T, N)) (hR : roomOK ce R) (hf : kc ≤ R.cells ∧ ks ≤ R.slots) (hw : st.length ≤ 4) (hC : CtV ce (.ref c0 :: [b0]) sh Mr M Q) (k : ∀ M', Q M' → Ex mi R Z X kc ks (pc + 3) ls st sh Mr M') : Ex mi R Z X kc ks pc ls (b0 :: .ref c0 :: st) sh Mr M := by
  refine ex_callV d hL hs hcl xm_tr hC rfl rfl hw hR ⟨hf0 hf.1, hf0 hf.2⟩ (fun r sh' Mr' M' h => ?_)
  obtain ⟨rfl, rfl, rfl, hq⟩ := h
  exact k M' hq
theorem ex_SI2 {ce : MI} {idx : Nat} {b0 b1 : AV} {Q : Int32 → MM → Prop} (d : decode mi.2.1 pc = .ok (.invokestatic idx, 3)) (hL : LKS mi.1.cls idx ce 2) (hR : roomOK ce R) (hf : kc ≤ R.cells ∧ ks ≤ R.slots) (hw : st.length ≤ 4) (hC : CtI ce [b0, b1] sh Mr M Q) (k : ∀ v M', Q v M' → Ex mi R Z X kc ks (pc + 3) ls (.int v :: st) sh Mr M') : Ex mi R Z X kc ks pc ls (b1 :: b0 :: st) sh Mr M := by
  refine ex_callS d hL xm_tr hC rfl rfl hw hR ⟨hf0 hf.1, hf0 hf.2⟩ (fun r sh' Mr' M' h => ?_)
  obtain ⟨rfl, rfl, v, rfl, hq⟩ := h
  exact k v M' hq
theorem ex_SP2 {ce : MI} {idx : Nat} {b0 b1 : AV} {v : Int32} (d : decode mi.2.1 pc = .ok (.invokestatic idx, 3)) (hL : LKS mi.1.cls idx ce 2) (hR : roomOK ce R) (hf : kc ≤ R.cells ∧ ks ≤ R.slots) (hw : st.length ≤ 4) (hC : CtP ce [b0, b1] sh Mr M v) (k : Ex mi R Z X kc ks (pc + 3) ls (.int v :: st) sh Mr M) : Ex mi R Z X kc ks pc ls (b1 :: b0 :: st) sh Mr M := by
  refine ex_SI2 d hL hR hf hw hC (fun v M' h => ?_)
  obtain ⟨rfl, rfl⟩ := h
  exact k
theorem ex_SV2 {ce : MI} {idx : Nat} {b0 b1 : AV} {Q : MM → Prop} (d : decode mi.2.1 pc = .ok (.invokestatic idx, 3)) (hL : LKS mi.1.cls idx ce 2) (hR : roomOK ce R) (hf : kc ≤ R.cells ∧ ks ≤ R.slots) (hw : st.length ≤ 4) (hC : CtV ce [b0, b1] sh Mr M Q) (k : ∀ M', Q M' → Ex mi R Z X kc ks (pc + 3) ls st sh Mr M') : Ex mi R Z X kc ks pc ls (b1 :: b0 :: st) sh Mr M := by
  refine ex_callS d hL xm_tr hC rfl rfl hw hR ⟨hf0 hf.1, hf0 hf.2⟩ (fun r sh' Mr' M' h => ?_)
  obtain ⟨rfl, rfl, rfl, hq⟩ := h
  exact k M' hq
theorem ex_VI2 {ce : MI} {idx : Nat} {b0 b1 : AV} {c0 ci z : Nat} {Q : Int32 → MM → Prop} (d : decode mi.2.1 pc = .ok (.invokevirtual idx, 3)) (hL : LKV mi.1.cls idx ce 2) (hs : sh[c0]? = some (ci + 3, z)) (hcl : ∃ (T : u_T) (N : Nat), vwCl[ci]? = some (ce.1.cls, T, N)) (hR : roomOK ce R) (hf : kc ≤ R.cells ∧ ks ≤ R.slots) (hw : st.length ≤ 4) (hC : CtI ce (.ref c0 :: [b0, b1]) sh Mr M Q) (k : ∀ v M', Q v M' → Ex mi R Z X kc ks (pc + 3) ls (.int v :: st) sh Mr M') : Ex mi R Z X kc ks pc ls (b1 :: b0 :: .ref c0 :: st) sh Mr M := by
  refine ex_callV d hL hs hcl xm_tr hC rfl rfl hw hR ⟨hf0 hf.1, hf0 hf.2⟩ (fun r sh' Mr' M' h => ?_)
  obtain ⟨rfl, rfl, v, rfl, hq⟩ := h
  exact k v M' hq
theorem ex_VP2 {ce : MI} {idx : Nat} {b0 b1 : AV} {c0 ci z : Nat} {v : Int32} (d : decode mi.2.1 pc = .ok (.invokevirtual idx, 3)) (hL : LKV mi.1.cls idx ce 2) (hs : sh[c0]? = some (ci + 3, z)) (hcl : ∃ (T : u_T) (N : Nat), vwCl[ci]? = some (ce.1.cls, T, N)) (hR : roomOK ce R) (hf : kc ≤ R.cells ∧ ks ≤ R.slots) (hw : st.length ≤ 4) (hC : CtP ce (.ref c0 :: [b0, b1]) sh Mr M v) (k : Ex mi R Z X kc ks (pc + 3) ls (.int v :: st) sh Mr M) : Ex mi R Z X kc ks pc ls (b1 :: b0 :: .ref c0 :: st) sh Mr M := by
  refine ex_VI2 d hL hs hcl hR hf hw hC (fun v M' h => ?_)
  obtain ⟨rfl, rfl⟩ := h
  exact k
theorem ex_VV2 {ce : MI} {idx : Nat} {b0 b1 : AV} {c0 ci z : Nat} {Q : MM → Prop} (d : decode mi.2.1 pc = .ok (.invokevirtual idx, 3)) (hL : LKV mi.1.cls idx ce 2) (hs : sh[c0]? = some (ci + 3, z)) (hcl : ∃ (T : u_T) (N : Nat), vwCl[ci]? = some (ce.1.cls, T, N)) (hR : roomOK ce R) (hf : kc ≤ R.cells ∧ ks ≤ R.slots) (hw : st.length ≤ 4) (hC : CtV ce (.ref c0 :: [b0, b1]) sh Mr M Q) (k : ∀ M', Q M' → Ex mi R Z X kc ks (pc + 3) ls st sh Mr M') : Ex mi R Z X kc ks pc ls (b1 :: b0 :: .ref c0 :: st) sh Mr M := by
  refine ex_callV d hL hs hcl xm_tr hC rfl rfl hw hR ⟨hf0 hf.1, hf0 hf.2⟩ (fun r sh' Mr' M' h => ?_)
  obtain ⟨rfl, rfl, rfl, hq⟩ := h
  exact k M' hq
theorem ex_SI3 {ce : MI} {idx : Nat} {b0 b1 b2 : AV} {Q : Int32 → MM → Prop} (d : decode mi.2.1 pc = .ok (.invokestatic idx, 3)) (hL : LKS mi.1.cls idx ce 3) (hR : roomOK ce R) (hf : kc ≤ R.cells ∧ ks ≤ R.slots) (hw : st.length ≤ 4) (hC : CtI ce [b0, b1, b2] sh Mr M Q) (k : ∀ v M', Q v M' → Ex mi R Z X kc ks (pc + 3) ls (.int v :: st) sh Mr M') : Ex mi R Z X kc ks pc ls (b2 :: b1 :: b0 :: st) sh Mr M := by
  refine ex_callS d hL xm_tr hC rfl rfl hw hR ⟨hf0 hf.1, hf0 hf.2⟩ (fun r sh' Mr' M' h => ?_)
  obtain ⟨rfl, rfl, v, rfl, hq⟩ := h
  exact k v M' hq
theorem ex_SP3 {ce : MI} {idx : Nat} {b0 b1 b2 : AV} {v : Int32} (d : decode mi.2.1 pc = .ok (.invokestatic idx, 3)) (hL : LKS mi.1.cls idx ce 3) (hR : roomOK ce R) (hf : kc ≤ R.cells ∧ ks ≤ R.slots) (hw : st.length ≤ 4) (hC : CtP ce [b0, b1, b2] sh Mr M v) (k : Ex mi R Z X kc ks (pc + 3) ls (.int v :: st) sh Mr M) : Ex mi R Z X kc ks pc ls (b2 :: b1 :: b0 :: st) sh Mr M := by
  refine ex_SI3 d hL hR hf hw hC (fun v M' h => ?_)
  obtain ⟨rfl, rfl⟩ := h
  exact k
theorem ex_SV3 {ce : MI} {idx : Nat} {b0 b1 b2 : AV} {Q : MM → Prop} (d : decode mi.2.1 pc = .ok (.invokestatic idx, 3)) (hL : LKS mi.1.cls idx ce 3) (hR : roomOK ce R) (hf : kc ≤ R.cells ∧ ks ≤ R.slots) (hw : st.length ≤ 4) (hC : CtV ce [b0, b1, b2] sh Mr M Q) (k : ∀ M', Q M' → Ex mi R Z X kc ks (pc + 3) ls st sh Mr M') : Ex mi R Z X kc ks pc ls (b2 :: b1 :: b0 :: st) sh Mr M := by
  refine ex_callS d hL xm_tr hC rfl rfl hw hR ⟨hf0 hf.1, hf0 hf.2⟩ (fun r sh' Mr' M' h => ?_)
  obtain ⟨rfl, rfl, rfl, hq⟩ := h
  exact k M' hq
theorem ex_VI3 {ce : MI} {idx : Nat} {b0 b1 b2 : AV} {c0 ci z : Nat} {Q : Int32 → MM → Prop} (d : decode mi.2.1 pc = .ok (.invokevirtual idx, 3)) (hL : LKV mi.1.cls idx ce 3) (hs : sh[c0]? = some (ci + 3, z)) (hcl : ∃ (T : u_T) (N : Nat), vwCl[ci]? = some (ce.1.cls, T, N)) (hR : roomOK ce R) (hf : kc ≤ R.cells ∧ ks ≤ R.slots) (hw : st.length ≤ 4) (hC : CtI ce (.ref c0 :: [b0, b1, b2]) sh Mr M Q) (k : ∀ v M', Q v M' → Ex mi R Z X kc ks (pc + 3) ls (.int v :: st) sh Mr M') : Ex mi R Z X kc ks pc ls (b2 :: b1 :: b0 :: .ref c0 :: st) sh Mr M := by
  refine ex_callV d hL hs hcl xm_tr hC rfl rfl hw hR ⟨hf0 hf.1, hf0 hf.2⟩ (fun r sh' Mr' M' h => ?_)
  obtain ⟨rfl, rfl, v, rfl, hq⟩ := h
  exact k v M' hq
theorem ex_VP3 {ce : MI} {idx : Nat} {b0 b1 b2 : AV} {c0 ci z : Nat} {v : Int32} (d : decode mi.2.1 pc = .ok (.invokevirtual idx, 3)) (hL : LKV mi.1.cls idx ce 3) (hs : sh[c0]? = some (ci + 3, z)) (hcl : ∃ (T : u_T) (N : Nat), vwCl[ci]? = some (ce.1.cls, T, N)) (hR : roomOK ce R) (hf : kc ≤ R.cells ∧ ks ≤ R.slots) (hw : st.length ≤ 4) (hC : CtP ce (.ref c0 :: [b0, b1, b2]) sh Mr M v) (k : Ex mi R Z X kc ks (pc + 3) ls (.int v :: st) sh Mr M) : Ex mi R Z X kc ks pc ls (b2 :: b1 :: b0 :: .ref c0 :: st) sh Mr M := by
  refine ex_VI3 d hL hs hcl hR hf hw hC (fun v M' h => ?_)
  obtain ⟨rfl, rfl⟩ := h
  exact k
theorem ex_VV3 {ce : MI} {idx : Nat} {b0 b1 b2 : AV} {c0 ci z : Nat} {Q : MM → Prop} (d : decode mi.2.1 pc = .ok (.invokevirtual idx, 3)) (hL : LKV mi.1.cls idx ce 3) (hs : sh[c0]? = some (ci + 3, z)) (hcl : ∃ (T : u_T) (N : Nat), vwCl[ci]? = some (ce.1.cls, T, N)) (hR : roomOK ce R) (hf : kc ≤ R.cells ∧ ks ≤ R.slots) (hw : st.length ≤ 4) (hC : CtV ce (.ref c0 :: [b0, b1, b2]) sh Mr M Q) (k : ∀ M', Q M' → Ex mi R Z X kc ks (pc + 3) ls st sh Mr M') : Ex mi R Z X kc ks pc ls (b2 :: b1 :: b0 :: .ref c0 :: st) sh Mr M := by
  refine ex_callV d hL hs hcl xm_tr hC rfl rfl hw hR ⟨hf0 hf.1, hf0 hf.2⟩ (fun r sh' Mr' M' h => ?_)
  obtain ⟨rfl, rfl, rfl, hq⟩ := h
  exact k M' hq
theorem ex_SI4 {ce : MI} {idx : Nat} {b0 b1 b2 b3 : AV} {Q : Int32 → MM → Prop} (d : decode mi.2.1 pc = .ok (.invokestatic idx, 3)) (hL : LKS mi.1.cls idx ce 4) (hR : roomOK ce R) (hf : kc ≤ R.cells ∧ ks ≤ R.slots) (hw : st.length ≤ 4) (hC : CtI ce [b0, b1, b2, b3] sh Mr M Q) (k : ∀ v M', Q v M' → Ex mi R Z X kc ks (pc + 3) ls (.int v :: st) sh Mr M') : Ex mi R Z X kc ks pc ls (b3 :: b2 :: b1 :: b0 :: st) sh Mr M := by
  refine ex_callS d hL xm_tr hC rfl rfl hw hR ⟨hf0 hf.1, hf0 hf.2⟩ (fun r sh' Mr' M' h => ?_)
  obtain ⟨rfl, rfl, v, rfl, hq⟩ := h
  exact k v M' hq
theorem ex_SP4 {ce : MI} {idx : Nat} {b0 b1 b2 b3 : AV} {v : Int32} (d : decode mi.2.1 pc = .ok (.invokestatic idx, 3)) (hL : LKS mi.1.cls idx ce 4) (hR : roomOK ce R) (hf : kc ≤ R.cells ∧ ks ≤ R.slots) (hw : st.length ≤ 4) (hC : CtP ce [b0, b1, b2, b3] sh Mr M v) (k : Ex mi R Z X kc ks (pc + 3) ls (.int v :: st) sh Mr M) : Ex mi R Z X kc ks pc ls (b3 :: b2 :: b1 :: b0 :: st) sh Mr M := by
  refine ex_SI4 d hL hR hf hw hC (fun v M' h => ?_)
  obtain ⟨rfl, rfl⟩ := h
  exact k
theorem ex_SV4 {ce : MI} {idx : Nat} {b0 b1 b2 b3 : AV} {Q : MM → Prop} (d : decode mi.2.1 pc = .ok (.invokestatic idx, 3)) (hL : LKS mi.1.cls idx ce 4) (hR : roomOK ce R) (hf : kc ≤ R.cells ∧ ks ≤ R.slots) (hw : st.length ≤ 4) (hC : CtV ce [b0, b1, b2, b3] sh Mr M Q) (k : ∀ M', Q M' → Ex mi R Z X kc ks (pc + 3) ls st sh Mr M') : Ex mi R Z X kc ks pc ls (b3 :: b2 :: b1 :: b0 :: st) sh Mr M := by
  refine ex_callS d hL xm_tr hC rfl rfl hw hR ⟨hf0 hf.1, hf0 hf.2⟩ (fun r sh' Mr' M' h => ?_)
  obtain ⟨rfl, rfl, rfl, hq⟩ := h
  exact k M' hq
theorem ex_VI4 {ce : MI} {idx : Nat} {b0 b1 b2 b3 : AV} {c0 ci z : Nat} {Q : Int32 → MM → Prop} (d : decode mi.2.1 pc = .ok (.invokevirtual idx, 3)) (hL : LKV mi.1.cls idx ce 4) (hs : sh[c0]? = some (ci + 3, z)) (hcl : ∃ (T : u_T) (N : Nat), vwCl[ci]? = some (ce.1.cls, T, N)) (hR : roomOK ce R) (hf : kc ≤ R.cells ∧ ks ≤ R.slots) (hw : st.length ≤ 4) (hC : CtI ce (.ref c0 :: [b0, b1, b2, b3]) sh Mr M Q) (k : ∀ v M', Q v M' → Ex mi R Z X kc ks (pc + 3) ls (.int v :: st) sh Mr M') : Ex mi R Z X kc ks pc ls (b3 :: b2 :: b1 :: b0 :: .ref c0 :: st) sh Mr M := by
  refine ex_callV d hL hs hcl xm_tr hC rfl rfl hw hR ⟨hf0 hf.1, hf0 hf.2⟩ (fun r sh' Mr' M' h => ?_)
  obtain ⟨rfl, rfl, v, rfl, hq⟩ := h
  exact k v M' hq
theorem ex_VP4 {ce : MI} {idx : Nat} {b0 b1 b2 b3 : AV} {c0 ci z : Nat} {v : Int32} (d : decode mi.2.1 pc = .ok (.invokevirtual idx, 3)) (hL : LKV mi.1.cls idx ce 4) (hs : sh[c0]? = some (ci + 3, z)) (hcl : ∃ (T : u_T) (N : Nat), vwCl[ci]? = some (ce.1.cls, T, N)) (hR : roomOK ce R) (hf : kc ≤ R.cells ∧ ks ≤ R.slots) (hw : st.length ≤ 4) (hC : CtP ce (.ref c0 :: [b0, b1, b2, b3]) sh Mr M v) (k : Ex mi R Z X kc ks (pc + 3) ls (.int v :: st) sh Mr M) : Ex mi R Z X kc ks pc ls (b3 :: b2 :: b1 :: b0 :: .ref c0 :: st) sh Mr M := by
  refine ex_VI4 d hL hs hcl hR hf hw hC (fun v M' h => ?_)
  obtain ⟨rfl, rfl⟩ := h
  exact k
theorem ex_VV4 {ce : MI} {idx : Nat} {b0 b1 b2 b3 : AV} {c0 ci z : Nat} {Q : MM → Prop} (d : decode mi.2.1 pc = .ok (.invokevirtual idx, 3)) (hL : LKV mi.1.cls idx ce 4) (hs : sh[c0]? = some (ci + 3, z)) (hcl : ∃ (T : u_T) (N : Nat), vwCl[ci]? = some (ce.1.cls, T, N)) (hR : roomOK ce R) (hf : kc ≤ R.cells ∧ ks ≤ R.slots) (hw : st.length ≤ 4) (hC : CtV ce (.ref c0 :: [b0, b1, b2, b3]) sh Mr M Q) (k : ∀ M', Q M' → Ex mi R Z X kc ks (pc + 3) ls st sh Mr M') : Ex mi R Z X kc ks pc ls (b3 :: b2 :: b1 :: b0 :: .ref c0 :: st) sh Mr M := by
  refine ex_callV d hL hs hcl xm_tr hC rfl rfl hw hR ⟨hf0 hf.1, hf0 hf.2⟩ (fun r sh' Mr' M' h => ?_)
  obtain ⟨rfl, rfl, rfl, hq⟩ := h
  exact k M' hq
theorem ex_SI5 {ce : MI} {idx : Nat} {b0 b1 b2 b3 b4 : AV} {Q : Int32 → MM → Prop} (d : decode mi.2.1 pc = .ok (.invokestatic idx, 3)) (hL : LKS mi.1.cls idx ce 5) (hR : roomOK ce R) (hf : kc ≤ R.cells ∧ ks ≤ R.slots) (hw : st.length ≤ 4) (hC : CtI ce [b0, b1, b2, b3, b4] sh Mr M Q) (k : ∀ v M', Q v M' → Ex mi R Z X kc ks (pc + 3) ls (.int v :: st) sh Mr M') : Ex mi R Z X kc ks pc ls (b4 :: b3 :: b2 :: b1 :: b0 :: st) sh Mr M := by
  refine ex_callS d hL xm_tr hC rfl rfl hw hR ⟨hf0 hf.1, hf0 hf.2⟩ (fun r sh' Mr' M' h => ?_)
  obtain ⟨rfl, rfl, v, rfl, hq⟩ := h
  exact k v M' hq
theorem ex_SP5 {ce : MI} {idx : Nat} {b0 b1 b2 b3 b4 : AV} {v : Int32} (d : decode mi.2.1 pc = .ok (.invokestatic idx, 3)) (hL : LKS mi.1.cls idx ce 5) (hR : roomOK ce R) (hf : kc ≤ R.cells ∧ ks ≤ R.slots) (hw : st.length ≤ 4) (hC : CtP ce [b0, b1, b2, b3, b4] sh Mr M v) (k : Ex mi R Z X kc ks (pc + 3) ls (.int v :: st) sh Mr M) : Ex mi R Z X kc ks pc ls (b4 :: b3 :: b2 :: b1 :: b0 :: st) sh Mr M := by
  refine ex_SI5 d hL hR hf hw hC (fun v M' h => ?_)
  obtain ⟨rfl, rfl⟩ := h
  exact k
theorem ex_SV5 {ce : MI} {idx : Nat} {b0 b1 b2 b3 b4 : AV} {Q : MM → Prop} (d : decode mi.2.1 pc = .ok (.invokestatic idx, 3)) (hL : LKS mi.1.cls idx ce 5) (hR : roomOK ce R) (hf : kc ≤ R.cells ∧ ks ≤ R.slots) (hw : st.length ≤ 4) (hC : CtV ce [b0, b1, b2, b3, b4] sh Mr M Q) (k : ∀ M', Q M' → Ex mi R Z X kc ks (pc + 3) ls st sh Mr M') : Ex mi R Z X kc ks pc ls (b4 :: b3 :: b2 :: b1 :: b0 :: st) sh Mr M := by
  refine ex_callS d hL xm_tr hC rfl rfl hw hR ⟨hf0 hf.1, hf0 hf.2⟩ (fun r sh' Mr' M' h => ?_)
  obtain ⟨rfl, rfl, rfl, hq⟩ := h
  exact k M' hq
theorem ex_VI5 {ce : MI} {idx : Nat} {b0 b1 b2 b3 b4 : AV} {c0 ci z : Nat} {Q : Int32 → MM → Prop} (d : decode mi.2.1 pc = .ok (.invokevirtual idx, 3)) (hL : LKV mi.1.cls idx ce 5) (hs : sh[c0]? = some (ci + 3, z)) (hcl : ∃ (T : u_T) (N : Nat), vwCl[ci]? = some (ce.1.cls, T, N)) (hR : roomOK ce R) (hf : kc ≤ R.cells ∧ ks ≤ R.slots) (hw : st.length ≤ 4) (hC : CtI ce (.ref c0 :: [b0, b1, b2, b3, b4]) sh Mr M Q) (k : ∀ v M', Q v M' → Ex mi R Z X kc ks (pc + 3) ls (.int v :: st) sh Mr M') : Ex mi R Z X kc ks pc ls (b4 :: b3 :: b2 :: b1 :: b0 :: .ref c0 :: st) sh Mr M := by
  refine ex_callV d hL hs hcl xm_tr hC rfl rfl hw hR ⟨hf0 hf.1, hf0 hf.2⟩ (fun r sh' Mr' M' h => ?_)
  obtain ⟨rfl, rfl, v, rfl, hq⟩ := h
  exact k v M' hq
theorem ex_VP5 {ce : MI} {idx : Nat} {b0 b1 b2 b3 b4 : AV} {c0 ci z : Nat} {v : Int32} (d : decode mi.2.1 pc = .ok (.invokevirtual idx, 3)) (hL : LKV mi.1.cls idx ce 5) (hs : sh[c0]? = some (ci + 3, z)) (hcl : ∃ (T : u_T) (N : Nat), vwCl[ci]? = some (ce.1.cls, T, N)) (hR : roomOK ce R) (hf : kc ≤ R.cells ∧ ks ≤ R.slots) (hw : st.length ≤ 4) (hC : CtP ce (.ref c0 :: [b0, b1, b2, b3, b4]) sh Mr M v) (k : Ex mi R Z X kc ks (pc + 3) ls (.int v :: st) sh Mr M) : Ex mi R Z X kc ks pc ls (b4 :: b3 :: b2 :: b1 :: b0 :: .ref c0 :: st) sh Mr M := by
  refine ex_VI5 d hL hs hcl hR hf hw hC (fun v M' h => ?_)
  obtain ⟨rfl, rfl⟩ := h
  exact k
theorem ex_VV5 {ce : MI} {idx : Nat} {b0 b1 b2 b3 b4 : AV} {c0 ci z : Nat} {Q : MM → Prop} (d : decode mi.2.1 pc = .ok (.invokevirtual idx, 3)) (hL : LKV mi.1.cls idx ce 5) (hs : sh[c0]? = some (ci + 3, z)) (hcl : ∃ (T : u_T) (N : Nat), vwCl[ci]? = some (ce.1.cls, T, N)) (hR : roomOK ce R) (hf : kc ≤ R.cells ∧ ks ≤ R.slots) (hw : st.length ≤ 4) (hC : CtV ce (.ref c0 :: [b0, b1, b2, b3, b4]) sh Mr M Q) (k : ∀ M', Q M' → Ex mi R Z X kc ks (pc + 3) ls st sh Mr M') : Ex mi R Z X kc ks pc ls (b4 :: b3 :: b2 :: b1 :: b0 :: .ref c0 :: st) sh Mr M := by
  refine ex_callV d hL hs hcl xm_tr hC rfl rfl hw hR ⟨hf0 hf.1, hf0 hf.2⟩ (fun r sh' Mr' M' h => ?_)
  obtain ⟨rfl, rfl, rfl, hq⟩ := h
  exact k M' hq
theorem ex_SI6 {ce : MI} {idx : Nat} {b0 b1 b2 b3 b4 b5 : AV} {Q : Int32 → MM → Prop} (d : decode mi.2.1 pc = .ok (.invokestatic idx, 3)) (hL : LKS mi.1.cls idx ce 6) (hR : roomOK ce R) (hf : kc ≤ R.cells ∧ ks ≤ R.slots) (hw : st.length ≤ 4) (hC : CtI ce [b0, b1, b2, b3, b4, b5] sh Mr M Q) (k : ∀ v M', Q v M' → Ex mi R Z X kc ks (pc + 3) ls (.int v :: st) sh Mr M') : Ex mi R Z X kc ks pc ls (b5 :: b4 :: b3 :: b2 :: b1 :: b0 :: st) sh Mr M := by
  refine ex_callS d hL xm_tr hC rfl rfl hw hR ⟨hf0 hf.1, hf0 hf.2⟩ (fun r sh' Mr' M' h => ?_)
  obtain ⟨rfl, rfl, v, rfl, hq⟩ := h
  exact k v M' hq
theorem ex_SP6 {ce : MI} {idx : Nat} {b0 b1 b2 b3 b4 b5 : AV} {v : Int32} (d : decode mi.2.1 pc = .ok (.invokestatic idx, 3)) (hL : LKS mi.1.cls idx ce 6) (hR : roomOK ce R) (hf : kc ≤ R.cells ∧ ks ≤ R.slots) (hw : st.length ≤ 4) (hC : CtP ce [b0, b1, b2, b3, b4, b5] sh Mr M v) (k : Ex mi R Z X kc ks (pc + 3) ls (.int v :: st) sh Mr M) : Ex mi R Z X kc ks pc ls (b5 :: b4 :: b3 :: b2 :: b1 :: b0 :: st) sh Mr M := by
  refine ex_SI6 d hL hR hf hw hC (fun v M' h => ?_)
  obtain ⟨rfl, rfl⟩ := h
  exact k
theorem ex_SV6 {ce : MI} {idx : Nat} {b0 b1 b2 b3 b4 b5 : AV} {Q : MM → Prop} (d : decode mi.2.1 pc = .ok (.invokestatic idx, 3)) (hL : LKS mi.1.cls idx ce 6) (hR : roomOK ce R) (hf : kc ≤ R.cells ∧ ks ≤ R.slots) (hw : st.length ≤ 4) (hC : CtV ce [b0, b1, b2, b3, b4, b5] sh Mr M Q) (k : ∀ M', Q M' → Ex mi R Z X kc ks (pc + 3) ls st sh Mr M') : Ex mi R Z X kc ks pc ls (b5 :: b4 :: b3 :: b2 :: b1 :: b0 :: st) sh Mr M := by
  refine ex_callS d hL xm_tr hC rfl rfl hw hR ⟨hf0 hf.1, hf0 hf.2⟩ (fun r sh' Mr' M' h => ?_)
  obtain ⟨rfl, rfl, rfl, hq⟩ := h
  exact k M' hq
theorem ex_VI6 {ce : MI} {idx : Nat} {b0 b1 b2 b3 b4 b5 : AV} {c0 ci z : Nat} {Q : Int32 → MM → Prop} (d : decode mi.2.1 pc = .ok (.invokevirtual idx, 3)) (hL : LKV mi.1.cls idx ce 6) (hs : sh[c0]? = some (ci + 3, z)) (hcl : ∃ (T : u_T) (N : Nat), vwCl[ci]? = some (ce.1.cls, T, N)) (hR : roomOK ce R) (hf : kc ≤ R.cells ∧ ks ≤ R.slots) (hw : st.length ≤ 4) (hC : CtI ce (.ref c0 :: [b0, b1, b2, b3, b4, b5]) sh Mr M Q) (k : ∀ v M', Q v M' → Ex mi R Z X kc ks (pc + 3) ls (.int v :: st) sh Mr M') : Ex mi R Z X kc ks pc ls (b5 :: b4 :: b3 :: b2 :: b1 :: b0 :: .ref c0 :: st) sh Mr M := by
  refine ex_callV d hL hs hcl xm_tr hC rfl rfl hw hR ⟨hf0 hf.1, hf0 hf.2⟩ (fun r sh' Mr' M' h => ?_)
  obtain ⟨rfl, rfl, v, rfl, hq⟩ := h
  exact k v M' hq
theorem ex_VP6 {ce : MI} {idx : Nat} {b0 b1 b2 b3 b4 b5 : AV} {c0 ci z : Nat} {v : Int32} (d : decode mi.2.1 pc = .ok (.invokevirtual idx, 3)) (hL : LKV mi.1.cls idx ce 6) (hs : sh[c0]? = some (ci + 3, z)) (hcl : ∃ (T : u_T) (N : Nat), vwCl[ci]? = some (ce.1.cls, T, N)) (hR : roomOK ce R) (hf : kc ≤ R.cells ∧ ks ≤ R.slots) (hw : st.length ≤ 4) (hC : CtP ce (.ref c0 :: [b0, b1, b2, b3, b4, b5]) sh Mr M v) (k : Ex mi R Z X kc ks (pc + 3) ls (.int v :: st) sh Mr M) : Ex mi R Z X kc ks pc ls (b5 :: b4 :: b3 :: b2 :: b1 :: b0 :: .ref c0 :: st) sh Mr M := by
  refine ex_VI6 d hL hs hcl hR hf hw hC (fun v M' h => ?_)
  obtain ⟨rfl, rfl⟩ := h
  exact k
theorem ex_VV6 {ce : MI} {idx : Nat} {b0 b1 b2 b3 b4 b5 : AV} {c0 ci z : Nat} {Q : MM → Prop} (d : decode mi.2.1 pc = .ok (.invokevirtual idx, 3)) (hL : LKV mi.1.cls idx ce 6) (hs : sh[c0]? = some (ci + 3, z)) (hcl : ∃ (T : u_T) (N : Nat), vwCl[ci]? = some (ce.1.cls, T, N)) (hR : roomOK ce R) (hf : kc ≤ R.cells ∧ ks ≤ R.slots) (hw : st.length ≤ 4) (hC : CtV ce (.ref c0 :: [b0, b1, b2, b3, b4, b5]) sh Mr M Q) (k : ∀ M', Q M' → Ex mi R Z X kc ks (pc + 3) ls st sh Mr M') : Ex mi R Z X kc ks pc ls (b5 :: b4 :: b3 :: b2 :: b1 :: b0 :: .ref c0 :: st) sh Mr M := by
  refine ex_callV d hL hs hcl xm_tr hC rfl rfl hw hR ⟨hf0 hf.1, hf0 hf.2⟩ (fun r sh' Mr' M' h => ?_)
  obtain ⟨rfl, rfl, rfl, hq⟩ := h
  exact k M' hq
end EX2
end
section
section EX3
variable {mi : MI} {R : Room} {Z : GE → Nat × Nat → List Frame → Array Value → State → State → Prop} {X : XT} {kc ks pc : Nat} {ls : List (Option AV)} {st : List AV} {sh : Sh} {Mr : MR} {M : MM}
theorem ex_iaddN {a b : Nat} (d : decode mi.2.1 pc = .ok (.iadd, 1)) (k : Ex mi R Z X kc ks (pc + 1) ls (.int (nI (a + b)) :: st) sh Mr M) : Ex mi R Z X kc ks pc ls (.int (nI b) :: .int (nI a) :: st) sh Mr M := ex_iadd d (ex_top (nI_add a b) k)
theorem ex_imulN {a b : Nat} (d : decode mi.2.1 pc = .ok (.imul, 1)) (k : Ex mi R Z X kc ks (pc + 1) ls (.int (nI (a * b)) :: st) sh Mr M) : Ex mi R Z X kc ks pc ls (.int (nI b) :: .int (nI a) :: st) sh Mr M := ex_imul d (ex_top (pk_mul a b) k)
theorem ex_isubN {a b : Nat} (d : decode mi.2.1 pc = .ok (.isub, 1)) (h : b ≤ a) (k : Ex mi R Z X kc ks (pc + 1) ls (.int (nI (a - b)) :: st) sh Mr M) : Ex mi R Z X kc ks pc ls (.int (nI b) :: .int (nI a) :: st) sh Mr M := ex_isub d (ex_top (pk_sub h) k)
theorem ex_iremN {a b : Nat} (d : decode mi.2.1 pc = .ok (.irem, 1)) (h : 0 < b ∧ a < 2 ^ 31 ∧ b < 2 ^ 31) (k : Ex mi R Z X kc ks (pc + 1) ls (.int (nI (a % b)) :: st) sh Mr M) : Ex mi R Z X kc ks pc ls (.int (nI b) :: .int (nI a) :: st) sh Mr M := ex_irem d (nI_ne0 h.1 h.2.2) (ex_top (pk_rem h.2.1 h.1 h.2.2) k)
theorem ex_idivN {a b : Nat} (d : decode mi.2.1 pc = .ok (.idiv, 1)) (h : 0 < b ∧ a < 2 ^ 31 ∧ b < 2 ^ 31) (k : Ex mi R Z X kc ks (pc + 1) ls (.int (nI (a / b)) :: st) sh Mr M) : Ex mi R Z X kc ks pc ls (.int (nI b) :: .int (nI a) :: st) sh Mr M := ex_idiv d (nI_ne0 h.1 h.2.2) (ex_top (pk_div h.2.1 h.1 h.2.2) k)
theorem ex_ildN {c n j : Nat} (d : decode mi.2.1 pc = .ok (.iaload, 1)) (hs : sh[c]? = some (0, n)) (hn : n < 2 ^ 31) (hj : j < n) (k : Ex mi R Z X kc ks (pc + 1) ls (.int (M c j) :: st) sh Mr M) : Ex mi R Z X kc ks pc ls (.int (nI j) :: .ref c :: st) sh Mr M := by
  refine ex_iald d hs (vp_in_nI hj hn) ?_
  rw [nI_clamp (Nat.lt_trans hj hn)]
  exact k
theorem ex_istN {c n j : Nat} {x : Int32} (d : decode mi.2.1 pc = .ok (.iastore, 1)) (hs : sh[c]? = some (0, n)) (hn : n < 2 ^ 31) (hj : j < n) (k : Ex mi R Z X kc ks (pc + 1) ls st sh Mr (wr M c j x)) : Ex mi R Z X kc ks pc ls (.int x :: .int (nI j) :: .ref c :: st) sh Mr M := by
  refine ex_iast d hs (vp_in_nI hj hn) ?_
  rw [nI_clamp (Nat.lt_trans hj hn)]
  exact k
theorem ex_aald1N {c n j a : Nat} (d : decode mi.2.1 pc = .ok (.aaload, 1)) (hs : sh[c]? = some (1, n)) (hn : n < 2 ^ 31) (hj : j < n) (hr : Mr c j = some a) (k : Ex mi R Z X kc ks (pc + 1) ls (.ref a :: st) sh Mr M) : Ex mi R Z X kc ks pc ls (.int (nI j) :: .ref c :: st) sh Mr M := ex_aald1 d hs (vp_in_nI hj hn) (by rw [nI_clamp (Nat.lt_trans hj hn)]; exact hr) k
theorem ex_aald2N {c n j a : Nat} (d : decode mi.2.1 pc = .ok (.aaload, 1)) (hs : sh[c]? = some (2, n)) (hn : n < 2 ^ 31) (hj : j < n) (hr : Mr c j = some a) (k : Ex mi R Z X kc ks (pc + 1) ls (.ref a :: st) sh Mr M) : Ex mi R Z X kc ks pc ls (.int (nI j) :: .ref c :: st) sh Mr M := ex_aald2 d hs (vp_in_nI hj hn) (by rw [nI_clamp (Nat.lt_trans hj hn)]; exact hr) k
theorem ex_icmp_eqN {a b : Nat} {off : Int} {tgt : Nat} (d : decode mi.2.1 pc = .ok (.if_icmp .eq off, 3)) (ht : (pc : Int) + off = (tgt : Int)) (ha : a < 2 ^ 31) (hb : b < 2 ^ 31) (kt : a = b → Ex mi R Z X kc ks tgt ls st sh Mr M) (kf : ¬ a = b → Ex mi R Z X kc ks (pc + 3) ls st sh Mr M) : Ex mi R Z X kc ks pc ls (.int (nI b) :: .int (nI a) :: st) sh Mr M := ex_icmp_eq d ht (fun h => kt ((nI_eq ha hb).mp h)) (fun h => kf (fun q => h ((nI_eq ha hb).mpr q)))
theorem ex_icmp_neN {a b : Nat} {off : Int} {tgt : Nat} (d : decode mi.2.1 pc = .ok (.if_icmp .ne off, 3)) (ht : (pc : Int) + off = (tgt : Int)) (ha : a < 2 ^ 31) (hb : b < 2 ^ 31) (kt : ¬ a = b → Ex mi R Z X kc ks tgt ls st sh Mr M) (kf : a = b → Ex mi R Z X kc ks (pc + 3) ls st sh Mr M) : Ex mi R Z X kc ks pc ls (.int (nI b) :: .int (nI a) :: st) sh Mr M := ex_icmp_ne d ht (fun h => kt (fun q => h ((nI_eq ha hb).mpr q))) (fun h => kf ((nI_eq ha hb).mp h))
theorem ex_icmp_ltN {a b : Nat} {off : Int} {tgt : Nat} (d : decode mi.2.1 pc = .ok (.if_icmp .lt off, 3)) (ht : (pc : Int) + off = (tgt : Int)) (ha : a < 2 ^ 31) (hb : b < 2 ^ 31) (kt : a < b → Ex mi R Z X kc ks tgt ls st sh Mr M) (kf : ¬ a < b → Ex mi R Z X kc ks (pc + 3) ls st sh Mr M) : Ex mi R Z X kc ks pc ls (.int (nI b) :: .int (nI a) :: st) sh Mr M := ex_icmp_lt d ht (fun h => kt ((nI_ltI ha hb).mp h)) (fun h => kf (fun q => h ((nI_ltI ha hb).mpr q)))
theorem ex_icmp_geN {a b : Nat} {off : Int} {tgt : Nat} (d : decode mi.2.1 pc = .ok (.if_icmp .ge off, 3)) (ht : (pc : Int) + off = (tgt : Int)) (ha : a < 2 ^ 31) (hb : b < 2 ^ 31) (kt : b ≤ a → Ex mi R Z X kc ks tgt ls st sh Mr M) (kf : ¬ b ≤ a → Ex mi R Z X kc ks (pc + 3) ls st sh Mr M) : Ex mi R Z X kc ks pc ls (.int (nI b) :: .int (nI a) :: st) sh Mr M := ex_icmp_ge d ht (fun h => kt ((nI_leI hb ha).mp h)) (fun h => kf (fun q => h ((nI_leI hb ha).mpr q)))
theorem ex_icmp_gtN {a b : Nat} {off : Int} {tgt : Nat} (d : decode mi.2.1 pc = .ok (.if_icmp .gt off, 3)) (ht : (pc : Int) + off = (tgt : Int)) (ha : a < 2 ^ 31) (hb : b < 2 ^ 31) (kt : b < a → Ex mi R Z X kc ks tgt ls st sh Mr M) (kf : ¬ b < a → Ex mi R Z X kc ks (pc + 3) ls st sh Mr M) : Ex mi R Z X kc ks pc ls (.int (nI b) :: .int (nI a) :: st) sh Mr M := ex_icmp_gt d ht (fun h => kt ((nI_ltI hb ha).mp h)) (fun h => kf (fun q => h ((nI_ltI hb ha).mpr q)))
theorem ex_icmp_leN {a b : Nat} {off : Int} {tgt : Nat} (d : decode mi.2.1 pc = .ok (.if_icmp .le off, 3)) (ht : (pc : Int) + off = (tgt : Int)) (ha : a < 2 ^ 31) (hb : b < 2 ^ 31) (kt : a ≤ b → Ex mi R Z X kc ks tgt ls st sh Mr M) (kf : ¬ a ≤ b → Ex mi R Z X kc ks (pc + 3) ls st sh Mr M) : Ex mi R Z X kc ks pc ls (.int (nI b) :: .int (nI a) :: st) sh Mr M := ex_icmp_le d ht (fun h => kt ((nI_leI ha hb).mp h)) (fun h => kf (fun q => h ((nI_leI ha hb).mpr q)))
theorem nI_z {a : Nat} (h : a < 2 ^ 31) : nI a = 0 ↔ a = 0 := by rw [← nI_0]; exact nI_eq h (by decide)
theorem ex_if_eqN {a : Nat} {off : Int} {tgt : Nat} (d : decode mi.2.1 pc = .ok (.ifCond .eq off, 3)) (ht : (pc : Int) + off = (tgt : Int)) (ha : a < 2 ^ 31) (kt : a = 0 → Ex mi R Z X kc ks tgt ls st sh Mr M) (kf : ¬ a = 0 → Ex mi R Z X kc ks (pc + 3) ls st sh Mr M) : Ex mi R Z X kc ks pc ls (.int (nI a) :: st) sh Mr M := ex_if_eq d ht (fun h => kt ((nI_z ha).mp h)) (fun h => kf (fun q => h ((nI_z ha).mpr q)))
theorem ex_if_neN {a : Nat} {off : Int} {tgt : Nat} (d : decode mi.2.1 pc = .ok (.ifCond .ne off, 3)) (ht : (pc : Int) + off = (tgt : Int)) (ha : a < 2 ^ 31) (kt : ¬ a = 0 → Ex mi R Z X kc ks tgt ls st sh Mr M) (kf : a = 0 → Ex mi R Z X kc ks (pc + 3) ls st sh Mr M) : Ex mi R Z X kc ks pc ls (.int (nI a) :: st) sh Mr M := ex_if_ne d ht (fun h => kt (fun q => h ((nI_z ha).mpr q))) (fun h => kf ((nI_z ha).mp h))
end EX3
def MD (sh : Sh) (Mr : MR) (B : Nat) : Prop := sh[B]? = some (12, 0) ∧ Mr B 1 = some (B + 1) ∧ sh[B + 1]? = some (0, 18) ∧ Mr B 3 = some (B + 2) ∧ sh[B + 2]? = some (0, 10) ∧ Mr B 4 = some (B + 3) ∧ sh[B + 3]? = some (0, 4) ∧ Mr B 6 = some (B + 4) ∧ sh[B + 4]? = some (0, 20) ∧ Mr B 8 = some (B + 5) ∧ sh[B + 5]? = some (0, 160) ∧ Mr B 10 = some (B + 6) ∧ sh[B + 6]? = some (0, 40) ∧ Mr B 12 = some (B + 7) ∧ sh[B + 7]? = some (0, 16) ∧ Mr B 13 = some (B + 8) ∧ sh[B + 8]? = some (0, 200) ∧ Mr B 16 = some (B + 9) ∧ sh[B + 9]? = some (0, 5) ∧ Mr B 18 = some (B + 10) ∧ sh[B + 10]? = some (0, 18) ∧ Mr B 20 = some (B + 11) ∧ sh[B + 11]? = some (0, 10) ∧ Mr B 21 = some (B + 12) ∧ sh[B + 12]? = some (0, 4) ∧ Mr B 23 = some (B + 13) ∧ sh[B + 13]? = some (0, 20) ∧ Mr B 24 = some (B + 14) ∧ sh[B + 14]? = some (0, 20) ∧ Mr B 26 = some (B + 15) ∧ sh[B + 15]? = some (0, 24) ∧ Mr B 27 = some (B + 16) ∧ sh[B + 16]? = some (0, 24) ∧ Mr B 28 = some (B + 17) ∧ sh[B + 17]? = some (0, 6) ∧ Mr B 29 = some (B + 18) ∧ sh[B + 18]? = some (0, 6)
theorem md_sh {sh : Sh} {Mr : MR} {B : Nat} (h : MD sh Mr B) : sh[B]? = some (12, 0) := h.1
theorem md_r1 {sh : Sh} {Mr : MR} {B : Nat} (h : MD sh Mr B) : Mr B 1 = some (B + 1) := h.2.1
theorem md_a1 {sh : Sh} {Mr : MR} {B : Nat} (h : MD sh Mr B) : sh[B + 1]? = some (0, 18) := h.2.2.1
theorem md_r3 {sh : Sh} {Mr : MR} {B : Nat} (h : MD sh Mr B) : Mr B 3 = some (B + 2) := h.2.2.2.1
theorem md_a3 {sh : Sh} {Mr : MR} {B : Nat} (h : MD sh Mr B) : sh[B + 2]? = some (0, 10) := h.2.2.2.2.1
theorem md_r4 {sh : Sh} {Mr : MR} {B : Nat} (h : MD sh Mr B) : Mr B 4 = some (B + 3) := h.2.2.2.2.2.1
theorem md_a4 {sh : Sh} {Mr : MR} {B : Nat} (h : MD sh Mr B) : sh[B + 3]? = some (0, 4) := h.2.2.2.2.2.2.1
theorem md_r6 {sh : Sh} {Mr : MR} {B : Nat} (h : MD sh Mr B) : Mr B 6 = some (B + 4) := h.2.2.2.2.2.2.2.1
theorem md_a6 {sh : Sh} {Mr : MR} {B : Nat} (h : MD sh Mr B) : sh[B + 4]? = some (0, 20) := h.2.2.2.2.2.2.2.2.1
theorem md_r8 {sh : Sh} {Mr : MR} {B : Nat} (h : MD sh Mr B) : Mr B 8 = some (B + 5) := h.2.2.2.2.2.2.2.2.2.1
theorem md_a8 {sh : Sh} {Mr : MR} {B : Nat} (h : MD sh Mr B) : sh[B + 5]? = some (0, 160) := h.2.2.2.2.2.2.2.2.2.2.1
theorem md_r10 {sh : Sh} {Mr : MR} {B : Nat} (h : MD sh Mr B) : Mr B 10 = some (B + 6) := h.2.2.2.2.2.2.2.2.2.2.2.1
theorem md_a10 {sh : Sh} {Mr : MR} {B : Nat} (h : MD sh Mr B) : sh[B + 6]? = some (0, 40) := h.2.2.2.2.2.2.2.2.2.2.2.2.1
theorem md_r12 {sh : Sh} {Mr : MR} {B : Nat} (h : MD sh Mr B) : Mr B 12 = some (B + 7) := h.2.2.2.2.2.2.2.2.2.2.2.2.2.1
theorem md_a12 {sh : Sh} {Mr : MR} {B : Nat} (h : MD sh Mr B) : sh[B + 7]? = some (0, 16) := h.2.2.2.2.2.2.2.2.2.2.2.2.2.2.1
theorem md_r13 {sh : Sh} {Mr : MR} {B : Nat} (h : MD sh Mr B) : Mr B 13 = some (B + 8) := h.2.2.2.2.2.2.2.2.2.2.2.2.2.2.2.1
theorem md_a13 {sh : Sh} {Mr : MR} {B : Nat} (h : MD sh Mr B) : sh[B + 8]? = some (0, 200) := h.2.2.2.2.2.2.2.2.2.2.2.2.2.2.2.2.1
theorem md_r16 {sh : Sh} {Mr : MR} {B : Nat} (h : MD sh Mr B) : Mr B 16 = some (B + 9) := h.2.2.2.2.2.2.2.2.2.2.2.2.2.2.2.2.2.1
theorem md_a16 {sh : Sh} {Mr : MR} {B : Nat} (h : MD sh Mr B) : sh[B + 9]? = some (0, 5) := h.2.2.2.2.2.2.2.2.2.2.2.2.2.2.2.2.2.2.1
theorem md_r18 {sh : Sh} {Mr : MR} {B : Nat} (h : MD sh Mr B) : Mr B 18 = some (B + 10) := h.2.2.2.2.2.2.2.2.2.2.2.2.2.2.2.2.2.2.2.1
theorem md_a18 {sh : Sh} {Mr : MR} {B : Nat} (h : MD sh Mr B) : sh[B + 10]? = some (0, 18) := h.2.2.2.2.2.2.2.2.2.2.2.2.2.2.2.2.2.2.2.2.1
theorem md_r20 {sh : Sh} {Mr : MR} {B : Nat} (h : MD sh Mr B) : Mr B 20 = some (B + 11) := h.2.2.2.2.2.2.2.2.2.2.2.2.2.2.2.2.2.2.2.2.2.1
theorem md_a20 {sh : Sh} {Mr : MR} {B : Nat} (h : MD sh Mr B) : sh[B + 11]? = some (0, 10) := h.2.2.2.2.2.2.2.2.2.2.2.2.2.2.2.2.2.2.2.2.2.2.1
theorem md_r21 {sh : Sh} {Mr : MR} {B : Nat} (h : MD sh Mr B) : Mr B 21 = some (B + 12) := h.2.2.2.2.2.2.2.2.2.2.2.2.2.2.2.2.2.2.2.2.2.2.2.1
theorem md_a21 {sh : Sh} {Mr : MR} {B : Nat} (h : MD sh Mr B) : sh[B + 12]? = some (0, 4) := h.2.2.2.2.2.2.2.2.2.2.2.2.2.2.2.2.2.2.2.2.2.2.2.2.1
theorem md_r23 {sh : Sh} {Mr : MR} {B : Nat} (h : MD sh Mr B) : Mr B 23 = some (B + 13) := h.2.2.2.2.2.2.2.2.2.2.2.2.2.2.2.2.2.2.2.2.2.2.2.2.2.1
theorem md_a23 {sh : Sh} {Mr : MR} {B : Nat} (h : MD sh Mr B) : sh[B + 13]? = some (0, 20) := h.2.2.2.2.2.2.2.2.2.2.2.2.2.2.2.2.2.2.2.2.2.2.2.2.2.2.1
theorem md_r24 {sh : Sh} {Mr : MR} {B : Nat} (h : MD sh Mr B) : Mr B 24 = some (B + 14) := h.2.2.2.2.2.2.2.2.2.2.2.2.2.2.2.2.2.2.2.2.2.2.2.2.2.2.2.1
theorem md_a24 {sh : Sh} {Mr : MR} {B : Nat} (h : MD sh Mr B) : sh[B + 14]? = some (0, 20) := h.2.2.2.2.2.2.2.2.2.2.2.2.2.2.2.2.2.2.2.2.2.2.2.2.2.2.2.2.1
theorem md_r26 {sh : Sh} {Mr : MR} {B : Nat} (h : MD sh Mr B) : Mr B 26 = some (B + 15) := h.2.2.2.2.2.2.2.2.2.2.2.2.2.2.2.2.2.2.2.2.2.2.2.2.2.2.2.2.2.1
theorem md_a26 {sh : Sh} {Mr : MR} {B : Nat} (h : MD sh Mr B) : sh[B + 15]? = some (0, 24) := h.2.2.2.2.2.2.2.2.2.2.2.2.2.2.2.2.2.2.2.2.2.2.2.2.2.2.2.2.2.2.1
theorem md_r27 {sh : Sh} {Mr : MR} {B : Nat} (h : MD sh Mr B) : Mr B 27 = some (B + 16) := h.2.2.2.2.2.2.2.2.2.2.2.2.2.2.2.2.2.2.2.2.2.2.2.2.2.2.2.2.2.2.2.1
theorem md_a27 {sh : Sh} {Mr : MR} {B : Nat} (h : MD sh Mr B) : sh[B + 16]? = some (0, 24) := h.2.2.2.2.2.2.2.2.2.2.2.2.2.2.2.2.2.2.2.2.2.2.2.2.2.2.2.2.2.2.2.2.1
theorem md_r28 {sh : Sh} {Mr : MR} {B : Nat} (h : MD sh Mr B) : Mr B 28 = some (B + 17) := h.2.2.2.2.2.2.2.2.2.2.2.2.2.2.2.2.2.2.2.2.2.2.2.2.2.2.2.2.2.2.2.2.2.1
theorem md_a28 {sh : Sh} {Mr : MR} {B : Nat} (h : MD sh Mr B) : sh[B + 17]? = some (0, 6) := h.2.2.2.2.2.2.2.2.2.2.2.2.2.2.2.2.2.2.2.2.2.2.2.2.2.2.2.2.2.2.2.2.2.2.1
theorem md_r29 {sh : Sh} {Mr : MR} {B : Nat} (h : MD sh Mr B) : Mr B 29 = some (B + 18) := h.2.2.2.2.2.2.2.2.2.2.2.2.2.2.2.2.2.2.2.2.2.2.2.2.2.2.2.2.2.2.2.2.2.2.2.1
theorem md_a29 {sh : Sh} {Mr : MR} {B : Nat} (h : MD sh Mr B) : sh[B + 18]? = some (0, 6) := h.2.2.2.2.2.2.2.2.2.2.2.2.2.2.2.2.2.2.2.2.2.2.2.2.2.2.2.2.2.2.2.2.2.2.2.2
def LA (sh : Sh) (Mr : MR) (L : Nat) : Prop := sh[L]? = some (4, 0) ∧ Mr L 1 = some (L + 1) ∧ sh[L + 1]? = some (0, 6) ∧ Mr L 2 = some (L + 2) ∧ sh[L + 2]? = some (0, 6) ∧ Mr L 3 = some (L + 3) ∧ sh[L + 3]? = some (0, 6) ∧ Mr L 4 = some (L + 4) ∧ sh[L + 4]? = some (0, 6) ∧ Mr L 5 = some (L + 5) ∧ sh[L + 5]? = some (0, 6) ∧ Mr L 7 = some (L + 6) ∧ sh[L + 6]? = some (0, 5) ∧ Mr L 8 = some (L + 7) ∧ sh[L + 7]? = some (0, 5) ∧ Mr L 9 = some (L + 8) ∧ sh[L + 8]? = some (0, 5) ∧ Mr L 10 = some (L + 9) ∧ sh[L + 9]? = some (0, 4)
theorem la_sh {sh : Sh} {Mr : MR} {L : Nat} (h : LA sh Mr L) : sh[L]? = some (4, 0) := h.1
theorem la_r1 {sh : Sh} {Mr : MR} {L : Nat} (h : LA sh Mr L) : Mr L 1 = some (L + 1) := h.2.1
theorem la_a1 {sh : Sh} {Mr : MR} {L : Nat} (h : LA sh Mr L) : sh[L + 1]? = some (0, 6) := h.2.2.1
theorem la_r2 {sh : Sh} {Mr : MR} {L : Nat} (h : LA sh Mr L) : Mr L 2 = some (L + 2) := h.2.2.2.1
theorem la_a2 {sh : Sh} {Mr : MR} {L : Nat} (h : LA sh Mr L) : sh[L + 2]? = some (0, 6) := h.2.2.2.2.1
theorem la_r3 {sh : Sh} {Mr : MR} {L : Nat} (h : LA sh Mr L) : Mr L 3 = some (L + 3) := h.2.2.2.2.2.1
theorem la_a3 {sh : Sh} {Mr : MR} {L : Nat} (h : LA sh Mr L) : sh[L + 3]? = some (0, 6) := h.2.2.2.2.2.2.1
theorem la_r4 {sh : Sh} {Mr : MR} {L : Nat} (h : LA sh Mr L) : Mr L 4 = some (L + 4) := h.2.2.2.2.2.2.2.1
theorem la_a4 {sh : Sh} {Mr : MR} {L : Nat} (h : LA sh Mr L) : sh[L + 4]? = some (0, 6) := h.2.2.2.2.2.2.2.2.1
theorem la_r5 {sh : Sh} {Mr : MR} {L : Nat} (h : LA sh Mr L) : Mr L 5 = some (L + 5) := h.2.2.2.2.2.2.2.2.2.1
theorem la_a5 {sh : Sh} {Mr : MR} {L : Nat} (h : LA sh Mr L) : sh[L + 5]? = some (0, 6) := h.2.2.2.2.2.2.2.2.2.2.1
theorem la_r7 {sh : Sh} {Mr : MR} {L : Nat} (h : LA sh Mr L) : Mr L 7 = some (L + 6) := h.2.2.2.2.2.2.2.2.2.2.2.1
theorem la_a7 {sh : Sh} {Mr : MR} {L : Nat} (h : LA sh Mr L) : sh[L + 6]? = some (0, 5) := h.2.2.2.2.2.2.2.2.2.2.2.2.1
theorem la_r8 {sh : Sh} {Mr : MR} {L : Nat} (h : LA sh Mr L) : Mr L 8 = some (L + 7) := h.2.2.2.2.2.2.2.2.2.2.2.2.2.1
theorem la_a8 {sh : Sh} {Mr : MR} {L : Nat} (h : LA sh Mr L) : sh[L + 7]? = some (0, 5) := h.2.2.2.2.2.2.2.2.2.2.2.2.2.2.1
theorem la_r9 {sh : Sh} {Mr : MR} {L : Nat} (h : LA sh Mr L) : Mr L 9 = some (L + 8) := h.2.2.2.2.2.2.2.2.2.2.2.2.2.2.2.1
theorem la_a9 {sh : Sh} {Mr : MR} {L : Nat} (h : LA sh Mr L) : sh[L + 8]? = some (0, 5) := h.2.2.2.2.2.2.2.2.2.2.2.2.2.2.2.2.1
theorem la_r10 {sh : Sh} {Mr : MR} {L : Nat} (h : LA sh Mr L) : Mr L 10 = some (L + 9) := h.2.2.2.2.2.2.2.2.2.2.2.2.2.2.2.2.2.1
theorem la_a10 {sh : Sh} {Mr : MR} {L : Nat} (h : LA sh Mr L) : sh[L + 9]? = some (0, 4) := h.2.2.2.2.2.2.2.2.2.2.2.2.2.2.2.2.2.2
def SA (sh : Sh) (Mr : MR) (S : Nat) : Prop := sh[S]? = some (10, 0) ∧ Mr S 1 = some (S + 1) ∧ sh[S + 1]? = some (0, 6) ∧ Mr S 2 = some (S + 2) ∧ sh[S + 2]? = some (0, 6) ∧ Mr S 3 = some (S + 3) ∧ sh[S + 3]? = some (0, 6)
theorem sa_sh {sh : Sh} {Mr : MR} {S : Nat} (h : SA sh Mr S) : sh[S]? = some (10, 0) := h.1
theorem sa_r1 {sh : Sh} {Mr : MR} {S : Nat} (h : SA sh Mr S) : Mr S 1 = some (S + 1) := h.2.1
theorem sa_a1 {sh : Sh} {Mr : MR} {S : Nat} (h : SA sh Mr S) : sh[S + 1]? = some (0, 6) := h.2.2.1
theorem sa_r2 {sh : Sh} {Mr : MR} {S : Nat} (h : SA sh Mr S) : Mr S 2 = some (S + 2) := h.2.2.2.1
theorem sa_a2 {sh : Sh} {Mr : MR} {S : Nat} (h : SA sh Mr S) : sh[S + 2]? = some (0, 6) := h.2.2.2.2.1
theorem sa_r3 {sh : Sh} {Mr : MR} {S : Nat} (h : SA sh Mr S) : Mr S 3 = some (S + 3) := h.2.2.2.2.2.1
theorem sa_a3 {sh : Sh} {Mr : MR} {S : Nat} (h : SA sh Mr S) : sh[S + 3]? = some (0, 6) := h.2.2.2.2.2.2
end
section
/-! ===== Int32 by its bits: bt x i ===== -/
def bt (x : Int32) (i : Nat) : Bool := x.toBitVec.getLsbD i
theorem b_ext {x y : Int32} (h : ∀ i, i < 32 → bt x i = bt y i) : x = y := Int32.toBitVec_inj.mp (BitVec.eq_of_getLsbD_eq (fun i hi => h i hi))
theorem b_or (x y : Int32) (i : Nat) : bt (x ||| y) i = (bt x i || bt y i) := by unfold bt; rw [Int32.toBitVec_or, BitVec.getLsbD_or]
theorem b_and (x y : Int32) (i : Nat) : bt (x &&& y) i = (bt x i && bt y i) := by unfold bt; rw [Int32.toBitVec_and, BitVec.getLsbD_and]
theorem b_xor (x y : Int32) (i : Nat) : bt (x ^^^ y) i = (bt x i ^^ bt y i) := by unfold bt; rw [Int32.toBitVec_xor, BitVec.getLsbD_xor]
theorem b_big {x : Int32} {i : Nat} (h : 32 ≤ i) : bt x i = false := BitVec.getLsbD_of_ge _ _ h
theorem b_255 (i : Nat) : bt 255 i = decide (i < 8) := by
  rcases Nat.lt_or_ge i 32 with h | h
  · exact (by decide +kernel : ∀ i, i < 32 → bt 255 i = decide (i < 8)) i h
  · rw [b_big h, decide_eq_false (by omega)]
theorem b_65535 (i : Nat) : bt 65535 i = decide (i < 16) := by
  rcases Nat.lt_or_ge i 32 with h | h
  · exact (by decide +kernel : ∀ i, i < 32 → bt 65535 i = decide (i < 16)) i h
  · rw [b_big h, decide_eq_false (by omega)]
theorem b_m1 : ∀ i, i < 32 → bt (-1) i = true := by decide +kernel
theorem b_0 (i : Nat) : bt 0 i = false := BitVec.getLsbD_zero
theorem s_l : ∀ n, n < 32 → ((nI n &&& 31).toBitVec.smod 32).toNat = n := by decide +kernel
theorem s_u : ∀ n, n < 32 → (((nI n).toUInt32 &&& Int32.toUInt32 31).toBitVec % 32).toNat = n := by decide +kernel
theorem b_shl (n : Nat) (hn : n < 32) (x : Int32) {i : Nat} (hi : i < 32) : bt (x <<< (nI n &&& 31)) i = (decide (n ≤ i) && bt x (i - n)) := by
  unfold bt
  rw [Int32.toBitVec_shiftLeft]
  show (x.toBitVec <<< ((nI n &&& 31).toBitVec.smod 32).toNat).getLsbD i = _
  rw [s_l n hn, BitVec.getLsbD_shiftLeft]
  rcases Nat.lt_or_ge i n with h | h
  · simp [h, Nat.not_le.mpr h]
  · simp [hi, h, Nat.not_lt.mpr h]
theorem b_ushr (n : Nat) (hn : n < 32) (x : Int32) (i : Nat) : bt ((x.toUInt32 >>> ((nI n).toUInt32 &&& Int32.toUInt32 31)).toInt32) i = bt x (n + i) := by
  show (x.toUInt32 >>> ((nI n).toUInt32 &&& Int32.toUInt32 31)).toBitVec.getLsbD i = x.toUInt32.toBitVec.getLsbD (n + i)
  rw [UInt32.toBitVec_shiftRight]
  show (x.toUInt32.toBitVec >>> (((nI n).toUInt32 &&& Int32.toUInt32 31).toBitVec % 32).toNat).getLsbD i = _
  rw [s_u n hn, BitVec.getLsbD_ushiftRight]
theorem b_sshr (n : Nat) (hn : n < 32) (x : Int32) {i : Nat} (hi : i < 32) : bt (x >>> (nI n &&& 31)) i = if n + i < 32 then bt x (n + i) else bt x 31 := by
  unfold bt
  rw [Int32.toBitVec_shiftRight]
  show (x.toBitVec.sshiftRight ((nI n &&& 31).toBitVec.smod 32).toNat).getLsbD i = _
  rw [s_l n hn, BitVec.getLsbD_sshiftRight, BitVec.msb_eq_getLsbD_last]
  simp [hi]

/-! one bit, sets of bits, counts -/
theorem bt_nI (n i : Nat) (hi : i < 32) : bt (nI n) i = n.testBit i := by
  show (BitVec.ofNat 32 n).getLsbD i = n.testBit i
  rw [BitVec.getLsbD_ofNat]; simp [hi]
theorem bt_1 {i : Nat} (hi : i < 32) : bt (nI 1) i = decide (i = 0) := by
  rw [bt_nI 1 i hi]
  exact (by decide +kernel : ∀ i, i < 32 → Nat.testBit 1 i = decide (i = 0)) i hi
theorem bit1 (x : Int32) {j : Nat} (hj : j < 32) : (x >>> (nI j &&& 31)) &&& nI 1 = bI (bt x j) := by
  apply b_ext
  intro i hi
  rw [b_and, b_sshr j hj x hi, bt_1 hi]
  by_cases h : i = 0
  · subst h
    simp only [Nat.add_zero, hj, if_true, decide_true, Bool.and_true]
    cases bt x j <;> decide
  · simp only [h, decide_false, Bool.and_false]
    have h2 : bt (bI (bt x j)) i = false := by
      cases bt x j
      · rw [bI_f, nI_0]; exact b_0 i
      · rw [bI_t, bt_1 hi]; simp [h]
    rw [h2]
theorem one_shl {j : Nat} (hj : j < 32) {i : Nat} (hi : i < 32) : bt (nI 1 <<< (nI j &&& 31)) i = decide (i = j) := by
  rw [b_shl j hj _ hi]
  by_cases h : j ≤ i
  · rw [bt_1 (by omega)]
    by_cases h2 : i = j
    · subst h2; simp
    · have : ¬ i - j = 0 := by omega
      simp [h2, this]
  · have : ¬ i = j := by omega
    simp [h, this]
theorem bt_not (x : Int32) {i : Nat} (hi : i < 32) : bt (x ^^^ (-1)) i = !bt x i := by
  rw [b_xor, b_m1 i hi]; simp
/-- the set of those k < n of which p holds, as bits -/
def bset (p : Nat → Bool) : Nat → Int32
  | 0 => nI 0
  | n + 1 => if p n then bset p n ||| (nI 1 <<< (nI n &&& 31)) else bset p n
theorem bt_bset (p : Nat → Bool) : ∀ (n : Nat), n ≤ 32 → ∀ i, i < 32 → bt (bset p n) i = (decide (i < n) && p i)
  | 0, _, i, _ => by rw [bset, nI_0, b_0]; simp
  | n + 1, hn, i, hi => by
    have ih := bt_bset p n (by omega) i hi
    unfold bset
    by_cases hp : p n = true
    · rw [if_pos hp, b_or, ih, one_shl (by omega) hi]
      by_cases h : i = n
      · subst h; simp [hp]
      · have e : decide (i < n + 1) = decide (i < n) := by apply decide_eq_decide.mpr; omega
        simp [h, e]
    · rw [if_neg hp, ih]
      by_cases h : i = n
      · subst h; simp [hp]
      · have e : decide (i < n + 1) = decide (i < n) := by apply decide_eq_decide.mpr; omega
        rw [e]
theorem bset_congr {p q : Nat → Bool} : ∀ (n : Nat), (∀ i, i < n → p i = q i) → bset p n = bset q n
  | 0, _ => rfl
  | n + 1, h => by unfold bset; rw [bset_congr n (fun i hi => h i (by omega)), h n (by omega)]
/-- a row's step: the bit comes, or nothing (0) -/
theorem bset_or (p : Nat → Bool) (n : Nat) : bset p n ||| (if p n then nI 1 <<< (nI n &&& 31) else nI 0) = bset p (n + 1) := by
  rw [show bset p (n + 1) = if p n then bset p n ||| (nI 1 <<< (nI n &&& 31)) else bset p n from rfl]
  by_cases h : p n = true
  · rw [if_pos h, if_pos h]
  · rw [if_neg h, if_neg h, nI_0]
    apply b_ext
    intro i hi
    rw [b_or, b_0]; simp
/-- how many k < n have p -/
def cnt (p : Nat → Bool) : Nat → Nat
  | 0 => 0
  | n + 1 => cnt p n + (if p n then 1 else 0)
theorem cnt_le (p : Nat → Bool) : ∀ n, cnt p n ≤ n
  | 0 => Nat.le_refl 0
  | n + 1 => by have := cnt_le p n; unfold cnt; split <;> omega
theorem cnt_congr {p q : Nat → Bool} : ∀ (n : Nat), (∀ i, i < n → p i = q i) → cnt p n = cnt q n
  | 0, _ => rfl
  | n + 1, h => by unfold cnt; rw [cnt_congr n (fun i hi => h i (by omega)), h n (by omega)]
theorem cnt_more {p : Nat → Bool} {a : Nat} : ∀ b, a ≤ b → (∀ i, a ≤ i → i < b → p i = false) → cnt p b = cnt p a
  | 0, h, _ => by have : a = 0 := by omega
                  subst this; rfl
  | b + 1, h, hp => by
    by_cases e : a = b + 1
    · subst e; rfl
    · have ih := cnt_more b (by omega) (fun i h1 h2 => hp i h1 (by omega))
      rw [show cnt p (b + 1) = cnt p b + (if p b then 1 else 0) from rfl, ih, hp b (by omega) (by omega)]; simp
/-- the first k < n that has p -/
def fst (p : Nat → Bool) : Nat → Option Nat
  | 0 => none
  | n + 1 => match fst p n with
    | some k => some k
    | none => if p n then some n else none
theorem fst_some {p : Nat → Bool} : ∀ {n k : Nat}, fst p n = some k → k < n ∧ p k = true ∧ ∀ j, j < k → p j = false
  | 0, k, h => by cases h
  | n + 1, k, h => by
    unfold fst at h
    cases hf : fst p n with
    | some m =>
      rw [hf] at h
      cases h
      obtain ⟨h1, h2, h3⟩ := fst_some hf
      exact ⟨by omega, h2, h3⟩
    | none =>
      rw [hf] at h
      by_cases hp : p n = true
      · simp only [hp, if_true] at h
        cases h
        exact ⟨by omega, hp, fun j hj => (fst_none hf) j hj⟩
      · simp [hp] at h
where fst_none {p : Nat → Bool} : ∀ {n : Nat}, fst p n = none → ∀ j, j < n → p j = false
  | 0, _, j, hj => by omega
  | n + 1, h, j, hj => by
    unfold fst at h
    cases hf : fst p n with
    | some m => rw [hf] at h; cases h
    | none =>
      rw [hf] at h
      by_cases hp : p n = true
      · simp [hp] at h
      · by_cases hjn : j = n
        · subst hjn; simpa using hp
        · exact fst_none hf j (by omega)
theorem fst_none {p : Nat → Bool} {n : Nat} (h : fst p n = none) : ∀ j, j < n → p j = false := fst_some.fst_none h
theorem fst_eq {p : Nat → Bool} {n k : Nat} (h1 : k < n) (h2 : p k = true) (h3 : ∀ j, j < k → p j = false) : fst p n = some k := by
  cases hf : fst p n with
  | none => rw [fst_none hf k h1] at h2; cases h2
  | some m =>
    obtain ⟨a, b, c⟩ := fst_some hf
    rcases Nat.lt_trichotomy m k with h | h | h
    · rw [h3 m h] at b; cases b
    · rw [h]
    · rw [c k h] at h2; cases h2
theorem fst_no {p : Nat → Bool} {n : Nat} (h : ∀ j, j < n → p j = false) : fst p n = none := by
  cases hf : fst p n with
  | none => rfl
  | some m =>
    obtain ⟨a, b, c⟩ := fst_some hf
    rw [h m a] at b; cases b
theorem fst_congr {p q : Nat → Bool} {n : Nat} (h : ∀ i, i < n → p i = q i) : fst p n = fst q n := by
  cases hf : fst q n with
  | none => exact fst_no (fun j hj => by rw [h j hj]; exact fst_none hf j hj)
  | some m =>
    obtain ⟨a, b, c⟩ := fst_some hf
    exact fst_eq a (by rw [h m a]; exact b) (fun j hj => by rw [h j (by omega)]; exact c j hj)
/-- all, any k < n -/
def allb (p : Nat → Bool) : Nat → Bool
  | 0 => true
  | n + 1 => allb p n && p n
def anyb (p : Nat → Bool) : Nat → Bool
  | 0 => false
  | n + 1 => anyb p n || p n
theorem allb_iff {p : Nat → Bool} : ∀ {n : Nat}, allb p n = true ↔ ∀ i, i < n → p i = true
  | 0 => by simp [allb]
  | n + 1 => by
    unfold allb
    rw [Bool.and_eq_true, allb_iff]
    refine ⟨fun h i hi => ?_, fun h => ⟨fun i hi => h i (by omega), h n (by omega)⟩⟩
    by_cases e : i = n
    · subst e; exact h.2
    · exact h.1 i (by omega)
theorem anyb_iff {p : Nat → Bool} : ∀ {n : Nat}, anyb p n = true ↔ ∃ i, i < n ∧ p i = true
  | 0 => by simp [anyb]
  | n + 1 => by
    unfold anyb
    rw [Bool.or_eq_true, anyb_iff]
    refine ⟨fun h => ?_, fun ⟨i, hi, hp⟩ => ?_⟩
    · rcases h with ⟨i, hi, hp⟩ | h
      · exact ⟨i, by omega, hp⟩
      · exact ⟨n, by omega, h⟩
    · by_cases e : i = n
      · subst e; exact Or.inr hp
      · exact Or.inl ⟨i, by omega, hp⟩
/-- a ≤ v ≤ b -/
def inB (v a b : Int32) : Bool := decide (a ≤ v) && decide (v ≤ b)
theorem i_nlt {x y : Int32} (h : ¬ x < y) : y ≤ x := Int32.not_lt.mp h
theorem i_lt {x y : Int32} (h : ¬ x ≤ y) : y < x := Int32.not_le.mp h
theorem i_nle {x y : Int32} (h : x < y) : ¬ y ≤ x := Int32.not_le.mpr h
theorem bI_1 {b : Bool} : bI b = nI 1 ↔ b = true := by cases b <;> decide
theorem bI_n1 {b : Bool} (h : ¬ bI b = nI 1) : nI 0 = bI b := by cases b; rfl; exact absurd rfl h
theorem bI_tt {b : Bool} (h : b = true) : nI 1 = bI b := by subst h; rfl
theorem bI_ff {b : Bool} (h : b = false) : nI 0 = bI b := by subst h; rfl
theorem nI_cnt (p : Nat → Bool) (n : Nat) : nI (cnt p n) + bI (p n) = nI (cnt p (n + 1)) := by
  rw [show cnt p (n + 1) = cnt p n + (if p n then 1 else 0) from rfl, ← nI_add]
  cases p n <;> rfl
theorem i_lt_iff {x y : Int32} : x < y ↔ x.toInt < y.toInt := Int32.lt_iff_toInt_lt
theorem i_le_iff {x y : Int32} : x ≤ y ↔ x.toInt ≤ y.toInt := Int32.le_iff_toInt_le
/-- an int in a range of naturals -/
theorem inB_nat {v : Int32} {b : Nat} (hb : b < 2 ^ 31) : inB v (nI 0) (nI b) = true → ∃ j, j ≤ b ∧ v = nI j := by
  intro h
  simp only [inB, Bool.and_eq_true, decide_eq_true_eq] at h
  rw [i_le_iff, i_le_iff, nI_toInt hb, nI_0] at h
  obtain ⟨j, hj, rfl⟩ := nI_of (x := v) (by rw [i_lt_iff]; have := h.1; simp at this ⊢; omega)
  refine ⟨j, ?_, rfl⟩
  rw [nI_toInt hj] at h
  omega
theorem inB_nI {j a b : Nat} (hj : j < 2 ^ 31) (ha : a < 2 ^ 31) (hb : b < 2 ^ 31) : inB (nI j) (nI a) (nI b) = (decide (a ≤ j) && decide (j ≤ b)) := by
  simp only [inB, nI_leI ha hj, nI_leI hj hb]
/-- 0 ≤ v ≤ n - 1 -/
theorem inB_lt {v : Int32} {n : Nat} (hn : n < 2 ^ 31) : inB v (nI 0) (nI n - nI 1) = true ↔ ∃ j, j < n ∧ v = nI j := by
  by_cases h0 : n = 0
  · subst h0
    constructor
    · intro h
      simp only [inB, Bool.and_eq_true, decide_eq_true_eq] at h
      exfalso
      have h1 := i_le_iff.mp h.1
      have h2 := i_le_iff.mp h.2
      rw [show (nI 0 - nI 1).toInt = -1 by decide] at h2
      rw [show (nI 0).toInt = 0 by decide] at h1
      omega
    · rintro ⟨j, hj, _⟩; omega
  · rw [pk_sub (show 1 ≤ n by omega)]
    constructor
    · intro h
      obtain ⟨j, hj, e⟩ := inB_nat (by omega) h
      exact ⟨j, by omega, e⟩
    · rintro ⟨j, hj, rfl⟩
      rw [inB_nI (by omega) (by omega) (by omega)]
      simp; omega
theorem inB_no {v : Int32} {n : Nat} (hn : n < 2 ^ 31) (h : inB v (nI 0) (nI n - nI 1) = false) : ∀ j, j < n → v ≠ nI j := by
  intro j hj e
  have := (inB_lt hn).mpr ⟨j, hj, e⟩
  rw [h] at this; cases this
end
section
/-! the light: who shines where -/
abbrev Td : Type := Nat × (Nat → Nat) × (Nat → Int32) × (Nat → Nat)
abbrev Pl : Type := Nat × (Nat → Nat) × (Nat → Nat)
def bh (a s : Nat) : Nat := (s + 24 - a) % 24
def proud (t : Td) (i : Nat) : Bool := allb (fun j => decide (j = i) || (decide (¬ t.2.1 j = t.2.1 i) || decide (t.2.2.1 j ≤ t.2.2.1 i))) t.1
def kOK (t : Td) (night i b : Nat) : Bool := match t.2.2.2 i with
  | 0 => true
  | 1 => decide (night % 2 = 0)
  | 2 => decide ((b % 2 = 0) ↔ (night % 2 = 0))
  | _ => proud t i
def shn (t : Td) (p : Pl) (i s : Nat) : Bool := decide (bh (p.2.1 i) s < p.2.2 i) && kOK t p.1 i (bh (p.2.1 i) s)
def who (t : Td) (p : Pl) (lit : Nat → Bool) (s : Nat) : Option Nat := fst (fun i => lit i && shn t p i s) t.1
def clo (t : Td) (o : Option Nat) (smk : Bool) : Nat := match o with
  | none => 4
  | some i => if smk then 4 else t.2.1 i
def cof (t : Td) (p : Pl) (lit smk : Nat → Bool) (s : Nat) : Nat := clo t (who t p lit s) (smk s)
def wI (o : Option Nat) : Int32 := match o with
  | none => -1
  | some i => nI i
def wN (o : Option Nat) : Int32 := match o with
  | none => -4
  | some i => nI i
/-- the first k with i ≤ k < n that has p -/
def lst (p : Nat → Bool) (i n : Nat) : Option Nat := fst (fun k => decide (i ≤ k) && p k) n
theorem lst_n (p : Nat → Bool) (n : Nat) : lst p n n = none := by
  refine fst_no (fun j hj => ?_)
  simp [show ¬ n ≤ j by omega]
theorem lst_0 (p : Nat → Bool) (n : Nat) : lst p 0 n = fst p n := fst_congr (fun j _ => by simp)
theorem lst_s {p : Nat → Bool} {i n : Nat} (hi : i < n) : lst p i n = if p i then some i else lst p (i + 1) n := by
  by_cases hp : p i = true
  · rw [if_pos hp]
    refine fst_eq hi (by simp [hp]) (fun j hj => ?_)
    simp [show ¬ i ≤ j by omega]
  · rw [if_neg hp]
    refine fst_congr (fun j _ => ?_)
    by_cases h : j = i
    · subst h; simp [hp]
    · have : decide (i ≤ j) = decide (i + 1 ≤ j) := by apply decide_eq_decide.mpr; omega
      simp [this]
/-- a ship sees stripe s -/
def seb (a n s : Nat) : Bool := decide (bh a s < n)
/-- the first sign: colours cl (by stripe), what is seen, in fog f -/
def sgp (cl : Nat → Nat) (se : Nat → Bool) (f c : Nat) : Bool := anyb (fun s => decide (cl s = c) && se s) 24 && (!(anyb (fun s => decide (cl s = c) && !(se s)) 24) && decide (c + f < 4))
def sgn (cl : Nat → Nat) (se : Nat → Bool) (f : Nat) : Option Nat := fst (sgp cl se f) 4
theorem bh_lt (a s : Nat) : bh a s < 24 := Nat.mod_lt _ (by decide)
theorem who_lt {t : Td} {p : Pl} {lit : Nat → Bool} {s i : Nat} (h : who t p lit s = some i) : i < t.1 := (fst_some h).1
theorem cof_le {t : Td} {p : Pl} {lit smk : Nat → Bool} (ht : ∀ i, i < t.1 → t.2.1 i < 4) (s : Nat) : cof t p lit smk s ≤ 4 := by
  unfold cof clo
  cases h : who t p lit s with
  | none => exact Nat.le_refl 4
  | some i =>
    have := ht i (who_lt h)
    simp only
    split <;> omega
theorem cof_4 {t : Td} {p : Pl} {lit smk : Nat → Bool} (ht : ∀ i, i < t.1 → t.2.1 i < 4) (s : Nat) : cof t p lit smk s = 4 ↔ (who t p lit s = none ∨ smk s = true) := by
  unfold cof clo
  cases h : who t p lit s with
  | none => simp
  | some i =>
    have h4 := ht i (who_lt h)
    cases hs : smk s
    · simp; omega
    · simp
end
section
/-! the reference's small methods -/
theorem m_in (v a b : Int32) (sh : Sh) (Mr : MR) (M : MM) : CtP mX9_in [.int v, .int a, .int b] sh Mr M (bI (inB v a b)) := by
  refine ct_of (mi := mX9_in) (ls := [some (.int v), some (.int a), some (.int b)]) rfl rfl (Nat.le_of_ble_eq_true rfl) rfl ?_
  refine (ex_il0 dX9_in_0 (ex_il1 dX9_in_1 (ex_icmp_lt (tgt := 14) dX9_in_2 rfl (fun c2 => ?_) (fun c2 => ?_))))
  · refine (ex_iconst (v := nI 0) dX9_in_14 rfl (ex_ri dX9_in_15 rfl rfl (⟨by simp [inB, i_nle c2, bI], rfl⟩)))
  · refine (ex_il0 dX9_in_5 (ex_il2 dX9_in_6 (ex_icmp_gt (tgt := 14) dX9_in_7 rfl (fun c7 => ?_) (fun c7 => ?_))))
    · refine (ex_iconst (v := nI 0) dX9_in_14 rfl (ex_ri dX9_in_15 rfl rfl (⟨by simp [inB, i_nlt c2, i_nle c7, bI], rfl⟩)))
    · refine (ex_iconst (v := nI 1) dX9_in_10 rfl (ex_goto (tgt := 15) dX9_in_11 rfl (ex_ri dX9_in_15 rfl rfl (⟨by simp [inB, i_nlt c2, i_nlt c7, bI], rfl⟩))))
theorem m_has (x : Int32) (j : Nat) (hj : j < 32) (sh : Sh) (Mr : MR) (M : MM) : CtP mX9_has [.int x, .int (nI j)] sh Mr M (bI (bt x j)) := by
  refine ct_of (mi := mX9_has) (ls := [some (.int x), some (.int (nI j))]) rfl rfl (Nat.le_of_ble_eq_true rfl) rfl ?_
  refine (ex_il0 dX9_has_0 (ex_il1 dX9_has_1 (ex_ishr dX9_has_2 (ex_iconst (v := nI 1) dX9_has_3 rfl (ex_iand dX9_has_4 (ex_top (bit1 x hj) (ex_iconst (v := nI 1) dX9_has_5 rfl (ex_icmp_ne (tgt := 13) dX9_has_6 rfl (fun c6 => ?_) (fun c6 => ?_)))))))))
  · refine (ex_iconst (v := nI 0) dX9_has_13 rfl (ex_ri dX9_has_14 rfl rfl (⟨bI_n1 c6, rfl⟩)))
  · refine (ex_iconst (v := nI 1) dX9_has_9 rfl (ex_goto (tgt := 14) dX9_has_10 rfl (ex_ri dX9_has_14 rfl rfl (⟨c6.symm, rfl⟩))))
theorem m_bits (x : Int32) (sh : Sh) (Mr : MR) (M : MM) : CtP mX9_bits [.int x] sh Mr M (nI (cnt (bt x) 24)) := by
  refine ct_of (mi := mX9_bits) (ls := [some (.int x), none, none]) rfl rfl (Nat.le_of_ble_eq_true rfl) rfl ?_
  refine (ex_iconst (v := nI 0) dX9_bits_0 rfl (ex_is1 dX9_bits_1 (Nat.le_of_ble_eq_true rfl) rfl (ex_iconst (v := nI 0) dX9_bits_2 rfl (ex_is2 dX9_bits_3 (Nat.le_of_ble_eq_true rfl) rfl ?_))))
  refine ex_for (I := fun i ls M' => ls = [some (.int x), some (.int (nI (cnt (bt x) i))), some (.int (nI i))] ∧ M' = M) 24 ?_ ?_ 0 _ _ (Nat.zero_le _) ⟨rfl, rfl⟩
  · intro i ls M' hi h ih
    obtain ⟨rfl, rfl⟩ := h
    refine (ex_il2 dX9_bits_4 (ex_bipush (v := nI 24) dX9_bits_5 rfl (ex_icmp_geN (tgt := 24) dX9_bits_7 rfl (by omega) (by omega) (fun c7 => (absurd c7 (by omega))) (fun c7 => (ex_il1 dX9_bits_10 (ex_il0 dX9_bits_11 (ex_il2 dX9_bits_12 (ex_ishr dX9_bits_13 (ex_iconst (v := nI 1) dX9_bits_14 rfl (ex_iand dX9_bits_15 (ex_top (bit1 x (by omega)) (ex_iadd dX9_bits_16 (ex_top (nI_cnt _ _) (ex_is1 dX9_bits_17 (Nat.le_of_ble_eq_true rfl) rfl (ex_inc2 dX9_bits_18 (Nat.le_of_ble_eq_true rfl) rfl (inc1 _) (ex_goto (tgt := 4) dX9_bits_21 rfl ?_))))))))))))))))
    exact ih _ _ ⟨rfl, rfl⟩
  · intro ls M' h
    obtain ⟨rfl, rfl⟩ := h
    refine (ex_il2 dX9_bits_4 (ex_bipush (v := nI 24) dX9_bits_5 rfl (ex_icmp_geN (tgt := 24) dX9_bits_7 rfl (by omega) (by omega) (fun c7 => (ex_il1 dX9_bits_24 (ex_ri dX9_bits_25 rfl rfl (⟨rfl, rfl⟩)))) (fun c7 => (absurd (Nat.le_refl 24) c7)))))
theorem m_isStripe (v : Int32) (sh : Sh) (Mr : MR) (M : MM) : CtP mX9_isStripe [.int v] sh Mr M (bI (inB v (nI 0) (nI 23))) := by
  refine ct_of (mi := mX9_isStripe) (ls := [some (.int v)]) rfl rfl (Nat.le_of_ble_eq_true rfl) rfl ?_
  refine (ex_il0 dX9_isStripe_0 (ex_iconst (v := nI 0) dX9_isStripe_1 rfl (ex_bipush (v := nI 23) dX9_isStripe_2 rfl (ex_SP3 dX9_isStripe_4 lkX9_88 ⟨(Nat.le_of_ble_eq_true rfl), (Nat.le_of_ble_eq_true rfl)⟩ ⟨Nat.le_refl _, Nat.le_refl _⟩ (Nat.le_of_ble_eq_true rfl) (m_in _ _ _ _ _ _) (ex_rb dX9_isStripe_7 rfl (⟨rfl, rfl⟩))))))
theorem m_isFog (v : Int32) (sh : Sh) (Mr : MR) (M : MM) : CtP mX9_isFog [.int v] sh Mr M (bI (inB v (nI 0) (nI 3))) := by
  refine ct_of (mi := mX9_isFog) (ls := [some (.int v)]) rfl rfl (Nat.le_of_ble_eq_true rfl) rfl ?_
  refine (ex_il0 dX9_isFog_0 (ex_iconst (v := nI 0) dX9_isFog_1 rfl (ex_iconst (v := nI 3) dX9_isFog_2 rfl (ex_SP3 dX9_isFog_3 lkX9_88 ⟨(Nat.le_of_ble_eq_true rfl), (Nat.le_of_ble_eq_true rfl)⟩ ⟨Nat.le_refl _, Nat.le_refl _⟩ (Nat.le_of_ble_eq_true rfl) (m_in _ _ _ _ _ _) (ex_rb dX9_isFog_6 rfl (⟨rfl, rfl⟩))))))
theorem m_isFigure (v : Int32) (sh : Sh) (Mr : MR) (M : MM) : CtP mX9_isFigure [.int v] sh Mr M (bI (inB v (nI 48) (nI 57))) := by
  refine ct_of (mi := mX9_isFigure) (ls := [some (.int v)]) rfl rfl (Nat.le_of_ble_eq_true rfl) rfl ?_
  refine (ex_il0 dX9_isFigure_0 (ex_bipush (v := nI 48) dX9_isFigure_1 rfl (ex_bipush (v := nI 57) dX9_isFigure_3 rfl (ex_SP3 dX9_isFigure_5 lkX9_88 ⟨(Nat.le_of_ble_eq_true rfl), (Nat.le_of_ble_eq_true rfl)⟩ ⟨Nat.le_refl _, Nat.le_refl _⟩ (Nat.le_of_ble_eq_true rfl) (m_in _ _ _ _ _ _) (ex_rb dX9_isFigure_8 rfl (⟨rfl, rfl⟩))))))
theorem m_isTenant {sh : Sh} {Mr : MR} {B : Nat} (hB : MD sh Mr B) (v : Int32) (M : MM) : CtP mX9_isTenant [.ref B, .int v] sh Mr M (bI (inB v (nI 0) (M B 0 - nI 1))) := by
  refine ct_of (mi := mX9_isTenant) (ls := [some (.ref B), some (.int v)]) rfl rfl (Nat.le_of_ble_eq_true rfl) rfl ?_
  refine (ex_il1 dX9_isTenant_0 (ex_iconst (v := nI 0) dX9_isTenant_1 rfl (ex_al0 dX9_isTenant_2 (ex_getI dX9_isTenant_3 flX9_85 (md_sh hB) (ex_iconst (v := nI 1) dX9_isTenant_6 rfl (ex_isub dX9_isTenant_7 (ex_SP3 dX9_isTenant_8 lkX9_88 ⟨(Nat.le_of_ble_eq_true rfl), (Nat.le_of_ble_eq_true rfl)⟩ ⟨Nat.le_refl _, Nat.le_refl _⟩ (Nat.le_of_ble_eq_true rfl) (m_in _ _ _ _ _ _) (ex_rb dX9_isTenant_11 rfl (⟨rfl, rfl⟩)))))))))
theorem m_isShip {sh : Sh} {Mr : MR} {B : Nat} (hB : MD sh Mr B) (v : Int32) (M : MM) : CtP mX9_isShip [.ref B, .int v] sh Mr M (bI (inB v (nI 0) (M B 2 - nI 1))) := by
  refine ct_of (mi := mX9_isShip) (ls := [some (.ref B), some (.int v)]) rfl rfl (Nat.le_of_ble_eq_true rfl) rfl ?_
  refine (ex_il1 dX9_isShip_0 (ex_iconst (v := nI 0) dX9_isShip_1 rfl (ex_al0 dX9_isShip_2 (ex_getI dX9_isShip_3 flX9_92 (md_sh hB) (ex_iconst (v := nI 1) dX9_isShip_6 rfl (ex_isub dX9_isShip_7 (ex_SP3 dX9_isShip_8 lkX9_88 ⟨(Nat.le_of_ble_eq_true rfl), (Nat.le_of_ble_eq_true rfl)⟩ ⟨Nat.le_refl _, Nat.le_refl _⟩ (Nat.le_of_ble_eq_true rfl) (m_in _ _ _ _ _ _) (ex_rb dX9_isShip_11 rfl (⟨rfl, rfl⟩)))))))))
theorem m_isTold {sh : Sh} {Mr : MR} {B : Nat} (hB : MD sh Mr B) (k : Nat) (hk : k < 5) (a b : Int32) (M : MM) : CtP mX9_isTold [.ref B, .int (nI k), .int a, .int b] sh Mr M (bI (inB (M (B + 9) k) a b)) := by
  refine ct_of (mi := mX9_isTold) (ls := [some (.ref B), some (.int (nI k)), some (.int a), some (.int b)]) rfl rfl (Nat.le_of_ble_eq_true rfl) rfl ?_
  refine (ex_al0 dX9_isTold_0 (ex_getR dX9_isTold_1 flX9_34 (md_sh hB) (md_r16 hB) (ex_il1 dX9_isTold_4 (ex_ildN dX9_isTold_5 (md_a16 hB) (by omega) (by omega) (ex_il2 dX9_isTold_6 (ex_il3 dX9_isTold_7 (ex_SP3 dX9_isTold_8 lkX9_88 ⟨(Nat.le_of_ble_eq_true rfl), (Nat.le_of_ble_eq_true rfl)⟩ ⟨Nat.le_refl _, Nat.le_refl _⟩ (Nat.le_of_ble_eq_true rfl) (m_in _ _ _ _ _ _) (ex_rb dX9_isTold_11 rfl (⟨rfl, rfl⟩)))))))))
/-- the letter at a place, -1 behind the last -/
theorem m_letterAt {sh : Sh} {Mr : MR} {B : Nat} (hB : MD sh Mr B) (k n : Nat) (M : MM) (hn : M B 14 = nI n) (hn2 : n ≤ 200) (hk : k < 2 ^ 31) : CtP mX9_letterAt [.ref B, .int (nI k)] sh Mr M (if k < n then M (B + 8) k else -1) := by
  refine ct_of (mi := mX9_letterAt) (ls := [some (.ref B), some (.int (nI k))]) rfl rfl (Nat.le_of_ble_eq_true rfl) rfl ?_
  refine (ex_il1 dX9_letterAt_0 (ex_al0 dX9_letterAt_1 (ex_getI dX9_letterAt_2 flX9_95 (md_sh hB) (ex_top (hn) (ex_icmp_geN (tgt := 17) dX9_letterAt_5 rfl (by omega) (by omega) (fun c5 => ?_) (fun c5 => ?_))))))
  · refine (ex_iconst (v := (-1)) dX9_letterAt_17 rfl (ex_ri dX9_letterAt_18 rfl rfl (⟨by rw [if_neg (by omega)], rfl⟩)))
  · refine (ex_al0 dX9_letterAt_8 (ex_getR dX9_letterAt_9 flX9_31 (md_sh hB) (md_r13 hB) (ex_il1 dX9_letterAt_12 (ex_ildN dX9_letterAt_13 (md_a13 hB) (by omega) (by omega) (ex_goto (tgt := 18) dX9_letterAt_14 rfl (ex_ri dX9_letterAt_18 rfl rfl (⟨by rw [if_pos (by omega)], rfl⟩)))))))
/-- a row put into another -/
def putR (M : MM) (c fr : Nat) (f : Nat → Int32) (n : Nat) : MM := fun c2 j => if c2 = c ∧ fr ≤ j ∧ j < fr + n then f (j - fr) else M c2 j
theorem putR_s {M : MM} {c fr n : Nat} {f : Nat → Int32} : wr (putR M c fr f n) c (fr + n) (f n) = putR M c fr f (n + 1) := by
  funext c2 j
  unfold wr putR
  by_cases h : c2 = c
  · subst h
    by_cases h2 : j = fr + n
    · subst h2
      simp
    · have e : (fr ≤ j ∧ j < fr + (n + 1)) ↔ (fr ≤ j ∧ j < fr + n) := by omega
      simp [h2, e]
  · simp [h]
theorem putR_0 {M : MM} {c fr : Nat} {f : Nat → Int32} : putR M c fr f 0 = M := by
  funext c2 j
  unfold putR
  rw [if_neg (by omega)]
theorem putR_oc {M : MM} {c fr n c2 : Nat} {f : Nat → Int32} (h : c2 ≠ c) : putR M c fr f n c2 = M c2 := by
  funext j
  unfold putR
  rw [if_neg (by omega)]
theorem putR_in {M : MM} {c fr n j : Nat} {f : Nat → Int32} (h : j < n) : putR M c fr f n c (fr + j) = f j := by
  unfold putR
  rw [if_pos ⟨rfl, by omega, by omega⟩, Nat.add_sub_cancel_left]
theorem putR_out {M : MM} {c fr n j : Nat} {f : Nat → Int32} (h : j < fr ∨ fr + n ≤ j) : putR M c fr f n c j = M c j := by
  unfold putR
  rw [if_neg (by omega)]
theorem m_put {sh : Sh} {Mr : MR} (a b na nb fr n : Nat) (ha : sh[a]? = some (0, na)) (hb : sh[b]? = some (0, nb)) (hab : b ≠ a) (h1 : fr + n ≤ na) (h2 : n ≤ nb) (h3 : na < 1000) (h4 : nb < 1000) (M : MM) : CtV mX9_put [.ref a, .int (nI fr), .ref b, .int (nI n)] sh Mr M (fun M' => M' = putR M a fr (M b) n) := by
  refine ct_of (mi := mX9_put) (ls := [some (.ref a), some (.int (nI fr)), some (.ref b), some (.int (nI n)), none]) rfl rfl (Nat.le_of_ble_eq_true rfl) rfl ?_
  refine (ex_iconst (v := nI 0) dX9_put_0 rfl (ex_is4 dX9_put_1 (Nat.le_of_ble_eq_true rfl) rfl ?_))
  refine ex_for (I := fun i ls M' => ls = [some (.ref a), some (.int (nI fr)), some (.ref b), some (.int (nI n)), some (.int (nI i))] ∧ M' = putR M a fr (M b) i) n ?_ ?_ 0 _ _ (Nat.zero_le _) ⟨rfl, putR_0.symm⟩
  · intro i ls M' hi h ih
    obtain ⟨rfl, rfl⟩ := h
    refine (ex_il4 dX9_put_3 (ex_il3 dX9_put_5 (ex_icmp_geN (tgt := 25) dX9_put_6 rfl (by omega) (by omega) (fun c6 => (absurd c6 (by omega))) (fun c6 => (ex_al0 dX9_put_9 (ex_il1 dX9_put_10 (ex_il4 dX9_put_11 (ex_iaddN dX9_put_13 (ex_al2 dX9_put_14 (ex_il4 dX9_put_15 (ex_ildN dX9_put_17 hb (by omega) (by omega) (ex_istN dX9_put_18 ha (by omega) (by omega) (ex_inc4 dX9_put_19 (Nat.le_of_ble_eq_true rfl) rfl (inc1 _) (ex_goto (tgt := 3) dX9_put_22 rfl ?_))))))))))))))
    exact ih _ _ ⟨rfl, by rw [putR_oc hab]; exact putR_s⟩
  · intro ls M' h
    obtain ⟨rfl, rfl⟩ := h
    refine (ex_il4 dX9_put_3 (ex_il3 dX9_put_5 (ex_icmp_geN (tgt := 25) dX9_put_6 rfl (by omega) (by omega) (fun c6 => (ex_rv dX9_put_25 rfl (rfl))) (fun c6 => (absurd (Nat.le_refl n) c6)))))
end
section
/-! the reference: who is behind, who shines, the paint -/
theorem bset_t {p : Nat → Bool} {n : Nat} (h : p n = true) : bset p n ||| (nI 1 <<< (nI n &&& 31)) = bset p (n + 1) := by
  rw [← bset_or, if_pos h]
theorem bset_f {p : Nat → Bool} {n : Nat} (h : p n = false) : bset p n ||| nI 0 = bset p (n + 1) := by
  rw [← bset_or, if_neg (by rw [h]; decide)]
def pay (arr : Nat → Int32) (lim : Int32) (i : Nat) : Bool := decide (arr i ≤ lim)
/-- the reference's told tenants are t -/
def TdM (B : Nat) (M : MM) (t : Td) : Prop := M B 0 = nI t.1 ∧ t.1 ≤ 6 ∧ ∀ i, i < t.1 → M (B + 1) (3 * i) = nI (t.2.1 i) ∧ t.2.1 i < 4 ∧ M (B + 1) (3 * i + 1) = t.2.2.1 i ∧ M (B + 1) (3 * i + 2) = nI (t.2.2.2 i) ∧ t.2.2.2 i < 4
/-- what stands in the reference's row 'now' -/
def NowM (B : Nat) (M : MM) (n : Nat) (p : Pl) : Prop := M (B + 14) 0 = nI p.1 ∧ p.1 < 2 ^ 30 ∧ ∀ i, i < n → M (B + 14) (8 + i) = nI (p.2.1 i) ∧ p.2.1 i < 24 ∧ M (B + 14) (14 + i) = nI (p.2.2 i) ∧ p.2.2 i ≤ 12
theorem m_behindNow {sh : Sh} {Mr : MR} {B : Nat} (hB : MD sh Mr B) (M : MM) (n : Nat) (arr : Nat → Int32) (h0 : M B 0 = nI n) (hn : n ≤ 6) (ha : ∀ i, i < n → M (B + 14) (2 + i) = arr i) : CtP mX9_behindNow [.ref B] sh Mr M (bset (fun i => !pay arr (M B 5) i) n) := by
  refine ct_of (mi := mX9_behindNow) (ls := [some (.ref B), none, none]) rfl rfl (Nat.le_of_ble_eq_true rfl) rfl ?_
  refine (ex_iconst (v := nI 0) dX9_behindNow_0 rfl (ex_is1 dX9_behindNow_1 (Nat.le_of_ble_eq_true rfl) rfl (ex_iconst (v := nI 0) dX9_behindNow_2 rfl (ex_is2 dX9_behindNow_3 (Nat.le_of_ble_eq_true rfl) rfl ?_))))
  refine ex_for (I := fun i ls M' => ls = [some (.ref B), some (.int (bset (fun i => !pay arr (M B 5) i) i)), some (.int (nI i))] ∧ M' = M) n ?_ ?_ 0 _ _ (Nat.zero_le _) ⟨rfl, rfl⟩
  · intro i ls M' hi h ih
    obtain ⟨rfl, rfl⟩ := h
    refine (ex_il2 dX9_behindNow_4 (ex_al0 dX9_behindNow_5 (ex_getI dX9_behindNow_6 flX9_85 (md_sh hB) (ex_top (h0) (ex_icmp_geN (tgt := 43) dX9_behindNow_9 rfl (by omega) (by omega) (fun c9 => (absurd c9 (by omega))) (fun c9 => (ex_il1 dX9_behindNow_12 (ex_al0 dX9_behindNow_13 (ex_getR dX9_behindNow_14 flX9_49 (md_sh hB) (md_r24 hB) (ex_iconst (v := nI 2) dX9_behindNow_17 rfl (ex_il2 dX9_behindNow_18 (ex_iaddN dX9_behindNow_19 (ex_ildN dX9_behindNow_20 (md_a24 hB) (by omega) (by omega) (ex_top (ha i hi) (ex_al0 dX9_behindNow_21 (ex_getI dX9_behindNow_22 flX9_142 (md_sh hB) (ex_icmp_le (tgt := 34) dX9_behindNow_25 rfl (fun c25 => ?_) (fun c25 => ?_))))))))))))))))))
    · refine (ex_iconst (v := nI 0) dX9_behindNow_34 rfl (ex_ior dX9_behindNow_35 (ex_top (bset_f (by simp [pay, c25])) (ex_is1 dX9_behindNow_36 (Nat.le_of_ble_eq_true rfl) rfl (ex_inc2 dX9_behindNow_37 (Nat.le_of_ble_eq_true rfl) rfl (inc1 _) (ex_goto (tgt := 4) dX9_behindNow_40 rfl ?_))))))
      exact ih _ _ ⟨rfl, rfl⟩
    · refine (ex_iconst (v := nI 1) dX9_behindNow_28 rfl (ex_il2 dX9_behindNow_29 (ex_ishl dX9_behindNow_30 (ex_goto (tgt := 35) dX9_behindNow_31 rfl (ex_ior dX9_behindNow_35 (ex_top (bset_t (by simp [pay, c25])) (ex_is1 dX9_behindNow_36 (Nat.le_of_ble_eq_true rfl) rfl (ex_inc2 dX9_behindNow_37 (Nat.le_of_ble_eq_true rfl) rfl (inc1 _) (ex_goto (tgt := 4) dX9_behindNow_40 rfl ?_)))))))))
      exact ih _ _ ⟨rfl, rfl⟩
  · intro ls M' h
    obtain ⟨rfl, rfl⟩ := h
    refine (ex_il2 dX9_behindNow_4 (ex_al0 dX9_behindNow_5 (ex_getI dX9_behindNow_6 flX9_85 (md_sh hB) (ex_top (h0) (ex_icmp_geN (tgt := 43) dX9_behindNow_9 rfl (by omega) (by omega) (fun c9 => (ex_il1 dX9_behindNow_43 (ex_ri dX9_behindNow_44 rfl rfl (⟨rfl, rfl⟩)))) (fun c9 => (absurd (Nat.le_refl n) c9)))))))
/-- the rows 'now' and 'out' as things stand -/
def asIs (B n : Nat) (M : MM) : MM := wr (putR M (B + 14) 0 (M (B + 4)) 20) B 25 (bset (fun i => !pay (fun i => M (B + 4) (2 + i)) (M B 5) i) n)
theorem m_asItIs {sh : Sh} {Mr : MR} {B : Nat} (hB : MD sh Mr B) (M : MM) (n : Nat) (h0 : M B 0 = nI n) (hn : n ≤ 6) : CtV mX9_asItIs [.ref B] sh Mr M (fun M' => M' = asIs B n M) := by
  refine ct_of (mi := mX9_asItIs) (ls := [some (.ref B)]) rfl rfl (Nat.le_of_ble_eq_true rfl) rfl ?_
  refine (ex_al0 dX9_asItIs_0 (ex_getR dX9_asItIs_1 flX9_49 (md_sh hB) (md_r24 hB) (ex_iconst (v := nI 0) dX9_asItIs_4 rfl (ex_al0 dX9_asItIs_5 (ex_getR dX9_asItIs_6 flX9_19 (md_sh hB) (md_r6 hB) (ex_bipush (v := nI 20) dX9_asItIs_9 rfl (ex_SV4 dX9_asItIs_11 lkX9_145 ⟨(Nat.le_of_ble_eq_true rfl), (Nat.le_of_ble_eq_true rfl)⟩ ⟨Nat.le_refl _, Nat.le_refl _⟩ (Nat.le_of_ble_eq_true rfl) (m_put (B + 14) (B + 4) 20 20 0 20 (md_a24 hB) (md_a6 hB) (by omega) (by omega) (by omega) (by omega) (by omega) M) (fun M11 h11 => ?_))))))))
  subst h11
  refine (ex_al0 dX9_asItIs_14 (ex_al0 dX9_asItIs_15 (ex_VP0 dX9_asItIs_16 lkX9_158 (md_sh hB) ⟨_, _, rfl⟩ ⟨(Nat.le_of_ble_eq_true rfl), (Nat.le_of_ble_eq_true rfl)⟩ ⟨Nat.le_refl _, Nat.le_refl _⟩ (Nat.le_of_ble_eq_true rfl) (m_behindNow hB _ n (fun i => M (B + 4) (2 + i)) (by rw [putR_oc (by omega)]; exact h0) hn (fun i hi => by have h := putR_in (M := M) (c := B + 14) (fr := 0) (f := M (B + 4)) (n := 20) (j := 2 + i) (by omega); rw [Nat.zero_add] at h; exact h)) (ex_putI dX9_asItIs_19 (fpX9_161 _) (md_sh hB) (ex_rv dX9_asItIs_22 rfl (by rw [putR_oc (show B ≠ B + 14 by omega)]; rfl))))))
theorem m_isProudest {sh : Sh} {Mr : MR} {B : Nat} (hB : MD sh Mr B) (M : MM) (t : Td) (ht : TdM B M t) (i : Nat) (hi : i < t.1) : CtP mX9_isProudest [.ref B, .int (nI i)] sh Mr M (bI (proud t i)) := by
  obtain ⟨h0, hn, hr⟩ := ht
  obtain ⟨a1, a2, a3, a4, a5⟩ := hr i hi
  refine ct_of (mi := mX9_isProudest) (ls := [some (.ref B), some (.int (nI i)), none, none]) rfl rfl (Nat.le_of_ble_eq_true rfl) rfl ?_
  refine (ex_iconst (v := nI 1) dX9_isProudest_0 rfl (ex_is2 dX9_isProudest_1 (Nat.le_of_ble_eq_true rfl) rfl (ex_iconst (v := nI 0) dX9_isProudest_2 rfl (ex_is3 dX9_isProudest_3 (Nat.le_of_ble_eq_true rfl) rfl ?_))))
  refine ex_for (I := fun j ls M' => ls = [some (.ref B), some (.int (nI i)), some (.int (bI (allb (fun j => decide (j = i) || (decide (¬ t.2.1 j = t.2.1 i) || decide (t.2.2.1 j ≤ t.2.2.1 i))) j))), some (.int (nI j))] ∧ M' = M) t.1 ?_ ?_ 0 _ _ (Nat.zero_le _) ⟨rfl, rfl⟩
  · intro j ls M' hj h ih
    obtain ⟨rfl, rfl⟩ := h
    obtain ⟨b1, b2, b3, b4, b5⟩ := hr j hj
    generalize hp : (fun j => decide (j = i) || (decide (¬ t.2.1 j = t.2.1 i) || decide (t.2.2.1 j ≤ t.2.2.1 i))) = p at ih ⊢
    have hpj : p j = (decide (j = i) || (decide (¬ t.2.1 j = t.2.1 i) || decide (t.2.2.1 j ≤ t.2.2.1 i))) := by rw [← hp]
    have J := ih _ _ ⟨rfl, rfl⟩
    have J : EI mX9_isProudest sh Mr (fun x M'' => x = bI (proud t i) ∧ M'' = M') 68 [some (.ref B), some (.int (nI i)), some (.int (bI (allb p j))), some (.int (nI j))] [.int (bI (allb p (j + 1)))] M' := by
      refine (ex_is2 dX9_isProudest_68 (Nat.le_of_ble_eq_true rfl) rfl (ex_inc3 dX9_isProudest_69 (Nat.le_of_ble_eq_true rfl) rfl (inc1 _) (ex_goto (tgt := 4) dX9_isProudest_72 rfl ?_)))
      exact J
    refine (ex_il3 dX9_isProudest_4 (ex_al0 dX9_isProudest_5 (ex_getI dX9_isProudest_6 flX9_85 (md_sh hB) (ex_top (h0) (ex_icmp_geN (tgt := 75) dX9_isProudest_9 rfl (by omega) (by omega) (fun c9 => (absurd c9 (by omega))) (fun c9 => (ex_il2 dX9_isProudest_12 (ex_ifB_eq (tgt := 67) dX9_isProudest_13 rfl (fun c13 => ?_) (fun c13 => ?_)))))))))
    · refine (ex_iconst (v := nI 0) dX9_isProudest_67 rfl ?_)
      exact ex_top (bI_ff (by rw [show allb p (j + 1) = (allb p j && p j) from rfl, c13]; rfl)) J
    · refine (ex_il3 dX9_isProudest_16 (ex_il1 dX9_isProudest_17 (ex_icmp_eqN (tgt := 63) dX9_isProudest_18 rfl (by omega) (by omega) (fun c18 => ?_) (fun c18 => ?_))))
      · refine (ex_iconst (v := nI 1) dX9_isProudest_63 rfl (ex_goto (tgt := 68) dX9_isProudest_64 rfl ?_))
        exact ex_top (bI_tt (by rw [show allb p (j + 1) = (allb p j && p j) from rfl, c13, hpj]; simp [c18])) J
      · refine (ex_al0 dX9_isProudest_21 (ex_getR dX9_isProudest_22 flX9_7 (md_sh hB) (md_r1 hB) (ex_iconst (v := nI 3) dX9_isProudest_25 rfl (ex_il3 dX9_isProudest_26 (ex_imulN dX9_isProudest_27 (ex_ildN dX9_isProudest_28 (md_a1 hB) (by omega) (by omega) (ex_top (b1) (ex_al0 dX9_isProudest_29 (ex_getR dX9_isProudest_30 flX9_7 (md_sh hB) (md_r1 hB) (ex_iconst (v := nI 3) dX9_isProudest_33 rfl (ex_il1 dX9_isProudest_34 (ex_imulN dX9_isProudest_35 (ex_ildN dX9_isProudest_36 (md_a1 hB) (by omega) (by omega) (ex_top (a1) (ex_icmp_neN (tgt := 63) dX9_isProudest_37 rfl (by omega) (by omega) (fun c37 => ?_) (fun c37 => ?_))))))))))))))))
        · refine (ex_iconst (v := nI 1) dX9_isProudest_63 rfl (ex_goto (tgt := 68) dX9_isProudest_64 rfl ?_))
          exact ex_top (bI_tt (by rw [show allb p (j + 1) = (allb p j && p j) from rfl, c13, hpj]; simp [c37])) J
        · refine (ex_al0 dX9_isProudest_40 (ex_getR dX9_isProudest_41 flX9_7 (md_sh hB) (md_r1 hB) (ex_iconst (v := nI 3) dX9_isProudest_44 rfl (ex_il3 dX9_isProudest_45 (ex_imulN dX9_isProudest_46 (ex_iconst (v := nI 1) dX9_isProudest_47 rfl (ex_iaddN dX9_isProudest_48 (ex_ildN dX9_isProudest_49 (md_a1 hB) (by omega) (by omega) (ex_top (b3) (ex_al0 dX9_isProudest_50 (ex_getR dX9_isProudest_51 flX9_7 (md_sh hB) (md_r1 hB) (ex_iconst (v := nI 3) dX9_isProudest_54 rfl (ex_il1 dX9_isProudest_55 (ex_imulN dX9_isProudest_56 (ex_iconst (v := nI 1) dX9_isProudest_57 rfl (ex_iaddN dX9_isProudest_58 (ex_ildN dX9_isProudest_59 (md_a1 hB) (by omega) (by omega) (ex_top (a3) (ex_icmp_gt (tgt := 67) dX9_isProudest_60 rfl (fun c60 => ?_) (fun c60 => ?_))))))))))))))))))))
          · refine (ex_iconst (v := nI 0) dX9_isProudest_67 rfl ?_)
            exact ex_top (bI_ff (by rw [show allb p (j + 1) = (allb p j && p j) from rfl, c13, hpj]; simp [c18, c37, i_nle c60])) J
          · refine (ex_iconst (v := nI 1) dX9_isProudest_63 rfl (ex_goto (tgt := 68) dX9_isProudest_64 rfl ?_))
            exact ex_top (bI_tt (by rw [show allb p (j + 1) = (allb p j && p j) from rfl, c13, hpj]; simp [i_nlt c60])) J
  · intro ls M' h
    obtain ⟨rfl, rfl⟩ := h
    refine (ex_il3 dX9_isProudest_4 (ex_al0 dX9_isProudest_5 (ex_getI dX9_isProudest_6 flX9_85 (md_sh hB) (ex_top (h0) (ex_icmp_geN (tgt := 75) dX9_isProudest_9 rfl (by omega) (by omega) (fun c9 => (ex_il2 dX9_isProudest_75 (ex_rb dX9_isProudest_76 rfl (⟨rfl, rfl⟩)))) (fun c9 => (absurd (Nat.le_refl t.1) c9)))))))
theorem m_shines {sh : Sh} {Mr : MR} {B : Nat} (hB : MD sh Mr B) (M : MM) (t : Td) (ht : TdM B M t) (i b night : Nat) (hi : i < t.1) (hb : b < 24) (hn : M (B + 14) 0 = nI night) (hn2 : night < 2 ^ 30) : CtP mX9_shines [.ref B, .int (nI i), .int (nI b)] sh Mr M (bI (kOK t night i b)) := by
  have hr := ht.2.2 i hi
  have h6 := ht.2.1
  obtain ⟨a1, a2, a3, a4, a5⟩ := hr
  refine ct_of (mi := mX9_shines) (ls := [some (.ref B), some (.int (nI i)), some (.int (nI b)), none]) rfl rfl (Nat.le_of_ble_eq_true rfl) rfl ?_
  have J : EI mX9_shines sh Mr (fun x M'' => x = bI (kOK t night i b) ∧ M'' = M) 16 [some (.ref B), some (.int (nI i)), some (.int (nI b)), none] [.int (bI (decide (night % 2 = 0)))] M := by
    refine (ex_is3 dX9_shines_16 (Nat.le_of_ble_eq_true rfl) rfl (ex_al0 dX9_shines_17 (ex_getR dX9_shines_18 flX9_7 (md_sh hB) (md_r1 hB) (ex_iconst (v := nI 3) dX9_shines_21 rfl (ex_il1 dX9_shines_22 (ex_imulN dX9_shines_23 (ex_iconst (v := nI 2) dX9_shines_24 rfl (ex_iaddN dX9_shines_25 (ex_ildN dX9_shines_26 (md_a1 hB) (by omega) (by omega) (ex_top (a4) ?_))))))))))
    have hk : t.2.2.2 i = 0 ∨ t.2.2.2 i = 1 ∨ t.2.2.2 i = 2 ∨ t.2.2.2 i = 3 := by omega
    rcases hk with hk | hk | hk | hk
    · rw [hk]
      refine ex_tableIn (tgt := 52) dX9_shines_27 (by decide) (by decide) rfl rfl ?_
      refine (ex_iconst (v := nI 1) dX9_shines_52 rfl (ex_ri dX9_shines_53 rfl rfl (⟨by simp [kOK, hk, bI], rfl⟩)))
    · rw [hk]
      refine ex_tableIn (tgt := 54) dX9_shines_27 (by decide) (by decide) rfl rfl ?_
      refine (ex_il3 dX9_shines_54 (ex_rb dX9_shines_55 rfl (⟨by simp [kOK, hk], rfl⟩)))
    · rw [hk]
      refine ex_tableIn (tgt := 56) dX9_shines_27 (by decide) (by decide) rfl rfl ?_
      refine (ex_il2 dX9_shines_56 (ex_iconst (v := nI 2) dX9_shines_57 rfl (ex_iremN dX9_shines_58 ⟨by omega, by omega, by omega⟩ (ex_if_neN (tgt := 66) dX9_shines_59 rfl (by omega) (fun c59 => ?_) (fun c59 => ?_)))))
      · refine (ex_iconst (v := nI 0) dX9_shines_66 rfl (ex_il3 dX9_shines_67 (ex_icmp_ne (tgt := 75) dX9_shines_68 rfl (fun c68 => ?_) (fun c68 => ?_))))
        · refine (ex_iconst (v := nI 0) dX9_shines_75 rfl (ex_ri dX9_shines_76 rfl rfl (⟨by revert c68; by_cases h : night % 2 = 0 <;> simp [kOK, hk, bI, h, c59], rfl⟩)))
        · refine (ex_iconst (v := nI 1) dX9_shines_71 rfl (ex_goto (tgt := 76) dX9_shines_72 rfl (ex_ri dX9_shines_76 rfl rfl (⟨by revert c68; by_cases h : night % 2 = 0 <;> simp [kOK, hk, bI, h, c59, nI_0]; intro e; exact absurd e (by decide), rfl⟩))))
      · refine (ex_iconst (v := nI 1) dX9_shines_62 rfl (ex_goto (tgt := 67) dX9_shines_63 rfl (ex_il3 dX9_shines_67 (ex_icmp_ne (tgt := 75) dX9_shines_68 rfl (fun c68 => ?_) (fun c68 => ?_)))))
        · refine (ex_iconst (v := nI 0) dX9_shines_75 rfl (ex_ri dX9_shines_76 rfl rfl (⟨by revert c68; by_cases h : night % 2 = 0 <;> simp [kOK, hk, bI, h, c59], rfl⟩)))
        · refine (ex_iconst (v := nI 1) dX9_shines_71 rfl (ex_goto (tgt := 76) dX9_shines_72 rfl (ex_ri dX9_shines_76 rfl rfl (⟨by revert c68; by_cases h : night % 2 = 0 <;> simp [kOK, hk, bI, h, c59, nI_0], rfl⟩))))
    · rw [hk]
      refine ex_tableOut (tgt := 77) dX9_shines_27 (by decide) rfl ?_
      refine (ex_al0 dX9_shines_77 (ex_il1 dX9_shines_78 (ex_VP1 dX9_shines_79 lkX9_164 (md_sh hB) ⟨_, _, rfl⟩ ⟨(Nat.le_of_ble_eq_true rfl), (Nat.le_of_ble_eq_true rfl)⟩ ⟨Nat.le_refl _, Nat.le_refl _⟩ (Nat.le_of_ble_eq_true rfl) (m_isProudest hB M t ht i hi) (ex_rb dX9_shines_82 rfl (⟨by simp [kOK, hk], rfl⟩)))))
  refine (ex_al0 dX9_shines_0 (ex_getR dX9_shines_1 flX9_49 (md_sh hB) (md_r24 hB) (ex_iconst (v := nI 0) dX9_shines_4 rfl (ex_ildN dX9_shines_5 (md_a24 hB) (by omega) (by omega) (ex_top (hn) (ex_iconst (v := nI 2) dX9_shines_6 rfl (ex_iremN dX9_shines_7 ⟨by omega, by omega, by omega⟩ (ex_if_neN (tgt := 15) dX9_shines_8 rfl (by omega) (fun c8 => ?_) (fun c8 => ?_)))))))))
  · refine (ex_iconst (v := nI 0) dX9_shines_15 rfl ?_)
    exact ex_top (bI_ff (by simp [c8])) J
  · refine (ex_iconst (v := nI 1) dX9_shines_11 rfl (ex_goto (tgt := 16) dX9_shines_12 rfl ?_))
    exact ex_top (bI_tt (by simp [c8])) J
end
section
/-! the reference: the paint -/
theorem dec1s (i : Nat) : nI i + Int32.ofInt (-1) = nI i - nI 1 := by
  rw [Int32.sub_eq_add_neg]; rfl
theorem wr_wr {M : MM} {c i : Nat} {x y : Int32} : wr (wr M c i x) c i y = wr M c i y := by
  funext c2 j
  unfold wr
  by_cases h : c2 = c
  · subst h
    by_cases h2 : j = i <;> simp [h2]
  · simp [h]
def pnt (M : MM) (B : Nat) (w : Nat → Option Nat) (cl : Nat → Nat) (n : Nat) : MM := fun c j => if c = B + 15 ∧ j < n then wI (w j) else if c = B + 16 ∧ j < n then nI (cl j) else M c j
theorem pnt_0 {M : MM} {B : Nat} {w : Nat → Option Nat} {cl : Nat → Nat} : pnt M B w cl 0 = M := by
  funext c j
  simp [pnt]
theorem pnt_s {M : MM} {B s : Nat} {w : Nat → Option Nat} {cl : Nat → Nat} : wr (wr (pnt M B w cl s) (B + 15) s (wI (w s))) (B + 16) s (nI (cl s)) = pnt M B w cl (s + 1) := by
  funext c j
  unfold wr pnt
  by_cases h1 : c = B + 16
  · subst h1
    by_cases h2 : j = s
    · subst h2; simp
    · have e : (j < s + 1) ↔ (j < s) := by omega
      simp [h2, e]
  · by_cases h3 : c = B + 15
    · subst h3
      by_cases h2 : j = s
      · subst h2; simp
      · have e : (j < s + 1) ↔ (j < s) := by omega
        simp [h2, e]
    · simp [h1, h3]
theorem pnt_oc {M : MM} {B s c : Nat} {w : Nat → Option Nat} {cl : Nat → Nat} (h1 : c ≠ B + 15) (h2 : c ≠ B + 16) : pnt M B w cl s c = M c := by
  funext j
  simp [pnt, h1, h2]
theorem pnt_w {M : MM} {B n s : Nat} {w : Nat → Option Nat} {cl : Nat → Nat} (h : s < n) : pnt M B w cl n (B + 15) s = wI (w s) := by simp [pnt, h]
theorem pnt_c {M : MM} {B n s : Nat} {w : Nat → Option Nat} {cl : Nat → Nat} (h : s < n) : pnt M B w cl n (B + 16) s = nI (cl s) := by simp [pnt, h]
theorem TdM.of {B : Nat} {M M' : MM} {t : Td} (h : TdM B M t) (h0 : M' B 0 = M B 0) (h1 : M' (B + 1) = M (B + 1)) : TdM B M' t := by
  refine ⟨h0.trans h.1, h.2.1, fun i hi => ?_⟩
  rw [h1]
  exact h.2.2 i hi
theorem wI_neg {o : Option Nat} (h : ∀ i, o = some i → i < 2 ^ 31) : (wI o < 0) ↔ o = none := by
  cases o with
  | none => simp [wI]
  | some i =>
    simp only [wI]
    constructor
    · intro h2; exact absurd h2 (nI_pos (h i rfl))
    · intro h2; cases h2
theorem m_paint {sh : Sh} {Mr : MR} {B : Nat} (hB : MD sh Mr B) (M : MM) (t : Td) (p : Pl) (ht : TdM B M t) (hp : NowM B M t.1 p) : CtV mX9_paint [.ref B] sh Mr M (fun M' => M' = pnt M B (who t p (fun i => !bt (M B 25) i)) (cof t p (fun i => !bt (M B 25) i) (bt (M (B + 14) 1))) 24) := by
  have h6 := ht.2.1
  generalize hw : who t p (fun i => !bt (M B 25) i) = w
  have hcl : ∀ s, cof t p (fun i => !bt (M B 25) i) (bt (M (B + 14) 1)) s = clo t (w s) (bt (M (B + 14) 1) s) := fun s => by rw [← hw]; rfl
  generalize cof t p (fun i => !bt (M B 25) i) (bt (M (B + 14) 1)) = cl at hcl ⊢
  refine ct_of (mi := mX9_paint) (ls := [some (.ref B), none, none, none, none]) rfl rfl (Nat.le_of_ble_eq_true rfl) rfl ?_
  refine (ex_iconst (v := nI 0) dX9_paint_0 rfl (ex_is1 dX9_paint_1 (Nat.le_of_ble_eq_true rfl) rfl ?_))
  refine ex_for (I := fun s ls M' => (∃ o2 o3 o4, ls = [some (.ref B), some (.int (nI s)), o2, o3, o4]) ∧ M' = pnt M B w cl s) 24 ?_ ?_ 0 _ _ (Nat.zero_le _) ⟨⟨_, _, _, rfl⟩, pnt_0.symm⟩
  · intro s ls M1 hs h ihs
    obtain ⟨⟨o2, o3, o4, rfl⟩, rfl⟩ := h
    have hlt : ∀ i, i < t.1 → i < 2 ^ 31 := fun i hi => by omega
    refine (ex_il1 dX9_paint_2 (ex_bipush (v := nI 24) dX9_paint_3 rfl (ex_icmp_geN (tgt := 162) dX9_paint_5 rfl (by omega) (by omega) (fun c5 => (absurd c5 (by omega))) (fun c5 => (ex_al0 dX9_paint_8 (ex_getR dX9_paint_9 flX9_52 (md_sh hB) (md_r26 hB) (ex_il1 dX9_paint_12 (ex_iconst (v := (-1)) dX9_paint_13 rfl (ex_istN dX9_paint_14 (md_a26 hB) (by omega) (by omega) (ex_al0 dX9_paint_15 (ex_getI dX9_paint_16 flX9_85 (md_sh hB) (ex_top (y := nI (t.1)) (by rw [wr_oc (by omega), pnt_oc (by omega) (by omega)]; exact ht.1) (ex_iconst (v := nI 1) dX9_paint_19 rfl (ex_isub dX9_paint_20 (ex_is2 dX9_paint_21 (Nat.le_of_ble_eq_true rfl) rfl ?_)))))))))))))))
    have hws : w s = fst (fun i => !bt (M B 25) i && shn t p i s) t.1 := by rw [← hw]; rfl
    generalize hq : (fun i => !bt (M B 25) i && shn t p i s) = q at hws
    refine ex_down (I := fun i ls M' => (∃ o3 o4, i ≤ t.1 ∧ ls = [some (.ref B), some (.int (nI s)), some (.int (nI i - nI 1)), o3, o4]) ∧ M' = wr (pnt M B w cl s) (B + 15) s (wI (lst q i t.1))) ?_ ?_ t.1 _ _ ⟨⟨_, _, Nat.le_refl _, rfl⟩, by rw [lst_n]; rfl⟩
    · intro i ls M2 h ihi
      obtain ⟨⟨o3, o4, hi, rfl⟩, rfl⟩ := h
      have hi : i < t.1 := hi
      obtain ⟨d1, d2, d3, d4⟩ := hp.2.2 i hi
      rw [pk_sub (show 1 ≤ i + 1 by omega), Nat.add_sub_cancel]
      generalize hM2 : wr (pnt M B w cl s) (B + 15) s (wI (lst q (i + 1) t.1)) = M2 at ihi ⊢
      have hk : ∀ c, c ≠ B + 15 → c ≠ B + 16 → M2 c = M c := fun c e1 e2 => by rw [← hM2, wr_oc e1, pnt_oc e1 e2]
      have hqi : q i = (!bt (M B 25) i && (decide ((s + 24 - p.2.1 i) % 24 < p.2.2 i) && kOK t p.1 i ((s + 24 - p.2.1 i) % 24))) := by rw [← hq]; rfl
      have hst : lst q i t.1 = if q i then some i else lst q (i + 1) t.1 := lst_s hi
      have J : EV mX9_paint sh Mr (fun M' => M' = pnt M B w cl 24) 82 [some (.ref B), some (.int (nI s)), some (.int (nI i)), some (.int (nI ((s + 24 - p.2.1 i) % 24))), o4] [.int (bI (q i))] M2 := by
        refine (ex_is4 dX9_paint_82 (Nat.le_of_ble_eq_true rfl) rfl (ex_al0 dX9_paint_84 (ex_getR dX9_paint_85 flX9_52 (md_sh hB) (md_r26 hB) (ex_il1 dX9_paint_88 (ex_il4 dX9_paint_89 (ex_ifB_eq (tgt := 98) dX9_paint_91 rfl (fun c91 => ?_) (fun c91 => ?_)))))))
        · refine (ex_al0 dX9_paint_98 (ex_getR dX9_paint_99 flX9_52 (md_sh hB) (md_r26 hB) (ex_il1 dX9_paint_102 (ex_ildN dX9_paint_103 (md_a26 hB) (by omega) (by omega) (ex_istN dX9_paint_104 (md_a26 hB) (by omega) (by omega) (ex_inc2 dX9_paint_105 (Nat.le_of_ble_eq_true rfl) rfl (dec1s i) (ex_goto (tgt := 22) dX9_paint_108 rfl ?_)))))))
          refine ihi _ _ ⟨⟨_, _, by omega, rfl⟩, ?_⟩
          rw [hst, if_neg (by rw [c91]; decide), ← hM2, wr_s, wr_wr]
        · refine (ex_il2 dX9_paint_94 (ex_goto (tgt := 104) dX9_paint_95 rfl (ex_istN dX9_paint_104 (md_a26 hB) (by omega) (by omega) (ex_inc2 dX9_paint_105 (Nat.le_of_ble_eq_true rfl) rfl (dec1s i) (ex_goto (tgt := 22) dX9_paint_108 rfl ?_)))))
          refine ihi _ _ ⟨⟨_, _, by omega, rfl⟩, ?_⟩
          rw [hst, if_pos c91, ← hM2, wr_wr]; rfl
      refine (ex_il2 dX9_paint_22 (ex_if_lt (tgt := 111) dX9_paint_23 rfl (fun c23 => (absurd c23 (nI_pos (by omega)))) (fun c23 => (ex_il1 dX9_paint_26 (ex_bipush (v := nI 24) dX9_paint_27 rfl (ex_iaddN dX9_paint_29 (ex_al0 dX9_paint_30 (ex_getR dX9_paint_31 flX9_49 (md_sh hB) (md_r24 hB) (ex_bipush (v := nI 8) dX9_paint_34 rfl (ex_il2 dX9_paint_36 (ex_iaddN dX9_paint_37 (ex_ildN dX9_paint_38 (md_a24 hB) (by omega) (by omega) (ex_top (y := nI ((p.2.1 i))) (by rw [hk _ (by omega) (by omega)]; exact d1) (ex_isubN dX9_paint_39 (by omega) (ex_bipush (v := nI 24) dX9_paint_40 rfl (ex_iremN dX9_paint_42 ⟨by omega, by omega, by omega⟩ (ex_is3 dX9_paint_43 (Nat.le_of_ble_eq_true rfl) rfl (ex_il3 dX9_paint_44 (ex_al0 dX9_paint_45 (ex_getR dX9_paint_46 flX9_49 (md_sh hB) (md_r24 hB) (ex_bipush (v := nI 14) dX9_paint_49 rfl (ex_il2 dX9_paint_51 (ex_iaddN dX9_paint_52 (ex_ildN dX9_paint_53 (md_a24 hB) (by omega) (by omega) (ex_top (y := nI ((p.2.2 i))) (by rw [hk _ (by omega) (by omega)]; exact d3) (ex_icmp_geN (tgt := 81) dX9_paint_54 rfl (by omega) (by omega) (fun c54 => ?_) (fun c54 => ?_)))))))))))))))))))))))))))
      · refine (ex_iconst (v := nI 0) dX9_paint_81 rfl ?_)
        exact ex_top (bI_ff (by rw [hqi]; simp; intro _ h; omega)) J
      · refine (ex_al0 dX9_paint_57 (ex_getI dX9_paint_58 flX9_161 (md_sh hB) (ex_il2 dX9_paint_61 (ex_SP2 dX9_paint_62 lkX9_167 ⟨(Nat.le_of_ble_eq_true rfl), (Nat.le_of_ble_eq_true rfl)⟩ ⟨Nat.le_refl _, Nat.le_refl _⟩ (Nat.le_of_ble_eq_true rfl) (m_has _ i (by omega) sh Mr M2) (ex_ifB_ne (tgt := 81) dX9_paint_65 rfl (fun c65 => ?_) (fun c65 => ?_))))))
        · refine (ex_iconst (v := nI 0) dX9_paint_81 rfl ?_)
          exact ex_top (bI_ff (by rw [hqi, ← hk B (by omega) (by omega), c65]; rfl)) J
        · refine (ex_al0 dX9_paint_68 (ex_il2 dX9_paint_69 (ex_il3 dX9_paint_70 (ex_VP2 dX9_paint_71 lkX9_171 (md_sh hB) ⟨_, _, rfl⟩ ⟨(Nat.le_of_ble_eq_true rfl), (Nat.le_of_ble_eq_true rfl)⟩ ⟨Nat.le_refl _, Nat.le_refl _⟩ (Nat.le_of_ble_eq_true rfl) (m_shines hB M2 t (ht.of (by rw [hk B (by omega) (by omega)]) (hk _ (by omega) (by omega))) i _ p.1 hi (Nat.mod_lt _ (by decide)) (by rw [hk _ (by omega) (by omega)]; exact hp.1) hp.2.1) (ex_ifB_eq (tgt := 81) dX9_paint_74 rfl (fun c74 => ?_) (fun c74 => ?_))))))
          · refine (ex_iconst (v := nI 0) dX9_paint_81 rfl ?_)
            exact ex_top (bI_ff (by rw [hqi, c74]; simp)) J
          · refine (ex_iconst (v := nI 1) dX9_paint_77 rfl (ex_goto (tgt := 82) dX9_paint_78 rfl ?_))
            exact ex_top (bI_tt (by rw [hqi, ← hk B (by omega) (by omega), c65, c74]; simp; omega)) J
    · intro ls M2 h
      obtain ⟨⟨o3, o4, hi, rfl⟩, rfl⟩ := h
      rw [lst_0, ← hws]
      have hwl : ∀ i, w s = some i → i < t.1 := fun i h => by rw [hws] at h; exact (fst_some h).1
      generalize hM2 : wr (pnt M B w cl s) (B + 15) s (wI (w s)) = M2
      have hk : ∀ c, c ≠ B + 15 → c ≠ B + 16 → M2 c = M c := fun c e1 e2 => by rw [← hM2, wr_oc e1, pnt_oc e1 e2]
      have hMs : M2 (B + 15) s = wI (w s) := by rw [← hM2, wr_s]
      have J : EV mX9_paint sh Mr (fun M' => M' = pnt M B w cl 24) 155 [some (.ref B), some (.int (nI s)), some (.int (nI 0 - nI 1)), o3, o4] [.int (nI (cl s)), .int (nI s), .ref (B + 16)] M2 := by
        refine (ex_istN dX9_paint_155 (md_a27 hB) (by omega) (by omega) (ex_inc1 dX9_paint_156 (Nat.le_of_ble_eq_true rfl) rfl (inc1 _) (ex_goto (tgt := 2) dX9_paint_159 rfl ?_)))
        refine ihs _ _ ⟨⟨_, _, _, rfl⟩, ?_⟩
        rw [← hM2]; exact pnt_s
      refine (ex_il2 dX9_paint_22 (ex_if_lt (tgt := 111) dX9_paint_23 rfl (fun c23 => (ex_al0 dX9_paint_111 (ex_getR dX9_paint_112 flX9_55 (md_sh hB) (md_r27 hB) (ex_il1 dX9_paint_115 (ex_al0 dX9_paint_116 (ex_getR dX9_paint_117 flX9_52 (md_sh hB) (md_r26 hB) (ex_il1 dX9_paint_120 (ex_ildN dX9_paint_121 (md_a26 hB) (by omega) (by omega) (ex_top (hMs) (ex_if_lt (tgt := 138) dX9_paint_122 rfl (fun c122 => ?_) (fun c122 => ?_))))))))))) (fun c23 => (absurd (by decide) c23))))
      · refine (ex_iconst (v := nI 4) dX9_paint_138 rfl (ex_goto (tgt := 155) dX9_paint_139 rfl ?_))
        have h0 : w s = none := (wI_neg (fun i h => hlt i (hwl i h))).mp c122
        refine ex_top ?_ J
        rw [hcl, h0]; rfl
      · refine (ex_al0 dX9_paint_125 (ex_getR dX9_paint_126 flX9_49 (md_sh hB) (md_r24 hB) (ex_iconst (v := nI 1) dX9_paint_129 rfl (ex_ildN dX9_paint_130 (md_a24 hB) (by omega) (by omega) (ex_top (y := (M (B + 14) 1)) (by rw [hk _ (by omega) (by omega)]) (ex_il1 dX9_paint_131 (ex_SP2 dX9_paint_132 lkX9_167 ⟨(Nat.le_of_ble_eq_true rfl), (Nat.le_of_ble_eq_true rfl)⟩ ⟨Nat.le_refl _, Nat.le_refl _⟩ (Nat.le_of_ble_eq_true rfl) (m_has _ s (by omega) sh Mr M2) (ex_ifB_eq (tgt := 142) dX9_paint_135 rfl (fun c135 => ?_) (fun c135 => ?_)))))))))
        · cases hws2 : w s with
          | none => exact absurd ((wI_neg (fun i h => hlt i (hwl i h))).mpr hws2) c122
          | some i =>
            have hi2 := hwl i hws2
            refine (ex_al0 dX9_paint_142 (ex_getR dX9_paint_143 flX9_7 (md_sh hB) (md_r1 hB) (ex_iconst (v := nI 3) dX9_paint_146 rfl (ex_al0 dX9_paint_147 (ex_getR dX9_paint_148 flX9_52 (md_sh hB) (md_r26 hB) (ex_il1 dX9_paint_151 (ex_ildN dX9_paint_152 (md_a26 hB) (by omega) (by omega) (ex_top (y := nI (i)) (by rw [hMs, hws2]; rfl) (ex_imulN dX9_paint_153 (ex_ildN dX9_paint_154 (md_a1 hB) (by omega) (by omega) (ex_top (y := (nI (t.2.1 i))) (by rw [hk _ (by omega) (by omega)]; exact (ht.2.2 i hi2).1) ?_)))))))))))
            refine ex_top ?_ J
            rw [hcl, hws2, c135]; rfl
        · refine (ex_iconst (v := nI 4) dX9_paint_138 rfl (ex_goto (tgt := 155) dX9_paint_139 rfl ?_))
          refine ex_top ?_ J
          rw [hcl, c135]
          cases w s <;> rfl
  · intro ls M' h
    obtain ⟨⟨o2, o3, o4, rfl⟩, rfl⟩ := h
    refine (ex_il1 dX9_paint_2 (ex_bipush (v := nI 24) dX9_paint_3 rfl (ex_icmp_geN (tgt := 162) dX9_paint_5 rfl (by omega) (by omega) (fun c5 => (ex_rv dX9_paint_162 rfl (rfl))) (fun c5 => (absurd (Nat.le_refl 24) c5)))))
end
section
/-! the reference: signs, sure ships -/
abbrev Sd : Type := Nat × (Nat → Nat) × (Nat → Nat)
def ShM (B : Nat) (M : MM) (d : Sd) : Prop := M B 2 = nI d.1 ∧ d.1 ≤ 5 ∧ ∀ k, k < d.1 → M (B + 2) (2 * k) = nI (d.2.1 k) ∧ d.2.1 k < 24 ∧ M (B + 2) (2 * k + 1) = nI (d.2.2 k) ∧ d.2.2 k ≤ 12
theorem ShM.of {B : Nat} {M M' : MM} {d : Sd} (h : ShM B M d) (h0 : M' B 2 = M B 2) (h1 : M' (B + 2) = M (B + 2)) : ShM B M' d := by
  refine ⟨h0.trans h.1, h.2.1, fun i hi => ?_⟩
  rw [h1]
  exact h.2.2 i hi
/-- ship k is sure in fog f -/
def sur (cl : Nat → Nat) (d : Sd) (f k : Nat) : Bool := (sgn cl (seb (d.2.1 k) (d.2.2 k)) f).isSome
theorem m_isSeen (c f : Nat) (hc : c ≤ 4) (hf : f < 4) (sh : Sh) (Mr : MR) (M : MM) : CtP mX9_isSeen [.int (nI c), .int (nI f)] sh Mr M (bI (decide (c + f < 4))) := by
  refine ct_of (mi := mX9_isSeen) (ls := [some (.int (nI c)), some (.int (nI f))]) rfl rfl (Nat.le_of_ble_eq_true rfl) rfl ?_
  have J1 : EI mX9_isSeen sh Mr (fun x M' => x = nI 1 ∧ M' = M) 33 [some (.int (nI c)), some (.int (nI f))] [] M := by
    refine (ex_iconst (v := nI 1) dX9_isSeen_33 rfl (ex_goto (tgt := 38) dX9_isSeen_34 rfl (ex_ri dX9_isSeen_38 rfl rfl (⟨rfl, rfl⟩))))
  have J0 : EI mX9_isSeen sh Mr (fun x M' => x = nI 0 ∧ M' = M) 37 [some (.int (nI c)), some (.int (nI f))] [] M := by
    refine (ex_iconst (v := nI 0) dX9_isSeen_37 rfl (ex_ri dX9_isSeen_38 rfl rfl (⟨rfl, rfl⟩)))
  by_cases h : c + f < 4
  · rw [decide_eq_true h, bI_t]
    refine (ex_il0 dX9_isSeen_0 (ex_iconst (v := nI 4) dX9_isSeen_1 rfl (ex_icmp_eqN (tgt := 37) dX9_isSeen_2 rfl (by omega) (by omega) (fun c2 => (False.elim (by omega))) (fun c2 => (ex_il1 dX9_isSeen_5 (ex_if_eqN (tgt := 33) dX9_isSeen_6 rfl (by omega) (fun c6 => ?_) (fun c6 => ?_)))))))
    · exact J1
    · refine (ex_il1 dX9_isSeen_9 (ex_iconst (v := nI 1) dX9_isSeen_10 rfl (ex_icmp_neN (tgt := 19) dX9_isSeen_11 rfl (by omega) (by omega) (fun c11 => ?_) (fun c11 => ?_))))
      · refine (ex_il1 dX9_isSeen_19 (ex_iconst (v := nI 2) dX9_isSeen_20 rfl (ex_icmp_neN (tgt := 29) dX9_isSeen_21 rfl (by omega) (by omega) (fun c21 => ?_) (fun c21 => ?_))))
        · refine (ex_il0 dX9_isSeen_29 (ex_if_neN (tgt := 37) dX9_isSeen_30 rfl (by omega) (fun c30 => (False.elim (by omega))) (fun c30 => ?_)))
          exact J1
        · refine (ex_il0 dX9_isSeen_24 (ex_iconst (v := nI 2) dX9_isSeen_25 rfl (ex_icmp_ltN (tgt := 33) dX9_isSeen_26 rfl (by omega) (by omega) (fun c26 => ?_) (fun c26 => (False.elim (by omega))))))
          exact J1
      · refine (ex_il0 dX9_isSeen_14 (ex_iconst (v := nI 3) dX9_isSeen_15 rfl (ex_icmp_neN (tgt := 33) dX9_isSeen_16 rfl (by omega) (by omega) (fun c16 => ?_) (fun c16 => (False.elim (by omega))))))
        exact J1
  · rw [decide_eq_false h, bI_f]
    refine (ex_il0 dX9_isSeen_0 (ex_iconst (v := nI 4) dX9_isSeen_1 rfl (ex_icmp_eqN (tgt := 37) dX9_isSeen_2 rfl (by omega) (by omega) (fun c2 => ?_) (fun c2 => ?_))))
    · exact J0
    · refine (ex_il1 dX9_isSeen_5 (ex_if_eqN (tgt := 33) dX9_isSeen_6 rfl (by omega) (fun c6 => (False.elim (by omega))) (fun c6 => (ex_il1 dX9_isSeen_9 (ex_iconst (v := nI 1) dX9_isSeen_10 rfl (ex_icmp_neN (tgt := 19) dX9_isSeen_11 rfl (by omega) (by omega) (fun c11 => ?_) (fun c11 => ?_)))))))
      · refine (ex_il1 dX9_isSeen_19 (ex_iconst (v := nI 2) dX9_isSeen_20 rfl (ex_icmp_neN (tgt := 29) dX9_isSeen_21 rfl (by omega) (by omega) (fun c21 => ?_) (fun c21 => ?_))))
        · refine (ex_il0 dX9_isSeen_29 (ex_if_neN (tgt := 37) dX9_isSeen_30 rfl (by omega) (fun c30 => ?_) (fun c30 => (False.elim (by omega)))))
          exact J0
        · refine (ex_il0 dX9_isSeen_24 (ex_iconst (v := nI 2) dX9_isSeen_25 rfl (ex_icmp_ltN (tgt := 33) dX9_isSeen_26 rfl (by omega) (by omega) (fun c26 => (False.elim (by omega))) (fun c26 => (ex_il0 dX9_isSeen_29 (ex_if_neN (tgt := 37) dX9_isSeen_30 rfl (by omega) (fun c30 => ?_) (fun c30 => (False.elim (by omega)))))))))
          exact J0
      · refine (ex_il0 dX9_isSeen_14 (ex_iconst (v := nI 3) dX9_isSeen_15 rfl (ex_icmp_neN (tgt := 33) dX9_isSeen_16 rfl (by omega) (by omega) (fun c16 => (False.elim (by omega))) (fun c16 => (ex_il1 dX9_isSeen_19 (ex_iconst (v := nI 2) dX9_isSeen_20 rfl (ex_icmp_neN (tgt := 29) dX9_isSeen_21 rfl (by omega) (by omega) (fun c21 => (ex_il0 dX9_isSeen_29 (ex_if_neN (tgt := 37) dX9_isSeen_30 rfl (by omega) (fun c30 => ?_) (fun c30 => (False.elim (by omega)))))) (fun c21 => (False.elim (by omega))))))))))
        exact J0
theorem m_sees {sh : Sh} {Mr : MR} {B : Nat} (hB : MD sh Mr B) (M : MM) (d : Sd) (hd : ShM B M d) (k s : Nat) (hk : k < d.1) (hs : s < 24) : CtP mX9_sees [.ref B, .int (nI k), .int (nI s)] sh Mr M (bI (seb (d.2.1 k) (d.2.2 k) s)) := by
  have h5 := hd.2.1
  obtain ⟨e1, e2, e3, e4⟩ := hd.2.2 k hk
  refine ct_of (mi := mX9_sees) (ls := [some (.ref B), some (.int (nI k)), some (.int (nI s))]) rfl rfl (Nat.le_of_ble_eq_true rfl) rfl ?_
  refine (ex_il2 dX9_sees_0 (ex_bipush (v := nI 24) dX9_sees_1 rfl (ex_iaddN dX9_sees_3 (ex_al0 dX9_sees_4 (ex_getR dX9_sees_5 flX9_13 (md_sh hB) (md_r3 hB) (ex_iconst (v := nI 2) dX9_sees_8 rfl (ex_il1 dX9_sees_9 (ex_imulN dX9_sees_10 (ex_ildN dX9_sees_11 (md_a3 hB) (by omega) (by omega) (ex_top (e1) (ex_isubN dX9_sees_12 (by omega) (ex_bipush (v := nI 24) dX9_sees_13 rfl (ex_iremN dX9_sees_15 ⟨by omega, by omega, by omega⟩ (ex_al0 dX9_sees_16 (ex_getR dX9_sees_17 flX9_13 (md_sh hB) (md_r3 hB) (ex_iconst (v := nI 2) dX9_sees_20 rfl (ex_il1 dX9_sees_21 (ex_imulN dX9_sees_22 (ex_iconst (v := nI 1) dX9_sees_23 rfl (ex_iaddN dX9_sees_24 (ex_ildN dX9_sees_25 (md_a3 hB) (by omega) (by omega) (ex_top (e3) (ex_icmp_geN (tgt := 33) dX9_sees_26 rfl (by omega) (by omega) (fun c26 => ?_) (fun c26 => ?_))))))))))))))))))))))))
  · refine (ex_iconst (v := nI 0) dX9_sees_33 rfl (ex_ri dX9_sees_34 rfl rfl (⟨bI_ff (decide_eq_false (by unfold bh; omega)), rfl⟩)))
  · refine (ex_iconst (v := nI 1) dX9_sees_29 rfl (ex_goto (tgt := 34) dX9_sees_30 rfl (ex_ri dX9_sees_34 rfl rfl (⟨bI_tt (decide_eq_true (by unfold bh; omega)), rfl⟩))))
theorem m_signOf {sh : Sh} {Mr : MR} {B : Nat} (hB : MD sh Mr B) (M : MM) (d : Sd) (hd : ShM B M d) (cl : Nat → Nat) (hcl : ∀ s, s < 24 → M (B + 16) s = nI (cl s) ∧ cl s ≤ 4) (k f : Nat) (hk : k < d.1) (hf : f < 4) : CtP mX9_signOf [.ref B, .int (nI k), .int (nI f)] sh Mr M (wI (sgn cl (seb (d.2.1 k) (d.2.2 k)) f)) := by
  have h5 := hd.2.1
  have hse := fun s hs => m_sees (Mr := Mr) hB M d hd k s hk hs
  generalize seb (d.2.1 k) (d.2.2 k) = se at hse ⊢
  refine ct_of (mi := mX9_signOf) (ls := [some (.ref B), some (.int (nI k)), some (.int (nI f)), none, none, none, none]) rfl rfl (Nat.le_of_ble_eq_true rfl) rfl ?_
  refine (ex_iconst (v := nI 0) dX9_signOf_0 rfl (ex_is3 dX9_signOf_1 (Nat.le_of_ble_eq_true rfl) rfl ?_))
  refine ex_for (I := fun c ls M' => (∃ o4 o5 o6, ls = [some (.ref B), some (.int (nI k)), some (.int (nI f)), some (.int (nI c)), o4, o5, o6]) ∧ (∀ j, j < c → sgp cl se f j = false) ∧ M' = M) 4 ?_ ?_ 0 _ _ (Nat.zero_le _) ⟨⟨_, _, _, rfl⟩, fun j hj => by omega, rfl⟩
  · intro c ls M' hc h ihc
    obtain ⟨⟨o4, o5, o6, rfl⟩, hno, rfl⟩ := h
    refine (ex_il3 dX9_signOf_2 (ex_iconst (v := nI 4) dX9_signOf_3 rfl (ex_icmp_geN (tgt := 121) dX9_signOf_4 rfl (by omega) (by omega) (fun c4 => (absurd c4 (by omega))) (fun c4 => (ex_iconst (v := nI 0) dX9_signOf_7 rfl (ex_is4 dX9_signOf_8 (Nat.le_of_ble_eq_true rfl) rfl (ex_iconst (v := nI 0) dX9_signOf_10 rfl (ex_is5 dX9_signOf_11 (Nat.le_of_ble_eq_true rfl) rfl (ex_iconst (v := nI 0) dX9_signOf_13 rfl (ex_is6 dX9_signOf_14 (Nat.le_of_ble_eq_true rfl) rfl ?_))))))))))
    refine ex_for (I := fun s ls M'' => ls = [some (.ref B), some (.int (nI k)), some (.int (nI f)), some (.int (nI c)), some (.int (bI (anyb (fun s => decide (cl s = c) && se s) s))), some (.int (bI (anyb (fun s => decide (cl s = c) && !(se s)) s))), some (.int (nI s))] ∧ M'' = M') 24 ?_ ?_ 0 _ _ (Nat.zero_le _) ⟨rfl, rfl⟩
    · intro s ls M'' hs h ih
      obtain ⟨rfl, rfl⟩ := h
      obtain ⟨g1, g2⟩ := hcl s hs
      generalize hp1 : (fun s => decide (cl s = c) && se s) = p1 at ih ⊢
      generalize hp2 : (fun s => decide (cl s = c) && !(se s)) = p2 at ih ⊢
      have e1 : p1 s = (decide (cl s = c) && se s) := by rw [← hp1]
      have e2 : p2 s = (decide (cl s = c) && !(se s)) := by rw [← hp2]
      have a1 : anyb p1 (s + 1) = (anyb p1 s || p1 s) := rfl
      have a2 : anyb p2 (s + 1) = (anyb p2 s || p2 s) := rfl
      have J2 : EI mX9_signOf sh Mr (fun x M' => x = wI (sgn cl se f) ∧ M' = M'') 87 [some (.ref B), some (.int (nI k)), some (.int (nI f)), some (.int (nI c)), some (.int (bI (anyb p1 (s + 1)))), some (.int (bI (anyb p2 s))), some (.int (nI s))] [.int (bI (anyb p2 (s + 1)))] M'' := by
        refine (ex_is5 dX9_signOf_87 (Nat.le_of_ble_eq_true rfl) rfl (ex_inc6 dX9_signOf_89 (Nat.le_of_ble_eq_true rfl) rfl (inc1 _) (ex_goto (tgt := 16) dX9_signOf_92 rfl ?_)))
        exact ih _ _ ⟨rfl, rfl⟩
      have J1 : EI mX9_signOf sh Mr (fun x M' => x = wI (sgn cl se f) ∧ M' = M'') 54 [some (.ref B), some (.int (nI k)), some (.int (nI f)), some (.int (nI c)), some (.int (bI (anyb p1 s))), some (.int (bI (anyb p2 s))), some (.int (nI s))] [.int (bI (anyb p1 (s + 1)))] M'' := by
        refine (ex_is4 dX9_signOf_54 (Nat.le_of_ble_eq_true rfl) rfl (ex_il5 dX9_signOf_56 (ex_ifB_ne (tgt := 82) dX9_signOf_58 rfl (fun c58 => ?_) (fun c58 => ?_))))
        · refine (ex_iconst (v := nI 1) dX9_signOf_82 rfl (ex_goto (tgt := 87) dX9_signOf_83 rfl ?_))
          exact ex_top (bI_tt (by rw [a2, c58]; rfl)) J2
        · refine (ex_al0 dX9_signOf_61 (ex_getR dX9_signOf_62 flX9_55 (md_sh hB) (md_r27 hB) (ex_il6 dX9_signOf_65 (ex_ildN dX9_signOf_67 (md_a27 hB) (by omega) (by omega) (ex_top (g1) (ex_il3 dX9_signOf_68 (ex_icmp_neN (tgt := 86) dX9_signOf_69 rfl (by omega) (by omega) (fun c69 => ?_) (fun c69 => ?_))))))))
          · refine (ex_iconst (v := nI 0) dX9_signOf_86 rfl ?_)
            exact ex_top (bI_ff (by rw [a2, c58, e2]; simp [c69])) J2
          · refine (ex_al0 dX9_signOf_72 (ex_il1 dX9_signOf_73 (ex_il6 dX9_signOf_74 (ex_VP2 dX9_signOf_76 lkX9_174 (md_sh hB) ⟨_, _, rfl⟩ ⟨(Nat.le_of_ble_eq_true rfl), (Nat.le_of_ble_eq_true rfl)⟩ ⟨Nat.le_refl _, Nat.le_refl _⟩ (Nat.le_of_ble_eq_true rfl) (hse s hs) (ex_ifB_ne (tgt := 86) dX9_signOf_79 rfl (fun c79 => ?_) (fun c79 => ?_))))))
            · refine (ex_iconst (v := nI 0) dX9_signOf_86 rfl ?_)
              exact ex_top (bI_ff (by rw [a2, c58, e2, c79]; simp)) J2
            · refine (ex_iconst (v := nI 1) dX9_signOf_82 rfl (ex_goto (tgt := 87) dX9_signOf_83 rfl ?_))
              exact ex_top (bI_tt (by rw [a2, c58, e2, c79]; simp [c69])) J2
      refine (ex_il6 dX9_signOf_16 (ex_bipush (v := nI 24) dX9_signOf_18 rfl (ex_icmp_geN (tgt := 95) dX9_signOf_20 rfl (by omega) (by omega) (fun c20 => (absurd c20 (by omega))) (fun c20 => (ex_il4 dX9_signOf_23 (ex_ifB_ne (tgt := 49) dX9_signOf_25 rfl (fun c25 => ?_) (fun c25 => ?_)))))))
      · refine (ex_iconst (v := nI 1) dX9_signOf_49 rfl (ex_goto (tgt := 54) dX9_signOf_50 rfl ?_))
        exact ex_top (bI_tt (by rw [a1, c25]; rfl)) J1
      · refine (ex_al0 dX9_signOf_28 (ex_getR dX9_signOf_29 flX9_55 (md_sh hB) (md_r27 hB) (ex_il6 dX9_signOf_32 (ex_ildN dX9_signOf_34 (md_a27 hB) (by omega) (by omega) (ex_top (g1) (ex_il3 dX9_signOf_35 (ex_icmp_neN (tgt := 53) dX9_signOf_36 rfl (by omega) (by omega) (fun c36 => ?_) (fun c36 => ?_))))))))
        · refine (ex_iconst (v := nI 0) dX9_signOf_53 rfl ?_)
          exact ex_top (bI_ff (by rw [a1, c25, e1]; simp [c36])) J1
        · refine (ex_al0 dX9_signOf_39 (ex_il1 dX9_signOf_40 (ex_il6 dX9_signOf_41 (ex_VP2 dX9_signOf_43 lkX9_174 (md_sh hB) ⟨_, _, rfl⟩ ⟨(Nat.le_of_ble_eq_true rfl), (Nat.le_of_ble_eq_true rfl)⟩ ⟨Nat.le_refl _, Nat.le_refl _⟩ (Nat.le_of_ble_eq_true rfl) (hse s hs) (ex_ifB_eq (tgt := 53) dX9_signOf_46 rfl (fun c46 => ?_) (fun c46 => ?_))))))
          · refine (ex_iconst (v := nI 0) dX9_signOf_53 rfl ?_)
            exact ex_top (bI_ff (by rw [a1, c25, e1, c46]; simp)) J1
          · refine (ex_iconst (v := nI 1) dX9_signOf_49 rfl (ex_goto (tgt := 54) dX9_signOf_50 rfl ?_))
            exact ex_top (bI_tt (by rw [a1, c25, e1, c46]; simp [c36])) J1
    · intro ls M'' h
      obtain ⟨rfl, rfl⟩ := h
      have hg : sgp cl se f c = (anyb (fun s => decide (cl s = c) && se s) 24 && (!(anyb (fun s => decide (cl s = c) && !(se s)) 24) && decide (c + f < 4))) := rfl
      have J : sgp cl se f c = false → EI mX9_signOf sh Mr (fun x M' => x = wI (sgn cl se f) ∧ M' = M'') 115 [some (.ref B), some (.int (nI k)), some (.int (nI f)), some (.int (nI c)), some (.int (bI (anyb (fun s => decide (cl s = c) && se s) 24))), some (.int (bI (anyb (fun s => decide (cl s = c) && !(se s)) 24))), some (.int (nI 24))] [] M'' := by
        intro hz
        refine (ex_inc3 dX9_signOf_115 (Nat.le_of_ble_eq_true rfl) rfl (inc1 _) (ex_goto (tgt := 2) dX9_signOf_118 rfl ?_))
        refine ihc _ _ ⟨⟨_, _, _, rfl⟩, fun j hj => ?_, rfl⟩
        by_cases e : j = c
        · subst e; exact hz
        · exact hno j (by omega)
      refine (ex_il6 dX9_signOf_16 (ex_bipush (v := nI 24) dX9_signOf_18 rfl (ex_icmp_geN (tgt := 95) dX9_signOf_20 rfl (by omega) (by omega) (fun c20 => (ex_il4 dX9_signOf_95 (ex_ifB_eq (tgt := 115) dX9_signOf_97 rfl (fun c97 => ?_) (fun c97 => ?_)))) (fun c20 => (absurd (Nat.le_refl 24) c20)))))
      · exact J (by rw [hg, c97]; rfl)
      · refine (ex_il5 dX9_signOf_100 (ex_ifB_ne (tgt := 115) dX9_signOf_102 rfl (fun c102 => ?_) (fun c102 => ?_)))
        · exact J (by rw [hg, c102]; simp)
        · refine (ex_il3 dX9_signOf_105 (ex_il2 dX9_signOf_106 (ex_SP2 dX9_signOf_107 lkX9_177 ⟨(Nat.le_of_ble_eq_true rfl), (Nat.le_of_ble_eq_true rfl)⟩ ⟨Nat.le_refl _, Nat.le_refl _⟩ (Nat.le_of_ble_eq_true rfl) (m_isSeen c f (by omega) hf sh Mr M'') (ex_ifB_eq (tgt := 115) dX9_signOf_110 rfl (fun c110 => ?_) (fun c110 => ?_)))))
          · exact J (by rw [hg, c110]; simp)
          · refine (ex_il3 dX9_signOf_113 (ex_ri dX9_signOf_114 rfl rfl (⟨by rw [show sgn cl se f = some c from fst_eq hc (by rw [hg, c97, c102, c110]; rfl) hno]; rfl, rfl⟩)))
  · intro ls M' h
    obtain ⟨⟨o4, o5, o6, rfl⟩, hno, rfl⟩ := h
    refine (ex_il3 dX9_signOf_2 (ex_iconst (v := nI 4) dX9_signOf_3 rfl (ex_icmp_geN (tgt := 121) dX9_signOf_4 rfl (by omega) (by omega) (fun c4 => (ex_iconst (v := (-1)) dX9_signOf_121 rfl (ex_ri dX9_signOf_122 rfl rfl (⟨by rw [show sgn cl se f = none from fst_no hno]; rfl, rfl⟩)))) (fun c4 => (absurd (Nat.le_refl 4) c4)))))
theorem sgn_lt {cl : Nat → Nat} {se : Nat → Bool} {f c : Nat} (h : sgn cl se f = some c) : c < 4 := (fst_some h).1
theorem m_sureIn {sh : Sh} {Mr : MR} {B : Nat} (hB : MD sh Mr B) (M : MM) (d : Sd) (hd : ShM B M d) (cl : Nat → Nat) (hcl : ∀ s, s < 24 → M (B + 16) s = nI (cl s) ∧ cl s ≤ 4) (f : Nat) (hf : f < 4) : CtP mX9_sureIn [.ref B, .int (nI f)] sh Mr M (bset (sur cl d f) d.1) := by
  have h5 := hd.2.1
  refine ct_of (mi := mX9_sureIn) (ls := [some (.ref B), some (.int (nI f)), none, none]) rfl rfl (Nat.le_of_ble_eq_true rfl) rfl ?_
  refine (ex_iconst (v := nI 0) dX9_sureIn_0 rfl (ex_is2 dX9_sureIn_1 (Nat.le_of_ble_eq_true rfl) rfl (ex_iconst (v := nI 0) dX9_sureIn_2 rfl (ex_is3 dX9_sureIn_3 (Nat.le_of_ble_eq_true rfl) rfl ?_))))
  refine ex_for (I := fun k ls M' => ls = [some (.ref B), some (.int (nI f)), some (.int (bset (sur cl d f) k)), some (.int (nI k))] ∧ M' = M) d.1 ?_ ?_ 0 _ _ (Nat.zero_le _) ⟨rfl, rfl⟩
  · intro k ls M' hk h ih
    obtain ⟨rfl, rfl⟩ := h
    have hneg := wI_neg (o := sgn cl (seb (d.2.1 k) (d.2.2 k)) f) (fun i h => by have := sgn_lt h; omega)
    refine (ex_il3 dX9_sureIn_4 (ex_al0 dX9_sureIn_5 (ex_getI dX9_sureIn_6 flX9_92 (md_sh hB) (ex_top (hd.1) (ex_icmp_geN (tgt := 37) dX9_sureIn_9 rfl (by omega) (by omega) (fun c9 => (absurd c9 (by omega))) (fun c9 => (ex_il2 dX9_sureIn_12 (ex_al0 dX9_sureIn_13 (ex_il3 dX9_sureIn_14 (ex_il1 dX9_sureIn_15 (ex_VP2 dX9_sureIn_16 lkX9_180 (md_sh hB) ⟨_, _, rfl⟩ ⟨(Nat.le_of_ble_eq_true rfl), (Nat.le_of_ble_eq_true rfl)⟩ ⟨Nat.le_refl _, Nat.le_refl _⟩ (Nat.le_of_ble_eq_true rfl) (m_signOf hB M' d hd cl hcl k f hk hf) (ex_if_lt (tgt := 28) dX9_sureIn_19 rfl (fun c19 => ?_) (fun c19 => ?_)))))))))))))
    · refine (ex_iconst (v := nI 0) dX9_sureIn_28 rfl (ex_ior dX9_sureIn_29 (ex_top (bset_f (by unfold sur; rw [hneg.mp c19]; rfl)) (ex_is2 dX9_sureIn_30 (Nat.le_of_ble_eq_true rfl) rfl (ex_inc3 dX9_sureIn_31 (Nat.le_of_ble_eq_true rfl) rfl (inc1 _) (ex_goto (tgt := 4) dX9_sureIn_34 rfl ?_))))))
      exact ih _ _ ⟨rfl, rfl⟩
    · refine (ex_iconst (v := nI 1) dX9_sureIn_22 rfl (ex_il3 dX9_sureIn_23 (ex_ishl dX9_sureIn_24 (ex_goto (tgt := 29) dX9_sureIn_25 rfl (ex_ior dX9_sureIn_29 (ex_top (bset_t (by unfold sur; cases hz : sgn cl (seb (d.2.1 k) (d.2.2 k)) f; exact absurd (hneg.mpr hz) c19; rfl)) (ex_is2 dX9_sureIn_30 (Nat.le_of_ble_eq_true rfl) rfl (ex_inc3 dX9_sureIn_31 (Nat.le_of_ble_eq_true rfl) rfl (inc1 _) (ex_goto (tgt := 4) dX9_sureIn_34 rfl ?_)))))))))
      exact ih _ _ ⟨rfl, rfl⟩
  · intro ls M' h
    obtain ⟨rfl, rfl⟩ := h
    refine (ex_il3 dX9_sureIn_4 (ex_al0 dX9_sureIn_5 (ex_getI dX9_sureIn_6 flX9_92 (md_sh hB) (ex_top (hd.1) (ex_icmp_geN (tgt := 37) dX9_sureIn_9 rfl (by omega) (by omega) (fun c9 => (ex_il2 dX9_sureIn_37 (ex_ri dX9_sureIn_38 rfl rfl (⟨rfl, rfl⟩)))) (fun c9 => (absurd (Nat.le_refl d.1) c9)))))))
theorem bset_and {p q : Nat → Bool} {n : Nat} (hn : n ≤ 32) : bset p n &&& bset q n = bset (fun i => p i && q i) n := by
  apply b_ext
  intro i hi
  rw [b_and, bt_bset p n hn i hi, bt_bset q n hn i hi, bt_bset _ n hn i hi]
  cases decide (i < n) <;> simp
theorem sgp_mono {cl : Nat → Nat} {se : Nat → Bool} {f g c : Nat} (h : g ≤ f) (hs : sgp cl se f c = true) : sgp cl se g c = true := by
  unfold sgp at hs ⊢
  simp only [Bool.and_eq_true, decide_eq_true_eq] at hs ⊢
  exact ⟨hs.1, hs.2.1, by omega⟩
theorem sur_mono {cl : Nat → Nat} {d : Sd} {f g k : Nat} (h : g ≤ f) (hs : sur cl d f k = true) : sur cl d g k = true := by
  unfold sur at hs ⊢
  cases hz : sgn cl (seb (d.2.1 k) (d.2.2 k)) f with
  | none => rw [hz] at hs; cases hs
  | some c =>
    obtain ⟨a, b, -⟩ := fst_some hz
    cases hy : sgn cl (seb (d.2.1 k) (d.2.2 k)) g with
    | some _ => rfl
    | none =>
      have := fst_none hy c a
      rw [sgp_mono h b] at this
      cases this
theorem m_sureInAny {sh : Sh} {Mr : MR} {B : Nat} (hB : MD sh Mr B) (M : MM) (d : Sd) (hd : ShM B M d) (cl : Nat → Nat) (hcl : ∀ s, s < 24 → M (B + 16) s = nI (cl s) ∧ cl s ≤ 4) : CtP mX9_sureInAny [.ref B] sh Mr M (bset (sur cl d 3) d.1) := by
  have h5 := hd.2.1
  refine ct_of (mi := mX9_sureInAny) (ls := [some (.ref B)]) rfl rfl (Nat.le_of_ble_eq_true rfl) rfl ?_
  refine (ex_al0 dX9_sureInAny_0 (ex_iconst (v := nI 0) dX9_sureInAny_1 rfl (ex_VP1 dX9_sureInAny_2 lkX9_184 (md_sh hB) ⟨_, _, rfl⟩ ⟨(Nat.le_of_ble_eq_true rfl), (Nat.le_of_ble_eq_true rfl)⟩ ⟨Nat.le_refl _, Nat.le_refl _⟩ (Nat.le_of_ble_eq_true rfl) (m_sureIn hB M d hd cl hcl 0 (by omega)) (ex_al0 dX9_sureInAny_5 (ex_iconst (v := nI 1) dX9_sureInAny_6 rfl (ex_VP1 dX9_sureInAny_7 lkX9_184 (md_sh hB) ⟨_, _, rfl⟩ ⟨(Nat.le_of_ble_eq_true rfl), (Nat.le_of_ble_eq_true rfl)⟩ ⟨Nat.le_refl _, Nat.le_refl _⟩ (Nat.le_of_ble_eq_true rfl) (m_sureIn hB M d hd cl hcl 1 (by omega)) (ex_iand dX9_sureInAny_10 (ex_al0 dX9_sureInAny_11 (ex_iconst (v := nI 2) dX9_sureInAny_12 rfl (ex_VP1 dX9_sureInAny_13 lkX9_184 (md_sh hB) ⟨_, _, rfl⟩ ⟨(Nat.le_of_ble_eq_true rfl), (Nat.le_of_ble_eq_true rfl)⟩ ⟨Nat.le_refl _, Nat.le_refl _⟩ (Nat.le_of_ble_eq_true rfl) (m_sureIn hB M d hd cl hcl 2 (by omega)) (ex_iand dX9_sureInAny_16 (ex_al0 dX9_sureInAny_17 (ex_iconst (v := nI 3) dX9_sureInAny_18 rfl (ex_VP1 dX9_sureInAny_19 lkX9_184 (md_sh hB) ⟨_, _, rfl⟩ ⟨(Nat.le_of_ble_eq_true rfl), (Nat.le_of_ble_eq_true rfl)⟩ ⟨Nat.le_refl _, Nat.le_refl _⟩ (Nat.le_of_ble_eq_true rfl) (m_sureIn hB M d hd cl hcl 3 (by omega)) (ex_iand dX9_sureInAny_22 (ex_ri dX9_sureInAny_23 rfl rfl ?_))))))))))))))))
  refine ⟨?_, rfl⟩
  rw [bset_and (by omega), bset_and (by omega), bset_and (by omega)]
  refine bset_congr _ (fun k hk => ?_)
  cases hz : sur cl d 3 k
  · simp
  · rw [sur_mono (show 0 ≤ 3 by omega) hz, sur_mono (show 1 ≤ 3 by omega) hz, sur_mono (show 2 ≤ 3 by omega) hz]; rfl
end
