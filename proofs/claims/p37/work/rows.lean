section
-- PART A of kit/laws/SKELETON.whole (as printed)
-- ===== PART A: goes FIRST, ahead of the names: the tables' words, and 'selects' of the private methods out of them =====
/-- a private method of a class that the tables say can be made, by its rows of tables_1 -/
def lw_okq (q : MethodName × Nat) : Prop := (q.1.cls ≠ "java/lang/invoke/MethodHandle" ∧ q.1.cls ≠ "java/lang/invoke/VarHandle") ∧ Cond.instantiable q.1.cls q.2 ∈ tables_1 ∧ Cond.privateMethod q.1 ∈ tables_1 ∧ Cond.instanceMethod q.1 ∈ tables_1
theorem lw_p0 : lw_okq (⟨"BlindGuides$City", "moonOf", "(I)I"⟩, 14) := ⟨⟨by decide +kernel, by decide +kernel⟩, List.mem_of_getElem? (i := 22) (by decide +kernel), List.mem_of_getElem? (i := 326) (by decide +kernel), List.mem_of_getElem? (i := 327) (by decide +kernel)⟩
theorem lw_p1 : lw_okq (⟨"BlindGuides", "whoMustTalk", "()I"⟩, 14) := ⟨⟨by decide +kernel, by decide +kernel⟩, List.mem_of_getElem? (i := 14) (by decide +kernel), List.mem_of_getElem? (i := 336) (by decide +kernel), List.mem_of_getElem? (i := 337) (by decide +kernel)⟩
theorem lw_p2 : lw_okq (⟨"BlindGuides", "headsOf", "(I)I"⟩, 14) := ⟨⟨by decide +kernel, by decide +kernel⟩, List.mem_of_getElem? (i := 14) (by decide +kernel), List.mem_of_getElem? (i := 340) (by decide +kernel), List.mem_of_getElem? (i := 341) (by decide +kernel)⟩
theorem lw_p3 : lw_okq (⟨"BlindGuides$Heard", "here", "()I"⟩, 3) := ⟨⟨by decide +kernel, by decide +kernel⟩, List.mem_of_getElem? (i := 188) (by decide +kernel), List.mem_of_getElem? (i := 351) (by decide +kernel), List.mem_of_getElem? (i := 352) (by decide +kernel)⟩
theorem lw_p4 : lw_okq (⟨"BlindGuides$City", "hasCrossing", "(I)Z"⟩, 14) := ⟨⟨by decide +kernel, by decide +kernel⟩, List.mem_of_getElem? (i := 22) (by decide +kernel), List.mem_of_getElem? (i := 361) (by decide +kernel), List.mem_of_getElem? (i := 362) (by decide +kernel)⟩
theorem lw_p5 : lw_okq (⟨"BlindGuides$City", "endOf", "(II)I"⟩, 14) := ⟨⟨by decide +kernel, by decide +kernel⟩, List.mem_of_getElem? (i := 22) (by decide +kernel), List.mem_of_getElem? (i := 366) (by decide +kernel), List.mem_of_getElem? (i := 367) (by decide +kernel)⟩
theorem lw_p6 : lw_okq (⟨"BlindGuides$City", "hasGuide", "(I)Z"⟩, 14) := ⟨⟨by decide +kernel, by decide +kernel⟩, List.mem_of_getElem? (i := 22) (by decide +kernel), List.mem_of_getElem? (i := 374) (by decide +kernel), List.mem_of_getElem? (i := 375) (by decide +kernel)⟩
theorem lw_p7 : lw_okq (⟨"BlindGuides$State", "openTo", "(I)I"⟩, 7) := ⟨⟨by decide +kernel, by decide +kernel⟩, List.mem_of_getElem? (i := 114) (by decide +kernel), List.mem_of_getElem? (i := 378) (by decide +kernel), List.mem_of_getElem? (i := 379) (by decide +kernel)⟩
theorem lw_p8 : lw_okq (⟨"BlindGuides$City", "reachFrom", "(II)I"⟩, 14) := ⟨⟨by decide +kernel, by decide +kernel⟩, List.mem_of_getElem? (i := 22) (by decide +kernel), List.mem_of_getElem? (i := 383) (by decide +kernel), List.mem_of_getElem? (i := 384) (by decide +kernel)⟩
theorem lw_p9 : lw_okq (⟨"BlindGuides$City", "ledFrom", "(II)I"⟩, 14) := ⟨⟨by decide +kernel, by decide +kernel⟩, List.mem_of_getElem? (i := 22) (by decide +kernel), List.mem_of_getElem? (i := 387) (by decide +kernel), List.mem_of_getElem? (i := 388) (by decide +kernel)⟩
theorem lw_p10 : lw_okq (⟨"BlindGuides$City", "hasClient", "(I)Z"⟩, 14) := ⟨⟨by decide +kernel, by decide +kernel⟩, List.mem_of_getElem? (i := 22) (by decide +kernel), List.mem_of_getElem? (i := 395) (by decide +kernel), List.mem_of_getElem? (i := 396) (by decide +kernel)⟩
theorem lw_p11 : lw_okq (⟨"BlindGuides", "refusalOfNights", "(I)I"⟩, 14) := ⟨⟨by decide +kernel, by decide +kernel⟩, List.mem_of_getElem? (i := 14) (by decide +kernel), List.mem_of_getElem? (i := 403) (by decide +kernel), List.mem_of_getElem? (i := 404) (by decide +kernel)⟩
theorem lw_p12 : lw_okq (⟨"BlindGuides$Past", "keepAhead", "(LBlindGuides$State;)V"⟩, 3) := ⟨⟨by decide +kernel, by decide +kernel⟩, List.mem_of_getElem? (i := 150) (by decide +kernel), List.mem_of_getElem? (i := 409) (by decide +kernel), List.mem_of_getElem? (i := 410) (by decide +kernel)⟩
theorem lw_p13 : lw_okq (⟨"BlindGuides$State", "become", "(LBlindGuides$State;)V"⟩, 7) := ⟨⟨by decide +kernel, by decide +kernel⟩, List.mem_of_getElem? (i := 114) (by decide +kernel), List.mem_of_getElem? (i := 416) (by decide +kernel), List.mem_of_getElem? (i := 417) (by decide +kernel)⟩
theorem lw_p14 : lw_okq (⟨"BlindGuides$State", "passNights", "(I)V"⟩, 7) := ⟨⟨by decide +kernel, by decide +kernel⟩, List.mem_of_getElem? (i := 114) (by decide +kernel), List.mem_of_getElem? (i := 426) (by decide +kernel), List.mem_of_getElem? (i := 427) (by decide +kernel)⟩
theorem lw_p15 : lw_okq (⟨"BlindGuides", "streetsFor", "(II)I"⟩, 14) := ⟨⟨by decide +kernel, by decide +kernel⟩, List.mem_of_getElem? (i := 14) (by decide +kernel), List.mem_of_getElem? (i := 434) (by decide +kernel), List.mem_of_getElem? (i := 435) (by decide +kernel)⟩
def lw_privs_1 : List (MethodName × Nat) := [(⟨"BlindGuides$City", "moonOf", "(I)I"⟩, 14), (⟨"BlindGuides", "whoMustTalk", "()I"⟩, 14), (⟨"BlindGuides", "headsOf", "(I)I"⟩, 14), (⟨"BlindGuides$Heard", "here", "()I"⟩, 3), (⟨"BlindGuides$City", "hasCrossing", "(I)Z"⟩, 14), (⟨"BlindGuides$City", "endOf", "(II)I"⟩, 14), (⟨"BlindGuides$City", "hasGuide", "(I)Z"⟩, 14), (⟨"BlindGuides$State", "openTo", "(I)I"⟩, 7), (⟨"BlindGuides$City", "reachFrom", "(II)I"⟩, 14), (⟨"BlindGuides$City", "ledFrom", "(II)I"⟩, 14), (⟨"BlindGuides$City", "hasClient", "(I)Z"⟩, 14), (⟨"BlindGuides", "refusalOfNights", "(I)I"⟩, 14), (⟨"BlindGuides$Past", "keepAhead", "(LBlindGuides$State;)V"⟩, 3), (⟨"BlindGuides$State", "become", "(LBlindGuides$State;)V"⟩, 7), (⟨"BlindGuides$State", "passNights", "(I)V"⟩, 7), (⟨"BlindGuides", "streetsFor", "(II)I"⟩, 14)]
theorem lw_r1 : ∀ q ∈ lw_privs_1, lw_okq q := List.forall_mem_cons.mpr ⟨lw_p0, List.forall_mem_cons.mpr ⟨lw_p1, List.forall_mem_cons.mpr ⟨lw_p2, List.forall_mem_cons.mpr ⟨lw_p3, List.forall_mem_cons.mpr ⟨lw_p4, List.forall_mem_cons.mpr ⟨lw_p5, List.forall_mem_cons.mpr ⟨lw_p6, List.forall_mem_cons.mpr ⟨lw_p7, List.forall_mem_cons.mpr ⟨lw_p8, List.forall_mem_cons.mpr ⟨lw_p9, List.forall_mem_cons.mpr ⟨lw_p10, List.forall_mem_cons.mpr ⟨lw_p11, List.forall_mem_cons.mpr ⟨lw_p12, List.forall_mem_cons.mpr ⟨lw_p13, List.forall_mem_cons.mpr ⟨lw_p14, List.forall_mem_cons.mpr ⟨lw_p15, fun _ h => absurd h List.not_mem_nil⟩⟩⟩⟩⟩⟩⟩⟩⟩⟩⟩⟩⟩⟩⟩⟩
theorem lw_p16 : lw_okq (⟨"BlindGuides$City", "streetsBetween", "(III)I"⟩, 14) := ⟨⟨by decide +kernel, by decide +kernel⟩, List.mem_of_getElem? (i := 22) (by decide +kernel), List.mem_of_getElem? (i := 438) (by decide +kernel), List.mem_of_getElem? (i := 439) (by decide +kernel)⟩
theorem lw_p17 : lw_okq (⟨"BlindGuides", "leadHome", "(III)I"⟩, 14) := ⟨⟨by decide +kernel, by decide +kernel⟩, List.mem_of_getElem? (i := 14) (by decide +kernel), List.mem_of_getElem? (i := 442) (by decide +kernel), List.mem_of_getElem? (i := 443) (by decide +kernel)⟩
theorem lw_p18 : lw_okq (⟨"BlindGuides", "priceOf", "(II)I"⟩, 14) := ⟨⟨by decide +kernel, by decide +kernel⟩, List.mem_of_getElem? (i := 14) (by decide +kernel), List.mem_of_getElem? (i := 446) (by decide +kernel), List.mem_of_getElem? (i := 447) (by decide +kernel)⟩
theorem lw_p19 : lw_okq (⟨"BlindGuides", "passNightByDraws", "()V"⟩, 14) := ⟨⟨by decide +kernel, by decide +kernel⟩, List.mem_of_getElem? (i := 14) (by decide +kernel), List.mem_of_getElem? (i := 473) (by decide +kernel), List.mem_of_getElem? (i := 474) (by decide +kernel)⟩
theorem lw_p20 : lw_okq (⟨"BlindGuides", "draw", "(I)I"⟩, 14) := ⟨⟨by decide +kernel, by decide +kernel⟩, List.mem_of_getElem? (i := 14) (by decide +kernel), List.mem_of_getElem? (i := 477) (by decide +kernel), List.mem_of_getElem? (i := 478) (by decide +kernel)⟩
theorem lw_p21 : lw_okq (⟨"BlindGuides$Past", "bringBack", "(LBlindGuides$State;)V"⟩, 3) := ⟨⟨by decide +kernel, by decide +kernel⟩, List.mem_of_getElem? (i := 150) (by decide +kernel), List.mem_of_getElem? (i := 490) (by decide +kernel), List.mem_of_getElem? (i := 491) (by decide +kernel)⟩
theorem lw_p22 : lw_okq (⟨"BlindGuides$City", "firstTurnBetween", "(III)I"⟩, 14) := ⟨⟨by decide +kernel, by decide +kernel⟩, List.mem_of_getElem? (i := 22) (by decide +kernel), List.mem_of_getElem? (i := 499) (by decide +kernel), List.mem_of_getElem? (i := 500) (by decide +kernel)⟩
theorem lw_p23 : lw_okq (⟨"BlindGuides$Matching", "startWith", "(II)V"⟩, 9) := ⟨⟨by decide +kernel, by decide +kernel⟩, List.mem_of_getElem? (i := 242) (by decide +kernel), List.mem_of_getElem? (i := 513) (by decide +kernel), List.mem_of_getElem? (i := 514) (by decide +kernel)⟩
theorem lw_p24 : lw_okq (⟨"BlindGuides$Matching", "allow", "(IIII)V"⟩, 9) := ⟨⟨by decide +kernel, by decide +kernel⟩, List.mem_of_getElem? (i := 242) (by decide +kernel), List.mem_of_getElem? (i := 517) (by decide +kernel), List.mem_of_getElem? (i := 518) (by decide +kernel)⟩
theorem lw_p25 : lw_okq (⟨"BlindGuides$Matching", "solve", "()V"⟩, 9) := ⟨⟨by decide +kernel, by decide +kernel⟩, List.mem_of_getElem? (i := 242) (by decide +kernel), List.mem_of_getElem? (i := 522) (by decide +kernel), List.mem_of_getElem? (i := 523) (by decide +kernel)⟩
theorem lw_p26 : lw_okq (⟨"BlindGuides$Matching", "fillWorths", "()V"⟩, 9) := ⟨⟨by decide +kernel, by decide +kernel⟩, List.mem_of_getElem? (i := 242) (by decide +kernel), List.mem_of_getElem? (i := 526) (by decide +kernel), List.mem_of_getElem? (i := 527) (by decide +kernel)⟩
theorem lw_p27 : lw_okq (⟨"BlindGuides$Matching", "worthOf", "(II)I"⟩, 9) := ⟨⟨by decide +kernel, by decide +kernel⟩, List.mem_of_getElem? (i := 242) (by decide +kernel), List.mem_of_getElem? (i := 530) (by decide +kernel), List.mem_of_getElem? (i := 531) (by decide +kernel)⟩
theorem lw_p28 : lw_okq (⟨"BlindGuides$Matching", "worthWith", "(III)I"⟩, 9) := ⟨⟨by decide +kernel, by decide +kernel⟩, List.mem_of_getElem? (i := 242) (by decide +kernel), List.mem_of_getElem? (i := 535) (by decide +kernel), List.mem_of_getElem? (i := 536) (by decide +kernel)⟩
theorem lw_p29 : lw_okq (⟨"BlindGuides$Matching", "guideOf", "(I)I"⟩, 9) := ⟨⟨by decide +kernel, by decide +kernel⟩, List.mem_of_getElem? (i := 242) (by decide +kernel), List.mem_of_getElem? (i := 543) (by decide +kernel), List.mem_of_getElem? (i := 544) (by decide +kernel)⟩
theorem lw_p30 : lw_okq (⟨"BlindGuides$Matching", "chosenFor", "(II)I"⟩, 9) := ⟨⟨by decide +kernel, by decide +kernel⟩, List.mem_of_getElem? (i := 242) (by decide +kernel), List.mem_of_getElem? (i := 547) (by decide +kernel), List.mem_of_getElem? (i := 548) (by decide +kernel)⟩
theorem lw_p31 : lw_okq (⟨"BlindGuides$City", "hasAll", "(I)Z"⟩, 14) := ⟨⟨by decide +kernel, by decide +kernel⟩, List.mem_of_getElem? (i := 22) (by decide +kernel), List.mem_of_getElem? (i := 555) (by decide +kernel), List.mem_of_getElem? (i := 556) (by decide +kernel)⟩
def lw_privs_2 : List (MethodName × Nat) := [(⟨"BlindGuides$City", "streetsBetween", "(III)I"⟩, 14), (⟨"BlindGuides", "leadHome", "(III)I"⟩, 14), (⟨"BlindGuides", "priceOf", "(II)I"⟩, 14), (⟨"BlindGuides", "passNightByDraws", "()V"⟩, 14), (⟨"BlindGuides", "draw", "(I)I"⟩, 14), (⟨"BlindGuides$Past", "bringBack", "(LBlindGuides$State;)V"⟩, 3), (⟨"BlindGuides$City", "firstTurnBetween", "(III)I"⟩, 14), (⟨"BlindGuides$Matching", "startWith", "(II)V"⟩, 9), (⟨"BlindGuides$Matching", "allow", "(IIII)V"⟩, 9), (⟨"BlindGuides$Matching", "solve", "()V"⟩, 9), (⟨"BlindGuides$Matching", "fillWorths", "()V"⟩, 9), (⟨"BlindGuides$Matching", "worthOf", "(II)I"⟩, 9), (⟨"BlindGuides$Matching", "worthWith", "(III)I"⟩, 9), (⟨"BlindGuides$Matching", "guideOf", "(I)I"⟩, 9), (⟨"BlindGuides$Matching", "chosenFor", "(II)I"⟩, 9), (⟨"BlindGuides$City", "hasAll", "(I)Z"⟩, 14)]
theorem lw_r2 : ∀ q ∈ lw_privs_2, lw_okq q := List.forall_mem_cons.mpr ⟨lw_p16, List.forall_mem_cons.mpr ⟨lw_p17, List.forall_mem_cons.mpr ⟨lw_p18, List.forall_mem_cons.mpr ⟨lw_p19, List.forall_mem_cons.mpr ⟨lw_p20, List.forall_mem_cons.mpr ⟨lw_p21, List.forall_mem_cons.mpr ⟨lw_p22, List.forall_mem_cons.mpr ⟨lw_p23, List.forall_mem_cons.mpr ⟨lw_p24, List.forall_mem_cons.mpr ⟨lw_p25, List.forall_mem_cons.mpr ⟨lw_p26, List.forall_mem_cons.mpr ⟨lw_p27, List.forall_mem_cons.mpr ⟨lw_p28, List.forall_mem_cons.mpr ⟨lw_p29, List.forall_mem_cons.mpr ⟨lw_p30, List.forall_mem_cons.mpr ⟨lw_p31, fun _ h => absurd h List.not_mem_nil⟩⟩⟩⟩⟩⟩⟩⟩⟩⟩⟩⟩⟩⟩⟩⟩
theorem lw_p32 : lw_okq (⟨"BlindGuides$TurnSearch", "find", "(LBlindGuides$City;IIZ)I"⟩, 4) := ⟨⟨by decide +kernel, by decide +kernel⟩, List.mem_of_getElem? (i := 223) (by decide +kernel), List.mem_of_getElem? (i := 559) (by decide +kernel), List.mem_of_getElem? (i := 560) (by decide +kernel)⟩
theorem lw_p33 : lw_okq (⟨"BlindGuides$TurnSearch", "reach", "(III)V"⟩, 4) := ⟨⟨by decide +kernel, by decide +kernel⟩, List.mem_of_getElem? (i := 223) (by decide +kernel), List.mem_of_getElem? (i := 564) (by decide +kernel), List.mem_of_getElem? (i := 565) (by decide +kernel)⟩
theorem lw_p34 : lw_okq (⟨"BlindGuides$TurnSearch", "reachFrom", "(LBlindGuides$City;I)V"⟩, 4) := ⟨⟨by decide +kernel, by decide +kernel⟩, List.mem_of_getElem? (i := 223) (by decide +kernel), List.mem_of_getElem? (i := 573) (by decide +kernel), List.mem_of_getElem? (i := 574) (by decide +kernel)⟩
theorem lw_p35 : lw_okq (⟨"BlindGuides$City", "endsOf", "(II)I"⟩, 14) := ⟨⟨by decide +kernel, by decide +kernel⟩, List.mem_of_getElem? (i := 22) (by decide +kernel), List.mem_of_getElem? (i := 577) (by decide +kernel), List.mem_of_getElem? (i := 578) (by decide +kernel)⟩
theorem lw_p36 : lw_okq (⟨"BlindGuides$City", "streetsBackTo", "(II)I"⟩, 14) := ⟨⟨by decide +kernel, by decide +kernel⟩, List.mem_of_getElem? (i := 22) (by decide +kernel), List.mem_of_getElem? (i := 589) (by decide +kernel), List.mem_of_getElem? (i := 590) (by decide +kernel)⟩
theorem lw_p37 : lw_okq (⟨"BlindGuides", "isBetrayed", "(IIII)Z"⟩, 14) := ⟨⟨by decide +kernel, by decide +kernel⟩, List.mem_of_getElem? (i := 14) (by decide +kernel), List.mem_of_getElem? (i := 601) (by decide +kernel), List.mem_of_getElem? (i := 602) (by decide +kernel)⟩
theorem lw_p38 : lw_okq (⟨"BlindGuides$Heard", "startWith", "(LBlindGuides$City;I)V"⟩, 3) := ⟨⟨by decide +kernel, by decide +kernel⟩, List.mem_of_getElem? (i := 188) (by decide +kernel), List.mem_of_getElem? (i := 615) (by decide +kernel), List.mem_of_getElem? (i := 616) (by decide +kernel)⟩
theorem lw_p39 : lw_okq (⟨"BlindGuides$Heard", "add", "(LBlindGuides$City;II)V"⟩, 3) := ⟨⟨by decide +kernel, by decide +kernel⟩, List.mem_of_getElem? (i := 188) (by decide +kernel), List.mem_of_getElem? (i := 624) (by decide +kernel), List.mem_of_getElem? (i := 625) (by decide +kernel)⟩
theorem lw_p40 : lw_okq (⟨"BlindGuides$Heard", "bestTurn", "(LBlindGuides$City;)I"⟩, 3) := ⟨⟨by decide +kernel, by decide +kernel⟩, List.mem_of_getElem? (i := 188) (by decide +kernel), List.mem_of_getElem? (i := 637) (by decide +kernel), List.mem_of_getElem? (i := 638) (by decide +kernel)⟩
theorem lw_p41 : lw_okq (⟨"BlindGuides$Book", "add", "(II)V"⟩, 3) := ⟨⟨by decide +kernel, by decide +kernel⟩, List.mem_of_getElem? (i := 206) (by decide +kernel), List.mem_of_getElem? (i := 651) (by decide +kernel), List.mem_of_getElem? (i := 652) (by decide +kernel)⟩
theorem lw_p42 : lw_okq (⟨"BlindGuides$Heard", "clear", "()V"⟩, 3) := ⟨⟨by decide +kernel, by decide +kernel⟩, List.mem_of_getElem? (i := 188) (by decide +kernel), List.mem_of_getElem? (i := 660) (by decide +kernel), List.mem_of_getElem? (i := 661) (by decide +kernel)⟩
theorem lw_p43 : lw_okq (⟨"BlindGuides$Book", "clear", "()V"⟩, 3) := ⟨⟨by decide +kernel, by decide +kernel⟩, List.mem_of_getElem? (i := 206) (by decide +kernel), List.mem_of_getElem? (i := 664) (by decide +kernel), List.mem_of_getElem? (i := 665) (by decide +kernel)⟩
theorem lw_p44 : lw_okq (⟨"BlindGuides$Book", "firstWrong", "(LBlindGuides$State;)I"⟩, 3) := ⟨⟨by decide +kernel, by decide +kernel⟩, List.mem_of_getElem? (i := 206) (by decide +kernel), List.mem_of_getElem? (i := 672) (by decide +kernel), List.mem_of_getElem? (i := 673) (by decide +kernel)⟩
theorem lw_p45 : lw_okq (⟨"BlindGuides$Images", "take", "(ILBlindGuides$State;I)V"⟩, 3) := ⟨⟨by decide +kernel, by decide +kernel⟩, List.mem_of_getElem? (i := 171) (by decide +kernel), List.mem_of_getElem? (i := 685) (by decide +kernel), List.mem_of_getElem? (i := 686) (by decide +kernel)⟩
theorem lw_p46 : lw_okq (⟨"BlindGuides$Past", "clear", "()V"⟩, 3) := ⟨⟨by decide +kernel, by decide +kernel⟩, List.mem_of_getElem? (i := 150) (by decide +kernel), List.mem_of_getElem? (i := 692) (by decide +kernel), List.mem_of_getElem? (i := 693) (by decide +kernel)⟩
theorem lw_p47 : lw_okq (⟨"BlindGuides$Images", "has", "(I)Z"⟩, 3) := ⟨⟨by decide +kernel, by decide +kernel⟩, List.mem_of_getElem? (i := 171) (by decide +kernel), List.mem_of_getElem? (i := 700) (by decide +kernel), List.mem_of_getElem? (i := 701) (by decide +kernel)⟩
def lw_privs_3 : List (MethodName × Nat) := [(⟨"BlindGuides$TurnSearch", "find", "(LBlindGuides$City;IIZ)I"⟩, 4), (⟨"BlindGuides$TurnSearch", "reach", "(III)V"⟩, 4), (⟨"BlindGuides$TurnSearch", "reachFrom", "(LBlindGuides$City;I)V"⟩, 4), (⟨"BlindGuides$City", "endsOf", "(II)I"⟩, 14), (⟨"BlindGuides$City", "streetsBackTo", "(II)I"⟩, 14), (⟨"BlindGuides", "isBetrayed", "(IIII)Z"⟩, 14), (⟨"BlindGuides$Heard", "startWith", "(LBlindGuides$City;I)V"⟩, 3), (⟨"BlindGuides$Heard", "add", "(LBlindGuides$City;II)V"⟩, 3), (⟨"BlindGuides$Heard", "bestTurn", "(LBlindGuides$City;)I"⟩, 3), (⟨"BlindGuides$Book", "add", "(II)V"⟩, 3), (⟨"BlindGuides$Heard", "clear", "()V"⟩, 3), (⟨"BlindGuides$Book", "clear", "()V"⟩, 3), (⟨"BlindGuides$Book", "firstWrong", "(LBlindGuides$State;)I"⟩, 3), (⟨"BlindGuides$Images", "take", "(ILBlindGuides$State;I)V"⟩, 3), (⟨"BlindGuides$Past", "clear", "()V"⟩, 3), (⟨"BlindGuides$Images", "has", "(I)Z"⟩, 3)]
theorem lw_r3 : ∀ q ∈ lw_privs_3, lw_okq q := List.forall_mem_cons.mpr ⟨lw_p32, List.forall_mem_cons.mpr ⟨lw_p33, List.forall_mem_cons.mpr ⟨lw_p34, List.forall_mem_cons.mpr ⟨lw_p35, List.forall_mem_cons.mpr ⟨lw_p36, List.forall_mem_cons.mpr ⟨lw_p37, List.forall_mem_cons.mpr ⟨lw_p38, List.forall_mem_cons.mpr ⟨lw_p39, List.forall_mem_cons.mpr ⟨lw_p40, List.forall_mem_cons.mpr ⟨lw_p41, List.forall_mem_cons.mpr ⟨lw_p42, List.forall_mem_cons.mpr ⟨lw_p43, List.forall_mem_cons.mpr ⟨lw_p44, List.forall_mem_cons.mpr ⟨lw_p45, List.forall_mem_cons.mpr ⟨lw_p46, List.forall_mem_cons.mpr ⟨lw_p47, fun _ h => absurd h List.not_mem_nil⟩⟩⟩⟩⟩⟩⟩⟩⟩⟩⟩⟩⟩⟩⟩⟩
theorem lw_p48 : lw_okq (⟨"BlindGuides$Images", "bringBack", "(ILBlindGuides$State;)V"⟩, 3) := ⟨⟨by decide +kernel, by decide +kernel⟩, List.mem_of_getElem? (i := 171) (by decide +kernel), List.mem_of_getElem? (i := 704) (by decide +kernel), List.mem_of_getElem? (i := 705) (by decide +kernel)⟩
theorem lw_p49 : lw_okq (⟨"BlindGuides$Images", "drawnOf", "(I)I"⟩, 3) := ⟨⟨by decide +kernel, by decide +kernel⟩, List.mem_of_getElem? (i := 171) (by decide +kernel), List.mem_of_getElem? (i := 708) (by decide +kernel), List.mem_of_getElem? (i := 709) (by decide +kernel)⟩
theorem lw_p50 : lw_okq (⟨"BlindGuides$Reader", "read", "([IILBlindGuides$City;)I"⟩, 6) := ⟨⟨by decide +kernel, by decide +kernel⟩, List.mem_of_getElem? (i := 88) (by decide +kernel), List.mem_of_getElem? (i := 735) (by decide +kernel), List.mem_of_getElem? (i := 736) (by decide +kernel)⟩
theorem lw_p51 : lw_okq (⟨"BlindGuides$City", "startWith", "(I)V"⟩, 14) := ⟨⟨by decide +kernel, by decide +kernel⟩, List.mem_of_getElem? (i := 22) (by decide +kernel), List.mem_of_getElem? (i := 739) (by decide +kernel), List.mem_of_getElem? (i := 740) (by decide +kernel)⟩
theorem lw_p52 : lw_okq (⟨"BlindGuides$City", "setCrossing", "(IIIII)V"⟩, 14) := ⟨⟨by decide +kernel, by decide +kernel⟩, List.mem_of_getElem? (i := 22) (by decide +kernel), List.mem_of_getElem? (i := 744) (by decide +kernel), List.mem_of_getElem? (i := 745) (by decide +kernel)⟩
theorem lw_p53 : lw_okq (⟨"BlindGuides$Reader", "skipBlanks", "()V"⟩, 6) := ⟨⟨by decide +kernel, by decide +kernel⟩, List.mem_of_getElem? (i := 88) (by decide +kernel), List.mem_of_getElem? (i := 748) (by decide +kernel), List.mem_of_getElem? (i := 749) (by decide +kernel)⟩
theorem lw_p54 : lw_okq (⟨"BlindGuides$Reader", "letter", "()I"⟩, 6) := ⟨⟨by decide +kernel, by decide +kernel⟩, List.mem_of_getElem? (i := 88) (by decide +kernel), List.mem_of_getElem? (i := 752) (by decide +kernel), List.mem_of_getElem? (i := 753) (by decide +kernel)⟩
theorem lw_p55 : lw_okq (⟨"BlindGuides$Reader", "readClause", "()V"⟩, 6) := ⟨⟨by decide +kernel, by decide +kernel⟩, List.mem_of_getElem? (i := 88) (by decide +kernel), List.mem_of_getElem? (i := 756) (by decide +kernel), List.mem_of_getElem? (i := 757) (by decide +kernel)⟩
theorem lw_p56 : lw_okq (⟨"BlindGuides$Reader", "fail", "(II)V"⟩, 6) := ⟨⟨by decide +kernel, by decide +kernel⟩, List.mem_of_getElem? (i := 88) (by decide +kernel), List.mem_of_getElem? (i := 760) (by decide +kernel), List.mem_of_getElem? (i := 761) (by decide +kernel)⟩
theorem lw_p57 : lw_okq (⟨"BlindGuides$Reader", "readCount", "()V"⟩, 6) := ⟨⟨by decide +kernel, by decide +kernel⟩, List.mem_of_getElem? (i := 88) (by decide +kernel), List.mem_of_getElem? (i := 764) (by decide +kernel), List.mem_of_getElem? (i := 765) (by decide +kernel)⟩
theorem lw_p58 : lw_okq (⟨"BlindGuides$Reader", "takeWord", "(Z)V"⟩, 6) := ⟨⟨by decide +kernel, by decide +kernel⟩, List.mem_of_getElem? (i := 88) (by decide +kernel), List.mem_of_getElem? (i := 768) (by decide +kernel), List.mem_of_getElem? (i := 769) (by decide +kernel)⟩
theorem lw_p59 : lw_okq (⟨"BlindGuides$Reader", "number", "(II)I"⟩, 6) := ⟨⟨by decide +kernel, by decide +kernel⟩, List.mem_of_getElem? (i := 88) (by decide +kernel), List.mem_of_getElem? (i := 772) (by decide +kernel), List.mem_of_getElem? (i := 773) (by decide +kernel)⟩
theorem lw_p60 : lw_okq (⟨"BlindGuides$Reader", "takeSign", "(I)V"⟩, 6) := ⟨⟨by decide +kernel, by decide +kernel⟩, List.mem_of_getElem? (i := 88) (by decide +kernel), List.mem_of_getElem? (i := 780) (by decide +kernel), List.mem_of_getElem? (i := 781) (by decide +kernel)⟩
theorem lw_p61 : lw_okq (⟨"BlindGuides$Reader", "readCrossing", "()V"⟩, 6) := ⟨⟨by decide +kernel, by decide +kernel⟩, List.mem_of_getElem? (i := 88) (by decide +kernel), List.mem_of_getElem? (i := 784) (by decide +kernel), List.mem_of_getElem? (i := 785) (by decide +kernel)⟩
theorem lw_p62 : lw_okq (⟨"BlindGuides$City", "addCrossing", "(IIII)V"⟩, 14) := ⟨⟨by decide +kernel, by decide +kernel⟩, List.mem_of_getElem? (i := 22) (by decide +kernel), List.mem_of_getElem? (i := 788) (by decide +kernel), List.mem_of_getElem? (i := 789) (by decide +kernel)⟩
theorem lw_p63 : lw_okq (⟨"BlindGuides$Reader", "readGuide", "()V"⟩, 6) := ⟨⟨by decide +kernel, by decide +kernel⟩, List.mem_of_getElem? (i := 88) (by decide +kernel), List.mem_of_getElem? (i := 792) (by decide +kernel), List.mem_of_getElem? (i := 793) (by decide +kernel)⟩
def lw_privs_4 : List (MethodName × Nat) := [(⟨"BlindGuides$Images", "bringBack", "(ILBlindGuides$State;)V"⟩, 3), (⟨"BlindGuides$Images", "drawnOf", "(I)I"⟩, 3), (⟨"BlindGuides$Reader", "read", "([IILBlindGuides$City;)I"⟩, 6), (⟨"BlindGuides$City", "startWith", "(I)V"⟩, 14), (⟨"BlindGuides$City", "setCrossing", "(IIIII)V"⟩, 14), (⟨"BlindGuides$Reader", "skipBlanks", "()V"⟩, 6), (⟨"BlindGuides$Reader", "letter", "()I"⟩, 6), (⟨"BlindGuides$Reader", "readClause", "()V"⟩, 6), (⟨"BlindGuides$Reader", "fail", "(II)V"⟩, 6), (⟨"BlindGuides$Reader", "readCount", "()V"⟩, 6), (⟨"BlindGuides$Reader", "takeWord", "(Z)V"⟩, 6), (⟨"BlindGuides$Reader", "number", "(II)I"⟩, 6), (⟨"BlindGuides$Reader", "takeSign", "(I)V"⟩, 6), (⟨"BlindGuides$Reader", "readCrossing", "()V"⟩, 6), (⟨"BlindGuides$City", "addCrossing", "(IIII)V"⟩, 14), (⟨"BlindGuides$Reader", "readGuide", "()V"⟩, 6)]
theorem lw_r4 : ∀ q ∈ lw_privs_4, lw_okq q := List.forall_mem_cons.mpr ⟨lw_p48, List.forall_mem_cons.mpr ⟨lw_p49, List.forall_mem_cons.mpr ⟨lw_p50, List.forall_mem_cons.mpr ⟨lw_p51, List.forall_mem_cons.mpr ⟨lw_p52, List.forall_mem_cons.mpr ⟨lw_p53, List.forall_mem_cons.mpr ⟨lw_p54, List.forall_mem_cons.mpr ⟨lw_p55, List.forall_mem_cons.mpr ⟨lw_p56, List.forall_mem_cons.mpr ⟨lw_p57, List.forall_mem_cons.mpr ⟨lw_p58, List.forall_mem_cons.mpr ⟨lw_p59, List.forall_mem_cons.mpr ⟨lw_p60, List.forall_mem_cons.mpr ⟨lw_p61, List.forall_mem_cons.mpr ⟨lw_p62, List.forall_mem_cons.mpr ⟨lw_p63, fun _ h => absurd h List.not_mem_nil⟩⟩⟩⟩⟩⟩⟩⟩⟩⟩⟩⟩⟩⟩⟩⟩
theorem lw_p64 : lw_okq (⟨"BlindGuides$City", "addGuide", "(III)V"⟩, 14) := ⟨⟨by decide +kernel, by decide +kernel⟩, List.mem_of_getElem? (i := 22) (by decide +kernel), List.mem_of_getElem? (i := 796) (by decide +kernel), List.mem_of_getElem? (i := 797) (by decide +kernel)⟩
theorem lw_p65 : lw_okq (⟨"BlindGuides$Reader", "readClient", "()V"⟩, 6) := ⟨⟨by decide +kernel, by decide +kernel⟩, List.mem_of_getElem? (i := 88) (by decide +kernel), List.mem_of_getElem? (i := 800) (by decide +kernel), List.mem_of_getElem? (i := 801) (by decide +kernel)⟩
theorem lw_p66 : lw_okq (⟨"BlindGuides$City", "addClient", "(II)V"⟩, 14) := ⟨⟨by decide +kernel, by decide +kernel⟩, List.mem_of_getElem? (i := 22) (by decide +kernel), List.mem_of_getElem? (i := 804) (by decide +kernel), List.mem_of_getElem? (i := 805) (by decide +kernel)⟩
theorem lw_p67 : lw_okq (⟨"BlindGuides$Reader", "readMoons", "()V"⟩, 6) := ⟨⟨by decide +kernel, by decide +kernel⟩, List.mem_of_getElem? (i := 88) (by decide +kernel), List.mem_of_getElem? (i := 808) (by decide +kernel), List.mem_of_getElem? (i := 809) (by decide +kernel)⟩
theorem lw_p68 : lw_okq (⟨"BlindGuides$City", "addMoon", "(I)V"⟩, 14) := ⟨⟨by decide +kernel, by decide +kernel⟩, List.mem_of_getElem? (i := 22) (by decide +kernel), List.mem_of_getElem? (i := 812) (by decide +kernel), List.mem_of_getElem? (i := 813) (by decide +kernel)⟩
theorem lw_p69 : lw_okq (⟨"BlindGuides$State", "startIn", "(LBlindGuides$City;)V"⟩, 7) := ⟨⟨by decide +kernel, by decide +kernel⟩, List.mem_of_getElem? (i := 114) (by decide +kernel), List.mem_of_getElem? (i := 816) (by decide +kernel), List.mem_of_getElem? (i := 817) (by decide +kernel)⟩
theorem lw_p70 : lw_okq (⟨"BlindGuides$Images", "clear", "()V"⟩, 3) := ⟨⟨by decide +kernel, by decide +kernel⟩, List.mem_of_getElem? (i := 171) (by decide +kernel), List.mem_of_getElem? (i := 820) (by decide +kernel), List.mem_of_getElem? (i := 821) (by decide +kernel)⟩
def lw_privs_5 : List (MethodName × Nat) := [(⟨"BlindGuides$City", "addGuide", "(III)V"⟩, 14), (⟨"BlindGuides$Reader", "readClient", "()V"⟩, 6), (⟨"BlindGuides$City", "addClient", "(II)V"⟩, 14), (⟨"BlindGuides$Reader", "readMoons", "()V"⟩, 6), (⟨"BlindGuides$City", "addMoon", "(I)V"⟩, 14), (⟨"BlindGuides$State", "startIn", "(LBlindGuides$City;)V"⟩, 7), (⟨"BlindGuides$Images", "clear", "()V"⟩, 3)]
theorem lw_r5 : ∀ q ∈ lw_privs_5, lw_okq q := List.forall_mem_cons.mpr ⟨lw_p64, List.forall_mem_cons.mpr ⟨lw_p65, List.forall_mem_cons.mpr ⟨lw_p66, List.forall_mem_cons.mpr ⟨lw_p67, List.forall_mem_cons.mpr ⟨lw_p68, List.forall_mem_cons.mpr ⟨lw_p69, List.forall_mem_cons.mpr ⟨lw_p70, fun _ h => absurd h List.not_mem_nil⟩⟩⟩⟩⟩⟩⟩
def lw_privs : List (MethodName × Nat) := lw_privs_1 ++ (lw_privs_2 ++ (lw_privs_3 ++ (lw_privs_4 ++ (lw_privs_5))))
def lw_tbl : List Cond := k2_sels lw_privs ++ tables_1
theorem lw_privs_ok : ∀ q ∈ lw_privs, lw_okq q := by
  show ∀ q ∈ lw_privs_1 ++ (lw_privs_2 ++ (lw_privs_3 ++ (lw_privs_4 ++ (lw_privs_5)))), lw_okq q
  exact List.forall_mem_append.mpr ⟨lw_r1, List.forall_mem_append.mpr ⟨lw_r2, List.forall_mem_append.mpr ⟨lw_r3, List.forall_mem_append.mpr ⟨lw_r4, lw_r5⟩⟩⟩⟩

-- names of kit NAMES.whole (as printed): classes, fields
def RX0 : String := "BlindGuides$Book"
def TX0 : u_T := fun k => match k with
  | 0 => ("BlindGuides$Book", "entries", "I", false)
  | 1 => ("BlindGuides$Book", "guides", "[I", true)
  | _ => ("BlindGuides$Book", "crossings", "[I", true)
def tyX0 : Nat → FieldType := fun k => match k with
  | 0 => .int
  | 1 => .array .int
  | _ => .array .int
abbrev wsX00 : List Cond := u_ws RX0 TX0 3
theorem nmX0 : ∀ a, a < 3 → ∀ b, b < 3 → a ≠ b → (TX0 a).2.1 ≠ (TX0 b).2.1 := by decide +kernel
theorem tyX0_ok : ∀ k, k < 3 → parseFieldDescriptor (TX0 k).2.2.1 = some (tyX0 k) := by decide +kernel
def RX1 : String := "BlindGuides$City"
def TX1 : u_T := fun k => match k with
  | 0 => ("BlindGuides$City", "crossings", "I", false)
  | 1 => ("BlindGuides$City", "toldCrossings", "I", false)
  | 2 => ("BlindGuides$City", "guides", "I", false)
  | 3 => ("BlindGuides$City", "clients", "I", false)
  | 4 => ("BlindGuides$City", "moons", "I", false)
  | 5 => ("BlindGuides$City", "sounds", "[I", true)
  | 6 => ("BlindGuides$City", "ends", "[I", true)
  | 7 => ("BlindGuides$City", "nexts", "[I", true)
  | 8 => ("BlindGuides$City", "stands", "[I", true)
  | 9 => ("BlindGuides$City", "asks", "[I", true)
  | 10 => ("BlindGuides$City", "knows", "[I", true)
  | 11 => ("BlindGuides$City", "from", "[I", true)
  | 12 => ("BlindGuides$City", "to", "[I", true)
  | _ => ("BlindGuides$City", "moonRow", "[I", true)
def tyX1 : Nat → FieldType := fun k => match k with
  | 0 => .int
  | 1 => .int
  | 2 => .int
  | 3 => .int
  | 4 => .int
  | 5 => .array .int
  | 6 => .array .int
  | 7 => .array .int
  | 8 => .array .int
  | 9 => .array .int
  | 10 => .array .int
  | 11 => .array .int
  | 12 => .array .int
  | _ => .array .int
abbrev wsX10 : List Cond := u_ws RX1 TX1 14
theorem nmX1 : ∀ a, a < 14 → ∀ b, b < 14 → a ≠ b → (TX1 a).2.1 ≠ (TX1 b).2.1 := by decide +kernel
theorem tyX1_ok : ∀ k, k < 14 → parseFieldDescriptor (TX1 k).2.2.1 = some (tyX1 k) := by decide +kernel
def RX2 : String := "BlindGuides$Heard"
def TX2 : u_T := fun k => match k with
  | 0 => ("BlindGuides$Heard", "turns", "I", false)
  | 1 => ("BlindGuides$Heard", "starts", "I", false)
  | _ => ("BlindGuides$Heard", "places", "[I", true)
def tyX2 : Nat → FieldType := fun k => match k with
  | 0 => .int
  | 1 => .int
  | _ => .array .int
abbrev wsX20 : List Cond := u_ws RX2 TX2 3
theorem nmX2 : ∀ a, a < 3 → ∀ b, b < 3 → a ≠ b → (TX2 a).2.1 ≠ (TX2 b).2.1 := by decide +kernel
theorem tyX2_ok : ∀ k, k < 3 → parseFieldDescriptor (TX2 k).2.2.1 = some (tyX2 k) := by decide +kernel
def RX3 : String := "BlindGuides$Images"
def TX3 : u_T := fun k => match k with
  | 0 => ("BlindGuides$Images", "states", "[LBlindGuides$State;", true)
  | 1 => ("BlindGuides$Images", "seeds", "[I", true)
  | _ => ("BlindGuides$Images", "kept", "I", false)
def tyX3 : Nat → FieldType := fun k => match k with
  | 0 => .array (.object "BlindGuides$State")
  | 1 => .array .int
  | _ => .int
abbrev wsX30 : List Cond := u_ws RX3 TX3 3
theorem nmX3 : ∀ a, a < 3 → ∀ b, b < 3 → a ≠ b → (TX3 a).2.1 ≠ (TX3 b).2.1 := by decide +kernel
theorem tyX3_ok : ∀ k, k < 3 → parseFieldDescriptor (TX3 k).2.2.1 = some (tyX3 k) := by decide +kernel
def RX4 : String := "BlindGuides$Matching"
def TX4 : u_T := fun k => match k with
  | 0 => ("BlindGuides$Matching", "guides", "I", false)
  | 1 => ("BlindGuides$Matching", "clients", "I", false)
  | 2 => ("BlindGuides$Matching", "streets", "[I", true)
  | 3 => ("BlindGuides$Matching", "prices", "[I", true)
  | 4 => ("BlindGuides$Matching", "worths", "[I", true)
  | 5 => ("BlindGuides$Matching", "limit", "I", false)
  | 6 => ("BlindGuides$Matching", "most", "I", false)
  | 7 => ("BlindGuides$Matching", "longest", "I", false)
  | _ => ("BlindGuides$Matching", "cost", "I", false)
def tyX4 : Nat → FieldType := fun k => match k with
  | 0 => .int
  | 1 => .int
  | 2 => .array .int
  | 3 => .array .int
  | 4 => .array .int
  | 5 => .int
  | 6 => .int
  | 7 => .int
  | _ => .int
abbrev wsX40 : List Cond := u_ws RX4 TX4 9
theorem nmX4 : ∀ a, a < 9 → ∀ b, b < 9 → a ≠ b → (TX4 a).2.1 ≠ (TX4 b).2.1 := by decide +kernel
theorem tyX4_ok : ∀ k, k < 9 → parseFieldDescriptor (TX4 k).2.2.1 = some (tyX4 k) := by decide +kernel
def RX5 : String := "BlindGuides$Past"
def TX5 : u_T := fun k => match k with
  | 0 => ("BlindGuides$Past", "states", "[LBlindGuides$State;", true)
  | 1 => ("BlindGuides$Past", "next", "I", false)
  | _ => ("BlindGuides$Past", "count", "I", false)
def tyX5 : Nat → FieldType := fun k => match k with
  | 0 => .array (.object "BlindGuides$State")
  | 1 => .int
  | _ => .int
abbrev wsX50 : List Cond := u_ws RX5 TX5 3
theorem nmX5 : ∀ a, a < 3 → ∀ b, b < 3 → a ≠ b → (TX5 a).2.1 ≠ (TX5 b).2.1 := by decide +kernel
theorem tyX5_ok : ∀ k, k < 3 → parseFieldDescriptor (TX5 k).2.2.1 = some (tyX5 k) := by decide +kernel
def RX6 : String := "BlindGuides$Reader"
def TX6 : u_T := fun k => match k with
  | 0 => ("BlindGuides$Reader", "letters", "[I", false)
  | 1 => ("BlindGuides$Reader", "length", "I", false)
  | 2 => ("BlindGuides$Reader", "place", "I", false)
  | 3 => ("BlindGuides$Reader", "faultFound", "I", false)
  | 4 => ("BlindGuides$Reader", "faultAt", "I", false)
  | _ => ("BlindGuides$Reader", "city", "LBlindGuides$City;", false)
def tyX6 : Nat → FieldType := fun k => match k with
  | 0 => .array .int
  | 1 => .int
  | 2 => .int
  | 3 => .int
  | 4 => .int
  | _ => .object "BlindGuides$City"
abbrev wsX60 : List Cond := u_ws RX6 TX6 6
theorem nmX6 : ∀ a, a < 6 → ∀ b, b < 6 → a ≠ b → (TX6 a).2.1 ≠ (TX6 b).2.1 := by decide +kernel
theorem tyX6_ok : ∀ k, k < 6 → parseFieldDescriptor (TX6 k).2.2.1 = some (tyX6 k) := by decide +kernel
def RX7 : String := "BlindGuides$State"
def TX7 : u_T := fun k => match k with
  | 0 => ("BlindGuides$State", "stands", "[I", true)
  | 1 => ("BlindGuides$State", "knows", "[I", true)
  | 2 => ("BlindGuides$State", "heads", "[I", true)
  | 3 => ("BlindGuides$State", "walls", "I", false)
  | 4 => ("BlindGuides$State", "home", "I", false)
  | 5 => ("BlindGuides$State", "nights", "I", false)
  | _ => ("BlindGuides$State", "paid", "I", false)
def tyX7 : Nat → FieldType := fun k => match k with
  | 0 => .array .int
  | 1 => .array .int
  | 2 => .array .int
  | 3 => .int
  | 4 => .int
  | 5 => .int
  | _ => .int
abbrev wsX70 : List Cond := u_ws RX7 TX7 7
theorem nmX7 : ∀ a, a < 7 → ∀ b, b < 7 → a ≠ b → (TX7 a).2.1 ≠ (TX7 b).2.1 := by decide +kernel
theorem tyX7_ok : ∀ k, k < 7 → parseFieldDescriptor (TX7 k).2.2.1 = some (tyX7 k) := by decide +kernel
def RX8 : String := "BlindGuides$TurnSearch"
def TX8 : u_T := fun k => match k with
  | 0 => ("BlindGuides$TurnSearch", "queue", "[I", true)
  | 1 => ("BlindGuides$TurnSearch", "steps", "[I", true)
  | 2 => ("BlindGuides$TurnSearch", "figures", "[I", true)
  | _ => ("BlindGuides$TurnSearch", "waiting", "I", false)
def tyX8 : Nat → FieldType := fun k => match k with
  | 0 => .array .int
  | 1 => .array .int
  | 2 => .array .int
  | _ => .int
abbrev wsX80 : List Cond := u_ws RX8 TX8 4
theorem nmX8 : ∀ a, a < 4 → ∀ b, b < 4 → a ≠ b → (TX8 a).2.1 ≠ (TX8 b).2.1 := by decide +kernel
theorem tyX8_ok : ∀ k, k < 4 → parseFieldDescriptor (TX8 k).2.2.1 = some (tyX8 k) := by decide +kernel
def RX9 : String := "BlindGuides"
def TX9 : u_T := fun k => match k with
  | 0 => ("BlindGuides", "text", "[I", true)
  | 1 => ("BlindGuides", "letters", "I", false)
  | 2 => ("BlindGuides", "faultAt", "I", false)
  | 3 => ("BlindGuides", "reader", "LBlindGuides$Reader;", true)
  | 4 => ("BlindGuides", "plan", "LBlindGuides$City;", false)
  | 5 => ("BlindGuides", "draft", "LBlindGuides$City;", false)
  | 6 => ("BlindGuides", "now", "LBlindGuides$State;", true)
  | 7 => ("BlindGuides", "past", "LBlindGuides$Past;", true)
  | 8 => ("BlindGuides", "images", "LBlindGuides$Images;", true)
  | 9 => ("BlindGuides", "heard", "LBlindGuides$Heard;", true)
  | 10 => ("BlindGuides", "book", "LBlindGuides$Book;", true)
  | 11 => ("BlindGuides", "turnSearch", "LBlindGuides$TurnSearch;", true)
  | 12 => ("BlindGuides", "matching", "LBlindGuides$Matching;", true)
  | _ => ("BlindGuides", "drawn", "I", false)
def tyX9 : Nat → FieldType := fun k => match k with
  | 0 => .array .int
  | 1 => .int
  | 2 => .int
  | 3 => .object "BlindGuides$Reader"
  | 4 => .object "BlindGuides$City"
  | 5 => .object "BlindGuides$City"
  | 6 => .object "BlindGuides$State"
  | 7 => .object "BlindGuides$Past"
  | 8 => .object "BlindGuides$Images"
  | 9 => .object "BlindGuides$Heard"
  | 10 => .object "BlindGuides$Book"
  | 11 => .object "BlindGuides$TurnSearch"
  | 12 => .object "BlindGuides$Matching"
  | _ => .int
abbrev wsX90 : List Cond := u_ws RX9 TX9 14
theorem nmX9 : ∀ a, a < 14 → ∀ b, b < 14 → a ≠ b → (TX9 a).2.1 ≠ (TX9 b).2.1 := by decide +kernel
theorem tyX9_ok : ∀ k, k < 14 → parseFieldDescriptor (TX9 k).2.2.1 = some (tyX9 k) := by decide +kernel
def RX10 : String := "BlindGuidesModel"
def TX10 : u_T := fun k => match k with
  | _ => ("", "", "", false)
def tyX10 : Nat → FieldType := fun k => match k with
  | _ => .int
theorem nmX10 : ∀ a, a < 0 → ∀ b, b < 0 → a ≠ b → (TX10 a).2.1 ≠ (TX10 b).2.1 := by decide +kernel
theorem tyX10_ok : ∀ k, k < 0 → parseFieldDescriptor (TX10 k).2.2.1 = some (tyX10 k) := by decide +kernel
end
section
/-! tables of the abstract machine: printed by wip/gen/gen.py out of the Statement's words and javap's listing -/
def dm_T : List Cond := lw_tbl.filter goodWord
def dm_cl : List vw_C := [(RX0, TX0, 3), (RX1, TX1, 14), (RX2, TX2, 3), (RX3, TX3, 3), (RX4, TX4, 9), (RX5, TX5, 3), (RX6, TX6, 6), (RX7, TX7, 7), (RX8, TX8, 4), (RX9, TX9, 14)]
def dm_ow : List String := ["BlindGuides$Book", "BlindGuides$City", "BlindGuides$Heard", "BlindGuides$Images", "BlindGuides$Matching", "BlindGuides$Past", "BlindGuides$Reader", "BlindGuides$State", "BlindGuides$TurnSearch", "BlindGuides", "java/lang/Integer", "java/lang/Math", "java/lang/Object", "BlindGuidesLaw"]
def dm_tyf : Nat → Nat → FieldType := fun c => match c with
  | 0 => tyX0
  | 1 => tyX1
  | 2 => tyX2
  | 3 => tyX3
  | 4 => tyX4
  | 5 => tyX5
  | 6 => tyX6
  | 7 => tyX7
  | 8 => tyX8
  | _ => tyX9
abbrev dm_MT : Type := MethodName × ByteArray × Nat × Option FieldType × Nat × Nat × Nat × Nat × List Nat
def dm_mt0 : List dm_MT := [
  (⟨"BlindGuides$Book", "<init>", "()V"⟩, prog_2_method_1_code, 1, (Option.none : Option Jvm.ClassFile.FieldType), 1, 12, 0, 0, []),
  (⟨"BlindGuides$Book", "clear", "()V"⟩, prog_2_method_2_code, 1, (Option.none : Option Jvm.ClassFile.FieldType), 0, 0, 0, 0, []),
  (⟨"BlindGuides$Book", "add", "(II)V"⟩, prog_2_method_3_code, 3, (Option.none : Option Jvm.ClassFile.FieldType), 1, 22, 0, 2, []),
  (⟨"BlindGuides$Book", "firstWrong", "(LBlindGuides$State;)I"⟩, prog_2_method_4_code, 3, (Option.some Jvm.ClassFile.FieldType.int), 1, 21, 0, 1, []),
  (⟨"BlindGuides$City", "<init>", "()V"⟩, prog_3_method_1_code, 1, (Option.none : Option Jvm.ClassFile.FieldType), 1, 12, 1, 0, []),
  (⟨"BlindGuides$City", "startWith", "(I)V"⟩, prog_3_method_2_code, 3, (Option.none : Option Jvm.ClassFile.FieldType), 2, 47, 1, 1, []),
  (⟨"BlindGuides$City", "addCrossing", "(IIII)V"⟩, prog_3_method_3_code, 5, (Option.none : Option Jvm.ClassFile.FieldType), 2, 47, 1, 4, []),
  (⟨"BlindGuides$City", "setCrossing", "(IIIII)V"⟩, prog_3_method_4_code, 6, (Option.none : Option Jvm.ClassFile.FieldType), 1, 22, 1, 5, []),
  (⟨"BlindGuides$City", "addGuide", "(III)V"⟩, prog_3_method_5_code, 4, (Option.none : Option Jvm.ClassFile.FieldType), 1, 22, 1, 3, []),
  (⟨"BlindGuides$City", "addClient", "(II)V"⟩, prog_3_method_6_code, 3, (Option.none : Option Jvm.ClassFile.FieldType), 1, 22, 1, 2, []),
  (⟨"BlindGuides$City", "addMoon", "(I)V"⟩, prog_3_method_7_code, 2, (Option.none : Option Jvm.ClassFile.FieldType), 1, 22, 1, 1, []),
  (⟨"BlindGuides$City", "hasCrossing", "(I)Z"⟩, prog_3_method_8_code, 2, (Option.some Jvm.ClassFile.FieldType.boolean), 0, 0, 1, 1, []),
  (⟨"BlindGuides$City", "hasGuide", "(I)Z"⟩, prog_3_method_9_code, 2, (Option.some Jvm.ClassFile.FieldType.boolean), 0, 0, 1, 1, []),
  (⟨"BlindGuides$City", "hasClient", "(I)Z"⟩, prog_3_method_10_code, 2, (Option.some Jvm.ClassFile.FieldType.boolean), 0, 0, 1, 1, []),
  (⟨"BlindGuides$City", "hasAll", "(I)Z"⟩, prog_3_method_11_code, 2, (Option.some Jvm.ClassFile.FieldType.boolean), 0, 0, 1, 1, []),
  (⟨"BlindGuides$City", "moonOf", "(I)I"⟩, prog_3_method_12_code, 2, (Option.some Jvm.ClassFile.FieldType.int), 1, 21, 1, 1, [])]
def dm_mt1 : List dm_MT := [
  (⟨"BlindGuides$City", "endOf", "(II)I"⟩, prog_3_method_13_code, 3, (Option.some Jvm.ClassFile.FieldType.int), 1, 21, 1, 2, []),
  (⟨"BlindGuides$City", "endsOf", "(II)I"⟩, prog_3_method_14_code, 5, (Option.some Jvm.ClassFile.FieldType.int), 2, 43, 1, 2, []),
  (⟨"BlindGuides$City", "ledFrom", "(II)I"⟩, prog_3_method_15_code, 5, (Option.some Jvm.ClassFile.FieldType.int), 1, 21, 1, 2, []),
  (⟨"BlindGuides$City", "reachFrom", "(II)I"⟩, prog_3_method_16_code, 5, (Option.some Jvm.ClassFile.FieldType.int), 2, 45, 1, 2, []),
  (⟨"BlindGuides$City", "streetsBetween", "(III)I"⟩, prog_3_method_17_code, 6, (Option.some Jvm.ClassFile.FieldType.int), 2, 45, 1, 3, []),
  (⟨"BlindGuides$City", "firstTurnBetween", "(III)I"⟩, prog_3_method_18_code, 7, (Option.some Jvm.ClassFile.FieldType.int), 3, 70, 1, 3, []),
  (⟨"BlindGuides$City", "streetsBackTo", "(II)I"⟩, prog_3_method_19_code, 5, (Option.some Jvm.ClassFile.FieldType.int), 2, 45, 1, 2, []),
  (⟨"BlindGuides$Heard", "<init>", "()V"⟩, prog_4_method_1_code, 1, (Option.none : Option Jvm.ClassFile.FieldType), 1, 12, 2, 0, []),
  (⟨"BlindGuides$Heard", "clear", "()V"⟩, prog_4_method_2_code, 1, (Option.none : Option Jvm.ClassFile.FieldType), 0, 0, 2, 0, []),
  (⟨"BlindGuides$Heard", "startWith", "(LBlindGuides$City;I)V"⟩, prog_4_method_3_code, 4, (Option.none : Option Jvm.ClassFile.FieldType), 1, 22, 2, 2, []),
  (⟨"BlindGuides$Heard", "add", "(LBlindGuides$City;II)V"⟩, prog_4_method_4_code, 6, (Option.none : Option Jvm.ClassFile.FieldType), 2, 43, 2, 3, []),
  (⟨"BlindGuides$Heard", "here", "()I"⟩, prog_4_method_5_code, 3, (Option.some Jvm.ClassFile.FieldType.int), 1, 21, 2, 0, []),
  (⟨"BlindGuides$Heard", "bestTurn", "(LBlindGuides$City;)I"⟩, prog_4_method_6_code, 7, (Option.some Jvm.ClassFile.FieldType.int), 3, 69, 2, 1, []),
  (⟨"BlindGuides$Heard", "greatestPart", "(LBlindGuides$City;II)I"⟩, prog_4_method_7_code, 7, (Option.some Jvm.ClassFile.FieldType.int), 2, 43, 2, 3, []),
  (⟨"BlindGuides$Images", "<init>", "()V"⟩, prog_5_method_1_code, 1, (Option.none : Option Jvm.ClassFile.FieldType), 3, 54, 3, 0, []),
  (⟨"BlindGuides$Images", "clear", "()V"⟩, prog_5_method_2_code, 1, (Option.none : Option Jvm.ClassFile.FieldType), 0, 0, 3, 0, [])]
def dm_mt2 : List dm_MT := [
  (⟨"BlindGuides$Images", "has", "(I)Z"⟩, prog_5_method_3_code, 2, (Option.some Jvm.ClassFile.FieldType.boolean), 0, 0, 3, 1, []),
  (⟨"BlindGuides$Images", "take", "(ILBlindGuides$State;I)V"⟩, prog_5_method_4_code, 5, (Option.none : Option Jvm.ClassFile.FieldType), 2, 44, 3, 3, []),
  (⟨"BlindGuides$Images", "bringBack", "(ILBlindGuides$State;)V"⟩, prog_5_method_5_code, 4, (Option.none : Option Jvm.ClassFile.FieldType), 2, 44, 3, 2, []),
  (⟨"BlindGuides$Images", "drawnOf", "(I)I"⟩, prog_5_method_6_code, 2, (Option.some Jvm.ClassFile.FieldType.int), 1, 21, 3, 1, []),
  (⟨"BlindGuides$Matching", "<init>", "()V"⟩, prog_6_method_1_code, 1, (Option.none : Option Jvm.ClassFile.FieldType), 1, 12, 4, 0, []),
  (⟨"BlindGuides$Matching", "startWith", "(II)V"⟩, prog_6_method_2_code, 3, (Option.none : Option Jvm.ClassFile.FieldType), 0, 0, 4, 2, []),
  (⟨"BlindGuides$Matching", "allow", "(IIII)V"⟩, prog_6_method_3_code, 5, (Option.none : Option Jvm.ClassFile.FieldType), 1, 22, 4, 4, []),
  (⟨"BlindGuides$Matching", "solve", "()V"⟩, prog_6_method_4_code, 2, (Option.none : Option Jvm.ClassFile.FieldType), 4, 92, 4, 0, []),
  (⟨"BlindGuides$Matching", "clientsIn", "(I)I"⟩, prog_6_method_5_code, 1, (Option.some Jvm.ClassFile.FieldType.int), 0, 0, 4, 1, []),
  (⟨"BlindGuides$Matching", "fillWorths", "()V"⟩, prog_6_method_6_code, 6, (Option.none : Option Jvm.ClassFile.FieldType), 3, 67, 4, 0, []),
  (⟨"BlindGuides$Matching", "worthOf", "(II)I"⟩, prog_6_method_7_code, 3, (Option.some Jvm.ClassFile.FieldType.int), 1, 21, 4, 2, []),
  (⟨"BlindGuides$Matching", "worthWith", "(III)I"⟩, prog_6_method_8_code, 5, (Option.some Jvm.ClassFile.FieldType.int), 2, 43, 4, 3, []),
  (⟨"BlindGuides$Matching", "guideOf", "(I)I"⟩, prog_6_method_9_code, 5, (Option.some Jvm.ClassFile.FieldType.int), 4, 90, 4, 1, []),
  (⟨"BlindGuides$Matching", "chosenFor", "(II)I"⟩, prog_6_method_10_code, 4, (Option.some Jvm.ClassFile.FieldType.int), 3, 67, 4, 2, []),
  (⟨"BlindGuides$Past", "<init>", "()V"⟩, prog_7_method_1_code, 1, (Option.none : Option Jvm.ClassFile.FieldType), 3, 54, 5, 0, []),
  (⟨"BlindGuides$Past", "clear", "()V"⟩, prog_7_method_2_code, 1, (Option.none : Option Jvm.ClassFile.FieldType), 0, 0, 5, 0, [])]
def dm_mt3 : List dm_MT := [
  (⟨"BlindGuides$Past", "keepAhead", "(LBlindGuides$State;)V"⟩, prog_7_method_3_code, 3, (Option.none : Option Jvm.ClassFile.FieldType), 2, 44, 5, 1, []),
  (⟨"BlindGuides$Past", "bringBack", "(LBlindGuides$State;)V"⟩, prog_7_method_4_code, 3, (Option.none : Option Jvm.ClassFile.FieldType), 2, 44, 5, 1, []),
  (⟨"BlindGuides$Reader", "<init>", "(LBlindGuides$City;)V"⟩, prog_8_method_1_code, 2, (Option.none : Option Jvm.ClassFile.FieldType), 1, 12, 6, 1, []),
  (⟨"BlindGuides$Reader", "read", "([IILBlindGuides$City;)I"⟩, prog_8_method_2_code, 5, (Option.some Jvm.ClassFile.FieldType.int), 5, 116, 6, 3, []),
  (⟨"BlindGuides$Reader", "readClause", "()V"⟩, prog_8_method_3_code, 2, (Option.none : Option Jvm.ClassFile.FieldType), 4, 95, 6, 0, []),
  (⟨"BlindGuides$Reader", "readCount", "()V"⟩, prog_8_method_4_code, 2, (Option.none : Option Jvm.ClassFile.FieldType), 3, 69, 6, 0, []),
  (⟨"BlindGuides$Reader", "readCrossing", "()V"⟩, prog_8_method_5_code, 5, (Option.none : Option Jvm.ClassFile.FieldType), 3, 71, 6, 0, []),
  (⟨"BlindGuides$Reader", "readGuide", "()V"⟩, prog_8_method_6_code, 4, (Option.none : Option Jvm.ClassFile.FieldType), 3, 66, 6, 0, []),
  (⟨"BlindGuides$Reader", "readClient", "()V"⟩, prog_8_method_7_code, 3, (Option.none : Option Jvm.ClassFile.FieldType), 3, 66, 6, 0, []),
  (⟨"BlindGuides$Reader", "readMoons", "()V"⟩, prog_8_method_8_code, 3, (Option.none : Option Jvm.ClassFile.FieldType), 3, 66, 6, 0, []),
  (⟨"BlindGuides$Reader", "takeWord", "(Z)V"⟩, prog_8_method_9_code, 2, (Option.none : Option Jvm.ClassFile.FieldType), 1, 22, 6, 1, []),
  (⟨"BlindGuides$Reader", "takeSign", "(I)V"⟩, prog_8_method_10_code, 2, (Option.none : Option Jvm.ClassFile.FieldType), 2, 41, 6, 1, []),
  (⟨"BlindGuides$Reader", "number", "(II)I"⟩, prog_8_method_11_code, 6, (Option.some Jvm.ClassFile.FieldType.int), 2, 41, 6, 2, []),
  (⟨"BlindGuides$Reader", "isFigure", "(I)Z"⟩, prog_8_method_12_code, 1, (Option.some Jvm.ClassFile.FieldType.boolean), 0, 0, 6, 1, []),
  (⟨"BlindGuides$Reader", "skipBlanks", "()V"⟩, prog_8_method_13_code, 2, (Option.none : Option Jvm.ClassFile.FieldType), 1, 20, 6, 0, []),
  (⟨"BlindGuides$Reader", "letter", "()I"⟩, prog_8_method_14_code, 1, (Option.some Jvm.ClassFile.FieldType.int), 0, 0, 6, 0, [])]
def dm_mt4 : List dm_MT := [
  (⟨"BlindGuides$Reader", "fail", "(II)V"⟩, prog_8_method_15_code, 3, (Option.none : Option Jvm.ClassFile.FieldType), 0, 0, 6, 2, []),
  (⟨"BlindGuides$State", "<init>", "()V"⟩, prog_9_method_1_code, 1, (Option.none : Option Jvm.ClassFile.FieldType), 1, 12, 7, 0, []),
  (⟨"BlindGuides$State", "startIn", "(LBlindGuides$City;)V"⟩, prog_9_method_2_code, 3, (Option.none : Option Jvm.ClassFile.FieldType), 1, 22, 7, 1, []),
  (⟨"BlindGuides$State", "become", "(LBlindGuides$State;)V"⟩, prog_9_method_3_code, 3, (Option.none : Option Jvm.ClassFile.FieldType), 1, 22, 7, 1, []),
  (⟨"BlindGuides$State", "passNights", "(I)V"⟩, prog_9_method_4_code, 2, (Option.none : Option Jvm.ClassFile.FieldType), 0, 0, 7, 1, []),
  (⟨"BlindGuides$State", "openTo", "(I)I"⟩, prog_9_method_5_code, 2, (Option.some Jvm.ClassFile.FieldType.int), 1, 21, 7, 1, []),
  (⟨"BlindGuides$TurnSearch", "<init>", "()V"⟩, prog_10_method_1_code, 1, (Option.none : Option Jvm.ClassFile.FieldType), 1, 12, 8, 0, []),
  (⟨"BlindGuides$TurnSearch", "find", "(LBlindGuides$City;IIZ)I"⟩, prog_10_method_2_code, 7, (Option.some Jvm.ClassFile.FieldType.int), 4, 91, 8, 4, []),
  (⟨"BlindGuides$TurnSearch", "reachFrom", "(LBlindGuides$City;I)V"⟩, prog_10_method_3_code, 5, (Option.none : Option Jvm.ClassFile.FieldType), 3, 67, 8, 2, []),
  (⟨"BlindGuides$TurnSearch", "reach", "(III)V"⟩, prog_10_method_4_code, 4, (Option.none : Option Jvm.ClassFile.FieldType), 1, 22, 8, 3, []),
  (⟨"BlindGuides$TurnSearch", "isFound", "(II)Z"⟩, prog_10_method_5_code, 2, (Option.some Jvm.ClassFile.FieldType.boolean), 1, 20, 8, 2, []),
  (⟨"BlindGuides", "<init>", "()V"⟩, prog_1_method_1_code, 1, (Option.none : Option Jvm.ClassFile.FieldType), 4, 74, 9, 0, []),
  (⟨"BlindGuides", "feed", "(I)I"⟩, prog_1_method_2_code, 2, (Option.some Jvm.ClassFile.FieldType.int), 1, 22, 9, 1, []),
  (⟨"BlindGuides", "city", "()I"⟩, prog_1_method_3_code, 3, (Option.some Jvm.ClassFile.FieldType.int), 6, 140, 9, 0, []),
  (⟨"BlindGuides", "fault", "()I"⟩, prog_1_method_4_code, 1, (Option.some Jvm.ClassFile.FieldType.int), 0, 0, 9, 0, []),
  (⟨"BlindGuides", "told", "(I)I"⟩, prog_1_method_5_code, 2, (Option.some Jvm.ClassFile.FieldType.int), 3, 67, 9, 1, [])]
def dm_mt5 : List dm_MT := [
  (⟨"BlindGuides", "crossing", "(II)I"⟩, prog_1_method_6_code, 3, (Option.some Jvm.ClassFile.FieldType.int), 2, 43, 9, 2, []),
  (⟨"BlindGuides", "guide", "(II)I"⟩, prog_1_method_7_code, 3, (Option.some Jvm.ClassFile.FieldType.int), 3, 69, 9, 2, []),
  (⟨"BlindGuides", "client", "(II)I"⟩, prog_1_method_8_code, 3, (Option.some Jvm.ClassFile.FieldType.int), 1, 21, 9, 2, []),
  (⟨"BlindGuides", "whoMustTalk", "()I"⟩, prog_1_method_9_code, 4, (Option.some Jvm.ClassFile.FieldType.int), 2, 44, 9, 0, []),
  (⟨"BlindGuides", "headsOf", "(I)I"⟩, prog_1_method_10_code, 4, (Option.some Jvm.ClassFile.FieldType.int), 1, 21, 9, 1, []),
  (⟨"BlindGuides", "night", "(I)I"⟩, prog_1_method_11_code, 3, (Option.some Jvm.ClassFile.FieldType.int), 3, 66, 9, 1, []),
  (⟨"BlindGuides", "hire", "(II)I"⟩, prog_1_method_12_code, 4, (Option.some Jvm.ClassFile.FieldType.int), 4, 92, 9, 2, []),
  (⟨"BlindGuides", "nowhere", "(II)I"⟩, prog_1_method_13_code, 6, (Option.some Jvm.ClassFile.FieldType.int), 3, 66, 9, 2, []),
  (⟨"BlindGuides", "wall", "(IZ)I"⟩, prog_1_method_14_code, 4, (Option.some Jvm.ClassFile.FieldType.int), 3, 66, 9, 2, []),
  (⟨"BlindGuides", "learn", "(II)I"⟩, prog_1_method_15_code, 4, (Option.some Jvm.ClassFile.FieldType.int), 3, 66, 9, 2, []),
  (⟨"BlindGuides", "forget", "(I)I"⟩, prog_1_method_16_code, 3, (Option.some Jvm.ClassFile.FieldType.int), 3, 66, 9, 1, []),
  (⟨"BlindGuides", "drift", "(I)I"⟩, prog_1_method_17_code, 4, (Option.some Jvm.ClassFile.FieldType.int), 5, 116, 9, 1, []),
  (⟨"BlindGuides", "undo", "()I"⟩, prog_1_method_18_code, 1, (Option.some Jvm.ClassFile.FieldType.int), 3, 66, 9, 0, []),
  (⟨"BlindGuides", "refusalOfNights", "(I)I"⟩, prog_1_method_19_code, 2, (Option.some Jvm.ClassFile.FieldType.int), 0, 0, 9, 1, []),
  (⟨"BlindGuides", "streetsFor", "(II)I"⟩, prog_1_method_20_code, 3, (Option.some Jvm.ClassFile.FieldType.int), 3, 70, 9, 2, []),
  (⟨"BlindGuides", "priceOf", "(II)I"⟩, prog_1_method_21_code, 4, (Option.some Jvm.ClassFile.FieldType.int), 2, 42, 9, 2, [])]
def dm_mt6 : List dm_MT := [
  (⟨"BlindGuides", "leadHome", "(III)I"⟩, prog_1_method_22_code, 5, (Option.some Jvm.ClassFile.FieldType.int), 3, 65, 9, 3, []),
  (⟨"BlindGuides", "passNightByDraws", "()V"⟩, prog_1_method_23_code, 5, (Option.none : Option Jvm.ClassFile.FieldType), 4, 92, 9, 0, []),
  (⟨"BlindGuides", "draw", "(I)I"⟩, prog_1_method_24_code, 2, (Option.some Jvm.ClassFile.FieldType.int), 1, 21, 9, 1, []),
  (⟨"BlindGuides", "leads", "(III)I"⟩, prog_1_method_25_code, 5, (Option.some Jvm.ClassFile.FieldType.int), 4, 96, 9, 3, []),
  (⟨"BlindGuides", "way", "(III)I"⟩, prog_1_method_26_code, 4, (Option.some Jvm.ClassFile.FieldType.int), 3, 70, 9, 3, []),
  (⟨"BlindGuides", "match", "(I)I"⟩, prog_1_method_27_code, 5, (Option.some Jvm.ClassFile.FieldType.int), 5, 114, 9, 1, []),
  (⟨"BlindGuides", "fromWherever", "(III)I"⟩, prog_1_method_28_code, 4, (Option.some Jvm.ClassFile.FieldType.int), 5, 117, 9, 3, []),
  (⟨"BlindGuides", "meet", "(II)I"⟩, prog_1_method_29_code, 3, (Option.some Jvm.ClassFile.FieldType.int), 5, 117, 9, 2, []),
  (⟨"BlindGuides", "ring", "(I)I"⟩, prog_1_method_30_code, 2, (Option.some Jvm.ClassFile.FieldType.int), 3, 69, 9, 1, []),
  (⟨"BlindGuides", "allGoBy", "(III)I"⟩, prog_1_method_31_code, 7, (Option.some Jvm.ClassFile.FieldType.int), 3, 70, 9, 3, []),
  (⟨"BlindGuides", "pose", "(II)I"⟩, prog_1_method_32_code, 8, (Option.some Jvm.ClassFile.FieldType.int), 4, 96, 9, 2, []),
  (⟨"BlindGuides", "clouds", "(II)I"⟩, prog_1_method_33_code, 6, (Option.some Jvm.ClassFile.FieldType.int), 0, 0, 9, 2, [3]),
  (⟨"BlindGuides", "isBetrayed", "(IIII)Z"⟩, prog_1_method_34_code, 7, (Option.some Jvm.ClassFile.FieldType.boolean), 3, 70, 9, 4, []),
  (⟨"BlindGuides", "begin", "(I)I"⟩, prog_1_method_35_code, 2, (Option.some Jvm.ClassFile.FieldType.int), 2, 45, 9, 1, []),
  (⟨"BlindGuides", "hear", "(II)I"⟩, prog_1_method_36_code, 3, (Option.some Jvm.ClassFile.FieldType.int), 3, 68, 9, 2, []),
  (⟨"BlindGuides", "began", "()I"⟩, prog_1_method_37_code, 1, (Option.some Jvm.ClassFile.FieldType.int), 0, 0, 9, 0, [])]
def dm_mt7 : List dm_MT := [
  (⟨"BlindGuides", "listen", "()I"⟩, prog_1_method_38_code, 1, (Option.some Jvm.ClassFile.FieldType.int), 4, 95, 9, 0, []),
  (⟨"BlindGuides", "write", "(II)I"⟩, prog_1_method_39_code, 3, (Option.some Jvm.ClassFile.FieldType.int), 2, 44, 9, 2, []),
  (⟨"BlindGuides", "tear", "()I"⟩, prog_1_method_40_code, 2, (Option.some Jvm.ClassFile.FieldType.int), 1, 20, 9, 0, []),
  (⟨"BlindGuides", "judge", "()I"⟩, prog_1_method_41_code, 1, (Option.some Jvm.ClassFile.FieldType.int), 2, 43, 9, 0, []),
  (⟨"BlindGuides", "seed", "(I)I"⟩, prog_1_method_42_code, 3, (Option.some Jvm.ClassFile.FieldType.int), 0, 0, 9, 1, []),
  (⟨"BlindGuides", "keep", "(I)I"⟩, prog_1_method_43_code, 2, (Option.some Jvm.ClassFile.FieldType.int), 3, 68, 9, 1, []),
  (⟨"BlindGuides", "goBack", "(I)I"⟩, prog_1_method_44_code, 2, (Option.some Jvm.ClassFile.FieldType.int), 3, 67, 9, 1, []),
  (⟨"BlindGuides", "at", "([II)I"⟩, prog_1_method_45_code, 2, (Option.some Jvm.ClassFile.FieldType.int), 0, 0, 9, 2, []),
  (⟨"BlindGuides", "put", "([III)V"⟩, prog_1_method_46_code, 3, (Option.none : Option Jvm.ClassFile.FieldType), 0, 0, 9, 3, []),
  (⟨"BlindGuides", "stateAt", "([LBlindGuides$State;I)LBlindGuides$State;"⟩, prog_1_method_47_code, 2, (Option.some (Jvm.ClassFile.FieldType.object "BlindGuides$State")), 0, 0, 9, 2, []),
  (⟨"BlindGuides", "newStates", "(I)[LBlindGuides$State;"⟩, prog_1_method_48_code, 3, (Option.some (Jvm.ClassFile.FieldType.array (Jvm.ClassFile.FieldType.object "BlindGuides$State"))), 2, 32, 9, 1, []),
  (⟨"BlindGuidesLaw", "part", "(II)I"⟩, method_2_code, 2, (Option.some Jvm.ClassFile.FieldType.int), 0, 0, 13, 2, []),
  (⟨"BlindGuidesLaw", "cell", "([II)I"⟩, method_3_code, 2, (Option.some Jvm.ClassFile.FieldType.int), 0, 0, 13, 2, []),
  (⟨"BlindGuidesLaw", "number", "(LBlindGuides;I)V"⟩, method_4_code, 2, (Option.none : Option Jvm.ClassFile.FieldType), 2, 43, 13, 2, []),
  (⟨"BlindGuidesLaw", "tells", "(LBlindGuides;[I[I[I[IIII)Z"⟩, method_5_code, 12, (Option.some Jvm.ClassFile.FieldType.boolean), 7, 162, 13, 8, []),
  (⟨"BlindGuidesLaw", "many", "(I)I"⟩, method_11_code, 3, (Option.some Jvm.ClassFile.FieldType.int), 0, 0, 13, 1, [])]
def dm_mt8 : List dm_MT := [
  (⟨"java/lang/Object", "<init>", "()V"⟩, object_method_1_code, 1, (Option.none : Option Jvm.ClassFile.FieldType), 0, 0, 12, 0, []),
  (⟨"java/lang/Integer", "bitCount", "(I)I"⟩, prog_13_method_49_code, 1, (Option.some Jvm.ClassFile.FieldType.int), 0, 0, 10, 1, []),
  (⟨"java/lang/Math", "max", "(II)I"⟩, prog_14_method_65_code, 2, (Option.some Jvm.ClassFile.FieldType.int), 0, 0, 11, 2, []),
  (⟨"java/lang/Math", "min", "(II)I"⟩, prog_14_method_69_code, 2, (Option.some Jvm.ClassFile.FieldType.int), 0, 0, 11, 2, []),
  (⟨"BlindGuidesLaw", "law", "([I)Z"⟩, code, maxLocals, ret, 8, 193, 13, 1, [])]
def dm_mtc : Nat → List dm_MT := fun k => match k with
  | 0 => dm_mt0
  | 1 => dm_mt1
  | 2 => dm_mt2
  | 3 => dm_mt3
  | 4 => dm_mt4
  | 5 => dm_mt5
  | 6 => dm_mt6
  | 7 => dm_mt7
  | _ => dm_mt8
def dm_m0 : dm_MT := (⟨"", "", ""⟩, ⟨#[]⟩, 0, none, 0, 0, 0, 0, [])
def dm_M (m : Nat) : dm_MT := (dm_mtc (m / 16)).getD (m % 16) dm_m0
def mY (m : Nat) : MethodName := (dm_M m).1
def mB (m : Nat) : ByteArray := (dm_M m).2.1
def mX (m : Nat) : Nat := (dm_M m).2.2.1
def mR (m : Nat) : Option FieldType := (dm_M m).2.2.2.1
def mF (m : Nat) : Nat := (dm_M m).2.2.2.2.1
def mL (m : Nat) : Nat := (dm_M m).2.2.2.2.2.1
def mO (m : Nat) : Nat := (dm_M m).2.2.2.2.2.2.1
def mN (m : Nat) : Nat := (dm_M m).2.2.2.2.2.2.2.1
def mG (m : Nat) : List Nat := (dm_M m).2.2.2.2.2.2.2.2
def dm_own (m : Nat) : String := dm_ow.getD (mO m) ""
def dm_cw (m : Nat) : Jvm.Cond := Cond.code (mY m) (mB m) (mX m) (mR m)
def dm_Ts (m : Nat) : List Cond := Cond.code (mY m) (mB m) (mX m) (mR m) :: dm_T
def dm_fl : Nat → List (Nat × Nat × Nat × Bool) := fun o => match o with
  | 0 => [(9, 0, 1, false), (15, 0, 2, false), (18, 0, 0, false), (26, 7, 0, true)]
  | 1 => [(9, 1, 5, false), (15, 1, 6, false), (18, 1, 7, false), (21, 1, 8, false), (24, 1, 9, false), (27, 1, 10, false), (30, 1, 11, false), (33, 1, 12, false), (36, 1, 13, false), (39, 1, 0, false), (43, 1, 1, false), (46, 1, 2, false), (49, 1, 3, false), (52, 1, 4, false)]
  | 2 => [(9, 2, 0, false), (15, 2, 2, false), (19, 2, 1, false), (22, 1, 0, true), (31, 1, 5, true)]
  | 3 => [(13, 3, 0, false), (19, 3, 1, false), (23, 3, 2, false)]
  | 4 => [(9, 4, 2, false), (15, 4, 3, false), (18, 4, 4, false), (21, 4, 0, false), (25, 4, 1, false), (32, 4, 5, false), (46, 4, 6, false), (49, 4, 7, false), (52, 4, 8, false)]
  | 5 => [(13, 5, 0, false), (19, 5, 2, false), (23, 5, 1, false)]
  | 6 => [(9, 6, 0, false), (15, 6, 4, false), (19, 6, 5, false), (23, 6, 1, false), (26, 6, 2, false), (29, 6, 3, false), (48, 1, 0, true), (81, 1, 1, true), (88, 1, 2, true), (95, 1, 3, true), (101, 1, 4, true)]
  | 7 => [(9, 7, 0, false), (15, 7, 1, false), (18, 7, 2, false), (21, 1, 8, true), (32, 1, 10, true), (33, 7, 3, false), (37, 7, 4, false), (40, 7, 5, false), (43, 7, 6, false)]
  | 8 => [(11, 8, 0, false), (15, 8, 1, false), (18, 8, 2, false), (25, 8, 3, false)]
  | 9 => [(9, 9, 0, false), (13, 9, 1, false), (17, 9, 2, false), (23, 9, 4, false), (27, 9, 5, false), (35, 9, 3, false), (42, 9, 6, false), (49, 9, 7, false), (56, 9, 8, false), (63, 9, 9, false), (70, 9, 10, false), (77, 9, 11, false), (84, 9, 12, false), (88, 9, 13, false), (101, 6, 4, true), (111, 1, 0, true), (114, 1, 2, true), (117, 1, 3, true), (120, 7, 5, true), (127, 7, 3, true), (130, 7, 4, true), (133, 7, 6, true), (140, 2, 0, true), (146, 0, 0, true), (149, 5, 2, true), (157, 1, 5, true), (171, 7, 0, true), (174, 1, 9, true), (177, 7, 1, true), (180, 7, 2, true), (192, 1, 11, true), (195, 1, 12, true), (270, 4, 6, true), (273, 4, 7, true), (276, 4, 8, true), (307, 2, 1, true)]
  | _ => []
def dm_ml : Nat → List (Nat × Nat × Nat) := fun o => match o with
  | 0 => [(3, 128, 7), (22, 120, 3), (31, 119, 3)]
  | 1 => [(3, 128, 7), (55, 120, 3), (59, 7, 0), (63, 130, 8), (69, 119, 3), (73, 16, 0), (76, 18, 0), (79, 20, 0)]
  | 2 => [(3, 128, 7), (27, 120, 3), (34, 119, 3), (38, 16, 1), (42, 27, 0), (46, 129, 2), (52, 29, 2), (56, 130, 8)]
  | 3 => [(3, 128, 7), (9, 122, 3), (27, 121, 3), (31, 67, 1), (37, 120, 3), (41, 119, 3)]
  | 4 => [(3, 128, 7), (28, 120, 3), (35, 41, 0), (38, 42, 0), (42, 40, 2), (55, 43, 0), (59, 130, 8), (64, 119, 3), (68, 45, 0)]
  | 5 => [(3, 128, 7), (9, 122, 3), (26, 121, 3), (30, 67, 1), (36, 131, 9), (42, 130, 8)]
  | 6 => [(3, 128, 7), (32, 5, 1), (38, 62, 0), (41, 52, 0), (44, 63, 0), (51, 64, 0), (55, 53, 0), (58, 54, 0), (61, 55, 0), (64, 56, 0), (67, 57, 0), (70, 58, 0), (74, 60, 0), (78, 59, 0), (84, 6, 1), (91, 8, 1), (98, 9, 1), (104, 10, 1), (107, 61, 2), (111, 131, 9)]
  | 7 => [(3, 128, 7), (24, 119, 3), (28, 120, 3)]
  | 8 => [(3, 128, 7), (21, 120, 3), (29, 73, 0), (33, 119, 3), (37, 74, 2), (41, 72, 0), (45, 17, 1), (51, 129, 2)]
  | 9 => [(1, 128, 7), (22, 4, 6), (32, 50, 6), (41, 65, 6), (48, 46, 6), (55, 30, 6), (62, 23, 6), (69, 0, 6), (76, 70, 6), (83, 36, 6), (93, 120, 2), (97, 51, 1), (102, 66, 1), (105, 47, 1), (108, 31, 1), (109, 24, 1), (110, 1, 1), (123, 15, 1), (136, 83, 0), (143, 27, 1), (152, 11, 1), (160, 119, 2), (164, 16, 1), (168, 12, 1), (183, 69, 1), (186, 19, 1), (189, 13, 1), (198, 84, 0), (201, 129, 2), (206, 93, 0), (209, 48, 1), (213, 68, 1), (217, 94, 0), (221, 96, 0), (225, 97, 0), (228, 49, 1), (231, 20, 1), (234, 95, 0), (238, 131, 9), (243, 98, 0), (253, 130, 8), (256, 21, 1), (259, 37, 1), (263, 38, 1), (267, 39, 1), (279, 44, 1), (282, 14, 1), (285, 71, 1), (289, 22, 1), (292, 108, 0), (300, 25, 1), (303, 26, 1), (310, 28, 1), (314, 2, 1), (316, 3, 1), (320, 33, 1), (324, 32, 1), (327, 34, 1), (330, 35, 1)]
  | 13 => [(9, 76, 0), (15, 124, 2), (21, 123, 2), (25, 125, 2), (29, 77, 0), (33, 78, 0), (36, 79, 0), (56, 85, 0), (59, 88, 0), (63, 86, 0), (66, 87, 0), (69, 89, 0), (72, 90, 0), (83, 75, 5), (84, 126, 2), (88, 117, 0), (91, 81, 0), (94, 99, 0), (98, 82, 0), (101, 91, 0), (105, 92, 0), (108, 100, 0), (110, 105, 0), (113, 127, 2), (116, 80, 0), (119, 104, 0), (122, 106, 0), (125, 101, 0), (128, 102, 0), (131, 103, 0), (134, 112, 0), (137, 109, 0), (140, 110, 0), (143, 111, 0), (147, 113, 0), (150, 115, 0), (153, 114, 0), (157, 107, 0), (161, 116, 0), (164, 118, 0)]
  | _ => []
def dm_cn : Nat → List (Nat × Int32) := fun o => match o with
  | 9 => [(91, (-1000000002 : Int32)), (92, (-1000000004 : Int32)), (156, (-1000000001 : Int32)), (220, (-1000000003 : Int32)), (237, (999999 : Int32)), (252, (65536 : Int32))]
  | 10 => [(265, (1431655765 : Int32)), (266, (858993459 : Int32)), (267, (252645135 : Int32))]
  | 13 => [(7, (2147483647 : Int32)), (8, (2654435 : Int32)), (50, (-1000000003 : Int32)), (55, (999999 : Int32)), (75, (-1000000001 : Int32)), (104, (-1000000002 : Int32)), (146, (-1000000004 : Int32)), (156, (1000000000 : Int32)), (160, (99999 : Int32))]
  | _ => []
def dm_ln : Nat → List (Nat × Int64) := fun o => match o with
  | 9 => [(246, (1103515245 : Int64)), (248, (12345 : Int64)), (250, (2147483647 : Int64)), (296, (1000000000 : Int64)), (298, (100 : Int64))]
  | _ => []
def dm_nw : Nat → List (Nat × Nat) := fun o => match o with
  | 9 => [(20, 1), (30, 6), (39, 7), (46, 5), (53, 3), (60, 2), (67, 0), (74, 8), (81, 4)]
  | 13 => [(10, 9)]
  | _ => []
def dm_nO : Nat := 14
def rF (o i : Nat) : Option (Nat × Nat × Bool) := if dm_nO ≤ o then none else ((dm_fl o).find? (fun e => e.1 == i)).map (fun e => e.2)
def rM (o i : Nat) : Option (Nat × Nat) := if dm_nO ≤ o then none else ((dm_ml o).find? (fun e => e.1 == i)).map (fun e => e.2)
def rC (o i : Nat) : Option Int32 := if dm_nO ≤ o then none else ((dm_cn o).find? (fun e => e.1 == i)).map (fun e => e.2)
def rL (o i : Nat) : Option Int64 := if dm_nO ≤ o then none else ((dm_ln o).find? (fun e => e.1 == i)).map (fun e => e.2)
def rN (o i : Nat) : Option Nat := if dm_nO ≤ o then none else ((dm_nw o).find? (fun e => e.1 == i)).map (fun e => e.2)
end
section
/-! where the words of methods stand in the tables (printed by wip/gen/gen.py) -/
def dm_ch : Nat → List Jvm.Cond := fun j => match j with
  | 0 => k2_sels lw_privs
  | 1 => tables_1_1
  | 2 => tables_1_2
  | 3 => tables_1_3
  | _ => tables_1_4
def dm_mp0 : List (List (Nat × Nat)) := [[(1, 210), (1, 19)], [(3, 174), (2, 180), (1, 1)], [(3, 195), (2, 93), (1, 1)]]
def dm_mp1 : List (List (Nat × Nat)) := [[(1, 26), (1, 19)], [(4, 22), (2, 180), (1, 1)], [(4, 23), (4, 25), (0, 52), (1, 2)], [(2, 89), (2, 90), (1, 11)], [(2, 92), (2, 93), (1, 1)], [(3, 23), (2, 127), (0, 5), (1, 2)], [(2, 146), (2, 148), (0, 9), (1, 2)], [(3, 22), (2, 199), (0, 16), (1, 2)]]
def dm_mp2 : List (List (Nat × Nat)) := [[(1, 192), (1, 19)], [(3, 138), (2, 180), (1, 1)], [(2, 114), (2, 93), (1, 1)], [(3, 147), (2, 127), (0, 5), (1, 2)], [(3, 160), (2, 112), (0, 3), (1, 7)], [(3, 161), (2, 105), (1, 12)], [(3, 162), (3, 163), (1, 7)], [(3, 165), (2, 90), (1, 11)]]
def dm_mp3 : List (List (Nat × Nat)) := [[(1, 175), (1, 19)], [(1, 176), (1, 156), (1, 1)], [(3, 208), (2, 173), (1, 1)], [(3, 209), (2, 177), (0, 13), (1, 4)], [(3, 210), (2, 180), (1, 1)], [(3, 231), (2, 93), (1, 1)]]
def dm_mp4 : List (List (Nat × Nat)) := [[(2, 6), (1, 19)], [(3, 40), (2, 180), (1, 1)], [(3, 45), (3, 47), (0, 26), (1, 10)], [(3, 49), (3, 51), (0, 27), (1, 10)], [(3, 59), (3, 60), (1, 10)], [(3, 54), (3, 56), (0, 28), (1, 10)], [(3, 58), (2, 90), (1, 11)], [(3, 53), (2, 93), (1, 1)], [(3, 66), (3, 68), (0, 30), (1, 10)]]
def dm_mp5 : List (List (Nat × Nat)) := [[(1, 154), (1, 19)], [(1, 155), (1, 156), (1, 1)], [(2, 172), (2, 173), (1, 1)], [(2, 175), (2, 177), (0, 13), (1, 4)], [(2, 182), (2, 183), (1, 11)], [(3, 13), (2, 90), (1, 11)]]
def dm_mp6 : List (List (Nat × Nat)) := [[(1, 92), (1, 19)], [(4, 18), (4, 20), (0, 51), (1, 2)], [(4, 27), (4, 29), (0, 53), (1, 3)], [(4, 35), (4, 37), (0, 55), (1, 3)], [(4, 31), (4, 33), (0, 54), (1, 3)], [(4, 39), (4, 41), (0, 56), (1, 3)], [(4, 43), (4, 45), (0, 57), (1, 3)], [(4, 63), (4, 65), (0, 61), (1, 3)], [(4, 71), (4, 73), (0, 63), (1, 3)], [(4, 79), (4, 81), (0, 65), (1, 3)], [(4, 87), (4, 89), (0, 67), (1, 3)], [(4, 47), (4, 49), (0, 58), (1, 3)], [(4, 51), (4, 53), (0, 59), (1, 3)], [(4, 59), (4, 61), (0, 60), (1, 3)], [(4, 67), (4, 69), (0, 62), (1, 2)], [(4, 75), (4, 77), (0, 64), (1, 2)], [(4, 83), (4, 85), (0, 66), (1, 2)], [(4, 91), (4, 93), (0, 68), (1, 2)], [(4, 55), (4, 56), (1, 3)], [(4, 58), (2, 183), (1, 11)]]
def dm_mp7 : List (List (Nat × Nat)) := [[(1, 118), (1, 19)], [(2, 141), (2, 93), (1, 1)], [(2, 179), (2, 180), (1, 1)]]
def dm_mp8 : List (List (Nat × Nat)) := [[(1, 227), (1, 19)], [(3, 82), (2, 180), (1, 1)], [(3, 83), (3, 85), (0, 33), (1, 9)], [(3, 87), (2, 93), (1, 1)], [(3, 88), (3, 89), (1, 9)], [(3, 92), (3, 94), (0, 34), (1, 9)], [(3, 96), (3, 98), (0, 35), (1, 2)], [(3, 91), (2, 105), (1, 12)]]
def dm_mp9 : List (List (Nat × Nat)) := [[(1, 18), (1, 19)], [(1, 23), (1, 24), (1, 2)], [(1, 89), (1, 90), (1, 3)], [(1, 115), (1, 116), (1, 4)], [(1, 151), (1, 152), (1, 5)], [(1, 172), (1, 173), (1, 6)], [(1, 189), (1, 190), (1, 7)], [(1, 207), (1, 208), (1, 8)], [(1, 224), (1, 225), (1, 9)], [(2, 3), (2, 4), (1, 10)], [(2, 211), (2, 180), (1, 1)], [(4, 14), (4, 16), (0, 50), (1, 3)], [(4, 95), (4, 97), (0, 69), (1, 4)], [(3, 211), (3, 213), (0, 46), (1, 5)], [(4, 99), (4, 101), (0, 70), (1, 6)], [(3, 179), (3, 181), (0, 42), (1, 7)], [(3, 183), (3, 185), (0, 43), (1, 8)], [(2, 85), (2, 87), (0, 0), (1, 2)], [(2, 95), (2, 97), (0, 1), (1, 1)], [(2, 110), (2, 112), (0, 3), (1, 7)], [(2, 120), (2, 122), (0, 4), (1, 2)], [(2, 103), (2, 93), (1, 1)], [(2, 125), (2, 127), (0, 5), (1, 2)], [(2, 133), (2, 135), (0, 6), (1, 2)], [(2, 137), (2, 139), (0, 7), (1, 4)], [(2, 142), (2, 144), (0, 8), (1, 2)], [(2, 154), (2, 156), (0, 10), (1, 2)], [(2, 99), (2, 101), (0, 2), (1, 1)], [(2, 104), (2, 105), (1, 12)], [(2, 162), (2, 164), (0, 11), (1, 1)], [(2, 168), (2, 170), (0, 12), (1, 5)], [(2, 185), (2, 187), (0, 14), (1, 4)], [(2, 193), (2, 195), (0, 15), (1, 1)], [(2, 201), (2, 203), (0, 17), (1, 1)], [(2, 232), (2, 234), (0, 19), (1, 1)], [(3, 9), (3, 11), (0, 21), (1, 5)], [(2, 197), (2, 199), (0, 16), (1, 2)], [(2, 205), (2, 207), (0, 18), (1, 1)], [(2, 210), (2, 183), (1, 11)], [(2, 236), (2, 238), (0, 20), (1, 1)], [(3, 4), (2, 90), (1, 11)], [(3, 18), (3, 20), (0, 22), (1, 2)], [(3, 32), (3, 34), (0, 23), (1, 10)], [(3, 36), (3, 38), (0, 24), (1, 10)], [(3, 41), (3, 43), (0, 25), (1, 10)], [(3, 62), (3, 64), (0, 29), (1, 10)], [(3, 74), (3, 76), (0, 31), (1, 2)], [(3, 78), (3, 80), (0, 32), (1, 9)], [(3, 108), (3, 110), (0, 36), (1, 2)], [(3, 120), (3, 122), (0, 37), (1, 1)], [(3, 134), (3, 136), (0, 38), (1, 7)], [(3, 143), (3, 145), (0, 39), (1, 7)], [(3, 156), (3, 158), (0, 40), (1, 7)], [(3, 170), (3, 172), (0, 41), (1, 8)], [(3, 191), (3, 193), (0, 44), (1, 8)], [(3, 204), (3, 206), (0, 45), (1, 6)], [(3, 219), (3, 221), (0, 47), (1, 6)], [(3, 223), (3, 225), (0, 48), (1, 6)], [(3, 227), (3, 229), (0, 49), (1, 6)]]
def dm_mp10 : List (List (Nat × Nat)) := []
def dm_mp11 : List (List (Nat × Nat)) := []
def dm_mp12 : List (List (Nat × Nat)) := []
def dm_mp13 : List (List (Nat × Nat)) := [[(4, 3), (4, 4), (4, 5), (1, 1)], [(3, 236), (3, 237), (1, 0)], [(3, 232), (3, 233), (1, 0)], [(4, 7), (4, 8), (1, 0)], [(4, 10), (4, 11), (4, 12), (1, 1)], [(4, 103), (4, 104), (4, 105), (1, 1)], [(2, 81), (2, 82), (2, 83), (1, 1)], [(2, 158), (2, 159), (2, 160), (1, 1)], [(2, 216), (2, 217), (2, 218), (1, 1)], [(2, 189), (2, 190), (2, 191), (1, 1)], [(2, 212), (2, 213), (2, 214), (1, 1)], [(2, 220), (2, 221), (2, 222), (1, 1)], [(2, 224), (2, 225), (2, 226), (1, 1)], [(1, 15), (1, 16), (1, 1)], [(4, 0), (4, 1), (1, 0)], [(3, 200), (3, 201), (3, 202), (1, 1)], [(2, 129), (2, 130), (2, 131), (1, 1)], [(3, 14), (3, 15), (3, 16), (1, 1)], [(2, 150), (2, 151), (2, 152), (1, 1)], [(2, 228), (2, 229), (2, 230), (1, 1)], [(3, 5), (3, 6), (3, 7), (1, 1)], [(3, 24), (3, 25), (3, 26), (1, 1)], [(3, 112), (3, 113), (3, 114), (1, 1)], [(4, 107), (4, 108), (1, 0)], [(2, 116), (2, 117), (2, 118), (1, 1)], [(3, 104), (3, 105), (3, 106), (1, 1)], [(3, 116), (3, 117), (3, 118), (1, 1)], [(3, 28), (3, 29), (3, 30), (1, 1)], [(3, 70), (3, 71), (3, 72), (1, 1)], [(3, 100), (3, 101), (3, 102), (1, 1)], [(3, 152), (3, 153), (3, 154), (1, 1)], [(3, 130), (3, 131), (3, 132), (1, 1)], [(3, 139), (3, 140), (3, 141), (1, 1)], [(3, 148), (3, 149), (3, 150), (1, 1)], [(3, 166), (3, 167), (3, 168), (1, 1)], [(3, 187), (3, 188), (3, 189), (1, 1)], [(3, 175), (3, 176), (3, 177), (1, 1)], [(3, 124), (3, 125), (3, 126), (1, 1)], [(3, 196), (3, 197), (3, 198), (1, 1)], [(3, 215), (3, 216), (3, 217), (1, 1)]]
def dm_mp : Nat → List (List (Nat × Nat)) := fun o => match o with
  | 0 => dm_mp0
  | 1 => dm_mp1
  | 2 => dm_mp2
  | 3 => dm_mp3
  | 4 => dm_mp4
  | 5 => dm_mp5
  | 6 => dm_mp6
  | 7 => dm_mp7
  | 8 => dm_mp8
  | 9 => dm_mp9
  | 10 => dm_mp10
  | 11 => dm_mp11
  | 12 => dm_mp12
  | 13 => dm_mp13
  | _ => []
def dm_ci1 : List (Nat × Nat) := [(75, 17), (128, 20), (4, 25), (50, 91), (65, 117), (46, 153), (122, 157), (30, 174), (23, 191), (0, 209), (70, 226)]
set_option maxRecDepth 100000 in
theorem dm_cp1 : dm_ci1.map (fun e => some (dm_cw e.1)) = dm_ci1.map (fun e => tables_1_1[e.2]?) := rfl
def dm_ci2 : List (Nat × Nat) := [(36, 5), (79, 84), (15, 88), (130, 91), (119, 94), (83, 98), (84, 102), (129, 106), (27, 113), (80, 119), (11, 123), (16, 128), (81, 132), (12, 136), (69, 140), (19, 145), (18, 149), (82, 153), (13, 157), (85, 161), (93, 165), (48, 171), (121, 174), (67, 178), (120, 181), (131, 184), (68, 188), (86, 192), (94, 196), (20, 200), (96, 204), (95, 208), (87, 215), (88, 219), (89, 223), (90, 227), (91, 231), (97, 235), (98, 239)]
set_option maxRecDepth 100000 in
theorem dm_cp2 : dm_ci2.map (fun e => some (dm_cw e.1)) = dm_ci2.map (fun e => tables_1_2[e.2]?) := rfl
def dm_ci3 : List (Nat × Nat) := [(92, 8), (49, 12), (99, 17), (21, 21), (100, 27), (101, 31), (37, 35), (38, 39), (39, 44), (41, 48), (42, 52), (43, 57), (40, 61), (44, 65), (45, 69), (102, 73), (14, 77), (71, 81), (73, 86), (74, 90), (72, 95), (17, 99), (103, 103), (104, 107), (22, 111), (105, 115), (106, 119), (108, 123), (107, 127), (109, 133), (25, 137), (110, 142), (26, 146), (111, 151), (112, 155), (28, 159), (29, 164), (113, 169), (2, 173), (114, 178), (24, 182), (1, 186), (115, 190), (3, 194), (116, 199), (117, 203), (33, 207), (47, 214), (118, 218), (32, 222), (34, 226), (35, 230), (123, 234), (124, 238)]
set_option maxRecDepth 100000 in
theorem dm_cp3 : dm_ci3.map (fun e => some (dm_cw e.1)) = dm_ci3.map (fun e => tables_1_3[e.2]?) := rfl
def dm_ci4 : List (Nat × Nat) := [(126, 2), (76, 6), (125, 9), (77, 13), (51, 17), (5, 21), (7, 26), (62, 30), (63, 34), (52, 38), (64, 42), (53, 46), (58, 50), (60, 54), (61, 57), (59, 62), (54, 66), (6, 70), (55, 74), (8, 78), (56, 82), (9, 86), (57, 90), (10, 94), (66, 98), (31, 102), (78, 106), (127, 109)]
set_option maxRecDepth 100000 in
theorem dm_cp4 : dm_ci4.map (fun e => some (dm_cw e.1)) = dm_ci4.map (fun e => tables_1_4[e.2]?) := rfl
def dm_cis : List (Nat × Nat) := dm_ci1 ++ dm_ci2 ++ dm_ci3 ++ dm_ci4
end
section
/-! what the tables say, checked by the kernel -/
def dm_has (w : Jvm.Cond) : Bool := decide (w ∈ lw_tbl) && goodWord w
theorem dm_has_T {w : Jvm.Cond} (h : dm_has w = true) : w ∈ dm_T := by
  unfold dm_has at h
  rw [Bool.and_eq_true, decide_eq_true_eq] at h
  exact List.mem_filter.mpr ⟨h.1, by simpa using h.2⟩
theorem dm_T_good {w : Jvm.Cond} (h : w ∈ dm_T) : goodWord w = true := (List.mem_filter.mp h).2
theorem dm_T_tbl {w : Jvm.Cond} (h : w ∈ dm_T) : w ∈ lw_tbl := (List.mem_filter.mp h).1
def dm_max : Nat := 130
def dm_min : Nat := 131
def dm_isN : Jvm.Cond → Bool := fun w => match w with
  | .fieldLinkNest _ _ _ _ _ _ => true
  | .methodLinkNest _ _ _ _ => true
  | _ => false
def dm_N : List Jvm.Cond := lw_tbl.filter dm_isN
def dm_hasN (w : Jvm.Cond) : Bool := decide (w ∈ lw_tbl) && dm_isN w
theorem dm_has_N {w : Jvm.Cond} (h : dm_hasN w = true) : w ∈ dm_N := by
  unfold dm_hasN at h
  rw [Bool.and_eq_true, decide_eq_true_eq] at h
  exact List.mem_filter.mpr ⟨h.1, by simpa using h.2⟩
theorem dm_N_tbl {w : Jvm.Cond} (h : w ∈ dm_N) : w ∈ lw_tbl := (List.mem_filter.mp h).1
theorem dm_N_warm {w : Jvm.Cond} (h : w ∈ dm_N) {s U : State} (hW : s.WarmedH U.vm) (hz : va_Nw w s) : va_Nw w U := by
  have h2 := (List.mem_filter.mp h).2
  cases w <;> first | exact va_Nw.warmF hW hz | exact va_Nw.warmM hW hz | (simp [dm_isN] at h2; done)
theorem dm_N_on {w : Jvm.Cond} (h : w ∈ dm_N) : w.onTables = true := by
  have h2 := (List.mem_filter.mp h).2
  cases w <;> first | rfl | (simp [dm_isN] at h2; done)
/-- fields -/
def dm_wF (o i : Nat) (T : u_T) (k : Nat) (nest : Bool) : Jvm.Cond := if nest then Cond.fieldLinkNest (dm_ow.getD o "") i (T k).1 (T k).2.1 (T k).2.2.1 "BlindGuides" else Cond.fieldLink (dm_ow.getD o "") i (T k).1 (T k).2.1 (T k).2.2.1
def dm_ckF (o : Nat) (e : Nat × Nat × Nat × Bool) : Bool := match dm_cl[e.2.1]? with
  | none => false
  | some q => decide (e.2.2.1 < q.2.2) && (if e.2.2.2 then dm_hasN (dm_wF o e.1 q.2.1 e.2.2.1 e.2.2.2) else dm_has (dm_wF o e.1 q.2.1 e.2.2.1 e.2.2.2))
set_option maxRecDepth 100000 in
theorem dm_okF0 : (List.range dm_nO).all (fun o => (dm_fl o).all (dm_ckF o)) = true := by decide +kernel
theorem dm_okF {o i ci k : Nat} {nest : Bool} (h : rF o i = some (ci, k, nest)) : ∃ q : vw_C, dm_cl[ci]? = some q ∧ k < q.2.2 ∧ ((nest = true ∧ dm_wF o i q.2.1 k true ∈ dm_N) ∨ (nest = false ∧ dm_wF o i q.2.1 k false ∈ dm_T)) := by
  unfold rF at h
  split at h
  · cases h
  · next ho =>
    rw [Option.map_eq_some_iff] at h
    obtain ⟨e, he, h2⟩ := h
    have h3 := List.find?_some he
    have h4 := List.mem_of_find?_eq_some he
    have h5 := List.all_eq_true.mp (List.all_eq_true.mp dm_okF0 o (List.mem_range.mpr (Nat.lt_of_not_le ho))) e h4
    obtain ⟨e1, e2⟩ := e
    subst h2
    have h6 : e1 = i := by simpa using h3
    subst h6
    unfold dm_ckF at h5
    dsimp only at h5
    split at h5
    · cases h5
    · next q hq =>
      rw [Bool.and_eq_true, decide_eq_true_eq] at h5
      refine ⟨q, hq, h5.1, ?_⟩
      cases nest with
      | true => exact Or.inl ⟨rfl, dm_has_N h5.2⟩
      | false => exact Or.inr ⟨rfl, dm_has_T h5.2⟩
-- constants
set_option maxRecDepth 100000 in
theorem dm_okC0 : (List.range dm_nO).all (fun o => (dm_cn o).all (fun e => dm_has (Cond.constant (dm_ow.getD o "") e.1 e.2))) = true := by decide +kernel
theorem dm_okC {o i : Nat} {v : Int32} (h : rC o i = some v) : Cond.constant (dm_ow.getD o "") i v ∈ dm_T := by
  unfold rC at h
  split at h
  · cases h
  · next ho =>
    rw [Option.map_eq_some_iff] at h
    obtain ⟨e, he, h2⟩ := h
    have h3 := List.find?_some he
    have h5 := List.all_eq_true.mp (List.all_eq_true.mp dm_okC0 o (List.mem_range.mpr (Nat.lt_of_not_le ho))) e (List.mem_of_find?_eq_some he)
    obtain ⟨e1, e2⟩ := e
    subst h2
    have h6 : e1 = i := by simpa using h3
    subst h6
    exact dm_has_T h5
set_option maxRecDepth 100000 in
theorem dm_okL0 : (List.range dm_nO).all (fun o => (dm_ln o).all (fun e => dm_has (Cond.constantLong (dm_ow.getD o "") e.1 e.2))) = true := by decide +kernel
theorem dm_okL {o i : Nat} {v : Int64} (h : rL o i = some v) : Cond.constantLong (dm_ow.getD o "") i v ∈ dm_T := by
  unfold rL at h
  split at h
  · cases h
  · next ho =>
    rw [Option.map_eq_some_iff] at h
    obtain ⟨e, he, h2⟩ := h
    have h3 := List.find?_some he
    have h5 := List.all_eq_true.mp (List.all_eq_true.mp dm_okL0 o (List.mem_range.mpr (Nat.lt_of_not_le ho))) e (List.mem_of_find?_eq_some he)
    obtain ⟨e1, e2⟩ := e
    subst h2
    have h6 : e1 = i := by simpa using h3
    subst h6
    exact dm_has_T h5
/-- classes to make objects of -/
def dm_ckN (o : Nat) (e : Nat × Nat) : Bool := match dm_cl[e.2]? with
  | none => false
  | some q => dm_has (Cond.classLink (dm_ow.getD o "") e.1 q.1) && dm_has (Cond.instantiable q.1 q.2.2) && dm_has (Cond.initialized q.1)
set_option maxRecDepth 100000 in
theorem dm_okN0 : (List.range dm_nO).all (fun o => (dm_nw o).all (dm_ckN o)) = true := by decide +kernel
theorem dm_okN {o i ci : Nat} (h : rN o i = some ci) : ∃ q : vw_C, dm_cl[ci]? = some q ∧ Cond.classLink (dm_ow.getD o "") i q.1 ∈ dm_T ∧ Cond.instantiable q.1 q.2.2 ∈ dm_T ∧ Cond.initialized q.1 ∈ dm_T := by
  unfold rN at h
  split at h
  · cases h
  · next ho =>
    rw [Option.map_eq_some_iff] at h
    obtain ⟨e, he, h2⟩ := h
    have h3 := List.find?_some he
    have h5 := List.all_eq_true.mp (List.all_eq_true.mp dm_okN0 o (List.mem_range.mpr (Nat.lt_of_not_le ho))) e (List.mem_of_find?_eq_some he)
    obtain ⟨e1, e2⟩ := e
    subst h2
    have h6 : e1 = i := by simpa using h3
    subst h6
    unfold dm_ckN at h5
    dsimp only at h5
    split at h5
    · cases h5
    · next q hq =>
      rw [Bool.and_eq_true, Bool.and_eq_true] at h5
      exact ⟨q, hq, dm_has_T h5.1.1, dm_has_T h5.1.2, dm_has_T h5.2⟩
/-- methods: the words of a call by its kind -/
def dm_wM (o i : Nat) (y : MethodName) (kd : Nat) : List Jvm.Cond := match kd with
  | 0 => [.methodLink (dm_ow.getD o "") i y, .instanceMethod y, .selects y.cls y y, .initialized y.cls]
  | 1 => [.methodLinkNest (dm_ow.getD o "") i y "BlindGuides", .instanceMethod y, .selects y.cls y y, .initialized y.cls]
  | 3 => [.methodLinkNest (dm_ow.getD o "") i y "BlindGuides", .static y, .initialized y.cls]
  | 5 => [.methodLink (dm_ow.getD o "") i y, .instanceMethod y, .initialized y.cls]
  | 6 => [.methodLinkNest (dm_ow.getD o "") i y "BlindGuides", .instanceMethod y, .initialized y.cls]
  | 7 => [.methodLink (dm_ow.getD o "") i Lib.objectInit, .instanceMethod Lib.objectInit]
  | _ => [.methodLink (dm_ow.getD o "") i y, .static y, .initialized y.cls]
theorem dm_ch_tbl {j p : Nat} {w : Jvm.Cond} (h : (dm_ch j)[p]? = some w) : w ∈ lw_tbl := by
  have hm : w ∈ dm_ch j := List.mem_of_getElem? h
  unfold lw_tbl tables_1
  simp only [List.mem_append]
  unfold dm_ch at hm
  split at hm
  · exact Or.inl hm
  · exact Or.inr (Or.inl hm)
  · exact Or.inr (Or.inr (Or.inl hm))
  · exact Or.inr (Or.inr (Or.inr (Or.inl hm)))
  · exact Or.inr (Or.inr (Or.inr (Or.inr hm)))
def dm_ckw (w : Jvm.Cond) (q : Nat × Nat) : Bool := decide ((dm_ch q.1)[q.2]? = some w) && (dm_isN w || goodWord w)
def dm_ckws : List Jvm.Cond → List (Nat × Nat) → Bool
  | [], [] => true
  | w :: ws, q :: qs => dm_ckw w q && dm_ckws ws qs
  | _, _ => false
theorem dm_ckws_all : ∀ (ws : List Jvm.Cond) (qs : List (Nat × Nat)), dm_ckws ws qs = true → ∀ w ∈ ws, w ∈ dm_T ∨ w ∈ dm_N
  | [], _, _, w, hw => absurd hw List.not_mem_nil
  | a :: ws, [], h, _, _ => by simp [dm_ckws] at h
  | a :: ws, q :: qs, h, w, hw => by
    simp only [dm_ckws, Bool.and_eq_true] at h
    rcases List.mem_cons.mp hw with rfl | hw
    · have h1 := h.1
      simp only [dm_ckw, Bool.and_eq_true, decide_eq_true_eq, Bool.or_eq_true] at h1
      rcases h1.2 with h2 | h2
      · exact Or.inr (List.mem_filter.mpr ⟨dm_ch_tbl h1.1, h2⟩)
      · exact Or.inl (List.mem_filter.mpr ⟨dm_ch_tbl h1.1, h2⟩)
    · exact dm_ckws_all ws qs h.2 w hw
def dm_ckm (e : Nat × Nat × Nat) : Bool := e.2.2 == 7 || (
  decide ((mY e.2.1).cls ≠ "java/lang/invoke/MethodHandle" ∧ (mY e.2.1).cls ≠ "java/lang/invoke/VarHandle" ∧ (parseMethodDescriptor (mY e.2.1).desc).map (fun d => d.parameters.length) = some (mN e.2.1)) &&
  (e.2.2 == 8 || e.2.2 == 9 || plainName (mY e.2.1).cls) && decide ((mY e.2.1).cls = dm_own e.2.1) && (decide ((mY e.2.1).name = "<init>" ∧ mR e.2.1 = none) || (e.2.2 != 5 && e.2.2 != 6)) && (e.2.2 != 8 || e.2.1 == dm_max) && (e.2.2 != 9 || e.2.1 == dm_min) && (dm_cis.any (fun c => c.1 == e.2.1)))
def dm_ckM (o : Nat) : List (Nat × Nat × Nat) → List (List (Nat × Nat)) → Bool
  | [], _ => true
  | e :: es, q :: qs => dm_ckws (dm_wM o e.1 (mY e.2.1) e.2.2) q && dm_ckm e && dm_ckM o es qs
  | _, _ => false
theorem dm_ckM_all {o : Nat} : ∀ (es : List (Nat × Nat × Nat)) (qs : List (List (Nat × Nat))), dm_ckM o es qs = true → ∀ e ∈ es, (∀ w ∈ dm_wM o e.1 (mY e.2.1) e.2.2, w ∈ dm_T ∨ w ∈ dm_N) ∧ dm_ckm e = true
  | [], _, _, e, he => absurd he List.not_mem_nil
  | a :: es, [], h, _, _ => by simp [dm_ckM] at h
  | a :: es, q :: qs, h, e, he => by
    simp only [dm_ckM, Bool.and_eq_true] at h
    rcases List.mem_cons.mp he with rfl | he
    · exact ⟨dm_ckws_all _ _ h.1.1, h.1.2⟩
    · exact dm_ckM_all es qs h.2 e he
set_option maxRecDepth 100000 in
theorem dm_okM0 : (List.range 10).all (fun o => dm_ckM o (dm_ml o) (dm_mp o)) = true := by decide +kernel
set_option maxRecDepth 100000 in
theorem dm_okM2 : (List.range 4).all (fun o => dm_ckM (10 + o) (dm_ml (10 + o)) (dm_mp (10 + o))) = true := by decide +kernel
theorem dm_okM3 {o : Nat} (h : o < dm_nO) : dm_ckM o (dm_ml o) (dm_mp o) = true := by
  have h : o < 14 := h
  rcases Nat.lt_or_ge o 10 with h1 | h1
  · exact List.all_eq_true.mp dm_okM0 o (List.mem_range.mpr h1)
  · have h3 := List.all_eq_true.mp dm_okM2 (o - 10) (List.mem_range.mpr (by omega))
    rw [show 10 + (o - 10) = o by omega] at h3
    exact h3
theorem dm_cp_mem {l : List (Nat × Nat)} {t : List Jvm.Cond} (h : l.map (fun e => some (dm_cw e.1)) = l.map (fun e => t[e.2]?)) (ht : ∀ w ∈ t, w ∈ lw_tbl) {y : Nat} (hy : l.any (fun c => c.1 == y) = true) : dm_cw y ∈ lw_tbl := by
  obtain ⟨c, hc, he⟩ := List.any_eq_true.mp hy
  have he : c.1 = y := by simpa using he
  obtain ⟨i, hi⟩ := List.getElem?_of_mem hc
  have h1 : (l.map (fun e => some (dm_cw e.1)))[i]? = (l.map (fun e => t[e.2]?))[i]? := by rw [h]
  rw [List.getElem?_map, List.getElem?_map, hi] at h1
  have h2 : some (dm_cw c.1) = t[c.2]? := Option.some.inj h1
  rw [← he]
  exact ht _ (List.mem_of_getElem? h2.symm)
theorem dm_cw_T {y : Nat} (hy : dm_cis.any (fun c => c.1 == y) = true) : dm_cw y ∈ dm_T := by
  refine List.mem_filter.mpr ⟨?_, rfl⟩
  unfold dm_cis at hy
  simp only [List.any_append, Bool.or_eq_true] at hy
  rcases hy with ((hy | hy) | hy) | hy
  · exact dm_cp_mem dm_cp1 (fun w hw => by obtain ⟨p, hp⟩ := List.getElem?_of_mem hw; exact dm_ch_tbl (j := 1) hp) hy
  · exact dm_cp_mem dm_cp2 (fun w hw => by obtain ⟨p, hp⟩ := List.getElem?_of_mem hw; exact dm_ch_tbl (j := 2) hp) hy
  · exact dm_cp_mem dm_cp3 (fun w hw => by obtain ⟨p, hp⟩ := List.getElem?_of_mem hw; exact dm_ch_tbl (j := 3) hp) hy
  · exact dm_cp_mem dm_cp4 (fun w hw => by obtain ⟨p, hp⟩ := List.getElem?_of_mem hw; exact dm_ch_tbl (j := 4) hp) hy
theorem dm_okM {o i y kd : Nat} (h : rM o i = some (y, kd)) : (∀ w ∈ dm_wM o i (mY y) kd, w ∈ dm_T ∨ w ∈ dm_N) ∧ dm_ckm (i, y, kd) = true := by
  unfold rM at h
  split at h
  · cases h
  · next ho =>
    rw [Option.map_eq_some_iff] at h
    obtain ⟨e, he, h2⟩ := h
    have h3 := List.find?_some he
    have h5 := dm_ckM_all _ _ (dm_okM3 (Nat.lt_of_not_le ho)) e (List.mem_of_find?_eq_some he)
    obtain ⟨e1, e2⟩ := e
    subst h2
    have h6 : e1 = i := by simpa using h3
    subst h6
    exact h5
/-- classes: their words, types, names of fields -/
def dm_ckK (c : Nat) : Bool := match dm_cl[c]? with
  | none => false
  | some q => (u_ws q.1 q.2.1 q.2.2).all dm_has && (List.range q.2.2).all (fun k => decide (parseFieldDescriptor (q.2.1 k).2.2.1 = some (dm_tyf c k))) && (List.range q.2.2).all (fun a => (List.range q.2.2).all (fun b => a == b || decide ((q.2.1 a).2.1 ≠ (q.2.1 b).2.1))) && (List.range q.2.2).all (fun k => decide ((q.2.1 k).1 = q.1)) && decide (q.1 = dm_ow.getD c "")
set_option maxRecDepth 100000 in
theorem dm_okK0 : (List.range 10).all dm_ckK = true := by decide +kernel
theorem dm_okK {c : Nat} {q : vw_C} (h : dm_cl[c]? = some q) : (∀ w ∈ u_ws q.1 q.2.1 q.2.2, w ∈ dm_T) ∧ (∀ k, k < q.2.2 → parseFieldDescriptor (q.2.1 k).2.2.1 = some (dm_tyf c k)) ∧ (∀ a, a < q.2.2 → ∀ b, b < q.2.2 → a ≠ b → (q.2.1 a).2.1 ≠ (q.2.1 b).2.1) ∧ (∀ k, k < q.2.2 → (q.2.1 k).1 = q.1) ∧ q.1 = dm_ow.getD c "" := by
  have hc : c < 10 := (List.getElem?_eq_some_iff.mp h).1
  have h1 := List.all_eq_true.mp dm_okK0 c (List.mem_range.mpr hc)
  unfold dm_ckK at h1
  rw [h] at h1
  dsimp only at h1
  simp only [Bool.and_eq_true, List.all_eq_true, List.mem_range, decide_eq_true_eq, Bool.or_eq_true, beq_iff_eq] at h1
  obtain ⟨⟨⟨⟨a1, a2⟩, a3⟩, a4⟩, a5⟩ := h1
  exact ⟨fun w hw => dm_has_T (a1 w hw), a2, fun a ha b hb hn => (a3 a ha b hb).resolve_left hn, a4, a5⟩
set_option maxRecDepth 100000 in
theorem dm_okA : dm_has (.arrayClass .int) = true ∧ Jvm.Cond.arrayOver (.object "BlindGuides$State") ∈ lw_tbl := by decide +kernel
end
section
/-! the abstract machine: heap cells by number (their kinds a list, their contents a function), references are numbers of cells; deterministic, by fuel -/
abbrev dm_G : Type := Nat → Nat → Value
abbrev dm_H : Type := List (Nat × Nat) × dm_G
abbrev dm_L : Type := List (Option Value)
abbrev dm_S : Type := Nat × dm_L × List Value × dm_H
abbrev dm_O : Type := dm_S ⊕ ((Option Value × dm_H) ⊕ (Nat × List Value × dm_S))
abbrev dm_Sc : Type := Option (Nat × (Nat → Int32))
def dm_up (σ : dm_G) (k j : Nat) (v : Value) : dm_G := fun a b => if a = k ∧ b = j then v else σ a b
def dm_i : Value → Int32 := fun v => match v with
  | .int x => x
  | _ => 0
def dm_r : Value → Option Nat := fun v => match v with
  | .ref a => some a
  | _ => none
def dm_nx (pc : Nat) (ls : dm_L) (st : List Value) (h : dm_H) : Option dm_O := some (.inl (pc, ls, st, h))
def dm_in (i : Int32) (n : Nat) : Bool := !(decide (i < 0) || decide (n ≤ i.toNatClampNeg))
def dm_s1 (m i : Nat) (ls : dm_L) : Bool := decide (i < ls.length) && !((mG m).any (fun g => g + 1 == i))
def dm_s2 (m i : Nat) (ls : dm_L) : Bool := decide (i + 1 < ls.length) && (mG m).contains i && !((mG m).any (fun g => g + 1 == i))
def dm_jo (pc : Nat) (off : Int) : Bool := decide (0 ≤ (pc : Int) + off)
def dm_jp (pc : Nat) (off : Int) : Nat := ((pc : Int) + off).toNat
def dm_nf (c : Nat) : Nat := match dm_cl[c]? with
  | some q => q.2.2
  | none => 0
def dm_fin (c k : Nat) : Bool := match dm_cl[c]? with
  | some q => (q.2.1 k).2.2.2
  | none => true
/-- may the value be stored in a field of the type: a reference to a cell that there is -/
def dm_fit (n : Nat) (t : FieldType) (v : Value) : Bool := match t, v with
  | .int, .int _ => true
  | .long, .long _ => true
  | .object _, .ref k => decide (k < n)
  | .array _, .ref k => decide (k < n)
  | _, _ => false
def dm_okv (n : Nat) (v : Value) : Bool := match v with
  | .ref k => decide (k < n)
  | _ => true
def dm_okl (n : Nat) (ls : dm_L) (st : List Value) : Bool := st.all (dm_okv n) && ls.all (fun o => match o with
  | some v => dm_okv n v
  | none => true)
def dm_al (ls : dm_L) (st : List Value) (h : dm_H) (kd : Nat × Nat) (pc : Nat) (g : Nat → Value) : Option dm_O :=
  if dm_okl h.1.length ls st then dm_nx pc ls (.ref h.1.length :: st) (h.1 ++ [kd], fun a b => if a = h.1.length then g b else h.2 a b) else none
def dm_aok (y : Nat) (as : List Value) : Bool := decide ((lg_sl as).length ≤ mX y) && (lv_args 0 as).all (fun q => q.2.category != 2 || (mG y).contains q.1)
def dm_rcv (kd y : Nat) (as : List Value) (h : dm_H) : Bool := match as with
  | .ref a :: _ => if kd == 0 || kd == 1 then (match h.1[a]? with
    | some (0, ci) => mO y == ci && decide (ci < 10)
    | _ => false) else true
  | _ => kd == 2 || kd == 3
def dm_iv (ks : List Nat) (m i pc : Nat) (ls : dm_L) (st : List Value) (h : dm_H) : Option dm_O := match rM (mO m) i with
  | none => none
  | some (y, kd) => if ks.contains kd then
      if kd == 7 then (match st with
        | .ref _ :: r => if decide (1 ≤ mF m) && decide (12 + 2 * r.length ≤ mL m) then dm_nx (pc + 3) ls r h else none
        | _ => none)
      else if kd == 8 || kd == 9 then (match st with
        | .int y :: .int x :: r => if decide (1 ≤ mF m) && decide (13 + 2 * r.length ≤ mL m) then dm_nx (pc + 3) ls (.int (if kd == 8 then (if x < y then y else x) else (if y < x then y else x)) :: r) h else none
        | _ => none)
      else
        let n := mN y + (if kd == 2 || kd == 3 then 0 else 1)
        if decide ((st.take n).length = n) && decide ((st.drop n).length ≤ 4) && decide (mF y + 1 ≤ mF m) && decide (8 + (mX y + 11) + mL y ≤ mL m) && dm_aok y (st.take n).reverse && dm_rcv kd y (st.take n).reverse h then
          some (.inr (.inr (y, (st.take n).reverse, (pc + 3, ls, st.drop n, h)))) else none
    else none
def dm_cmp (cd : ClassFile.Cond) (x y : Int32) : Bool := match cd with
  | .eq => decide (x = y)
  | .ne => decide (¬ x = y)
  | .lt => decide (x < y)
  | .ge => decide (y ≤ x)
  | .gt => decide (y < x)
  | .le => decide (x ≤ y)
def dm_ld1 (ls : dm_L) (i pc : Nat) (st : List Value) (h : dm_H) : Option dm_O := match ls[i]? with
  | some (some (.int x)) => dm_nx pc ls (.int x :: st) h
  | _ => none
def dm_ldl (ls : dm_L) (i pc : Nat) (st : List Value) (h : dm_H) : Option dm_O := match ls[i]? with
  | some (some (.long x)) => dm_nx pc ls (.long x :: st) h
  | _ => none
def dm_lda (ls : dm_L) (i pc : Nat) (st : List Value) (h : dm_H) : Option dm_O := match ls[i]? with
  | some (some (.ref x)) => dm_nx pc ls (.ref x :: st) h
  | some (some (.retAddr x)) => dm_nx pc ls (.retAddr x :: st) h
  | _ => none
def dm_sti (m : Nat) (ls : dm_L) (i pc : Nat) (st : List Value) (h : dm_H) : Option dm_O := match st with
  | .int x :: r => if dm_s1 m i ls then dm_nx pc (ls.set i (some (.int x))) r h else none
  | _ => none
def dm_sta (m : Nat) (ls : dm_L) (i pc : Nat) (st : List Value) (h : dm_H) : Option dm_O := match st with
  | .ref x :: r => if dm_s1 m i ls then dm_nx pc (ls.set i (some (.ref x))) r h else none
  | _ => none
def dm_stl (m : Nat) (ls : dm_L) (i pc : Nat) (st : List Value) (h : dm_H) : Option dm_O := match st with
  | .long x :: r => if dm_s2 m i ls then dm_nx pc ((ls.set i (some (.long x))).set (i + 1) none) r h else none
  | _ => none
def dm_ii (f : Int32 → Int32 → Int32) (pc : Nat) (ls : dm_L) (st : List Value) (h : dm_H) : Option dm_O := match st with
  | .int y :: .int x :: r => dm_nx (pc + 1) ls (.int (f x y) :: r) h
  | _ => none
def dm_iid (f : Int32 → Int32 → Int32) (pc : Nat) (ls : dm_L) (st : List Value) (h : dm_H) : Option dm_O := match st with
  | .int y :: .int x :: r => if decide (y = 0) then none else dm_nx (pc + 1) ls (.int (f x y) :: r) h
  | _ => none
def dm_jj (f : Int64 → Int64 → Int64) (pc : Nat) (ls : dm_L) (st : List Value) (h : dm_H) : Option dm_O := match st with
  | .long y :: .long x :: r => dm_nx (pc + 1) ls (.long (f x y) :: r) h
  | _ => none
def dm_jjd (f : Int64 → Int64 → Int64) (pc : Nat) (ls : dm_L) (st : List Value) (h : dm_H) : Option dm_O := match st with
  | .long y :: .long x :: r => if decide (y = 0) then none else dm_nx (pc + 1) ls (.long (f x y) :: r) h
  | _ => none
def dm_br (c : Bool) (off : Int) (pc : Nat) (ls : dm_L) (r : List Value) (h : dm_H) : Option dm_O :=
  if dm_jo pc off then dm_nx (if c then dm_jp pc off else pc + 3) ls r h else none
def dm_sw (pc : Nat) (off : Option Int) (ls : dm_L) (r : List Value) (h : dm_H) : Option dm_O := match off with
  | some o => if dm_jo pc o then dm_nx (dm_jp pc o) ls r h else none
  | none => none
/-- one instruction -/
def dm_x (scr : dm_Sc) (m : Nat) (ins : Instr) (pc : Nat) (ls : dm_L) (st : List Value) (h : dm_H) : Option dm_O := match ins with
  | .iconst n => dm_nx (pc + 1) ls (.int (Int32.ofInt n) :: st) h
  | .bipush n => dm_nx (pc + 2) ls (.int (Int8.ofInt n).toInt32 :: st) h
  | .sipush n => dm_nx (pc + 3) ls (.int (Int16.ofInt n).toInt32 :: st) h
  | .ldc i => (match rC (mO m) i with
    | some v => dm_nx (pc + 2) ls (.int v :: st) h
    | none => none)
  | .ldc_w i => (match rC (mO m) i with
    | some v => dm_nx (pc + 3) ls (.int v :: st) h
    | none => none)
  | .ldc2_w i => (match rL (mO m) i with
    | some v => dm_nx (pc + 3) ls (.long v :: st) h
    | none => none)
  | .lconst n => dm_nx (pc + 1) ls (.long (Int64.ofNat n) :: st) h
  | .aconst_null => dm_nx (pc + 1) ls (.null :: st) h
  | .iload i => dm_ld1 ls i (pc + 2) st h
  | .iload_n k => dm_ld1 ls k (pc + 1) st h
  | .lload i => dm_ldl ls i (pc + 2) st h
  | .lload_n k => dm_ldl ls k (pc + 1) st h
  | .aload i => dm_lda ls i (pc + 2) st h
  | .aload_n k => dm_lda ls k (pc + 1) st h
  | .istore i => dm_sti m ls i (pc + 2) st h
  | .istore_n k => dm_sti m ls k (pc + 1) st h
  | .astore i => dm_sta m ls i (pc + 2) st h
  | .astore_n k => dm_sta m ls k (pc + 1) st h
  | .lstore i => dm_stl m ls i (pc + 2) st h
  | .lstore_n k => dm_stl m ls k (pc + 1) st h
  | .iinc i n => (match ls[i]? with
    | some (some (.int x)) => if dm_s1 m i ls then dm_nx (pc + 3) (ls.set i (some (.int (x + Int32.ofInt n)))) st h else none
    | _ => none)
  | .iadd => dm_ii (fun x y => x + y) pc ls st h
  | .isub => dm_ii (fun x y => x - y) pc ls st h
  | .imul => dm_ii (fun x y => x * y) pc ls st h
  | .iand => dm_ii (fun x y => x &&& y) pc ls st h
  | .ior => dm_ii (fun x y => x ||| y) pc ls st h
  | .ixor => dm_ii (fun x y => x ^^^ y) pc ls st h
  | .ishl => dm_ii (fun x y => x <<< (y &&& 31)) pc ls st h
  | .ishr => dm_ii (fun x y => x >>> (y &&& 31)) pc ls st h
  | .iushr => dm_ii (fun x y => (x.toUInt32 >>> (y.toUInt32 &&& Int32.toUInt32 31)).toInt32) pc ls st h
  | .idiv => dm_iid (fun x y => x / y) pc ls st h
  | .irem => dm_iid (fun x y => x - x / y * y) pc ls st h
  | .ladd => dm_jj (fun x y => x + y) pc ls st h
  | .lmul => dm_jj (fun x y => x * y) pc ls st h
  | .land => dm_jj (fun x y => x &&& y) pc ls st h
  | .ldiv => dm_jjd (fun x y => x / y) pc ls st h
  | .lrem => dm_jjd (fun x y => x - x / y * y) pc ls st h
  | .lcmp => (match st with
    | .long y :: .long x :: r => dm_nx (pc + 1) ls (.int (lg_cmp x y) :: r) h
    | _ => none)
  | .i2l => (match st with
    | .int x :: r => dm_nx (pc + 1) ls (.long x.toInt64 :: r) h
    | _ => none)
  | .l2i => (match st with
    | .long x :: r => dm_nx (pc + 1) ls (.int x.toInt32 :: r) h
    | _ => none)
  | .dup => (match st with
    | v :: r => if v.category == 1 then dm_nx (pc + 1) ls (v :: v :: r) h else none
    | _ => none)
  | .dup2 => (match st with
    | v :: w :: r => if v.category == 1 && w.category == 1 then dm_nx (pc + 1) ls (v :: w :: v :: w :: r) h else none
    | _ => none)
  | .pop => (match st with
    | v :: r => if v.category == 1 then dm_nx (pc + 1) ls r h else none
    | _ => none)
  | .goto off => dm_sw pc (some off) ls st h
  | .if_icmp cd off => (match st with
    | .int y :: .int x :: r => dm_br (dm_cmp cd x y) off pc ls r h
    | _ => none)
  | .ifCond cd off => (match st with
    | .int x :: r => dm_br (dm_cmp cd x 0) off pc ls r h
    | _ => none)
  | .ifnull _ => (match st with
    | .ref _ :: r => dm_nx (pc + 3) ls r h
    | _ => none)
  | .tableswitch d lo hi offs => (match st with
    | .int x :: r => dm_sw pc (if decide (x.toInt < lo) || decide (hi < x.toInt) then some d else offs[(x.toInt - lo).toNat]?) ls r h
    | _ => none)
  | .lookupswitch d ps => (match st with
    | .int x :: r => if (ps.toList.zip (ps.toList.drop 1)).all (fun (a, next) => a.1 < next.1) then dm_sw pc (some (Op.lookupswitch.offset ps.toList d x.toInt)) ls r h else none
    | _ => none)
  | .getfield i => (match st with
    | .ref a :: r => (match rF (mO m) i, h.1[a]? with
      | some (ci, k, _), some (0, c) => if c == ci then dm_nx (pc + 3) ls (h.2 a k :: r) h else none
      | _, _ => none)
    | _ => none)
  | .putfield i => (match st with
    | v :: .ref a :: r => (match rF (mO m) i, h.1[a]? with
      | some (ci, k, nest), some (0, c) => if c == ci && dm_fit h.1.length (dm_tyf ci k) v && (!dm_fin ci k || (!nest && (mY m).name == "<init>" && mO m == ci)) then dm_nx (pc + 3) ls r (h.1, dm_up h.2 a k v) else none
      | _, _ => none)
    | _ => none)
  | .iaload => (match st with
    | .int i :: .ref a :: r => (match h.1[a]? with
      | some (1, n) => if dm_in i n then dm_nx (pc + 1) ls (.int (dm_i (h.2 a i.toNatClampNeg)) :: r) h else none
      | _ => none)
    | .int i :: .retAddr _ :: r => (match scr with
      | some (n, xs) => if dm_in i n then dm_nx (pc + 1) ls (.int (xs i.toNatClampNeg) :: r) h else none
      | none => none)
    | _ => none)
  | .iastore => (match st with
    | .int x :: .int i :: .ref a :: r => (match h.1[a]? with
      | some (1, n) => if dm_in i n then dm_nx (pc + 1) ls r (h.1, dm_up h.2 a i.toNatClampNeg (.int x)) else none
      | _ => none)
    | _ => none)
  | .baload => (match st with
    | .int i :: .ref a :: r => (match h.1[a]? with
      | some (2, n) => if dm_in i n then dm_nx (pc + 1) ls (.int (dm_i (h.2 a i.toNatClampNeg)) :: r) h else none
      | _ => none)
    | _ => none)
  | .bastore => (match st with
    | .int x :: .int i :: .ref a :: r => (match h.1[a]? with
      | some (2, n) => if dm_in i n then dm_nx (pc + 1) ls r (h.1, dm_up h.2 a i.toNatClampNeg (.int (vp_nar .boolean x))) else none
      | _ => none)
    | _ => none)
  | .aaload => (match st with
    | .int i :: .ref a :: r => (match h.1[a]? with
      | some (3, n) => if dm_in i n then (match h.2 a i.toNatClampNeg with
        | .ref k => dm_nx (pc + 1) ls (.ref k :: r) h
        | _ => none) else none
      | _ => none)
    | _ => none)
  | .aastore => (match st with
    | .ref k :: .int i :: .ref a :: r => (match h.1[a]?, h.1[k]? with
      | some (3, n), some (0, 7) => if dm_in i n then dm_nx (pc + 1) ls r (h.1, dm_up h.2 a i.toNatClampNeg (.ref k)) else none
      | _, _ => none)
    | _ => none)
  | .arraylength => (match st with
    | .ref a :: r => (match h.1[a]? with
      | some (t + 1, n) => dm_nx (pc + 1) ls (.int (Int32.ofNat n) :: r) h
      | _ => none)
    | .retAddr _ :: r => (match scr with
      | some (n, _) => dm_nx (pc + 1) ls (.int (Int32.ofNat n) :: r) h
      | none => none)
    | _ => none)
  | .new i => (match rN (mO m) i with
    | some ci => dm_al ls st h (0, ci) (pc + 3) (fun j => defaultValue (dm_tyf ci j))
    | none => none)
  | .newarray t => (match st with
    | .int n :: r => if decide (n < 0) || decide (10000 < n.toNatClampNeg) then none else (match t with
      | .int => dm_al ls r h (1, n.toNatClampNeg) (pc + 2) (fun _ => .int 0)
      | _ => none)
    | _ => none)
  | .anewarray i => (match st with
    | .int n :: r => if decide (n < 0) || decide (10000 < n.toNatClampNeg) then none else (match rN (mO m) i with
      | some 7 => dm_al ls r h (3, n.toNatClampNeg) (pc + 3) (fun _ => .null)
      | _ => none)
    | _ => none)
  | .invokevirtual i => dm_iv [0, 1] m i pc ls st h
  | .invokestatic i => dm_iv [2, 3, 8, 9] m i pc ls st h
  | .invokespecial i => dm_iv [5, 6, 7] m i pc ls st h
  | .ireturn => (match st with
    | [.int x] => (match mR m with
      | some t => if decide (narrow t (.int x) = .int x) then some (.inr (.inl (some (.int x), h))) else none
      | none => none)
    | _ => none)
  | .areturn => (match st with
    | [.ref x] => (match mR m with
      | some (.object _) => some (.inr (.inl (some (.ref x), h)))
      | some (.array _) => some (.inr (.inl (some (.ref x), h)))
      | _ => none)
    | _ => none)
  | .return_ => (match st with
    | [] => (match mR m with
      | none => some (.inr (.inl (none, h)))
      | some _ => none)
    | _ => none)
  | _ => none
/-- an instruction's length in bytes (0: any) -/
def dm_len (ins : Instr) : Nat := match ins with
  | .bipush _ | .ldc _ | .iload _ | .lload _ | .aload _ | .istore _ | .astore _ | .lstore _ | .newarray _ => 2
  | .sipush _ | .ldc_w _ | .ldc2_w _ | .iinc _ _ | .goto _ | .if_icmp _ _ | .ifCond _ _ | .ifnull _ | .getfield _ | .putfield _ | .new _ | .anewarray _ | .invokevirtual _ | .invokestatic _ | .invokespecial _ => 3
  | .tableswitch _ _ _ _ | .lookupswitch _ _ => 0
  | _ => 1
def dm_st (scr : dm_Sc) (m : Nat) (S : dm_S) : Option dm_O := match decode (mB m) S.1 with
  | .ok (ins, len) => if dm_len ins == 0 || dm_len ins == len then dm_x scr m ins S.1 S.2.1 S.2.2.1 S.2.2.2 else none
  | _ => none
/-- a method's locals at its start -/
def dm_ia (as : List Value) : dm_L := as.flatMap fun v => if v.category = 2 then [some v, none] else [some v]
def dm_in0 (y : Nat) (as : List Value) : dm_L := dm_ia as ++ List.replicate (mX y - (dm_ia as).length) none
/-- the script goes along into the law's own methods -/
def dm_sc (scr : dm_Sc) (y : Nat) : dm_Sc := if mO y = 13 then scr else none
def dm_run (scr : dm_Sc) : Nat → Nat → dm_S → Option (Option Value × dm_H) := fun n => match n with
  | 0 => fun _ _ => none
  | n + 1 => fun m S => match dm_st scr m S with
    | none => none
    | some (.inl S') => dm_run scr n m S'
    | some (.inr (.inl R)) => some R
    | some (.inr (.inr (y, as, (pc, ls, st, h)))) => match dm_run (dm_sc scr y) n y (0, dm_in0 y as, [], h) with
      | none => none
      | some (r, h') => if decide (h'.1 = h.1) || dm_okl h.1.length ls st then dm_run scr n m (pc, ls, r.toList ++ st, h') else none
end
section
/-! the machine's heap as a world of the kit; locals -/
def dm_cv (ad : Nat → Nat) (b : Nat) : Value → Value := fun v => match v with
  | .ref k => .ref (ad k)
  | .retAddr _ => .ref b
  | .int x => .int x
  | .long x => .long x
  | .float x => .float x
  | .double x => .double x
  | .null => .null
theorem dm_cv_cat (ad : Nat → Nat) (b : Nat) (v : Value) : (dm_cv ad b v).category = v.category := by cases v <;> rfl
def dm_aty (t : Nat) : FieldType := if t = 1 then .int else if t = 2 then .boolean else .object "BlindGuides$State"
def dm_e (f : Value → Value) (cA : ClassId) (kd : Nat × Nat) (g : Nat → Value) : va_E := match kd with
  | (0, c) => .inr (c, (List.range (dm_nf c)).map (fun j => f (g j)))
  | (1, n) => .inl (cA, (n, .inl (fun j => dm_i (g j))))
  | (2, n) => .inl (cA, (n, .inl (fun j => dm_i (g j))))
  | (_, n) => .inl (cA, (n, .inr (.inr (.inr (.inr (fun j => dm_r (f (g j))))))))
def dm_w (f : Value → Value) (ad : Nat → Nat) (ca : Nat → ClassId) (h : dm_H) : va_W := (List.range h.1.length).map (fun k => (ad k, dm_e f (ca k) (h.1.getD k (0, 0)) (h.2 k)))
theorem dm_w_get {f : Value → Value} {ad : Nat → Nat} {ca : Nat → ClassId} {h : dm_H} {k : Nat} {kd : Nat × Nat} (hk : h.1[k]? = some kd) : (dm_w f ad ca h)[k]? = some (ad k, dm_e f (ca k) kd (h.2 k)) := by
  have hl := (List.getElem?_eq_some_iff.mp hk).1
  unfold dm_w
  rw [List.getElem?_map, List.getElem?_range hl]
  simp [hk]
theorem dm_w_len {f : Value → Value} {ad : Nat → Nat} {ca : Nat → ClassId} {h : dm_H} : (dm_w f ad ca h).length = h.1.length := by simp [dm_w]
theorem dm_w_at {f : Value → Value} {ad : Nat → Nat} {ca : Nat → ClassId} {h : dm_H} {k : Nat} {q : Nat × va_E} (hq : (dm_w f ad ca h)[k]? = some q) : ∃ kd, h.1[k]? = some kd ∧ q = (ad k, dm_e f (ca k) kd (h.2 k)) := by
  have hl : k < h.1.length := by rw [← dm_w_len (f := f) (ad := ad) (ca := ca)]; exact (List.getElem?_eq_some_iff.mp hq).1
  obtain ⟨kd, hk⟩ : ∃ kd, h.1[k]? = some kd := ⟨_, List.getElem?_eq_getElem hl⟩
  rw [dm_w_get hk] at hq
  exact ⟨kd, hk, (Option.some.inj hq).symm⟩
theorem dm_up_ne {σ : dm_G} {k j a : Nat} {v : Value} (h : a ≠ k) : dm_up σ k j v a = σ a := by
  funext b
  simp [dm_up, h]
theorem dm_w_set {f : Value → Value} {ad : Nat → Nat} {ca : Nat → ClassId} {K : List (Nat × Nat)} {σ : dm_G} {a j : Nat} {v : Value} {kd : Nat × Nat} {e : va_E} (hk : K[a]? = some kd) (he : e = dm_e f (ca a) kd (dm_up σ a j v a)) :
    (dm_w f ad ca (K, σ)).set a (ad a, e) = dm_w f ad ca (K, dm_up σ a j v) := by
  subst he
  have hl : a < K.length := (List.getElem?_eq_some_iff.mp hk).1
  refine List.ext_getElem? fun k => ?_
  by_cases hka : k = a
  · subst hka
    rw [List.getElem?_set_self (by rw [dm_w_len]; exact hl), dm_w_get (h := (K, dm_up σ k j v)) hk]
  · rw [List.getElem?_set_ne (Ne.symm hka)]
    rcases Nat.lt_or_ge k K.length with h1 | h1
    · obtain ⟨kd', hk'⟩ : ∃ kd', K[k]? = some kd' := ⟨_, List.getElem?_eq_getElem h1⟩
      rw [dm_w_get (h := (K, σ)) hk', dm_w_get (h := (K, dm_up σ a j v)) hk']
      show _ = some (ad k, dm_e f (ca k) kd' (dm_up σ a j v k))
      rw [dm_up_ne hka]
    · rw [List.getElem?_eq_none (by rw [dm_w_len]; exact h1), List.getElem?_eq_none (by rw [dm_w_len]; exact h1)]
theorem dm_r_set {n k : Nat} {f : Value → Value} {g : Nat → Value} {v : Value} : ((List.range n).map (fun j => f (g j))).set k (f v) = (List.range n).map (fun j => f (if j = k then v else g j)) := by
  refine List.ext_getElem? fun i => ?_
  by_cases hi : i = k
  · subst hi
    by_cases hl : i < n
    · rw [List.getElem?_set_self (by simpa using hl), List.getElem?_map, List.getElem?_range hl]
      simp
    · rw [List.getElem?_eq_none (by simpa using hl), List.getElem?_eq_none (by simpa using hl)]
  · rw [List.getElem?_set_ne (Ne.symm hi), List.getElem?_map, List.getElem?_map]
    rcases Nat.lt_or_ge i n with h | h
    · rw [List.getElem?_range h]
      simp [hi]
    · rw [List.getElem?_eq_none (by simpa using h)]
      rfl
def dm_W (D : va_G) (A : Nat → Prop) (b : Nat) (ad : Nat → Nat) (ca : Nat → ClassId) (h : dm_H) (s : State) (H : Heap) : Prop :=
  va_P D dm_cl (dm_w (dm_cv ad b) ad ca h) H ∧ va_D A (dm_w (dm_cv ad b) ad ca h) ∧ (∀ (k : Nat) (kd : Nat × Nat), h.1[k]? = some kd → kd.1 ≠ 0 → ArrOfT s (ca k) (dm_aty kd.1) ∧ va_RA s (ca k) (dm_aty kd.1)) ∧ (∀ k j k' : Nat, k < h.1.length → h.2 k j = .ref k' → k' < h.1.length)
def dm_E (D : va_G) (p : Program) (s : State) (mm : MethodId) (args : Array Value) (meth : Method) (c : Code) (m : Nat) : Prop :=
  p.tables.exec = Jvm.exec ∧ c.code = mB m ∧ c.maxLocals = mX m ∧ s.vm.findClass (dm_own m) = some mm.cls ∧ (∀ w ∈ dm_Ts m, w.before args s = true) ∧ ((mY m).name = "<init>" → meth.name = "<init>") ∧ va_K D dm_cl [] s ∧ (∀ w ∈ dm_N, va_Nw w s) ∧ va_AO "BlindGuides$State" s
def dm_X (scr : dm_Sc) (b : Nat) (s : State) (A : Nat → Prop) : Prop := ∀ (L : Nat) (xs : Nat → Int32), scr = some (L, xs) → va_X b L xs s s.heap ∧ b < s.heap.size ∧ ¬ A b
/-- locals -/
def dm_lh (arr : Array Slot) (n : Nat) (f : Value → Value) (ls : dm_L) : Prop := arr.size = n ∧ lv_wf arr ∧ ∀ (k : Nat) (v : Value), ls[k]? = some (some v) → arr[k]? = some (.val (f v))
def dm_lg (m : Nat) (ls : dm_L) : Prop := ls.length = mX m ∧ ∀ (k : Nat) (v : Value), ls[k]? = some (some v) → v.category = 2 → k ∈ mG m
def dm_pl (f : Value → Value) : Nat → dm_L → List (Nat × Value) := fun i ls => match ls with
  | [] => []
  | some v :: t => (i, f v) :: dm_pl f (i + 1) t
  | none :: t => dm_pl f (i + 1) t
theorem dm_pl_mem {f : Value → Value} {k : Nat} {w : Value} : ∀ (ls : dm_L) (i : Nat), (k, w) ∈ dm_pl f i ls ↔ ∃ (j : Nat) (v : Value), k = i + j ∧ ls[j]? = some (some v) ∧ w = f v := by
  intro ls
  induction ls with
  | nil => intro i; simp [dm_pl]
  | cons o t ih =>
    intro i
    have key : (∃ (j : Nat) (v : Value), k = i + j ∧ (o :: t)[j]? = some (some v) ∧ w = f v) ↔ ((∃ v, o = some v ∧ k = i ∧ w = f v) ∨ ∃ (j : Nat) (v : Value), k = i + 1 + j ∧ t[j]? = some (some v) ∧ w = f v) := by
      constructor
      · rintro ⟨j, v, h1, h2, h3⟩
        cases j with
        | zero => exact Or.inl ⟨v, by simpa using h2, by omega, h3⟩
        | succ j => exact Or.inr ⟨j, v, by omega, by simpa using h2, h3⟩
      · rintro (⟨v, h1, h2, h3⟩ | ⟨j, v, h1, h2, h3⟩)
        · exact ⟨0, v, by omega, by simp [h1], h3⟩
        · exact ⟨j + 1, v, by omega, by simpa using h2, h3⟩
    rw [key, ← ih (i + 1)]
    cases o with
    | none => simp [dm_pl]
    | some v =>
      simp only [dm_pl, List.mem_cons, Prod.mk.injEq, Option.some.injEq]
      constructor
      · rintro (⟨h1, h2⟩ | h)
        · exact Or.inl ⟨v, rfl, h1, h2⟩
        · exact Or.inr h
      · rintro (⟨v', h1, h2, h3⟩ | h)
        · subst h1
          exact Or.inl ⟨h2, h3⟩
        · exact Or.inr h
theorem dm_lh.has {arr : Array Slot} {n : Nat} {f : Value → Value} {ls : dm_L} (h : dm_lh arr n f ls) : lv_has arr n (dm_pl f 0 ls) := by
  refine ⟨h.1, h.2.1, fun q hq => ?_⟩
  obtain ⟨k, w⟩ := q
  obtain ⟨j, v, h1, h2, h3⟩ := (dm_pl_mem ls 0).mp hq
  have h1 : k = j := by omega
  subst h1
  subst h3
  exact h.2.2 k v h2
theorem dm_store {m : Nat} {arr arr' : Array Slot} {ad : Nat → Nat} {b : Nat} {ls : dm_L} {i : Nat} {v : Value} (hl : dm_lh arr (mX m) (dm_cv ad b) ls) (hg : dm_lg m ls) (hs : dm_s1 m i ls = true) (hc : v.category = 1)
    (h : lv_has arr' (mX m) ((i, dm_cv ad b v) :: (dm_pl (dm_cv ad b) 0 ls).filter (fun q => !(q.1 == i) && !(q.1 + 1 == i && q.2.category == 2)))) : dm_lh arr' (mX m) (dm_cv ad b) (ls.set i (some v)) ∧ dm_lg m (ls.set i (some v)) := by
  simp only [dm_s1, Bool.and_eq_true, decide_eq_true_eq, Bool.not_eq_true', List.any_eq_false, beq_iff_eq] at hs
  refine ⟨⟨h.1, h.2.1, fun k w hk => ?_⟩, ⟨by rw [List.length_set]; exact hg.1, fun k w hk hw => ?_⟩⟩
  · by_cases hki : k = i
    · subst hki
      rw [List.getElem?_set_self hs.1] at hk
      cases hk
      exact h.2.2 (k, dm_cv ad b v) List.mem_cons_self
    · rw [List.getElem?_set_ne (Ne.symm hki)] at hk
      refine h.2.2 (k, dm_cv ad b w) (List.mem_cons_of_mem _ (List.mem_filter.mpr ⟨(dm_pl_mem ls 0).mpr ⟨k, w, by omega, hk, rfl⟩, ?_⟩))
      simp only [Bool.and_eq_true, Bool.not_eq_true', beq_eq_false_iff_ne, ne_eq, Bool.and_eq_false_iff]
      refine ⟨hki, ?_⟩
      by_cases h2 : w.category = 2
      · exact Or.inl (hs.2 k (hg.2 k w hk h2))
      · exact Or.inr (by rw [dm_cv_cat]; exact h2)
  · by_cases hki : k = i
    · subst hki
      rw [List.getElem?_set_self hs.1] at hk
      cases hk
      omega
    · rw [List.getElem?_set_ne (Ne.symm hki)] at hk
      exact hg.2 k w hk hw
theorem dm_storel {m : Nat} {arr arr' : Array Slot} {ad : Nat → Nat} {b : Nat} {ls : dm_L} {i : Nat} {x : Int64} (hl : dm_lh arr (mX m) (dm_cv ad b) ls) (hg : dm_lg m ls) (hs : dm_s2 m i ls = true)
    (h : lv_has arr' (mX m) ((i, Value.long x) :: (dm_pl (dm_cv ad b) 0 ls).filter (fun q => !(q.1 == i) && (!(q.1 == i + 1) && !(q.1 + 1 == i && q.2.category == 2))))) : dm_lh arr' (mX m) (dm_cv ad b) ((ls.set i (some (.long x))).set (i + 1) none) ∧ dm_lg m ((ls.set i (some (.long x))).set (i + 1) none) := by
  simp only [dm_s2, Bool.and_eq_true, decide_eq_true_eq, Bool.not_eq_true', List.any_eq_false, beq_iff_eq, List.contains_iff_mem] at hs
  obtain ⟨⟨h1, h2⟩, h3⟩ := hs
  have key : ∀ (k : Nat) (w : Value), ((ls.set i (some (.long x))).set (i + 1) none)[k]? = some (some w) → (k = i ∧ w = .long x) ∨ (k ≠ i ∧ k ≠ i + 1 ∧ ls[k]? = some (some w)) := by
    intro k w hk
    by_cases hk1 : k = i + 1
    · subst hk1
      rw [List.getElem?_set_self (by rw [List.length_set]; exact h1)] at hk
      cases hk
    · rw [List.getElem?_set_ne (Ne.symm hk1)] at hk
      by_cases hki : k = i
      · subst hki
        rw [List.getElem?_set_self (by omega)] at hk
        cases hk
        exact Or.inl ⟨rfl, rfl⟩
      · rw [List.getElem?_set_ne (Ne.symm hki)] at hk
        exact Or.inr ⟨hki, hk1, hk⟩
  refine ⟨⟨h.1, h.2.1, fun k w hk => ?_⟩, ⟨by rw [List.length_set, List.length_set]; exact hg.1, fun k w hk hw => ?_⟩⟩
  · rcases key k w hk with ⟨rfl, rfl⟩ | ⟨hki, hk1, hk⟩
    · exact h.2.2 (k, Value.long x) List.mem_cons_self
    · refine h.2.2 (k, dm_cv ad b w) (List.mem_cons_of_mem _ (List.mem_filter.mpr ⟨(dm_pl_mem ls 0).mpr ⟨k, w, by omega, hk, rfl⟩, ?_⟩))
      simp only [Bool.and_eq_true, Bool.not_eq_true', beq_eq_false_iff_ne, ne_eq, Bool.and_eq_false_iff]
      refine ⟨hki, hk1, ?_⟩
      by_cases h4 : w.category = 2
      · exact Or.inl (h3 k (hg.2 k w hk h4))
      · exact Or.inr (by rw [dm_cv_cat]; exact h4)
  · rcases key k w hk with ⟨rfl, rfl⟩ | ⟨hki, hk1, hk⟩
    · exact h2
    · exact hg.2 k w hk hw
theorem dm_K1 {D : va_G} {s : State} {cA : ClassId} {ty : FieldType} (h : va_K D dm_cl [] s) (ha : ArrOfT s cA ty ∧ va_RA s cA ty) : va_K D dm_cl [(cA, ty)] s := by
  refine ⟨h.1, fun k q hq => ?_⟩
  cases k with
  | zero => cases hq; exact ha
  | succ k => simp at hq
theorem dm_in_vp {i : Int32} {n : Nat} (h : dm_in i n = true) : vp_in i n := by
  simp only [dm_in, Bool.not_eq_true', Bool.or_eq_false_iff, decide_eq_false_iff_not] at h
  exact fun q => q.elim h.1 h.2
theorem dm_fit_ok {n : Nat} {t : FieldType} {v : Value} (h : dm_fit n t v = true) (ad : Nat → Nat) (b : Nat) : narrow t (dm_cv ad b v) = dm_cv ad b v ∧ fits t (dm_cv ad b v) = true ∧ ∀ k, v = .ref k → k < n := by
  cases t <;> cases v <;> first | (simp [dm_fit] at h; done) | (refine ⟨rfl, rfl, fun k hk => ?_⟩; cases hk; first | done | (simpa [dm_fit] using h))
def dm_kz (kd : Nat × Nat) : Nat := if kd.1 = 0 then dm_nf kd.2 else kd.2
def dm_sz (K : List (Nat × Nat)) : Nat := (K.map dm_kz).sum
/-- what stays of the values when a cell comes -/
theorem dm_cv_ext {n b : Nat} {ad ad' : Nat → Nat} (h : ∀ k, k < n → ad' k = ad k) {v : Value} (hv : dm_okv n v = true) : dm_cv ad' b v = dm_cv ad b v := by
  cases v <;> first | rfl | (simp only [dm_okv, decide_eq_true_eq] at hv; show Value.ref _ = Value.ref _; rw [h _ hv])
theorem dm_okl_st {n b : Nat} {ad ad' : Nat → Nat} (h : ∀ k, k < n → ad' k = ad k) {ls : dm_L} {st : List Value} (hv : dm_okl n ls st = true) : st.map (dm_cv ad' b) = st.map (dm_cv ad b) := by
  simp only [dm_okl, Bool.and_eq_true, List.all_eq_true] at hv
  exact List.map_congr_left fun v hm => dm_cv_ext h (hv.1 v hm)
theorem dm_okl_lh {n b : Nat} {ad ad' : Nat → Nat} (h : ∀ k, k < n → ad' k = ad k) {ls : dm_L} {st : List Value} (hv : dm_okl n ls st = true) {arr : Array Slot} {N : Nat} (hl : dm_lh arr N (dm_cv ad b) ls) : dm_lh arr N (dm_cv ad' b) ls := by
  simp only [dm_okl, Bool.and_eq_true, List.all_eq_true] at hv
  refine ⟨hl.1, hl.2.1, fun k v hk => ?_⟩
  have h1 := hv.2 _ (List.mem_of_getElem? hk)
  rw [dm_cv_ext h h1]
  exact hl.2.2 k v hk
end
section
theorem dm_scope {n a j : Nat} {σ : dm_G} {v : Value} (h : ∀ k j k' : Nat, k < n → σ k j = .ref k' → k' < n) (hv : ∀ k', v = .ref k' → k' < n) : ∀ k i k' : Nat, k < n → dm_up σ a j v k i = .ref k' → k' < n := by
  intro k i k' hk he
  unfold dm_up at he
  split at he
  · exact hv k' he
  · exact h k i k' hk he
/-! one instruction of the abstract machine is one of the kit's rows (printed by wip/gen/step.py) -/
theorem dm_nx_inv {pc : Nat} {ls : dm_L} {st : List Value} {h : dm_H} {S' : dm_S} (hs : dm_nx pc ls st h = some (.inl S')) : S' = (pc, ls, st, h) := by
  simp only [dm_nx, Option.some.injEq, Sum.inl.injEq] at hs
  exact hs.symm
theorem dm_ii_inv {f : Int32 → Int32 → Int32} {pc : Nat} {ls : dm_L} {st : List Value} {h : dm_H} {S' : dm_S} (hs : dm_ii f pc ls st h = some (.inl S')) : ∃ x y r, st = .int y :: .int x :: r ∧ S' = (pc + 1, ls, .int (f x y) :: r, h) := by
  unfold dm_ii at hs
  split at hs
  · exact ⟨_, _, _, rfl, dm_nx_inv hs⟩
  · cases hs
theorem dm_iid_inv {f : Int32 → Int32 → Int32} {pc : Nat} {ls : dm_L} {st : List Value} {h : dm_H} {S' : dm_S} (hs : dm_iid f pc ls st h = some (.inl S')) : ∃ x y r, st = .int y :: .int x :: r ∧ ¬ y = 0 ∧ S' = (pc + 1, ls, .int (f x y) :: r, h) := by
  unfold dm_iid at hs
  split at hs
  · split at hs
    · cases hs
    · next hy => exact ⟨_, _, _, rfl, by simpa using hy, dm_nx_inv hs⟩
  · cases hs
theorem dm_jj_inv {f : Int64 → Int64 → Int64} {pc : Nat} {ls : dm_L} {st : List Value} {h : dm_H} {S' : dm_S} (hs : dm_jj f pc ls st h = some (.inl S')) : ∃ x y r, st = .long y :: .long x :: r ∧ S' = (pc + 1, ls, .long (f x y) :: r, h) := by
  unfold dm_jj at hs
  split at hs
  · exact ⟨_, _, _, rfl, dm_nx_inv hs⟩
  · cases hs
theorem dm_jjd_inv {f : Int64 → Int64 → Int64} {pc : Nat} {ls : dm_L} {st : List Value} {h : dm_H} {S' : dm_S} (hs : dm_jjd f pc ls st h = some (.inl S')) : ∃ x y r, st = .long y :: .long x :: r ∧ ¬ y = 0 ∧ S' = (pc + 1, ls, .long (f x y) :: r, h) := by
  unfold dm_jjd at hs
  split at hs
  · split at hs
    · cases hs
    · next hy => exact ⟨_, _, _, rfl, by simpa using hy, dm_nx_inv hs⟩
  · cases hs
theorem dm_ld1_inv {ls : dm_L} {i pc : Nat} {st : List Value} {h : dm_H} {S' : dm_S} (hs : dm_ld1 ls i pc st h = some (.inl S')) : ∃ x, ls[i]? = some (some (.int x)) ∧ S' = (pc, ls, .int x :: st, h) := by
  unfold dm_ld1 at hs
  split at hs
  · next x hx => exact ⟨x, hx, dm_nx_inv hs⟩
  · cases hs
theorem dm_ldl_inv {ls : dm_L} {i pc : Nat} {st : List Value} {h : dm_H} {S' : dm_S} (hs : dm_ldl ls i pc st h = some (.inl S')) : ∃ x, ls[i]? = some (some (.long x)) ∧ S' = (pc, ls, .long x :: st, h) := by
  unfold dm_ldl at hs
  split at hs
  · next x hx => exact ⟨x, hx, dm_nx_inv hs⟩
  · cases hs
theorem dm_lda_inv {ls : dm_L} {i pc : Nat} {st : List Value} {h : dm_H} {S' : dm_S} (hs : dm_lda ls i pc st h = some (.inl S')) : ∃ v, ls[i]? = some (some v) ∧ ((∃ k, v = .ref k) ∨ ∃ k, v = .retAddr k) ∧ S' = (pc, ls, v :: st, h) := by
  unfold dm_lda at hs
  split at hs
  · next x hx => exact ⟨_, hx, Or.inl ⟨_, rfl⟩, dm_nx_inv hs⟩
  · next x hx => exact ⟨_, hx, Or.inr ⟨_, rfl⟩, dm_nx_inv hs⟩
  · cases hs
theorem dm_sti_inv {m : Nat} {ls : dm_L} {i pc : Nat} {st : List Value} {h : dm_H} {S' : dm_S} (hs : dm_sti m ls i pc st h = some (.inl S')) : ∃ x r, st = .int x :: r ∧ dm_s1 m i ls = true ∧ S' = (pc, ls.set i (some (.int x)), r, h) := by
  unfold dm_sti at hs
  split at hs
  · split at hs
    · next hx => exact ⟨_, _, rfl, hx, dm_nx_inv hs⟩
    · cases hs
  · cases hs
theorem dm_sta_inv {m : Nat} {ls : dm_L} {i pc : Nat} {st : List Value} {h : dm_H} {S' : dm_S} (hs : dm_sta m ls i pc st h = some (.inl S')) : ∃ x r, st = .ref x :: r ∧ dm_s1 m i ls = true ∧ S' = (pc, ls.set i (some (.ref x)), r, h) := by
  unfold dm_sta at hs
  split at hs
  · split at hs
    · next hx => exact ⟨_, _, rfl, hx, dm_nx_inv hs⟩
    · cases hs
  · cases hs
theorem dm_stl_inv {m : Nat} {ls : dm_L} {i pc : Nat} {st : List Value} {h : dm_H} {S' : dm_S} (hs : dm_stl m ls i pc st h = some (.inl S')) : ∃ x r, st = .long x :: r ∧ dm_s2 m i ls = true ∧ S' = (pc, (ls.set i (some (.long x))).set (i + 1) none, r, h) := by
  unfold dm_stl at hs
  split at hs
  · split at hs
    · next hx => exact ⟨_, _, rfl, hx, dm_nx_inv hs⟩
    · cases hs
  · cases hs
theorem dm_br_inv {cd : Bool} {off : Int} {pc : Nat} {ls : dm_L} {r : List Value} {h : dm_H} {S' : dm_S} (hs : dm_br cd off pc ls r h = some (.inl S')) : (pc : Int) + off = (dm_jp pc off : Int) ∧ S' = (if cd then dm_jp pc off else pc + 3, ls, r, h) := by
  unfold dm_br at hs
  split at hs
  · next hj =>
    simp only [dm_jo, decide_eq_true_eq] at hj
    exact ⟨by unfold dm_jp; omega, dm_nx_inv hs⟩
  · cases hs
theorem dm_sw_inv {pc : Nat} {off : Option Int} {ls : dm_L} {r : List Value} {h : dm_H} {S' : dm_S} (hs : dm_sw pc off ls r h = some (.inl S')) : ∃ x, off = some x ∧ (pc : Int) + x = (dm_jp pc x : Int) ∧ S' = (dm_jp pc x, ls, r, h) := by
  unfold dm_sw at hs
  split at hs
  · split at hs
    · next hj =>
      simp only [dm_jo, decide_eq_true_eq] at hj
      exact ⟨_, rfl, by unfold dm_jp; omega, dm_nx_inv hs⟩
    · cases hs
  · cases hs
section DMX
variable {D : va_G} {p : Program} {l : Launch} {e : Env} {R : Room} {s : State} {mm : MethodId} {args : Array Value} {below : List Frame} {meth : Method} {c : Code} {Q : State → Prop} {A : Nat → Prop} {b m : Nat} {ad : Nat → Nat} {ca : Nat → ClassId} {cells slots : Nat}
def dm_go (D : va_G) (p : Program) (l : Launch) (e : Env) (R : Room) (s : State) (mm : MethodId) (args : Array Value) (below : List Frame) (meth : Method) (c : Code) (Q : State → Prop) (A : Nat → Prop) (b m : Nat) (ad : Nat → Nat) (ca : Nat → ClassId) (cells slots : Nat) (S : dm_S) : Prop :=
  ∀ (H : Heap) (locs : List Loc) (arr : Array Slot), dm_lh arr (mX m) (dm_cv ad b) S.2.1 → dm_lg m S.2.1 → dm_W D A b ad ca S.2.2.2 s H → va_S A s.heap H locs → W p l e R s mm args below meth c H locs cells slots Q (F0 mm S.1 arr (S.2.2.1.map (dm_cv ad b)))
variable {scr : dm_Sc} {pc : Nat} {ls : dm_L} {st : List Value} {h : dm_H} {S' : dm_S}

theorem dm_n_iconst (E : dm_E D p s mm args meth c m) {n : Int} {len : Nat} (hd : decode (mB m) pc = .ok ((.iconst n : Instr), len)) (hn : dm_len ((.iconst n : Instr)) = 0 ∨ dm_len ((.iconst n : Instr)) = len) (hs : dm_x scr m ((.iconst n : Instr)) pc ls st h = some (.inl S')) (kk : S'.2.2.2.1 = h.1 → dm_go D p l e R s mm args below meth c Q A b m ad ca cells slots S') : dm_go D p l e R s mm args below meth c Q A b m ad ca cells slots (pc, ls, st, h) := by
  intro H locs arr hl hg hW hS
  obtain ⟨hx, hb, hml, ho, hts, hini, hK, hN, hAO⟩ := id E
  obtain rfl : 1 = len := hn.resolve_left (by simp [dm_len])
  change dm_nx (pc + 1) ls (.int (Int32.ofInt n) :: st) h = some (.inl S') at hs
  obtain rfl := dm_nx_inv hs
  exact lv_iconst hx hb hd rfl (kk rfl H locs arr hl hg hW hS)

theorem dm_n_bipush (E : dm_E D p s mm args meth c m) {n : Int} {len : Nat} (hd : decode (mB m) pc = .ok ((.bipush n : Instr), len)) (hn : dm_len ((.bipush n : Instr)) = 0 ∨ dm_len ((.bipush n : Instr)) = len) (hs : dm_x scr m ((.bipush n : Instr)) pc ls st h = some (.inl S')) (kk : S'.2.2.2.1 = h.1 → dm_go D p l e R s mm args below meth c Q A b m ad ca cells slots S') : dm_go D p l e R s mm args below meth c Q A b m ad ca cells slots (pc, ls, st, h) := by
  intro H locs arr hl hg hW hS
  obtain ⟨hx, hb, hml, ho, hts, hini, hK, hN, hAO⟩ := id E
  obtain rfl : 2 = len := hn.resolve_left (by simp [dm_len])
  change dm_nx (pc + 2) ls (.int (Int8.ofInt n).toInt32 :: st) h = some (.inl S') at hs
  obtain rfl := dm_nx_inv hs
  exact lv_bipush hx hb hd rfl (kk rfl H locs arr hl hg hW hS)

theorem dm_n_sipush (E : dm_E D p s mm args meth c m) {n : Int} {len : Nat} (hd : decode (mB m) pc = .ok ((.sipush n : Instr), len)) (hn : dm_len ((.sipush n : Instr)) = 0 ∨ dm_len ((.sipush n : Instr)) = len) (hs : dm_x scr m ((.sipush n : Instr)) pc ls st h = some (.inl S')) (kk : S'.2.2.2.1 = h.1 → dm_go D p l e R s mm args below meth c Q A b m ad ca cells slots S') : dm_go D p l e R s mm args below meth c Q A b m ad ca cells slots (pc, ls, st, h) := by
  intro H locs arr hl hg hW hS
  obtain ⟨hx, hb, hml, ho, hts, hini, hK, hN, hAO⟩ := id E
  obtain rfl : 3 = len := hn.resolve_left (by simp [dm_len])
  change dm_nx (pc + 3) ls (.int (Int16.ofInt n).toInt32 :: st) h = some (.inl S') at hs
  obtain rfl := dm_nx_inv hs
  exact lv_sipush hx hb hd rfl (kk rfl H locs arr hl hg hW hS)

theorem dm_n_lconst (E : dm_E D p s mm args meth c m) {n : Fin 2} {len : Nat} (hd : decode (mB m) pc = .ok ((.lconst n : Instr), len)) (hn : dm_len ((.lconst n : Instr)) = 0 ∨ dm_len ((.lconst n : Instr)) = len) (hs : dm_x scr m ((.lconst n : Instr)) pc ls st h = some (.inl S')) (kk : S'.2.2.2.1 = h.1 → dm_go D p l e R s mm args below meth c Q A b m ad ca cells slots S') : dm_go D p l e R s mm args below meth c Q A b m ad ca cells slots (pc, ls, st, h) := by
  intro H locs arr hl hg hW hS
  obtain ⟨hx, hb, hml, ho, hts, hini, hK, hN, hAO⟩ := id E
  obtain rfl : 1 = len := hn.resolve_left (by simp [dm_len])
  change dm_nx (pc + 1) ls (.long (Int64.ofNat n) :: st) h = some (.inl S') at hs
  obtain rfl := dm_nx_inv hs
  exact lv_lconst hx hb hd rfl (kk rfl H locs arr hl hg hW hS)

theorem dm_n_aconst_null (E : dm_E D p s mm args meth c m) {len : Nat} (hd : decode (mB m) pc = .ok ((.aconst_null : Instr), len)) (hn : dm_len ((.aconst_null : Instr)) = 0 ∨ dm_len ((.aconst_null : Instr)) = len) (hs : dm_x scr m ((.aconst_null : Instr)) pc ls st h = some (.inl S')) (kk : S'.2.2.2.1 = h.1 → dm_go D p l e R s mm args below meth c Q A b m ad ca cells slots S') : dm_go D p l e R s mm args below meth c Q A b m ad ca cells slots (pc, ls, st, h) := by
  intro H locs arr hl hg hW hS
  obtain ⟨hx, hb, hml, ho, hts, hini, hK, hN, hAO⟩ := id E
  obtain rfl : 1 = len := hn.resolve_left (by simp [dm_len])
  change dm_nx (pc + 1) ls (.null :: st) h = some (.inl S') at hs
  obtain rfl := dm_nx_inv hs
  exact lv_null hx hb hd (kk rfl H locs arr hl hg hW hS)

theorem dm_n_ldc (E : dm_E D p s mm args meth c m) {i : Nat} {len : Nat} (hd : decode (mB m) pc = .ok ((.ldc i : Instr), len)) (hn : dm_len ((.ldc i : Instr)) = 0 ∨ dm_len ((.ldc i : Instr)) = len) (hs : dm_x scr m ((.ldc i : Instr)) pc ls st h = some (.inl S')) (kk : S'.2.2.2.1 = h.1 → dm_go D p l e R s mm args below meth c Q A b m ad ca cells slots S') : dm_go D p l e R s mm args below meth c Q A b m ad ca cells slots (pc, ls, st, h) := by
  intro H locs arr hl hg hW hS
  obtain ⟨hx, hb, hml, ho, hts, hini, hK, hN, hAO⟩ := id E
  obtain rfl : 2 = len := hn.resolve_left (by simp [dm_len])
  simp only [dm_x] at hs
  split at hs
  · next v hv =>
    obtain rfl := dm_nx_inv hs
    exact lv_ldc hx hb ho (hts _ (List.mem_cons_of_mem _ (dm_okC hv))) hd (kk rfl H locs arr hl hg hW hS)
  · cases hs

theorem dm_n_ldc_w (E : dm_E D p s mm args meth c m) {i : Nat} {len : Nat} (hd : decode (mB m) pc = .ok ((.ldc_w i : Instr), len)) (hn : dm_len ((.ldc_w i : Instr)) = 0 ∨ dm_len ((.ldc_w i : Instr)) = len) (hs : dm_x scr m ((.ldc_w i : Instr)) pc ls st h = some (.inl S')) (kk : S'.2.2.2.1 = h.1 → dm_go D p l e R s mm args below meth c Q A b m ad ca cells slots S') : dm_go D p l e R s mm args below meth c Q A b m ad ca cells slots (pc, ls, st, h) := by
  intro H locs arr hl hg hW hS
  obtain ⟨hx, hb, hml, ho, hts, hini, hK, hN, hAO⟩ := id E
  obtain rfl : 3 = len := hn.resolve_left (by simp [dm_len])
  simp only [dm_x] at hs
  split at hs
  · next v hv =>
    obtain rfl := dm_nx_inv hs
    exact lv_ldcw hx hb ho (hts _ (List.mem_cons_of_mem _ (dm_okC hv))) hd (kk rfl H locs arr hl hg hW hS)
  · cases hs

theorem dm_n_ldc2_w (E : dm_E D p s mm args meth c m) {i : Nat} {len : Nat} (hd : decode (mB m) pc = .ok ((.ldc2_w i : Instr), len)) (hn : dm_len ((.ldc2_w i : Instr)) = 0 ∨ dm_len ((.ldc2_w i : Instr)) = len) (hs : dm_x scr m ((.ldc2_w i : Instr)) pc ls st h = some (.inl S')) (kk : S'.2.2.2.1 = h.1 → dm_go D p l e R s mm args below meth c Q A b m ad ca cells slots S') : dm_go D p l e R s mm args below meth c Q A b m ad ca cells slots (pc, ls, st, h) := by
  intro H locs arr hl hg hW hS
  obtain ⟨hx, hb, hml, ho, hts, hini, hK, hN, hAO⟩ := id E
  obtain rfl : 3 = len := hn.resolve_left (by simp [dm_len])
  simp only [dm_x] at hs
  split at hs
  · next v hv =>
    obtain rfl := dm_nx_inv hs
    exact lv_ldc2 hx hb ho (hts _ (List.mem_cons_of_mem _ (dm_okL hv))) hd (kk rfl H locs arr hl hg hW hS)
  · cases hs

theorem dm_n_iload (E : dm_E D p s mm args meth c m) {i : Nat} {len : Nat} (hd : decode (mB m) pc = .ok ((.iload i : Instr), len)) (hn : dm_len ((.iload i : Instr)) = 0 ∨ dm_len ((.iload i : Instr)) = len) (hs : dm_x scr m ((.iload i : Instr)) pc ls st h = some (.inl S')) (kk : S'.2.2.2.1 = h.1 → dm_go D p l e R s mm args below meth c Q A b m ad ca cells slots S') : dm_go D p l e R s mm args below meth c Q A b m ad ca cells slots (pc, ls, st, h) := by
  intro H locs arr hl hg hW hS
  obtain ⟨hx, hb, hml, ho, hts, hini, hK, hN, hAO⟩ := id E
  obtain rfl : 2 = len := hn.resolve_left (by simp [dm_len])
  change dm_ld1 ls i (pc + 2) st h = some (.inl S') at hs
  obtain ⟨x, hv, rfl⟩ := dm_ld1_inv hs
  exact lv_iload hx hb hd (hl.2.2 i _ hv) (kk rfl H locs arr hl hg hW hS)

theorem dm_n_iload_n (E : dm_E D p s mm args meth c m) {i : Fin 4} {len : Nat} (hd : decode (mB m) pc = .ok ((.iload_n i : Instr), len)) (hn : dm_len ((.iload_n i : Instr)) = 0 ∨ dm_len ((.iload_n i : Instr)) = len) (hs : dm_x scr m ((.iload_n i : Instr)) pc ls st h = some (.inl S')) (kk : S'.2.2.2.1 = h.1 → dm_go D p l e R s mm args below meth c Q A b m ad ca cells slots S') : dm_go D p l e R s mm args below meth c Q A b m ad ca cells slots (pc, ls, st, h) := by
  intro H locs arr hl hg hW hS
  obtain ⟨hx, hb, hml, ho, hts, hini, hK, hN, hAO⟩ := id E
  obtain rfl : 1 = len := hn.resolve_left (by simp [dm_len])
  change dm_ld1 ls i (pc + 1) st h = some (.inl S') at hs
  obtain ⟨x, hv, rfl⟩ := dm_ld1_inv hs
  exact lv_iload_n hx hb hd rfl (hl.2.2 i _ hv) (kk rfl H locs arr hl hg hW hS)

theorem dm_n_lload (E : dm_E D p s mm args meth c m) {i : Nat} {len : Nat} (hd : decode (mB m) pc = .ok ((.lload i : Instr), len)) (hn : dm_len ((.lload i : Instr)) = 0 ∨ dm_len ((.lload i : Instr)) = len) (hs : dm_x scr m ((.lload i : Instr)) pc ls st h = some (.inl S')) (kk : S'.2.2.2.1 = h.1 → dm_go D p l e R s mm args below meth c Q A b m ad ca cells slots S') : dm_go D p l e R s mm args below meth c Q A b m ad ca cells slots (pc, ls, st, h) := by
  intro H locs arr hl hg hW hS
  obtain ⟨hx, hb, hml, ho, hts, hini, hK, hN, hAO⟩ := id E
  obtain rfl : 2 = len := hn.resolve_left (by simp [dm_len])
  change dm_ldl ls i (pc + 2) st h = some (.inl S') at hs
  obtain ⟨x, hv, rfl⟩ := dm_ldl_inv hs
  exact lv_lload hx hb hd (hl.2.2 i _ hv) (kk rfl H locs arr hl hg hW hS)

theorem dm_n_lload_n (E : dm_E D p s mm args meth c m) {i : Fin 4} {len : Nat} (hd : decode (mB m) pc = .ok ((.lload_n i : Instr), len)) (hn : dm_len ((.lload_n i : Instr)) = 0 ∨ dm_len ((.lload_n i : Instr)) = len) (hs : dm_x scr m ((.lload_n i : Instr)) pc ls st h = some (.inl S')) (kk : S'.2.2.2.1 = h.1 → dm_go D p l e R s mm args below meth c Q A b m ad ca cells slots S') : dm_go D p l e R s mm args below meth c Q A b m ad ca cells slots (pc, ls, st, h) := by
  intro H locs arr hl hg hW hS
  obtain ⟨hx, hb, hml, ho, hts, hini, hK, hN, hAO⟩ := id E
  obtain rfl : 1 = len := hn.resolve_left (by simp [dm_len])
  change dm_ldl ls i (pc + 1) st h = some (.inl S') at hs
  obtain ⟨x, hv, rfl⟩ := dm_ldl_inv hs
  exact lv_lload_n hx hb hd rfl (hl.2.2 i _ hv) (kk rfl H locs arr hl hg hW hS)

theorem dm_n_aload (E : dm_E D p s mm args meth c m) {i : Nat} {len : Nat} (hd : decode (mB m) pc = .ok ((.aload i : Instr), len)) (hn : dm_len ((.aload i : Instr)) = 0 ∨ dm_len ((.aload i : Instr)) = len) (hs : dm_x scr m ((.aload i : Instr)) pc ls st h = some (.inl S')) (kk : S'.2.2.2.1 = h.1 → dm_go D p l e R s mm args below meth c Q A b m ad ca cells slots S') : dm_go D p l e R s mm args below meth c Q A b m ad ca cells slots (pc, ls, st, h) := by
  intro H locs arr hl hg hW hS
  obtain ⟨hx, hb, hml, ho, hts, hini, hK, hN, hAO⟩ := id E
  obtain rfl : 2 = len := hn.resolve_left (by simp [dm_len])
  change dm_lda ls i (pc + 2) st h = some (.inl S') at hs
  obtain ⟨v, hv, (⟨k, rfl⟩ | ⟨k, rfl⟩), rfl⟩ := dm_lda_inv hs
  · exact lv_aload hx hb hd (hl.2.2 i _ hv) (kk rfl H locs arr hl hg hW hS)
  · exact lv_aload hx hb hd (hl.2.2 i _ hv) (kk rfl H locs arr hl hg hW hS)

theorem dm_n_aload_n (E : dm_E D p s mm args meth c m) {i : Fin 4} {len : Nat} (hd : decode (mB m) pc = .ok ((.aload_n i : Instr), len)) (hn : dm_len ((.aload_n i : Instr)) = 0 ∨ dm_len ((.aload_n i : Instr)) = len) (hs : dm_x scr m ((.aload_n i : Instr)) pc ls st h = some (.inl S')) (kk : S'.2.2.2.1 = h.1 → dm_go D p l e R s mm args below meth c Q A b m ad ca cells slots S') : dm_go D p l e R s mm args below meth c Q A b m ad ca cells slots (pc, ls, st, h) := by
  intro H locs arr hl hg hW hS
  obtain ⟨hx, hb, hml, ho, hts, hini, hK, hN, hAO⟩ := id E
  obtain rfl : 1 = len := hn.resolve_left (by simp [dm_len])
  change dm_lda ls i (pc + 1) st h = some (.inl S') at hs
  obtain ⟨v, hv, (⟨k, rfl⟩ | ⟨k, rfl⟩), rfl⟩ := dm_lda_inv hs
  · exact lv_aload_n hx hb hd rfl (hl.2.2 i _ hv) (kk rfl H locs arr hl hg hW hS)
  · exact lv_aload_n hx hb hd rfl (hl.2.2 i _ hv) (kk rfl H locs arr hl hg hW hS)

theorem dm_n_istore (E : dm_E D p s mm args meth c m) {i : Nat} {len : Nat} (hd : decode (mB m) pc = .ok ((.istore i : Instr), len)) (hn : dm_len ((.istore i : Instr)) = 0 ∨ dm_len ((.istore i : Instr)) = len) (hs : dm_x scr m ((.istore i : Instr)) pc ls st h = some (.inl S')) (kk : S'.2.2.2.1 = h.1 → dm_go D p l e R s mm args below meth c Q A b m ad ca cells slots S') : dm_go D p l e R s mm args below meth c Q A b m ad ca cells slots (pc, ls, st, h) := by
  intro H locs arr hl hg hW hS
  obtain ⟨hx, hb, hml, ho, hts, hini, hK, hN, hAO⟩ := id E
  obtain rfl : 2 = len := hn.resolve_left (by simp [dm_len])
  change dm_sti m ls i (pc + 2) st h = some (.inl S') at hs
  obtain ⟨x, r, rfl, h1, rfl⟩ := dm_sti_inv hs
  have hi : (i : Nat) < mX m := by
    rw [← hg.1]
    simp only [dm_s1, Bool.and_eq_true, decide_eq_true_eq] at h1
    exact h1.1
  refine lv_istore hx hb hd hl.has hi rfl (fun arr' h2 => ?_)
  obtain ⟨h3, h4⟩ := dm_store (v := .int x) hl hg h1 rfl h2
  exact kk rfl H locs arr' h3 h4 hW hS

theorem dm_n_istore_n (E : dm_E D p s mm args meth c m) {i : Fin 4} {len : Nat} (hd : decode (mB m) pc = .ok ((.istore_n i : Instr), len)) (hn : dm_len ((.istore_n i : Instr)) = 0 ∨ dm_len ((.istore_n i : Instr)) = len) (hs : dm_x scr m ((.istore_n i : Instr)) pc ls st h = some (.inl S')) (kk : S'.2.2.2.1 = h.1 → dm_go D p l e R s mm args below meth c Q A b m ad ca cells slots S') : dm_go D p l e R s mm args below meth c Q A b m ad ca cells slots (pc, ls, st, h) := by
  intro H locs arr hl hg hW hS
  obtain ⟨hx, hb, hml, ho, hts, hini, hK, hN, hAO⟩ := id E
  obtain rfl : 1 = len := hn.resolve_left (by simp [dm_len])
  change dm_sti m ls i (pc + 1) st h = some (.inl S') at hs
  obtain ⟨x, r, rfl, h1, rfl⟩ := dm_sti_inv hs
  have hi : (i : Nat) < mX m := by
    rw [← hg.1]
    simp only [dm_s1, Bool.and_eq_true, decide_eq_true_eq] at h1
    exact h1.1
  refine lv_istore_n hx hb hd rfl hl.has hi rfl (fun arr' h2 => ?_)
  obtain ⟨h3, h4⟩ := dm_store (v := .int x) hl hg h1 rfl h2
  exact kk rfl H locs arr' h3 h4 hW hS

theorem dm_n_astore (E : dm_E D p s mm args meth c m) {i : Nat} {len : Nat} (hd : decode (mB m) pc = .ok ((.astore i : Instr), len)) (hn : dm_len ((.astore i : Instr)) = 0 ∨ dm_len ((.astore i : Instr)) = len) (hs : dm_x scr m ((.astore i : Instr)) pc ls st h = some (.inl S')) (kk : S'.2.2.2.1 = h.1 → dm_go D p l e R s mm args below meth c Q A b m ad ca cells slots S') : dm_go D p l e R s mm args below meth c Q A b m ad ca cells slots (pc, ls, st, h) := by
  intro H locs arr hl hg hW hS
  obtain ⟨hx, hb, hml, ho, hts, hini, hK, hN, hAO⟩ := id E
  obtain rfl : 2 = len := hn.resolve_left (by simp [dm_len])
  change dm_sta m ls i (pc + 2) st h = some (.inl S') at hs
  obtain ⟨x, r, rfl, h1, rfl⟩ := dm_sta_inv hs
  have hi : (i : Nat) < mX m := by
    rw [← hg.1]
    simp only [dm_s1, Bool.and_eq_true, decide_eq_true_eq] at h1
    exact h1.1
  refine lv_astore hx hb hd hl.has hi rfl (fun arr' h2 => ?_)
  obtain ⟨h3, h4⟩ := dm_store (v := .ref x) hl hg h1 rfl h2
  exact kk rfl H locs arr' h3 h4 hW hS

theorem dm_n_astore_n (E : dm_E D p s mm args meth c m) {i : Fin 4} {len : Nat} (hd : decode (mB m) pc = .ok ((.astore_n i : Instr), len)) (hn : dm_len ((.astore_n i : Instr)) = 0 ∨ dm_len ((.astore_n i : Instr)) = len) (hs : dm_x scr m ((.astore_n i : Instr)) pc ls st h = some (.inl S')) (kk : S'.2.2.2.1 = h.1 → dm_go D p l e R s mm args below meth c Q A b m ad ca cells slots S') : dm_go D p l e R s mm args below meth c Q A b m ad ca cells slots (pc, ls, st, h) := by
  intro H locs arr hl hg hW hS
  obtain ⟨hx, hb, hml, ho, hts, hini, hK, hN, hAO⟩ := id E
  obtain rfl : 1 = len := hn.resolve_left (by simp [dm_len])
  change dm_sta m ls i (pc + 1) st h = some (.inl S') at hs
  obtain ⟨x, r, rfl, h1, rfl⟩ := dm_sta_inv hs
  have hi : (i : Nat) < mX m := by
    rw [← hg.1]
    simp only [dm_s1, Bool.and_eq_true, decide_eq_true_eq] at h1
    exact h1.1
  refine lv_astore_n hx hb hd rfl hl.has hi rfl (fun arr' h2 => ?_)
  obtain ⟨h3, h4⟩ := dm_store (v := .ref x) hl hg h1 rfl h2
  exact kk rfl H locs arr' h3 h4 hW hS

theorem dm_n_lstore (E : dm_E D p s mm args meth c m) {i : Nat} {len : Nat} (hd : decode (mB m) pc = .ok ((.lstore i : Instr), len)) (hn : dm_len ((.lstore i : Instr)) = 0 ∨ dm_len ((.lstore i : Instr)) = len) (hs : dm_x scr m ((.lstore i : Instr)) pc ls st h = some (.inl S')) (kk : S'.2.2.2.1 = h.1 → dm_go D p l e R s mm args below meth c Q A b m ad ca cells slots S') : dm_go D p l e R s mm args below meth c Q A b m ad ca cells slots (pc, ls, st, h) := by
  intro H locs arr hl hg hW hS
  obtain ⟨hx, hb, hml, ho, hts, hini, hK, hN, hAO⟩ := id E
  obtain rfl : 2 = len := hn.resolve_left (by simp [dm_len])
  change dm_stl m ls i (pc + 2) st h = some (.inl S') at hs
  obtain ⟨x, r, rfl, h1, rfl⟩ := dm_stl_inv hs
  have hi : (i : Nat) + 1 < mX m := by
    rw [← hg.1]
    simp only [dm_s2, Bool.and_eq_true, decide_eq_true_eq] at h1
    exact h1.1.1
  refine lv_lstore hx hb hd hl.has hi rfl (fun arr' h2 => ?_)
  obtain ⟨h3, h4⟩ := dm_storel hl hg h1 h2
  exact kk rfl H locs arr' h3 h4 hW hS

theorem dm_n_lstore_n (E : dm_E D p s mm args meth c m) {i : Fin 4} {len : Nat} (hd : decode (mB m) pc = .ok ((.lstore_n i : Instr), len)) (hn : dm_len ((.lstore_n i : Instr)) = 0 ∨ dm_len ((.lstore_n i : Instr)) = len) (hs : dm_x scr m ((.lstore_n i : Instr)) pc ls st h = some (.inl S')) (kk : S'.2.2.2.1 = h.1 → dm_go D p l e R s mm args below meth c Q A b m ad ca cells slots S') : dm_go D p l e R s mm args below meth c Q A b m ad ca cells slots (pc, ls, st, h) := by
  intro H locs arr hl hg hW hS
  obtain ⟨hx, hb, hml, ho, hts, hini, hK, hN, hAO⟩ := id E
  obtain rfl : 1 = len := hn.resolve_left (by simp [dm_len])
  change dm_stl m ls i (pc + 1) st h = some (.inl S') at hs
  obtain ⟨x, r, rfl, h1, rfl⟩ := dm_stl_inv hs
  have hi : (i : Nat) + 1 < mX m := by
    rw [← hg.1]
    simp only [dm_s2, Bool.and_eq_true, decide_eq_true_eq] at h1
    exact h1.1.1
  refine lv_lstore_n hx hb hd rfl hl.has hi rfl (fun arr' h2 => ?_)
  obtain ⟨h3, h4⟩ := dm_storel hl hg h1 h2
  exact kk rfl H locs arr' h3 h4 hW hS

theorem dm_n_iinc (E : dm_E D p s mm args meth c m) {i : Nat} {n : Int} {len : Nat} (hd : decode (mB m) pc = .ok ((.iinc i n : Instr), len)) (hn : dm_len ((.iinc i n : Instr)) = 0 ∨ dm_len ((.iinc i n : Instr)) = len) (hs : dm_x scr m ((.iinc i n : Instr)) pc ls st h = some (.inl S')) (kk : S'.2.2.2.1 = h.1 → dm_go D p l e R s mm args below meth c Q A b m ad ca cells slots S') : dm_go D p l e R s mm args below meth c Q A b m ad ca cells slots (pc, ls, st, h) := by
  intro H locs arr hl hg hW hS
  obtain ⟨hx, hb, hml, ho, hts, hini, hK, hN, hAO⟩ := id E
  obtain rfl : 3 = len := hn.resolve_left (by simp [dm_len])
  simp only [dm_x] at hs
  split at hs
  · next x hv =>
    split at hs
    · next h1 =>
      obtain rfl := dm_nx_inv hs
      have hi : i < mX m := by
        rw [← hg.1]
        simp only [dm_s1, Bool.and_eq_true, decide_eq_true_eq] at h1
        exact h1.1
      obtain ⟨k, hk⟩ := List.getElem?_of_mem ((dm_pl_mem (f := dm_cv ad b) (k := i) (w := .int x) ls 0).mpr ⟨i, .int x, by omega, hv, rfl⟩)
      refine lv_iinc hx hb hd hl.has hk rfl hi rfl (fun arr' h2 => ?_)
      obtain ⟨h3, h4⟩ := dm_store (v := .int (x + Int32.ofInt n)) hl hg h1 rfl h2
      exact kk rfl H locs arr' h3 h4 hW hS
    · cases hs
  · cases hs

theorem dm_n_iadd (E : dm_E D p s mm args meth c m) {len : Nat} (hd : decode (mB m) pc = .ok ((.iadd : Instr), len)) (hn : dm_len ((.iadd : Instr)) = 0 ∨ dm_len ((.iadd : Instr)) = len) (hs : dm_x scr m ((.iadd : Instr)) pc ls st h = some (.inl S')) (kk : S'.2.2.2.1 = h.1 → dm_go D p l e R s mm args below meth c Q A b m ad ca cells slots S') : dm_go D p l e R s mm args below meth c Q A b m ad ca cells slots (pc, ls, st, h) := by
  intro H locs arr hl hg hW hS
  obtain ⟨hx, hb, hml, ho, hts, hini, hK, hN, hAO⟩ := id E
  obtain rfl : 1 = len := hn.resolve_left (by simp [dm_len])
  change dm_ii (fun x y => x + y) pc ls st h = some (.inl S') at hs
  obtain ⟨x, y, r, rfl, rfl⟩ := dm_ii_inv hs
  exact lv_iadd hx hb hd (kk rfl H locs arr hl hg hW hS)

theorem dm_n_isub (E : dm_E D p s mm args meth c m) {len : Nat} (hd : decode (mB m) pc = .ok ((.isub : Instr), len)) (hn : dm_len ((.isub : Instr)) = 0 ∨ dm_len ((.isub : Instr)) = len) (hs : dm_x scr m ((.isub : Instr)) pc ls st h = some (.inl S')) (kk : S'.2.2.2.1 = h.1 → dm_go D p l e R s mm args below meth c Q A b m ad ca cells slots S') : dm_go D p l e R s mm args below meth c Q A b m ad ca cells slots (pc, ls, st, h) := by
  intro H locs arr hl hg hW hS
  obtain ⟨hx, hb, hml, ho, hts, hini, hK, hN, hAO⟩ := id E
  obtain rfl : 1 = len := hn.resolve_left (by simp [dm_len])
  change dm_ii (fun x y => x - y) pc ls st h = some (.inl S') at hs
  obtain ⟨x, y, r, rfl, rfl⟩ := dm_ii_inv hs
  exact lv_isub hx hb hd (kk rfl H locs arr hl hg hW hS)

theorem dm_n_imul (E : dm_E D p s mm args meth c m) {len : Nat} (hd : decode (mB m) pc = .ok ((.imul : Instr), len)) (hn : dm_len ((.imul : Instr)) = 0 ∨ dm_len ((.imul : Instr)) = len) (hs : dm_x scr m ((.imul : Instr)) pc ls st h = some (.inl S')) (kk : S'.2.2.2.1 = h.1 → dm_go D p l e R s mm args below meth c Q A b m ad ca cells slots S') : dm_go D p l e R s mm args below meth c Q A b m ad ca cells slots (pc, ls, st, h) := by
  intro H locs arr hl hg hW hS
  obtain ⟨hx, hb, hml, ho, hts, hini, hK, hN, hAO⟩ := id E
  obtain rfl : 1 = len := hn.resolve_left (by simp [dm_len])
  change dm_ii (fun x y => x * y) pc ls st h = some (.inl S') at hs
  obtain ⟨x, y, r, rfl, rfl⟩ := dm_ii_inv hs
  exact lv_imul hx hb hd (kk rfl H locs arr hl hg hW hS)

theorem dm_n_iand (E : dm_E D p s mm args meth c m) {len : Nat} (hd : decode (mB m) pc = .ok ((.iand : Instr), len)) (hn : dm_len ((.iand : Instr)) = 0 ∨ dm_len ((.iand : Instr)) = len) (hs : dm_x scr m ((.iand : Instr)) pc ls st h = some (.inl S')) (kk : S'.2.2.2.1 = h.1 → dm_go D p l e R s mm args below meth c Q A b m ad ca cells slots S') : dm_go D p l e R s mm args below meth c Q A b m ad ca cells slots (pc, ls, st, h) := by
  intro H locs arr hl hg hW hS
  obtain ⟨hx, hb, hml, ho, hts, hini, hK, hN, hAO⟩ := id E
  obtain rfl : 1 = len := hn.resolve_left (by simp [dm_len])
  change dm_ii (fun x y => x &&& y) pc ls st h = some (.inl S') at hs
  obtain ⟨x, y, r, rfl, rfl⟩ := dm_ii_inv hs
  exact lv_iand hx hb hd (kk rfl H locs arr hl hg hW hS)

theorem dm_n_ior (E : dm_E D p s mm args meth c m) {len : Nat} (hd : decode (mB m) pc = .ok ((.ior : Instr), len)) (hn : dm_len ((.ior : Instr)) = 0 ∨ dm_len ((.ior : Instr)) = len) (hs : dm_x scr m ((.ior : Instr)) pc ls st h = some (.inl S')) (kk : S'.2.2.2.1 = h.1 → dm_go D p l e R s mm args below meth c Q A b m ad ca cells slots S') : dm_go D p l e R s mm args below meth c Q A b m ad ca cells slots (pc, ls, st, h) := by
  intro H locs arr hl hg hW hS
  obtain ⟨hx, hb, hml, ho, hts, hini, hK, hN, hAO⟩ := id E
  obtain rfl : 1 = len := hn.resolve_left (by simp [dm_len])
  change dm_ii (fun x y => x ||| y) pc ls st h = some (.inl S') at hs
  obtain ⟨x, y, r, rfl, rfl⟩ := dm_ii_inv hs
  exact lv_ior hx hb hd (kk rfl H locs arr hl hg hW hS)

theorem dm_n_ixor (E : dm_E D p s mm args meth c m) {len : Nat} (hd : decode (mB m) pc = .ok ((.ixor : Instr), len)) (hn : dm_len ((.ixor : Instr)) = 0 ∨ dm_len ((.ixor : Instr)) = len) (hs : dm_x scr m ((.ixor : Instr)) pc ls st h = some (.inl S')) (kk : S'.2.2.2.1 = h.1 → dm_go D p l e R s mm args below meth c Q A b m ad ca cells slots S') : dm_go D p l e R s mm args below meth c Q A b m ad ca cells slots (pc, ls, st, h) := by
  intro H locs arr hl hg hW hS
  obtain ⟨hx, hb, hml, ho, hts, hini, hK, hN, hAO⟩ := id E
  obtain rfl : 1 = len := hn.resolve_left (by simp [dm_len])
  change dm_ii (fun x y => x ^^^ y) pc ls st h = some (.inl S') at hs
  obtain ⟨x, y, r, rfl, rfl⟩ := dm_ii_inv hs
  exact lv_ixor hx hb hd (kk rfl H locs arr hl hg hW hS)

theorem dm_n_ishl (E : dm_E D p s mm args meth c m) {len : Nat} (hd : decode (mB m) pc = .ok ((.ishl : Instr), len)) (hn : dm_len ((.ishl : Instr)) = 0 ∨ dm_len ((.ishl : Instr)) = len) (hs : dm_x scr m ((.ishl : Instr)) pc ls st h = some (.inl S')) (kk : S'.2.2.2.1 = h.1 → dm_go D p l e R s mm args below meth c Q A b m ad ca cells slots S') : dm_go D p l e R s mm args below meth c Q A b m ad ca cells slots (pc, ls, st, h) := by
  intro H locs arr hl hg hW hS
  obtain ⟨hx, hb, hml, ho, hts, hini, hK, hN, hAO⟩ := id E
  obtain rfl : 1 = len := hn.resolve_left (by simp [dm_len])
  change dm_ii (fun x y => x <<< (y &&& 31)) pc ls st h = some (.inl S') at hs
  obtain ⟨x, y, r, rfl, rfl⟩ := dm_ii_inv hs
  exact lv_ishl hx hb hd (kk rfl H locs arr hl hg hW hS)

theorem dm_n_ishr (E : dm_E D p s mm args meth c m) {len : Nat} (hd : decode (mB m) pc = .ok ((.ishr : Instr), len)) (hn : dm_len ((.ishr : Instr)) = 0 ∨ dm_len ((.ishr : Instr)) = len) (hs : dm_x scr m ((.ishr : Instr)) pc ls st h = some (.inl S')) (kk : S'.2.2.2.1 = h.1 → dm_go D p l e R s mm args below meth c Q A b m ad ca cells slots S') : dm_go D p l e R s mm args below meth c Q A b m ad ca cells slots (pc, ls, st, h) := by
  intro H locs arr hl hg hW hS
  obtain ⟨hx, hb, hml, ho, hts, hini, hK, hN, hAO⟩ := id E
  obtain rfl : 1 = len := hn.resolve_left (by simp [dm_len])
  change dm_ii (fun x y => x >>> (y &&& 31)) pc ls st h = some (.inl S') at hs
  obtain ⟨x, y, r, rfl, rfl⟩ := dm_ii_inv hs
  exact lv_ishr hx hb hd (kk rfl H locs arr hl hg hW hS)

theorem dm_n_iushr (E : dm_E D p s mm args meth c m) {len : Nat} (hd : decode (mB m) pc = .ok ((.iushr : Instr), len)) (hn : dm_len ((.iushr : Instr)) = 0 ∨ dm_len ((.iushr : Instr)) = len) (hs : dm_x scr m ((.iushr : Instr)) pc ls st h = some (.inl S')) (kk : S'.2.2.2.1 = h.1 → dm_go D p l e R s mm args below meth c Q A b m ad ca cells slots S') : dm_go D p l e R s mm args below meth c Q A b m ad ca cells slots (pc, ls, st, h) := by
  intro H locs arr hl hg hW hS
  obtain ⟨hx, hb, hml, ho, hts, hini, hK, hN, hAO⟩ := id E
  obtain rfl : 1 = len := hn.resolve_left (by simp [dm_len])
  change dm_ii (fun x y => (x.toUInt32 >>> (y.toUInt32 &&& Int32.toUInt32 31)).toInt32) pc ls st h = some (.inl S') at hs
  obtain ⟨x, y, r, rfl, rfl⟩ := dm_ii_inv hs
  exact lv_iushr hx hb hd rfl (kk rfl H locs arr hl hg hW hS)

theorem dm_n_idiv (E : dm_E D p s mm args meth c m) {len : Nat} (hd : decode (mB m) pc = .ok ((.idiv : Instr), len)) (hn : dm_len ((.idiv : Instr)) = 0 ∨ dm_len ((.idiv : Instr)) = len) (hs : dm_x scr m ((.idiv : Instr)) pc ls st h = some (.inl S')) (kk : S'.2.2.2.1 = h.1 → dm_go D p l e R s mm args below meth c Q A b m ad ca cells slots S') : dm_go D p l e R s mm args below meth c Q A b m ad ca cells slots (pc, ls, st, h) := by
  intro H locs arr hl hg hW hS
  obtain ⟨hx, hb, hml, ho, hts, hini, hK, hN, hAO⟩ := id E
  obtain rfl : 1 = len := hn.resolve_left (by simp [dm_len])
  change dm_iid (fun x y => x / y) pc ls st h = some (.inl S') at hs
  obtain ⟨x, y, r, rfl, hy, rfl⟩ := dm_iid_inv hs
  exact lv_idiv hx hb hd hy (kk rfl H locs arr hl hg hW hS)

theorem dm_n_irem (E : dm_E D p s mm args meth c m) {len : Nat} (hd : decode (mB m) pc = .ok ((.irem : Instr), len)) (hn : dm_len ((.irem : Instr)) = 0 ∨ dm_len ((.irem : Instr)) = len) (hs : dm_x scr m ((.irem : Instr)) pc ls st h = some (.inl S')) (kk : S'.2.2.2.1 = h.1 → dm_go D p l e R s mm args below meth c Q A b m ad ca cells slots S') : dm_go D p l e R s mm args below meth c Q A b m ad ca cells slots (pc, ls, st, h) := by
  intro H locs arr hl hg hW hS
  obtain ⟨hx, hb, hml, ho, hts, hini, hK, hN, hAO⟩ := id E
  obtain rfl : 1 = len := hn.resolve_left (by simp [dm_len])
  change dm_iid (fun x y => x - x / y * y) pc ls st h = some (.inl S') at hs
  obtain ⟨x, y, r, rfl, hy, rfl⟩ := dm_iid_inv hs
  exact lv_irem hx hb hd hy (kk rfl H locs arr hl hg hW hS)

theorem dm_n_ladd (E : dm_E D p s mm args meth c m) {len : Nat} (hd : decode (mB m) pc = .ok ((.ladd : Instr), len)) (hn : dm_len ((.ladd : Instr)) = 0 ∨ dm_len ((.ladd : Instr)) = len) (hs : dm_x scr m ((.ladd : Instr)) pc ls st h = some (.inl S')) (kk : S'.2.2.2.1 = h.1 → dm_go D p l e R s mm args below meth c Q A b m ad ca cells slots S') : dm_go D p l e R s mm args below meth c Q A b m ad ca cells slots (pc, ls, st, h) := by
  intro H locs arr hl hg hW hS
  obtain ⟨hx, hb, hml, ho, hts, hini, hK, hN, hAO⟩ := id E
  obtain rfl : 1 = len := hn.resolve_left (by simp [dm_len])
  change dm_jj (fun x y => x + y) pc ls st h = some (.inl S') at hs
  obtain ⟨x, y, r, rfl, rfl⟩ := dm_jj_inv hs
  exact lv_ladd hx hb hd (kk rfl H locs arr hl hg hW hS)

theorem dm_n_lmul (E : dm_E D p s mm args meth c m) {len : Nat} (hd : decode (mB m) pc = .ok ((.lmul : Instr), len)) (hn : dm_len ((.lmul : Instr)) = 0 ∨ dm_len ((.lmul : Instr)) = len) (hs : dm_x scr m ((.lmul : Instr)) pc ls st h = some (.inl S')) (kk : S'.2.2.2.1 = h.1 → dm_go D p l e R s mm args below meth c Q A b m ad ca cells slots S') : dm_go D p l e R s mm args below meth c Q A b m ad ca cells slots (pc, ls, st, h) := by
  intro H locs arr hl hg hW hS
  obtain ⟨hx, hb, hml, ho, hts, hini, hK, hN, hAO⟩ := id E
  obtain rfl : 1 = len := hn.resolve_left (by simp [dm_len])
  change dm_jj (fun x y => x * y) pc ls st h = some (.inl S') at hs
  obtain ⟨x, y, r, rfl, rfl⟩ := dm_jj_inv hs
  exact lv_lmul hx hb hd (kk rfl H locs arr hl hg hW hS)

theorem dm_n_land (E : dm_E D p s mm args meth c m) {len : Nat} (hd : decode (mB m) pc = .ok ((.land : Instr), len)) (hn : dm_len ((.land : Instr)) = 0 ∨ dm_len ((.land : Instr)) = len) (hs : dm_x scr m ((.land : Instr)) pc ls st h = some (.inl S')) (kk : S'.2.2.2.1 = h.1 → dm_go D p l e R s mm args below meth c Q A b m ad ca cells slots S') : dm_go D p l e R s mm args below meth c Q A b m ad ca cells slots (pc, ls, st, h) := by
  intro H locs arr hl hg hW hS
  obtain ⟨hx, hb, hml, ho, hts, hini, hK, hN, hAO⟩ := id E
  obtain rfl : 1 = len := hn.resolve_left (by simp [dm_len])
  change dm_jj (fun x y => x &&& y) pc ls st h = some (.inl S') at hs
  obtain ⟨x, y, r, rfl, rfl⟩ := dm_jj_inv hs
  exact lv_land hx hb hd (kk rfl H locs arr hl hg hW hS)

theorem dm_n_ldiv (E : dm_E D p s mm args meth c m) {len : Nat} (hd : decode (mB m) pc = .ok ((.ldiv : Instr), len)) (hn : dm_len ((.ldiv : Instr)) = 0 ∨ dm_len ((.ldiv : Instr)) = len) (hs : dm_x scr m ((.ldiv : Instr)) pc ls st h = some (.inl S')) (kk : S'.2.2.2.1 = h.1 → dm_go D p l e R s mm args below meth c Q A b m ad ca cells slots S') : dm_go D p l e R s mm args below meth c Q A b m ad ca cells slots (pc, ls, st, h) := by
  intro H locs arr hl hg hW hS
  obtain ⟨hx, hb, hml, ho, hts, hini, hK, hN, hAO⟩ := id E
  obtain rfl : 1 = len := hn.resolve_left (by simp [dm_len])
  change dm_jjd (fun x y => x / y) pc ls st h = some (.inl S') at hs
  obtain ⟨x, y, r, rfl, hy, rfl⟩ := dm_jjd_inv hs
  exact lv_ldiv hx hb hd hy (kk rfl H locs arr hl hg hW hS)

theorem dm_n_lrem (E : dm_E D p s mm args meth c m) {len : Nat} (hd : decode (mB m) pc = .ok ((.lrem : Instr), len)) (hn : dm_len ((.lrem : Instr)) = 0 ∨ dm_len ((.lrem : Instr)) = len) (hs : dm_x scr m ((.lrem : Instr)) pc ls st h = some (.inl S')) (kk : S'.2.2.2.1 = h.1 → dm_go D p l e R s mm args below meth c Q A b m ad ca cells slots S') : dm_go D p l e R s mm args below meth c Q A b m ad ca cells slots (pc, ls, st, h) := by
  intro H locs arr hl hg hW hS
  obtain ⟨hx, hb, hml, ho, hts, hini, hK, hN, hAO⟩ := id E
  obtain rfl : 1 = len := hn.resolve_left (by simp [dm_len])
  change dm_jjd (fun x y => x - x / y * y) pc ls st h = some (.inl S') at hs
  obtain ⟨x, y, r, rfl, hy, rfl⟩ := dm_jjd_inv hs
  exact lv_lrem hx hb hd hy (kk rfl H locs arr hl hg hW hS)

theorem dm_n_lcmp (E : dm_E D p s mm args meth c m) {len : Nat} (hd : decode (mB m) pc = .ok ((.lcmp : Instr), len)) (hn : dm_len ((.lcmp : Instr)) = 0 ∨ dm_len ((.lcmp : Instr)) = len) (hs : dm_x scr m ((.lcmp : Instr)) pc ls st h = some (.inl S')) (kk : S'.2.2.2.1 = h.1 → dm_go D p l e R s mm args below meth c Q A b m ad ca cells slots S') : dm_go D p l e R s mm args below meth c Q A b m ad ca cells slots (pc, ls, st, h) := by
  intro H locs arr hl hg hW hS
  obtain ⟨hx, hb, hml, ho, hts, hini, hK, hN, hAO⟩ := id E
  obtain rfl : 1 = len := hn.resolve_left (by simp [dm_len])
  simp only [dm_x] at hs
  split at hs
  · obtain rfl := dm_nx_inv hs
    exact W.lcmp hx hb hd (kk rfl H locs arr hl hg hW hS)
  · cases hs

theorem dm_n_i2l (E : dm_E D p s mm args meth c m) {len : Nat} (hd : decode (mB m) pc = .ok ((.i2l : Instr), len)) (hn : dm_len ((.i2l : Instr)) = 0 ∨ dm_len ((.i2l : Instr)) = len) (hs : dm_x scr m ((.i2l : Instr)) pc ls st h = some (.inl S')) (kk : S'.2.2.2.1 = h.1 → dm_go D p l e R s mm args below meth c Q A b m ad ca cells slots S') : dm_go D p l e R s mm args below meth c Q A b m ad ca cells slots (pc, ls, st, h) := by
  intro H locs arr hl hg hW hS
  obtain ⟨hx, hb, hml, ho, hts, hini, hK, hN, hAO⟩ := id E
  obtain rfl : 1 = len := hn.resolve_left (by simp [dm_len])
  simp only [dm_x] at hs
  split at hs
  · obtain rfl := dm_nx_inv hs
    exact lv_i2l hx hb hd rfl (kk rfl H locs arr hl hg hW hS)
  · cases hs

theorem dm_n_l2i (E : dm_E D p s mm args meth c m) {len : Nat} (hd : decode (mB m) pc = .ok ((.l2i : Instr), len)) (hn : dm_len ((.l2i : Instr)) = 0 ∨ dm_len ((.l2i : Instr)) = len) (hs : dm_x scr m ((.l2i : Instr)) pc ls st h = some (.inl S')) (kk : S'.2.2.2.1 = h.1 → dm_go D p l e R s mm args below meth c Q A b m ad ca cells slots S') : dm_go D p l e R s mm args below meth c Q A b m ad ca cells slots (pc, ls, st, h) := by
  intro H locs arr hl hg hW hS
  obtain ⟨hx, hb, hml, ho, hts, hini, hK, hN, hAO⟩ := id E
  obtain rfl : 1 = len := hn.resolve_left (by simp [dm_len])
  simp only [dm_x] at hs
  split at hs
  · obtain rfl := dm_nx_inv hs
    exact lv_l2i hx hb hd rfl (kk rfl H locs arr hl hg hW hS)
  · cases hs

theorem dm_n_ifnull (E : dm_E D p s mm args meth c m) {off : Int} {len : Nat} (hd : decode (mB m) pc = .ok ((.ifnull off : Instr), len)) (hn : dm_len ((.ifnull off : Instr)) = 0 ∨ dm_len ((.ifnull off : Instr)) = len) (hs : dm_x scr m ((.ifnull off : Instr)) pc ls st h = some (.inl S')) (kk : S'.2.2.2.1 = h.1 → dm_go D p l e R s mm args below meth c Q A b m ad ca cells slots S') : dm_go D p l e R s mm args below meth c Q A b m ad ca cells slots (pc, ls, st, h) := by
  intro H locs arr hl hg hW hS
  obtain ⟨hx, hb, hml, ho, hts, hini, hK, hN, hAO⟩ := id E
  obtain rfl : 3 = len := hn.resolve_left (by simp [dm_len])
  simp only [dm_x] at hs
  split at hs
  · obtain rfl := dm_nx_inv hs
    exact lv_ifnull hx hb hd (kk rfl H locs arr hl hg hW hS)
  · cases hs

theorem dm_n_dup (E : dm_E D p s mm args meth c m) {len : Nat} (hd : decode (mB m) pc = .ok ((.dup : Instr), len)) (hn : dm_len ((.dup : Instr)) = 0 ∨ dm_len ((.dup : Instr)) = len) (hs : dm_x scr m ((.dup : Instr)) pc ls st h = some (.inl S')) (kk : S'.2.2.2.1 = h.1 → dm_go D p l e R s mm args below meth c Q A b m ad ca cells slots S') : dm_go D p l e R s mm args below meth c Q A b m ad ca cells slots (pc, ls, st, h) := by
  intro H locs arr hl hg hW hS
  obtain ⟨hx, hb, hml, ho, hts, hini, hK, hN, hAO⟩ := id E
  obtain rfl : 1 = len := hn.resolve_left (by simp [dm_len])
  simp only [dm_x] at hs
  split at hs
  · split at hs
    · next h1 =>
      obtain rfl := dm_nx_inv hs
      exact lv_dup hx hb hd (by rw [dm_cv_cat]; simpa using h1) (kk rfl H locs arr hl hg hW hS)
    · cases hs
  · cases hs

theorem dm_n_pop (E : dm_E D p s mm args meth c m) {len : Nat} (hd : decode (mB m) pc = .ok ((.pop : Instr), len)) (hn : dm_len ((.pop : Instr)) = 0 ∨ dm_len ((.pop : Instr)) = len) (hs : dm_x scr m ((.pop : Instr)) pc ls st h = some (.inl S')) (kk : S'.2.2.2.1 = h.1 → dm_go D p l e R s mm args below meth c Q A b m ad ca cells slots S') : dm_go D p l e R s mm args below meth c Q A b m ad ca cells slots (pc, ls, st, h) := by
  intro H locs arr hl hg hW hS
  obtain ⟨hx, hb, hml, ho, hts, hini, hK, hN, hAO⟩ := id E
  obtain rfl : 1 = len := hn.resolve_left (by simp [dm_len])
  simp only [dm_x] at hs
  split at hs
  · split at hs
    · next h1 =>
      obtain rfl := dm_nx_inv hs
      exact lv_pop hx hb hd (by rw [dm_cv_cat]; simpa using h1) (kk rfl H locs arr hl hg hW hS)
    · cases hs
  · cases hs

theorem dm_n_dup2 (E : dm_E D p s mm args meth c m) {len : Nat} (hd : decode (mB m) pc = .ok ((.dup2 : Instr), len)) (hn : dm_len ((.dup2 : Instr)) = 0 ∨ dm_len ((.dup2 : Instr)) = len) (hs : dm_x scr m ((.dup2 : Instr)) pc ls st h = some (.inl S')) (kk : S'.2.2.2.1 = h.1 → dm_go D p l e R s mm args below meth c Q A b m ad ca cells slots S') : dm_go D p l e R s mm args below meth c Q A b m ad ca cells slots (pc, ls, st, h) := by
  intro H locs arr hl hg hW hS
  obtain ⟨hx, hb, hml, ho, hts, hini, hK, hN, hAO⟩ := id E
  obtain rfl : 1 = len := hn.resolve_left (by simp [dm_len])
  simp only [dm_x] at hs
  split at hs
  · split at hs
    · next h1 =>
      rw [Bool.and_eq_true, beq_iff_eq, beq_iff_eq] at h1
      obtain rfl := dm_nx_inv hs
      exact lv_dup2_11 hx hb hd (by rw [dm_cv_cat]; exact h1.1) (by rw [dm_cv_cat]; exact h1.2) (kk rfl H locs arr hl hg hW hS)
    · cases hs
  · cases hs

theorem dm_n_goto (E : dm_E D p s mm args meth c m) {off : Int} {len : Nat} (hd : decode (mB m) pc = .ok ((.goto off : Instr), len)) (hn : dm_len ((.goto off : Instr)) = 0 ∨ dm_len ((.goto off : Instr)) = len) (hs : dm_x scr m ((.goto off : Instr)) pc ls st h = some (.inl S')) (kk : S'.2.2.2.1 = h.1 → dm_go D p l e R s mm args below meth c Q A b m ad ca cells slots S') : dm_go D p l e R s mm args below meth c Q A b m ad ca cells slots (pc, ls, st, h) := by
  intro H locs arr hl hg hW hS
  obtain ⟨hx, hb, hml, ho, hts, hini, hK, hN, hAO⟩ := id E
  obtain rfl : 3 = len := hn.resolve_left (by simp [dm_len])
  change dm_sw pc (some off) ls st h = some (.inl S') at hs
  obtain ⟨x, hx1, hj, rfl⟩ := dm_sw_inv hs
  cases hx1
  exact lv_goto hx hb hd hj (kk rfl H locs arr hl hg hW hS)

theorem dm_n_icmp (E : dm_E D p s mm args meth c m) {cd : ClassFile.Cond} {off : Int} {len : Nat} (hd : decode (mB m) pc = .ok ((.if_icmp cd off : Instr), len)) (hn : dm_len ((.if_icmp cd off : Instr)) = 0 ∨ dm_len ((.if_icmp cd off : Instr)) = len) (hs : dm_x scr m ((.if_icmp cd off : Instr)) pc ls st h = some (.inl S')) (kk : S'.2.2.2.1 = h.1 → dm_go D p l e R s mm args below meth c Q A b m ad ca cells slots S') : dm_go D p l e R s mm args below meth c Q A b m ad ca cells slots (pc, ls, st, h) := by
  intro H locs arr hl hg hW hS
  obtain ⟨hx, hb, hml, ho, hts, hini, hK, hN, hAO⟩ := id E
  obtain rfl : 3 = len := hn.resolve_left (by simp [dm_len])
  simp only [dm_x] at hs
  split at hs
  · obtain ⟨hj, rfl⟩ := dm_br_inv hs
    have kk := kk rfl H locs arr hl hg hW hS
    cases cd with
    | eq =>
      refine lv_icmp_eq hx hb hd hj (fun q => ?_) (fun q => ?_)
      · simpa [dm_cmp, q] using kk
      · simpa [dm_cmp, q] using kk
    | ne =>
      refine lv_icmp_ne hx hb hd hj (fun q => ?_) (fun q => ?_)
      · simpa [dm_cmp, q] using kk
      · simpa [dm_cmp, q] using kk
    | lt =>
      refine lv_icmp_lt hx hb hd hj (fun q => ?_) (fun q => ?_)
      · simpa [dm_cmp, q] using kk
      · simpa [dm_cmp, q] using kk
    | ge =>
      refine lv_icmp_ge hx hb hd hj (fun q => ?_) (fun q => ?_)
      · simpa [dm_cmp, q] using kk
      · simpa [dm_cmp, q] using kk
    | gt =>
      refine lv_icmp_gt hx hb hd hj (fun q => ?_) (fun q => ?_)
      · simpa [dm_cmp, q] using kk
      · simpa [dm_cmp, q] using kk
    | le =>
      refine lv_icmp_le hx hb hd hj (fun q => ?_) (fun q => ?_)
      · simpa [dm_cmp, q] using kk
      · simpa [dm_cmp, q] using kk
  · cases hs

theorem dm_n_ifc (E : dm_E D p s mm args meth c m) {cd : ClassFile.Cond} {off : Int} {len : Nat} (hd : decode (mB m) pc = .ok ((.ifCond cd off : Instr), len)) (hn : dm_len ((.ifCond cd off : Instr)) = 0 ∨ dm_len ((.ifCond cd off : Instr)) = len) (hs : dm_x scr m ((.ifCond cd off : Instr)) pc ls st h = some (.inl S')) (kk : S'.2.2.2.1 = h.1 → dm_go D p l e R s mm args below meth c Q A b m ad ca cells slots S') : dm_go D p l e R s mm args below meth c Q A b m ad ca cells slots (pc, ls, st, h) := by
  intro H locs arr hl hg hW hS
  obtain ⟨hx, hb, hml, ho, hts, hini, hK, hN, hAO⟩ := id E
  obtain rfl : 3 = len := hn.resolve_left (by simp [dm_len])
  simp only [dm_x] at hs
  split at hs
  · obtain ⟨hj, rfl⟩ := dm_br_inv hs
    have kk := kk rfl H locs arr hl hg hW hS
    cases cd with
    | eq =>
      refine lv_if_eq hx hb hd hj (fun q => ?_) (fun q => ?_)
      · simpa [dm_cmp, q] using kk
      · simpa [dm_cmp, q] using kk
    | ne =>
      refine lv_if_ne hx hb hd hj (fun q => ?_) (fun q => ?_)
      · simpa [dm_cmp, q] using kk
      · simpa [dm_cmp, q] using kk
    | lt =>
      refine lv_if_lt hx hb hd hj (fun q => ?_) (fun q => ?_)
      · simpa [dm_cmp, q] using kk
      · simpa [dm_cmp, q] using kk
    | ge =>
      refine lv_if_ge hx hb hd hj (fun q => ?_) (fun q => ?_)
      · simpa [dm_cmp, q] using kk
      · simpa [dm_cmp, q] using kk
    | gt =>
      refine lv_if_gt hx hb hd hj (fun q => ?_) (fun q => ?_)
      · simpa [dm_cmp, q] using kk
      · simpa [dm_cmp, q] using kk
    | le =>
      refine lv_if_le hx hb hd hj (fun q => ?_) (fun q => ?_)
      · simpa [dm_cmp, q] using kk
      · simpa [dm_cmp, q] using kk
  · cases hs

theorem dm_n_tableswitch (E : dm_E D p s mm args meth c m) {d lo hi : Int} {offs : Array Int} {len : Nat} (hd : decode (mB m) pc = .ok ((.tableswitch d lo hi offs : Instr), len)) (hn : dm_len ((.tableswitch d lo hi offs : Instr)) = 0 ∨ dm_len ((.tableswitch d lo hi offs : Instr)) = len) (hs : dm_x scr m ((.tableswitch d lo hi offs : Instr)) pc ls st h = some (.inl S')) (kk : S'.2.2.2.1 = h.1 → dm_go D p l e R s mm args below meth c Q A b m ad ca cells slots S') : dm_go D p l e R s mm args below meth c Q A b m ad ca cells slots (pc, ls, st, h) := by
  intro H locs arr hl hg hW hS
  obtain ⟨hx, hb, hml, ho, hts, hini, hK, hN, hAO⟩ := id E
  simp only [dm_x] at hs
  split at hs
  · next x r =>
    obtain ⟨o1, h1, hj, rfl⟩ := dm_sw_inv hs
    by_cases hc : x.toInt < lo ∨ hi < x.toInt
    · rw [if_pos (by simpa using hc)] at h1
      cases h1
      exact lv_tableOut hx hb hd hc hj (kk rfl H locs arr hl hg hW hS)
    · rw [if_neg (by simpa using hc)] at h1
      exact lv_tableIn hx hb hd (fun q => hc (Or.inl q)) (fun q => hc (Or.inr q)) h1 hj (kk rfl H locs arr hl hg hW hS)
  · cases hs

theorem dm_n_lookupswitch (E : dm_E D p s mm args meth c m) {d : Int} {ps : Array (Int × Int)} {len : Nat} (hd : decode (mB m) pc = .ok ((.lookupswitch d ps : Instr), len)) (hn : dm_len ((.lookupswitch d ps : Instr)) = 0 ∨ dm_len ((.lookupswitch d ps : Instr)) = len) (hs : dm_x scr m ((.lookupswitch d ps : Instr)) pc ls st h = some (.inl S')) (kk : S'.2.2.2.1 = h.1 → dm_go D p l e R s mm args below meth c Q A b m ad ca cells slots S') : dm_go D p l e R s mm args below meth c Q A b m ad ca cells slots (pc, ls, st, h) := by
  intro H locs arr hl hg hW hS
  obtain ⟨hx, hb, hml, ho, hts, hini, hK, hN, hAO⟩ := id E
  simp only [dm_x] at hs
  split at hs
  · next x r =>
    split at hs
    · next hp =>
      obtain ⟨o1, h1, hj, rfl⟩ := dm_sw_inv hs
      cases h1
      exact lv_lookup hx hb hd hp rfl hj (kk rfl H locs arr hl hg hW hS)
    · cases hs
  · cases hs

theorem dm_n_getfield (E : dm_E D p s mm args meth c m) {i : Nat} {len : Nat} (hd : decode (mB m) pc = .ok ((.getfield i : Instr), len)) (hn : dm_len ((.getfield i : Instr)) = 0 ∨ dm_len ((.getfield i : Instr)) = len) (hs : dm_x scr m ((.getfield i : Instr)) pc ls st h = some (.inl S')) (kk : S'.2.2.2.1 = h.1 → dm_go D p l e R s mm args below meth c Q A b m ad ca cells slots S') : dm_go D p l e R s mm args below meth c Q A b m ad ca cells slots (pc, ls, st, h) := by
  intro H locs arr hl hg hW hS
  obtain ⟨hx, hb, hml, ho, hts, hini, hK, hN, hAO⟩ := id E
  obtain rfl : 3 = len := hn.resolve_left (by simp [dm_len])
  simp only [dm_x] at hs
  split at hs
  · next a r =>
    split at hs
    · next ci k nest c0 hF ha =>
      split at hs
      · next hc =>
        obtain rfl := dm_nx_inv hs
        have hc : c0 = ci := by simpa using hc
        subst hc
        obtain ⟨q, hq, hk, hw⟩ := dm_okF hF
        obtain ⟨q1, q2, q3⟩ := q
        have he := dm_w_get (f := dm_cv ad b) (ad := ad) (ca := ca) ha
        have hv : ((List.range (dm_nf c0)).map (fun j => dm_cv ad b (h.2 a j)))[k]? = some (dm_cv ad b (h.2 a k)) := by
          rw [List.getElem?_map, List.getElem?_range (by unfold dm_nf; rw [hq]; exact hk)]
          rfl
        have kk := kk rfl H locs arr hl hg hW hS
        rcases hw with ⟨rfl, hw⟩ | ⟨rfl, hw⟩
        · exact va_getN hx hb hts (fun w h9 => List.mem_cons_of_mem _ ((dm_okK hq).1 w h9)) ho hK hW.1 a he hq k hk (va_Nw.use rfl (hN _ hw)) (fun _ h9 => h9) hv hd kk
        · exact va_get hx hb hts (fun w h9 => List.mem_cons_of_mem _ ((dm_okK hq).1 w h9)) ho hK hW.1 a he hq k hk (hts _ (List.mem_cons_of_mem _ hw)) (fun _ h9 => h9) hv hd kk
      · cases hs
    · cases hs
  · cases hs

theorem dm_n_putfield (E : dm_E D p s mm args meth c m) {i : Nat} {len : Nat} (hd : decode (mB m) pc = .ok ((.putfield i : Instr), len)) (hn : dm_len ((.putfield i : Instr)) = 0 ∨ dm_len ((.putfield i : Instr)) = len) (hs : dm_x scr m ((.putfield i : Instr)) pc ls st h = some (.inl S')) (kk : S'.2.2.2.1 = h.1 → dm_go D p l e R s mm args below meth c Q A b m ad ca cells slots S') : dm_go D p l e R s mm args below meth c Q A b m ad ca cells slots (pc, ls, st, h) := by
  intro H locs arr hl hg hW hS
  obtain ⟨hx, hb, hml, ho, hts, hini, hK, hN, hAO⟩ := id E
  obtain rfl : 3 = len := hn.resolve_left (by simp [dm_len])
  simp only [dm_x] at hs
  split at hs
  · next v a r =>
    split at hs
    · next ci k nest c0 hF ha =>
      split at hs
      · next hc =>
        obtain rfl := dm_nx_inv hs
        simp only [Bool.and_eq_true, beq_iff_eq, Bool.or_eq_true, Bool.not_eq_true'] at hc
        obtain ⟨⟨rfl, hfit⟩, hfin⟩ := hc
        obtain ⟨q, hq, hk, hw⟩ := dm_okF hF
        obtain ⟨q1, q2, q3⟩ := q
        obtain ⟨o1, o2, o3, o4, o5⟩ := dm_okK hq
        have he := dm_w_get (f := dm_cv ad b) (ad := ad) (ca := ca) ha
        obtain ⟨f1, f2, f3⟩ := dm_fit_ok hfit ad b
        have hlen : k < ((List.range (dm_nf c0)).map (fun j => dm_cv ad b (h.2 a j))).length := by
          simp only [List.length_map, List.length_range]
          unfold dm_nf
          rw [hq]
          exact hk
        have hset := dm_w_set (f := dm_cv ad b) (ad := ad) (ca := ca) (K := h.1) (σ := h.2) (a := a) (j := k) (v := v) ha (e := .inr (c0, ((List.range (dm_nf c0)).map (fun j => dm_cv ad b (h.2 a j))).set k (dm_cv ad b v))) (by
          show _ = Sum.inr (c0, (List.range (dm_nf c0)).map (fun j => dm_cv ad b (dm_up h.2 a k v a j)))
          rw [dm_r_set (f := dm_cv ad b) (g := fun j => h.2 a j)]
          simp only [dm_up, true_and])
        have kk' : ∀ (H1 : Heap) (locs1 : List Loc), va_P D dm_cl ((dm_w (dm_cv ad b) ad ca h).set a (ad a, .inr (c0, ((List.range (dm_nf c0)).map (fun j => dm_cv ad b (h.2 a j))).set k (dm_cv ad b v)))) H1 → va_D A ((dm_w (dm_cv ad b) ad ca h).set a (ad a, .inr (c0, ((List.range (dm_nf c0)).map (fun j => dm_cv ad b (h.2 a j))).set k (dm_cv ad b v)))) → va_S A s.heap H1 locs1 → W p l e R s mm args below meth c H1 locs1 cells slots Q (F0 mm (pc + 3) arr (r.map (dm_cv ad b))) := by
          intro H1 locs1 p1 p2 p3
          rw [hset] at p1 p2
          exact kk rfl H1 locs1 arr hl hg ⟨p1, p2, hW.2.2.1, dm_scope hW.2.2.2 f3⟩ p3
        have hin := fun w h9 => List.mem_cons_of_mem (dm_cw m) (o1 w h9)
        cases hfk : dm_fin c0 k with
        | false =>
          have hfk' : (q2 k).2.2.2 = false := by simpa [dm_fin, hq] using hfk
          rcases hw with ⟨rfl, hw⟩ | ⟨rfl, hw⟩
          · exact va_putN hx hb hts hin (dm_tyf c0) o2 o3 ho hK hW.1 hW.2.1 hS a he hq k hk (va_Nw.use rfl (hN _ hw)) (fun _ h9 => h9) hfk' (o2 k hk) f1 f2 hlen hd kk'
          · exact va_put hx hb hts hin (dm_tyf c0) o2 o3 ho hK hW.1 hW.2.1 hS a he hq k hk (hts _ (List.mem_cons_of_mem _ hw)) (fun _ h9 => h9) hfk' (o2 k hk) f1 f2 hlen hd kk'
        | true =>
          have hfk' : (q2 k).2.2.2 = true := by simpa [dm_fin, hq] using hfk
          rw [hfk] at hfin
          have hfin := hfin.resolve_left (by decide)
          obtain ⟨⟨rfl, hi2⟩, hi3⟩ := hfin
          rcases hw with ⟨hw0, -⟩ | ⟨-, hw⟩
          · cases hw0
          · exact va_putF hx hb hts hin (dm_tyf c0) o2 o3 ho hK hW.1 hW.2.1 hS a he hq k hk (hts _ (List.mem_cons_of_mem _ hw)) (fun _ h9 => h9) hfk' (hini hi2) (by rw [o4 k hk]; show q1 = dm_ow.getD (mO m) ""; rw [hi3]; exact o5) (o2 k hk) f1 f2 hlen hd kk'
      · cases hs
    · cases hs
  · cases hs

theorem dm_n_iaload (E : dm_E D p s mm args meth c m) (X : dm_X scr b s A) {len : Nat} (hd : decode (mB m) pc = .ok ((.iaload : Instr), len)) (hn : dm_len ((.iaload : Instr)) = 0 ∨ dm_len ((.iaload : Instr)) = len) (hs : dm_x scr m ((.iaload : Instr)) pc ls st h = some (.inl S')) (kk : S'.2.2.2.1 = h.1 → dm_go D p l e R s mm args below meth c Q A b m ad ca cells slots S') : dm_go D p l e R s mm args below meth c Q A b m ad ca cells slots (pc, ls, st, h) := by
  intro H locs arr hl hg hW hS
  obtain ⟨hx, hb, hml, ho, hts, hini, hK, hN, hAO⟩ := id E
  obtain rfl : 1 = len := hn.resolve_left (by simp [dm_len])
  simp only [dm_x] at hs
  split at hs
  · next i a r =>
    split at hs
    · next n ha =>
      split at hs
      · next hi =>
        obtain rfl := dm_nx_inv hs
        exact va_iald hx hb (dm_K1 hK (hW.2.2.1 a _ ha (by simp))) hW.1 a 0 (dm_w_get ha) rfl (dm_in_vp hi) hd (kk rfl H locs arr hl hg hW hS)
      · cases hs
    · cases hs
  · next i k r =>
    split at hs
    · next n xs =>
      split at hs
      · next hi =>
        obtain rfl := dm_nx_inv hs
        obtain ⟨x1, x2, x3⟩ := X n xs rfl
        exact va_sld hx hb x1 x2 x3 hS (dm_in_vp hi) hd (kk rfl H locs arr hl hg hW hS)
      · cases hs
    · cases hs
  · cases hs

theorem dm_n_baload (E : dm_E D p s mm args meth c m) (X : dm_X scr b s A) {len : Nat} (hd : decode (mB m) pc = .ok ((.baload : Instr), len)) (hn : dm_len ((.baload : Instr)) = 0 ∨ dm_len ((.baload : Instr)) = len) (hs : dm_x scr m ((.baload : Instr)) pc ls st h = some (.inl S')) (kk : S'.2.2.2.1 = h.1 → dm_go D p l e R s mm args below meth c Q A b m ad ca cells slots S') : dm_go D p l e R s mm args below meth c Q A b m ad ca cells slots (pc, ls, st, h) := by
  intro H locs arr hl hg hW hS
  obtain ⟨hx, hb, hml, ho, hts, hini, hK, hN, hAO⟩ := id E
  obtain rfl : 1 = len := hn.resolve_left (by simp [dm_len])
  simp only [dm_x] at hs
  split at hs
  · next i a r =>
    split at hs
    · next n ha =>
      split at hs
      · next hi =>
        obtain rfl := dm_nx_inv hs
        exact va_zald hx hb (dm_K1 hK (hW.2.2.1 a _ ha (by simp))) hW.1 a 0 (dm_w_get ha) rfl (dm_in_vp hi) hd (kk rfl H locs arr hl hg hW hS)
      · cases hs
    · cases hs
  · cases hs

theorem dm_n_iastore (E : dm_E D p s mm args meth c m) {len : Nat} (hd : decode (mB m) pc = .ok ((.iastore : Instr), len)) (hn : dm_len ((.iastore : Instr)) = 0 ∨ dm_len ((.iastore : Instr)) = len) (hs : dm_x scr m ((.iastore : Instr)) pc ls st h = some (.inl S')) (kk : S'.2.2.2.1 = h.1 → dm_go D p l e R s mm args below meth c Q A b m ad ca cells slots S') : dm_go D p l e R s mm args below meth c Q A b m ad ca cells slots (pc, ls, st, h) := by
  intro H locs arr hl hg hW hS
  obtain ⟨hx, hb, hml, ho, hts, hini, hK, hN, hAO⟩ := id E
  obtain rfl : 1 = len := hn.resolve_left (by simp [dm_len])
  simp only [dm_x] at hs
  split at hs
  · next x i a r =>
    split at hs
    · next n ha =>
      split at hs
      · next hi =>
        obtain rfl := dm_nx_inv hs
        refine va_iast hx hb (dm_K1 hK (hW.2.2.1 a _ ha (by simp))) hW.1 hW.2.1 hS a 0 (dm_w_get ha) rfl (dm_in_vp hi) hd (fun H1 locs1 p1 p2 p3 => ?_)
        have hset := dm_w_set (f := dm_cv ad b) (ad := ad) (ca := ca) (K := h.1) (σ := h.2) (a := a) (j := i.toNatClampNeg) (v := .int x) ha rfl
        have hfn : (fun j => dm_i (dm_up h.2 a i.toNatClampNeg (.int x) a j)) = upd (fun j => dm_i (h.2 a j)) i.toNatClampNeg x := by
          funext j
          simp only [dm_up, true_and, upd]
          split <;> rfl
        simp only [dm_e] at hset
        rw [hfn] at hset
        rw [hset] at p1 p2
        exact kk rfl H1 locs1 arr hl hg ⟨p1, p2, hW.2.2.1, dm_scope hW.2.2.2 (fun k hk => by cases hk)⟩ p3
      · cases hs
    · cases hs
  · cases hs

theorem dm_n_bastore (E : dm_E D p s mm args meth c m) {len : Nat} (hd : decode (mB m) pc = .ok ((.bastore : Instr), len)) (hn : dm_len ((.bastore : Instr)) = 0 ∨ dm_len ((.bastore : Instr)) = len) (hs : dm_x scr m ((.bastore : Instr)) pc ls st h = some (.inl S')) (kk : S'.2.2.2.1 = h.1 → dm_go D p l e R s mm args below meth c Q A b m ad ca cells slots S') : dm_go D p l e R s mm args below meth c Q A b m ad ca cells slots (pc, ls, st, h) := by
  intro H locs arr hl hg hW hS
  obtain ⟨hx, hb, hml, ho, hts, hini, hK, hN, hAO⟩ := id E
  obtain rfl : 1 = len := hn.resolve_left (by simp [dm_len])
  simp only [dm_x] at hs
  split at hs
  · next x i a r =>
    split at hs
    · next n ha =>
      split at hs
      · next hi =>
        obtain rfl := dm_nx_inv hs
        refine va_zast hx hb (dm_K1 hK (hW.2.2.1 a _ ha (by simp))) hW.1 hW.2.1 hS a 0 (dm_w_get ha) rfl (dm_in_vp hi) hd (fun H1 locs1 p1 p2 p3 => ?_)
        have hset := dm_w_set (f := dm_cv ad b) (ad := ad) (ca := ca) (K := h.1) (σ := h.2) (a := a) (j := i.toNatClampNeg) (v := .int (vp_nar .boolean x)) ha rfl
        have hfn : (fun j => dm_i (dm_up h.2 a i.toNatClampNeg (.int (vp_nar .boolean x)) a j)) = upd (fun j => dm_i (h.2 a j)) i.toNatClampNeg (vp_nar .boolean x) := by
          funext j
          simp only [dm_up, true_and, upd]
          split <;> rfl
        simp only [dm_e] at hset
        rw [hfn] at hset
        rw [hset] at p1 p2
        exact kk rfl H1 locs1 arr hl hg ⟨p1, p2, hW.2.2.1, dm_scope hW.2.2.2 (fun k hk => by cases hk)⟩ p3
      · cases hs
    · cases hs
  · cases hs

theorem dm_n_aaload (E : dm_E D p s mm args meth c m) {len : Nat} (hd : decode (mB m) pc = .ok ((.aaload : Instr), len)) (hn : dm_len ((.aaload : Instr)) = 0 ∨ dm_len ((.aaload : Instr)) = len) (hs : dm_x scr m ((.aaload : Instr)) pc ls st h = some (.inl S')) (kk : S'.2.2.2.1 = h.1 → dm_go D p l e R s mm args below meth c Q A b m ad ca cells slots S') : dm_go D p l e R s mm args below meth c Q A b m ad ca cells slots (pc, ls, st, h) := by
  intro H locs arr hl hg hW hS
  obtain ⟨hx, hb, hml, ho, hts, hini, hK, hN, hAO⟩ := id E
  obtain rfl : 1 = len := hn.resolve_left (by simp [dm_len])
  simp only [dm_x] at hs
  split at hs
  · next i a r =>
    split at hs
    · next n ha =>
      split at hs
      · next hi =>
        split at hs
        · next k hk =>
          obtain rfl := dm_nx_inv hs
          have kk := kk rfl H locs arr hl hg hW hS
          refine va_aldq (C := "BlindGuides$State") (f := fun j => dm_r (dm_cv ad b (h.2 a j))) hx hb (dm_K1 hK (hW.2.2.1 a _ ha (by simp))) hW.1 a 0 (dm_w_get ha) rfl (dm_in_vp hi) hd ?_
          simp only [hk]
          exact kk
        · cases hs
      · cases hs
    · cases hs
  · cases hs

theorem dm_n_aastore (E : dm_E D p s mm args meth c m) {len : Nat} (hd : decode (mB m) pc = .ok ((.aastore : Instr), len)) (hn : dm_len ((.aastore : Instr)) = 0 ∨ dm_len ((.aastore : Instr)) = len) (hs : dm_x scr m ((.aastore : Instr)) pc ls st h = some (.inl S')) (kk : S'.2.2.2.1 = h.1 → dm_go D p l e R s mm args below meth c Q A b m ad ca cells slots S') : dm_go D p l e R s mm args below meth c Q A b m ad ca cells slots (pc, ls, st, h) := by
  intro H locs arr hl hg hW hS
  obtain ⟨hx, hb, hml, ho, hts, hini, hK, hN, hAO⟩ := id E
  obtain rfl : 1 = len := hn.resolve_left (by simp [dm_len])
  simp only [dm_x] at hs
  split at hs
  · next k i a r =>
    split at hs
    · next n ha hk =>
      split at hs
      · next hi =>
        obtain rfl := dm_nx_inv hs
        refine va_astq hx hb (dm_K1 hK (hW.2.2.1 a _ ha (by simp))) hW.1 hW.2.1 hS a 0 k 7 (r := (RX7, TX7, 7)) (f := fun j => dm_r (dm_cv ad b (h.2 a j))) (dm_w_get ha) rfl (dm_w_get hk) rfl (dm_in_vp hi) hd (fun H1 locs1 p1 p2 p3 => ?_)
        have hset := dm_w_set (f := dm_cv ad b) (ad := ad) (ca := ca) (K := h.1) (σ := h.2) (a := a) (j := i.toNatClampNeg) (v := .ref k) ha rfl
        have hfn : (fun j => dm_r (dm_cv ad b (dm_up h.2 a i.toNatClampNeg (.ref k) a j))) = va_up (fun j => dm_r (dm_cv ad b (h.2 a j))) i.toNatClampNeg (some (ad k)) := by
          funext j
          simp only [dm_up, true_and, va_up]
          split <;> rfl
        simp only [dm_e] at hset
        rw [hfn] at hset
        rw [hset] at p1 p2
        exact kk rfl H1 locs1 arr hl hg ⟨p1, p2, hW.2.2.1, dm_scope hW.2.2.2 (fun k' hk' => by cases hk'; exact (List.getElem?_eq_some_iff.mp hk).1)⟩ p3
      · cases hs
    · cases hs
  · cases hs

theorem dm_n_arraylength (E : dm_E D p s mm args meth c m) (X : dm_X scr b s A) {len : Nat} (hd : decode (mB m) pc = .ok ((.arraylength : Instr), len)) (hn : dm_len ((.arraylength : Instr)) = 0 ∨ dm_len ((.arraylength : Instr)) = len) (hs : dm_x scr m ((.arraylength : Instr)) pc ls st h = some (.inl S')) (kk : S'.2.2.2.1 = h.1 → dm_go D p l e R s mm args below meth c Q A b m ad ca cells slots S') : dm_go D p l e R s mm args below meth c Q A b m ad ca cells slots (pc, ls, st, h) := by
  intro H locs arr hl hg hW hS
  obtain ⟨hx, hb, hml, ho, hts, hini, hK, hN, hAO⟩ := id E
  obtain rfl : 1 = len := hn.resolve_left (by simp [dm_len])
  simp only [dm_x] at hs
  split at hs
  · next a r =>
    split at hs
    · next t n ha =>
      obtain rfl := dm_nx_inv hs
      have kk := kk rfl H locs arr hl hg hW hS
      have he := dm_w_get (f := dm_cv ad b) (ad := ad) (ca := ca) ha
      have hT := dm_K1 hK (hW.2.2.1 a _ ha (by simp))
      rcases t with _ | _ | t
      · exact va_alen hx hb hT hW.1 a 0 he rfl rfl hd kk
      · exact va_alen hx hb hT hW.1 a 0 he rfl rfl hd kk
      · exact va_alen hx hb hT hW.1 a 0 he rfl rfl hd kk
    · cases hs
  · next k r =>
    split at hs
    · next n xs =>
      obtain rfl := dm_nx_inv hs
      obtain ⟨x1, x2, x3⟩ := X n xs rfl
      exact va_slen hx hb x1 x2 x3 hS hd (kk rfl H locs arr hl hg hW hS)
    · cases hs
  · cases hs

end DMX
end
section
/-! what comes of one instruction, by kinds -/
/-- the kinds of cells grow at their end alone -/
def dm_PK (st : List Value) (h : dm_H) (o : dm_O) : Prop := match o with
  | .inl S' => S'.2.2.2.1 = h.1 ∨ ∃ kd, S'.2.2.2.1 = h.1 ++ [kd]
  | .inr (.inl (r, h')) => h' = h ∧ st = r.toList
  | .inr (.inr (_, _, S')) => S'.2.2.2 = h
theorem dm_x_K {scr : dm_Sc} {m : Nat} {ins : Instr} {pc : Nat} {ls : dm_L} {st : List Value} {h : dm_H} {o : dm_O} (hs : dm_x scr m ins pc ls st h = some o) : dm_PK st h o := by
  cases ins <;> simp only [dm_x, dm_nx, dm_ii, dm_iid, dm_jj, dm_jjd, dm_ld1, dm_ldl, dm_lda, dm_sti, dm_sta, dm_stl, dm_br, dm_sw, dm_al, dm_iv] at hs <;> (repeat' split at hs) <;> first
    | (cases hs; done)
    | (cases hs; exact Or.inl rfl)
    | (cases hs; exact Or.inr ⟨_, rfl⟩)
    | (cases hs; exact ⟨rfl, rfl⟩)
    | (cases hs; exact rfl)
def dm_rok (m pc : Nat) (r : Option Value) : Prop := (r = none ∧ mR m = none ∧ decode (mB m) pc = .ok (.return_, 1)) ∨ (∃ (x : Int32) (t : FieldType), r = some (.int x) ∧ mR m = some t ∧ narrow t (.int x) = .int x ∧ decode (mB m) pc = .ok (.ireturn, 1)) ∨ (∃ (x : Nat) (t : FieldType), r = some (.ref x) ∧ mR m = some t ∧ ((∃ n, t = .object n) ∨ ∃ u, t = .array u) ∧ decode (mB m) pc = .ok (.areturn, 1))
def dm_PR (m pc len : Nat) (ins : Instr) (o : dm_O) : Prop := match o with
  | .inl _ => True
  | .inr (.inl (r, _)) => decode (mB m) pc = .ok (ins, len) → dm_len ins = 0 ∨ dm_len ins = len → dm_rok m pc r
  | .inr (.inr _) => True
theorem dm_x_R {scr : dm_Sc} {m : Nat} {ins : Instr} {pc len : Nat} {ls : dm_L} {st : List Value} {h : dm_H} {o : dm_O} (hs : dm_x scr m ins pc ls st h = some o) : dm_PR m pc len ins o := by
  cases ins <;> simp only [dm_x, dm_nx, dm_ii, dm_iid, dm_jj, dm_jjd, dm_ld1, dm_ldl, dm_lda, dm_sti, dm_sta, dm_stl, dm_br, dm_sw, dm_al, dm_iv] at hs <;> (repeat' split at hs) <;> first
    | (cases hs; done)
    | (cases hs; exact True.intro)
    | (cases hs; intro hd hn; obtain rfl : 1 = len := hn.resolve_left (by simp [dm_len]); exact Or.inr (Or.inl ⟨_, _, rfl, by assumption, by simp_all, hd⟩))
    | (cases hs; intro hd hn; obtain rfl : 1 = len := hn.resolve_left (by simp [dm_len]); exact Or.inr (Or.inr ⟨_, _, rfl, by assumption, Or.inl ⟨_, rfl⟩, hd⟩))
    | (cases hs; intro hd hn; obtain rfl : 1 = len := hn.resolve_left (by simp [dm_len]); exact Or.inr (Or.inr ⟨_, _, rfl, by assumption, Or.inr ⟨_, rfl⟩, hd⟩))
    | (cases hs; intro hd hn; obtain rfl : 1 = len := hn.resolve_left (by simp [dm_len]); exact Or.inl ⟨rfl, by assumption, hd⟩)
/-- a call: which method, by which kind -/
def dm_cl2 (m i pc : Nat) (ks : List Nat) (ls : dm_L) (st : List Value) (h : dm_H) (y kd : Nat) (as r : List Value) : Prop :=
  rM (mO m) i = some (y, kd) ∧ kd ∈ ks ∧ kd ≠ 7 ∧ kd ≠ 8 ∧ kd ≠ 9 ∧ st = as.reverse ++ r ∧ as.length = mN y + (if kd = 2 ∨ kd = 3 then 0 else 1) ∧ r.length ≤ 4 ∧ mF y + 1 ≤ mF m ∧ 8 + (mX y + 11) + mL y ≤ mL m ∧ dm_aok y as = true ∧ dm_rcv kd y as h = true
theorem dm_iv_inv {ks : List Nat} {m i pc : Nat} {ls : dm_L} {st : List Value} {h : dm_H} {o : dm_O} (hs : dm_iv ks m i pc ls st h = some o) :
    (∃ y, rM (mO m) i = some (y, 7) ∧ 7 ∈ ks ∧ ∃ a r, st = .ref a :: r ∧ 1 ≤ mF m ∧ 12 + 2 * r.length ≤ mL m ∧ o = .inl (pc + 3, ls, r, h)) ∨
    (∃ y kd, rM (mO m) i = some (y, kd) ∧ kd ∈ ks ∧ (kd = 8 ∨ kd = 9) ∧ ∃ a b r, st = .int b :: .int a :: r ∧ 1 ≤ mF m ∧ 13 + 2 * r.length ≤ mL m ∧ o = .inl (pc + 3, ls, .int (if kd = 8 then (if a < b then b else a) else (if b < a then b else a)) :: r, h)) ∨
    (∃ y kd as r, dm_cl2 m i pc ks ls st h y kd as r ∧ o = .inr (.inr (y, as, (pc + 3, ls, r, h)))) := by
  unfold dm_iv at hs
  split at hs
  · cases hs
  · next y kd hM =>
    split at hs
    · next hks =>
      have hks : kd ∈ ks := by simpa using hks
      split at hs
      · next h7 =>
        have h7 : kd = 7 := by simpa using h7
        subst h7
        split at hs
        · next a r =>
          split at hs
          · next hr =>
            simp only [Bool.and_eq_true, decide_eq_true_eq] at hr
            exact Or.inl ⟨y, hM, hks, a, r, rfl, hr.1, hr.2, by simp only [dm_nx, Option.some.injEq] at hs; exact hs.symm⟩
          · cases hs
        · cases hs
      · next h7 =>
        split at hs
        · next h8 =>
          have h8 : kd = 8 ∨ kd = 9 := by simpa using h8
          split at hs
          · next b a r =>
            split at hs
            · next hr =>
              simp only [Bool.and_eq_true, decide_eq_true_eq] at hr
              exact Or.inr (Or.inl ⟨y, kd, hM, hks, h8, a, b, r, rfl, hr.1, hr.2, by simp only [dm_nx, Option.some.injEq, beq_iff_eq] at hs; exact hs.symm⟩)
            · cases hs
          · cases hs
        · next h8 =>
          have h7 : kd ≠ 7 := by simpa using h7
          have h8 : ¬ (kd = 8 ∨ kd = 9) := by simpa using h8
          dsimp only at hs
          generalize hn : mN y + (if (kd == 2 || kd == 3) = true then 0 else 1) = n at hs
          split at hs
          · next hr =>
            simp only [Bool.and_eq_true, decide_eq_true_eq] at hr
            obtain ⟨⟨⟨⟨⟨r1, r2⟩, r3⟩, r4⟩, r5⟩, r6⟩ := hr
            refine Or.inr (Or.inr ⟨y, kd, _, _, ⟨hM, hks, h7, fun q => h8 (Or.inl q), fun q => h8 (Or.inr q), ?_, ?_, r2, r3, r4, r5, r6⟩, (Option.some.inj hs).symm⟩)
            · rw [List.reverse_reverse, List.take_append_drop]
            · rw [List.length_reverse, r1, ← hn]
              simp only [Bool.or_eq_true, beq_iff_eq]
          · cases hs
    · cases hs
/-- which instructions call -/
def dm_PC (m pc : Nat) (ins : Instr) (ls : dm_L) (st : List Value) (h : dm_H) (o : dm_O) : Prop := match o with
  | .inl _ => True
  | .inr (.inl _) => True
  | .inr (.inr (y, as, S')) => ∃ i kd r, S' = (pc + 3, ls, r, h) ∧ ((ins = .invokevirtual i ∧ dm_cl2 m i pc [0, 1] ls st h y kd as r) ∨ (ins = .invokestatic i ∧ dm_cl2 m i pc [2, 3, 8, 9] ls st h y kd as r) ∨ (ins = .invokespecial i ∧ dm_cl2 m i pc [5, 6, 7] ls st h y kd as r))
theorem dm_x_C {scr : dm_Sc} {m : Nat} {ins : Instr} {pc : Nat} {ls : dm_L} {st : List Value} {h : dm_H} {o : dm_O} (hs : dm_x scr m ins pc ls st h = some o) : dm_PC m pc ins ls st h o := by
  cases ins
  case invokevirtual i =>
    rcases dm_iv_inv hs with ⟨y, -, -, a, r, -, -, -, rfl⟩ | ⟨y, kd, -, -, -, a, b, r, -, -, -, rfl⟩ | ⟨y, kd, as, r, hc, rfl⟩
    · exact True.intro
    · exact True.intro
    · exact ⟨i, kd, r, rfl, Or.inl ⟨rfl, hc⟩⟩
  case invokestatic i =>
    rcases dm_iv_inv hs with ⟨y, -, -, a, r, -, -, -, rfl⟩ | ⟨y, kd, -, -, -, a, b, r, -, -, -, rfl⟩ | ⟨y, kd, as, r, hc, rfl⟩
    · exact True.intro
    · exact True.intro
    · exact ⟨i, kd, r, rfl, Or.inr (Or.inl ⟨rfl, hc⟩)⟩
  case invokespecial i =>
    rcases dm_iv_inv hs with ⟨y, -, -, a, r, -, -, -, rfl⟩ | ⟨y, kd, -, -, -, a, b, r, -, -, -, rfl⟩ | ⟨y, kd, as, r, hc, rfl⟩
    · exact True.intro
    · exact True.intro
    · exact ⟨i, kd, r, rfl, Or.inr (Or.inr ⟨rfl, hc⟩)⟩
  all_goals
    simp only [dm_x, dm_nx, dm_ii, dm_iid, dm_jj, dm_jjd, dm_ld1, dm_ldl, dm_lda, dm_sti, dm_sta, dm_stl, dm_br, dm_sw, dm_al] at hs <;> (repeat' split at hs) <;> first
    | (cases hs; done)
    | (cases hs; exact True.intro)
/-- fuel: more does no harm -/
theorem dm_run_le : ∀ (n : Nat) {scr : dm_Sc} {m : Nat} {S : dm_S} {R : Option Value × dm_H}, dm_run scr n m S = some R → ∀ k, n ≤ k → dm_run scr k m S = some R := by
  intro n
  induction n with
  | zero => intro scr m S R h; simp [dm_run] at h
  | succ n ih =>
    intro scr m S R h k hk
    obtain ⟨k, rfl⟩ : ∃ j, k = j + 1 := ⟨k - 1, by omega⟩
    have hk : n ≤ k := by omega
    simp only [dm_run] at h ⊢
    split at h
    · cases h
    · next S' hS => exact ih h k hk
    · next R' hS => exact h
    · next y as pc ls st hh hS =>
      split at h
      · cases h
      · next r h' hr =>
        rw [ih hr k hk]
        dsimp only
        split at h
        · next hc => rw [if_pos hc]; exact ih h k hk
        · cases h
theorem dm_sz_app (K : List (Nat × Nat)) (kd : Nat × Nat) : dm_sz (K ++ [kd]) = dm_sz K + dm_kz kd := by simp [dm_sz]
theorem dm_st_inv {scr : dm_Sc} {m : Nat} {S : dm_S} {o : dm_O} (hs : dm_st scr m S = some o) : ∃ ins len, decode (mB m) S.1 = .ok (ins, len) ∧ (dm_len ins = 0 ∨ dm_len ins = len) ∧ dm_x scr m ins S.1 S.2.1 S.2.2.1 S.2.2.2 = some o := by
  unfold dm_st at hs
  split at hs
  · next ins len hd =>
    split at hs
    · next hl => exact ⟨ins, len, hd, by simpa using hl, hs⟩
    · cases hs
  · cases hs
/-- the heap's cells only grow -/
theorem dm_run_mono : ∀ (n : Nat) {scr : dm_Sc} {m : Nat} {S : dm_S} {r : Option Value} {hF : dm_H}, dm_run scr n m S = some (r, hF) → S.2.2.2.1.length ≤ hF.1.length ∧ dm_sz S.2.2.2.1 ≤ dm_sz hF.1 := by
  intro n
  induction n with
  | zero => intro scr m S r hF h; simp [dm_run] at h
  | succ n ih =>
    intro scr m S r hF h
    simp only [dm_run] at h
    split at h
    · cases h
    · next S' hS =>
      obtain ⟨ins, len, -, -, hx⟩ := dm_st_inv hS
      have h1 := ih h
      have h2 := dm_x_K hx
      rcases (h2 : S'.2.2.2.1 = S.2.2.2.1 ∨ ∃ kd, S'.2.2.2.1 = S.2.2.2.1 ++ [kd]) with e | ⟨kd, e⟩
      · rw [e] at h1; exact h1
      · rw [e, dm_sz_app, List.length_append] at h1
        simp only [List.length_cons, List.length_nil] at h1
        omega
    · next R' hS =>
      obtain ⟨ins, len, -, -, hx⟩ := dm_st_inv hS
      have h2 := dm_x_K hx
      cases h
      have h2 : hF = S.2.2.2 := (h2 : hF = S.2.2.2 ∧ _).1
      rw [h2]
      exact ⟨Nat.le_refl _, Nat.le_refl _⟩
    · next y as pc ls st hh hS =>
      obtain ⟨ins, len, -, -, hx⟩ := dm_st_inv hS
      have h2 := dm_x_K hx
      have h2 : hh = S.2.2.2 := h2
      split at h
      · cases h
      · next r' h' hr =>
        split at h
        · have h3 := ih hr
          have h4 := ih h
          dsimp only at h3 h4
          rw [h2] at h3
          omega
        · cases h
theorem dm_run_pre : ∀ (n : Nat) {scr : dm_Sc} {m : Nat} {S : dm_S} {r : Option Value} {hF : dm_H}, dm_run scr n m S = some (r, hF) → ∃ l, hF.1 = S.2.2.2.1 ++ l := by
  intro n
  induction n with
  | zero => intro scr m S r hF h; simp [dm_run] at h
  | succ n ih =>
    intro scr m S r hF h
    simp only [dm_run] at h
    split at h
    · cases h
    · next S' hS =>
      obtain ⟨ins, len, -, -, hx⟩ := dm_st_inv hS
      obtain ⟨l, h1⟩ := ih h
      have h2 := dm_x_K hx
      rcases (h2 : S'.2.2.2.1 = S.2.2.2.1 ∨ ∃ kd, S'.2.2.2.1 = S.2.2.2.1 ++ [kd]) with e | ⟨kd, e⟩
      · exact ⟨l, by rw [h1, e]⟩
      · exact ⟨kd :: l, by rw [h1, e, List.append_assoc]; rfl⟩
    · next R' hS =>
      obtain ⟨ins, len, -, -, hx⟩ := dm_st_inv hS
      have h2 := dm_x_K hx
      cases h
      have h2 : hF = S.2.2.2 := (h2 : hF = S.2.2.2 ∧ _).1
      exact ⟨[], by rw [h2, List.append_nil]⟩
    · next y as pc ls st hh hS =>
      obtain ⟨ins, len, -, -, hx⟩ := dm_st_inv hS
      have h2 := dm_x_K hx
      have h2 : hh = S.2.2.2 := h2
      split at h
      · cases h
      · next r' h' hr =>
        split at h
        · obtain ⟨l1, h3⟩ := ih hr
          obtain ⟨l2, h4⟩ := ih h
          dsimp only at h3 h4
          exact ⟨l1 ++ l2, by rw [h4, h3, h2, List.append_assoc]⟩
        · cases h
end
section
/-! cells that come, calls, and the soundness of a run -/
theorem dm_e_congr {f f' : Value → Value} {cA : ClassId} {kd : Nat × Nat} {g g' : Nat → Value} (h1 : ∀ j, f (g j) = f' (g' j)) (h2 : ∀ j, dm_i (g j) = dm_i (g' j)) : dm_e f cA kd g = dm_e f' cA kd g' := by
  obtain ⟨t, n⟩ := kd
  rcases t with _ | _ | _ | t
  · show Sum.inr _ = Sum.inr _
    rw [show (fun j => f (g j)) = (fun j => f' (g' j)) from funext h1]
  · show Sum.inl _ = Sum.inl _
    rw [show (fun j => dm_i (g j)) = (fun j => dm_i (g' j)) from funext h2]
  · show Sum.inl _ = Sum.inl _
    rw [show (fun j => dm_i (g j)) = (fun j => dm_i (g' j)) from funext h2]
  · show Sum.inl _ = Sum.inl _
    rw [show (fun j => dm_r (f (g j))) = (fun j => dm_r (f' (g' j))) from funext fun j => by rw [h1 j]]
theorem dm_w_push {n q b : Nat} {ad ad' : Nat → Nat} {ca ca' : Nat → ClassId} {cA : ClassId} {h : dm_H} {kd : Nat × Nat} {g : Nat → Value} (hn : h.1.length = n) (had : ∀ k, k < n → ad' k = ad k) (hq : ad' n = q) (hca : ∀ k, k < n → ca' k = ca k) (hcq : ca' n = cA)
    (hsc : ∀ k j k' : Nat, k < h.1.length → h.2 k j = .ref k' → k' < h.1.length) (hg : ∀ j k', g j ≠ .ref k') :
    dm_w (dm_cv ad b) ad ca h ++ [(q, dm_e (dm_cv ad b) cA kd g)] = dm_w (dm_cv ad' b) ad' ca' (h.1 ++ [kd], fun a j => if a = n then g j else h.2 a j) := by
  subst hn
  refine List.ext_getElem? fun k => ?_
  rcases Nat.lt_trichotomy k h.1.length with hk | hk | hk
  · obtain ⟨kd', hk'⟩ : ∃ kd', h.1[k]? = some kd' := ⟨_, List.getElem?_eq_getElem hk⟩
    rw [List.getElem?_append_left (by rw [dm_w_len]; exact hk), dm_w_get hk', dm_w_get (h := (h.1 ++ [kd], _)) (k := k) (kd := kd') (by show (h.1 ++ [kd])[k]? = _; rw [List.getElem?_append_left hk]; exact hk')]
    rw [had k hk, hca k hk]
    have hne : k ≠ h.1.length := by omega
    simp only [hne, if_false]
    rw [dm_e_congr (f := dm_cv ad b) (f' := dm_cv ad' b) (g := h.2 k) (g' := fun j => h.2 k j) (fun j => (dm_cv_ext had (by
      cases hv : h.2 k j <;> first | rfl | (simp only [dm_okv, decide_eq_true_eq]; exact hsc k j _ hk hv))).symm) (fun j => rfl)]
  · subst hk
    rw [List.getElem?_append_right (by rw [dm_w_len]; exact Nat.le_refl _), dm_w_len, Nat.sub_self, dm_w_get (h := (h.1 ++ [kd], _)) (k := h.1.length) (kd := kd) (by show (h.1 ++ [kd])[_]? = _; rw [List.getElem?_append_right (Nat.le_refl _), Nat.sub_self]; rfl)]
    rw [hq, hcq]
    simp only [if_true]
    rw [dm_e_congr (f := dm_cv ad b) (f' := dm_cv ad' b) (g := g) (g' := fun j => g j) (fun j => by
      cases hv : g j <;> first | rfl | exact absurd hv (hg j _)) (fun j => rfl)]
    rfl
  · rw [List.getElem?_eq_none (by rw [List.length_append, dm_w_len]; simp only [List.length_cons, List.length_nil]; omega), List.getElem?_eq_none (by rw [dm_w_len]; simp only [List.length_append, List.length_cons, List.length_nil]; omega)]
theorem dm_cv_def (ad : Nat → Nat) (b : Nat) (t : FieldType) : dm_cv ad b (defaultValue t) = defaultValue t := by cases t <;> rfl
theorem dm_def_ref (t : FieldType) (k : Nat) : defaultValue t ≠ .ref k := by cases t <;> (intro h; cases h)
theorem dm_al_inv {ls : dm_L} {st : List Value} {h : dm_H} {kd : Nat × Nat} {pc : Nat} {g : Nat → Value} {S' : dm_S} (hs : dm_al ls st h kd pc g = some (.inl S')) : dm_okl h.1.length ls st = true ∧ S' = (pc, ls, .ref h.1.length :: st, (h.1 ++ [kd], fun a b => if a = h.1.length then g b else h.2 a b)) := by
  unfold dm_al at hs
  split at hs
  · next hc => exact ⟨hc, dm_nx_inv hs⟩
  · cases hs
theorem dm_TN {w : Jvm.Cond} (h : w ∈ dm_T ∨ w ∈ dm_N) (hn : dm_isN w = false) : w ∈ dm_T := by
  rcases h with h | h
  · exact h
  · have := (List.mem_filter.mp h).2
    rw [hn] at this
    cases this
theorem dm_NT {w : Jvm.Cond} (h : w ∈ dm_T ∨ w ∈ dm_N) (hn : goodWord w = false) : w ∈ dm_N := by
  rcases h with h | h
  · have := dm_T_good h
    rw [hn] at this
    cases this
  · exact h
theorem dm_W.moved {D : va_G} {A : Nat → Prop} {b : Nat} {ad : Nat → Nat} {ca : Nat → ClassId} {h : dm_H} {u U : State} {H : Heap} (hvm : u.vm.Alike U.vm) (hW : dm_W D A b ad ca h u H) : dm_W D A b ad ca h U H :=
  ⟨hW.1, hW.2.1, fun k kd hk h0 => ⟨arrOfT_moved hvm (hW.2.2.1 k kd hk h0).1, (hW.2.2.1 k kd hk h0).2.moved hvm⟩, hW.2.2.2⟩
theorem dm_cat_sum : ∀ (l : List Value), (l.map fun v => v.category).sum ≤ 2 * l.length
  | [] => Nat.le_refl _
  | v :: l => by
    have h1 := dm_cat_sum l
    simp only [List.map_cons, List.sum_cons, List.length_cons]
    rcases lv_cat v with h | h <;> omega
theorem dm_objw : Cond.code Lib.objectInit ⟨#[0xb1]⟩ 1 none ∈ dm_T := dm_cw_T (y := 128) (by decide +kernel)
section DMA
variable {D : va_G} {p : Program} {l : Launch} {e : Env} {R : Room} {s : State} {mm : MethodId} {args : Array Value} {below : List Frame} {meth : Method} {c : Code} {Q : State → Prop} {A : Nat → Prop} {b m : Nat} {ad : Nat → Nat} {ca : Nat → ClassId} {cells slots : Nat}
variable {scr : dm_Sc} {pc : Nat} {ls : dm_L} {st : List Value} {h : dm_H} {S' : dm_S}
theorem dm_alloc {H1 : Heap} {locs1 : List Loc} {arr : Array Slot} {kd : Nat × Nat} {g : Nat → Value} {q : Nat} {cA : ClassId} (hok : dm_okl h.1.length ls st = true) (hl : dm_lh arr (mX m) (dm_cv ad b) ls) (hg : dm_lg m ls) (hW3 : ∀ (k : Nat) (kd : Nat × Nat), h.1[k]? = some kd → kd.1 ≠ 0 → ArrOfT s (ca k) (dm_aty kd.1) ∧ va_RA s (ca k) (dm_aty kd.1)) (hW4 : ∀ k j k' : Nat, k < h.1.length → h.2 k j = .ref k' → k' < h.1.length)
    (hk : kd.1 ≠ 0 → ArrOfT s cA (dm_aty kd.1) ∧ va_RA s cA (dm_aty kd.1)) (hgs : ∀ j k', g j ≠ .ref k') (p1 : va_P D dm_cl (dm_w (dm_cv ad b) ad ca h ++ [(q, dm_e (dm_cv ad b) cA kd g)]) H1) (p2 : va_D A (dm_w (dm_cv ad b) ad ca h ++ [(q, dm_e (dm_cv ad b) cA kd g)])) (p3 : va_S A s.heap H1 locs1)
    (kk : ∀ (ad' : Nat → Nat) (ca' : Nat → ClassId), (∀ k, k < h.1.length → ad' k = ad k) → dm_go D p l e R s mm args below meth c Q A b m ad' ca' cells slots (pc, ls, .ref h.1.length :: st, (h.1 ++ [kd], fun a b => if a = h.1.length then g b else h.2 a b))) :
    W p l e R s mm args below meth c H1 locs1 cells slots Q (F0 mm pc arr (.ref q :: st.map (dm_cv ad b))) := by
  obtain ⟨ad', had, hq⟩ : ∃ ad' : Nat → Nat, (∀ k, k < h.1.length → ad' k = ad k) ∧ ad' h.1.length = q := ⟨fun k => if k = h.1.length then q else ad k, fun k hk => if_neg (Nat.ne_of_lt hk), if_pos rfl⟩
  obtain ⟨ca', hca, hcq⟩ : ∃ ca' : Nat → ClassId, (∀ k, k < h.1.length → ca' k = ca k) ∧ ca' h.1.length = cA := ⟨fun k => if k = h.1.length then cA else ca k, fun k hk => if_neg (Nat.ne_of_lt hk), if_pos rfl⟩
  rw [dm_w_push rfl had hq hca hcq hW4 hgs] at p1 p2
  have k1 := kk ad' ca' had H1 locs1 arr (dm_okl_lh had hok hl) hg ⟨p1, p2, fun k kd' hk' h0 => ?_, fun k j k' hk' he => ?_⟩ p3
  · have e1 : (Value.ref h.1.length :: st).map (dm_cv ad' b) = .ref q :: st.map (dm_cv ad b) := by
      rw [List.map_cons, dm_okl_st had hok]
      show Value.ref (ad' _) :: _ = _
      rw [hq]
    dsimp only at k1
    rw [e1] at k1
    exact k1
  · have hk' : (h.1 ++ [kd])[k]? = some kd' := hk'
    rcases Nat.lt_trichotomy k h.1.length with h1 | h1 | h1
    · rw [List.getElem?_append_left h1] at hk'
      rw [hca k h1]
      exact hW3 k kd' hk' h0
    · subst h1
      rw [List.getElem?_append_right (Nat.le_refl _), Nat.sub_self] at hk'
      cases hk'
      rw [hcq]
      exact hk h0
    · rw [List.getElem?_eq_none (by simp only [List.length_append, List.length_cons, List.length_nil]; omega)] at hk'
      cases hk'
  · simp only [List.length_append, List.length_cons, List.length_nil] at hk' ⊢
    dsimp only at he
    by_cases h1 : k = h.1.length
    · rw [if_pos h1] at he
      exact absurd he (hgs j k')
    · rw [if_neg h1] at he
      have := hW4 k j k' (by omega) he
      omega
theorem dm_a_new {i len : Nat} (E : dm_E D p s mm args meth c m) (hA : ∀ q, s.heap.size ≤ q → A q) (hd : decode (mB m) pc = .ok (.new i, len)) (hn : dm_len (.new i) = 0 ∨ dm_len (.new i) = len) (hs : dm_x scr m (.new i) pc ls st h = some (.inl S'))
    (kk : ∀ kd, S'.2.2.2.1 = h.1 ++ [kd] → cells + 1 ≤ R.cells ∧ slots + dm_kz kd ≤ R.slots ∧ ∀ (ad' : Nat → Nat) (ca' : Nat → ClassId), (∀ k, k < h.1.length → ad' k = ad k) → dm_go D p l e R s mm args below meth c Q A b m ad' ca' (cells + 1) (slots + dm_kz kd) S') :
    dm_go D p l e R s mm args below meth c Q A b m ad ca cells slots (pc, ls, st, h) := by
  intro H locs arr hl hg hW hS
  obtain ⟨hx, hb, hml, ho, hts, hini, hK, hN, hAO⟩ := id E
  obtain rfl : 3 = len := hn.resolve_left (by simp [dm_len])
  simp only [dm_x] at hs
  split at hs
  · next ci hci =>
    obtain ⟨hok, rfl⟩ := dm_al_inv hs
    obtain ⟨q, hq, w1, w2, w3⟩ := dm_okN hci
    obtain ⟨q1, q2, q3⟩ := q
    obtain ⟨o1, o2, o3, o4, o5⟩ := dm_okK hq
    obtain ⟨c1, c2, k1⟩ := kk (0, ci) rfl
    have hz : dm_kz (0, ci) = q3 := by simp [dm_kz, dm_nf, hq]
    rw [hz] at c2 k1
    refine va_new hx hb hts (fun w h9 => List.mem_cons_of_mem _ (o1 w h9)) (dm_tyf ci) o2 ho (hts _ (List.mem_cons_of_mem _ w1)) (hts _ (List.mem_cons_of_mem _ w2)) (hts _ (List.mem_cons_of_mem _ w3)) hK hW.1 hW.2.1 hS hA hq (fs := (List.range (dm_nf ci)).map (fun j => dm_cv ad b (defaultValue (dm_tyf ci j)))) (fun j hj => ?_) c1 c2 hd (fun q H1 p1 p2 p3 => ?_)
    · unfold vp_V
      rw [List.getD_eq_getElem?_getD, List.getElem?_map, List.getElem?_range (by unfold dm_nf; rw [hq]; exact hj)]
      show _ = dm_cv ad b _
      rw [dm_cv_def]
    · exact dm_alloc (kd := (0, ci)) (cA := ca 0) (g := fun j => defaultValue (dm_tyf ci j)) hok hl hg hW.2.2.1 hW.2.2.2 (fun z => absurd rfl z) (fun j k' => dm_def_ref _ k') p1 p2 p3 k1
  · cases hs
theorem dm_a_newarray {t : ArrayType} {len : Nat} (E : dm_E D p s mm args meth c m) (hA : ∀ q, s.heap.size ≤ q → A q) (hd : decode (mB m) pc = .ok (.newarray t, len)) (hn : dm_len (.newarray t) = 0 ∨ dm_len (.newarray t) = len) (hs : dm_x scr m (.newarray t) pc ls st h = some (.inl S'))
    (kk : ∀ kd, S'.2.2.2.1 = h.1 ++ [kd] → cells + 1 ≤ R.cells ∧ slots + dm_kz kd ≤ R.slots ∧ ∀ (ad' : Nat → Nat) (ca' : Nat → ClassId), (∀ k, k < h.1.length → ad' k = ad k) → dm_go D p l e R s mm args below meth c Q A b m ad' ca' (cells + 1) (slots + dm_kz kd) S') :
    dm_go D p l e R s mm args below meth c Q A b m ad ca cells slots (pc, ls, st, h) := by
  intro H locs arr hl hg hW hS
  obtain ⟨hx, hb, hml, ho, hts, hini, hK, hN, hAO⟩ := id E
  obtain rfl : 2 = len := hn.resolve_left (by simp [dm_len])
  simp only [dm_x] at hs
  split at hs
  · next n r =>
    split at hs
    · cases hs
    · next hc =>
      simp only [Bool.or_eq_true, decide_eq_true_eq, not_or] at hc
      split at hs
      · obtain ⟨hok, rfl⟩ := dm_al_inv hs
        obtain ⟨c1, c2, k1⟩ := kk (1, n.toNatClampNeg) rfl
        exact va_newa (atype := .int) (ty := .int) (a0 := (n.toNatClampNeg, .inl (fun _ => 0))) hx hb (hts _ (List.mem_cons_of_mem _ (dm_has_T dm_okA.1))) rfl hK hW.1 hW.2.1 hS hA (fun cA => rfl) hc.1 rfl (by show n.toNatClampNeg * 4 ≤ 536870912; omega) c1 c2 hd (fun q cA H1 hK1 p1 p2 p3 =>
          dm_alloc (kd := (1, n.toNatClampNeg)) (cA := cA) (g := fun _ => .int 0) hok hl hg hW.2.2.1 hW.2.2.2 (fun _ => hK1.2 0 _ rfl) (fun j k' z => by cases z) p1 p2 p3 k1)
      · cases hs
  · cases hs
theorem dm_a_anewarray {i len : Nat} (E : dm_E D p s mm args meth c m) (hA : ∀ q, s.heap.size ≤ q → A q) (hd : decode (mB m) pc = .ok (.anewarray i, len)) (hn : dm_len (.anewarray i) = 0 ∨ dm_len (.anewarray i) = len) (hs : dm_x scr m (.anewarray i) pc ls st h = some (.inl S'))
    (kk : ∀ kd, S'.2.2.2.1 = h.1 ++ [kd] → cells + 1 ≤ R.cells ∧ slots + dm_kz kd ≤ R.slots ∧ ∀ (ad' : Nat → Nat) (ca' : Nat → ClassId), (∀ k, k < h.1.length → ad' k = ad k) → dm_go D p l e R s mm args below meth c Q A b m ad' ca' (cells + 1) (slots + dm_kz kd) S') :
    dm_go D p l e R s mm args below meth c Q A b m ad ca cells slots (pc, ls, st, h) := by
  intro H locs arr hl hg hW hS
  obtain ⟨hx, hb, hml, ho, hts, hini, hK, hN, hAO⟩ := id E
  obtain rfl : 3 = len := hn.resolve_left (by simp [dm_len])
  simp only [dm_x] at hs
  split at hs
  · next n r =>
    split at hs
    · cases hs
    · next hc =>
      simp only [Bool.or_eq_true, decide_eq_true_eq, not_or] at hc
      split at hs
      · next hci =>
        obtain ⟨hok, rfl⟩ := dm_al_inv hs
        obtain ⟨q, hq, w1, w2, w3⟩ := dm_okN hci
        obtain rfl : (RX7, TX7, 7) = q := Option.some.inj hq
        obtain ⟨c1, c2, k1⟩ := kk (3, n.toNatClampNeg) rfl
        exact va_newq (C := "BlindGuides$State") hx hb ho (hts _ (List.mem_cons_of_mem _ w1)) hAO hK hW.1 hW.2.1 hS hA hc.1 rfl (by omega) c1 c2 hd (fun q cA H1 hK1 p1 p2 p3 =>
          dm_alloc (kd := (3, n.toNatClampNeg)) (cA := cA) (g := fun _ => .null) hok hl hg hW.2.2.1 hW.2.2.2 (fun _ => hK1.2 0 _ rfl) (fun j k' z => by cases z) p1 p2 p3 k1)
      · cases hs
  · cases hs
theorem dm_a_obj {i : Nat} (E : dm_E D p s mm args meth c m) (hRf : mF m ≤ R.frames) (hRl : mL m ≤ R.locals) (hd : decode (mB m) pc = .ok (.invokespecial i, 3)) {y a : Nat} {r : List Value} (hM : rM (mO m) i = some (y, 7)) (h1 : 1 ≤ mF m) (h2 : 12 + 2 * r.length ≤ mL m)
    (kk : dm_go D p l e R s mm args below meth c Q A b m ad ca cells slots (pc + 3, ls, r, h)) : dm_go D p l e R s mm args below meth c Q A b m ad ca cells slots (pc, ls, .ref a :: r, h) := by
  intro H locs arr hl hg hW hS
  obtain ⟨hx, hb, hml, ho, hts, hini, hK, hN, hAO⟩ := id E
  obtain ⟨hw, -⟩ := dm_okM hM
  have hc := dm_cat_sum (r.map (dm_cv ad b))
  rw [List.length_map] at hc
  refine W.objInit hx hb ho (hts _ (List.mem_cons_of_mem _ (dm_TN (hw (.methodLink (dm_ow.getD (mO m) "") i Lib.objectInit) (by simp [dm_wM])) rfl))) (hts _ (List.mem_cons_of_mem _ (dm_TN (hw (.instanceMethod Lib.objectInit) (by simp [dm_wM])) rfl))) (hts _ (List.mem_cons_of_mem _ dm_objw)) (g := F0 mm pc arr ((Value.ref a :: r).map (dm_cv ad b))) rfl (by rw [hml]; exact hl.1) rfl hd (by omega) (by
    have : (F0 mm pc arr ((Value.ref a :: r).map (dm_cv ad b))).monitorRoom = 0 := rfl
    rw [this]
    omega) (kk H locs arr hl hg hW hS)
theorem dm_a_mm {i : Nat} (E : dm_E D p s mm args meth c m) (hRf : mF m ≤ R.frames) (hRl : mL m ≤ R.locals) (hc : cells ≤ R.cells) (hs : slots ≤ R.slots) (hd : decode (mB m) pc = .ok (.invokestatic i, 3)) {y kd : Nat} {a0 b0 : Int32} {r : List Value} (hM : rM (mO m) i = some (y, kd)) (h8 : kd = 8 ∨ kd = 9) (h1 : 1 ≤ mF m) (h2 : 13 + 2 * r.length ≤ mL m)
    (kk : dm_go D p l e R s mm args below meth c Q A b m ad ca cells slots (pc + 3, ls, .int (if kd = 8 then (if a0 < b0 then b0 else a0) else (if b0 < a0 then b0 else a0)) :: r, h)) : dm_go D p l e R s mm args below meth c Q A b m ad ca cells slots (pc, ls, .int b0 :: .int a0 :: r, h) := by
  intro H locs arr hl hg hW hS
  obtain ⟨hx, hb, hml, ho, hts, hini, hK, hN, hAO⟩ := id E
  obtain ⟨hw, hck⟩ := dm_okM hM
  have hcs := dm_cat_sum (r.map (dm_cv ad b))
  rw [List.length_map] at hcs
  simp only [dm_ckm, Bool.or_eq_true, Bool.and_eq_true, bne_iff_ne, ne_eq, beq_iff_eq] at hck
  have kk := kk H locs arr hl hg hW hS
  rcases h8 with rfl | rfl
  · obtain ⟨⟨⟨-, hy⟩, -⟩, hcw⟩ := hck.resolve_left (by decide)
    have hy : y = dm_max := hy.resolve_left (fun z => z rfl)
    subst hy
    have w1 := hts _ (List.mem_cons_of_mem _ (dm_TN (hw (.methodLink (dm_ow.getD (mO m) "") i (mY dm_max)) (by simp [dm_wM])) rfl))
    have w2 := hts _ (List.mem_cons_of_mem _ (dm_TN (hw (.static (mY dm_max)) (by simp [dm_wM])) rfl))
    have w3 := hts _ (List.mem_cons_of_mem _ (dm_TN (hw (.initialized (mY dm_max).cls) (by simp [dm_wM])) rfl))
    have w4 := hts _ (List.mem_cons_of_mem _ (dm_cw_T hcw))
    exact va_mmax hx hb (by rw [hml]; exact hl.1.symm) ho w1 w2 w3 w4 (by omega) (by omega) hc hs hd kk
  · obtain ⟨⟨-, hy⟩, hcw⟩ := hck.resolve_left (by decide)
    have hy : y = dm_min := hy.resolve_left (fun z => z rfl)
    subst hy
    have w1 := hts _ (List.mem_cons_of_mem _ (dm_TN (hw (.methodLink (dm_ow.getD (mO m) "") i (mY dm_min)) (by simp [dm_wM])) rfl))
    have w2 := hts _ (List.mem_cons_of_mem _ (dm_TN (hw (.static (mY dm_min)) (by simp [dm_wM])) rfl))
    have w3 := hts _ (List.mem_cons_of_mem _ (dm_TN (hw (.initialized (mY dm_min).cls) (by simp [dm_wM])) rfl))
    have w4 := hts _ (List.mem_cons_of_mem _ (dm_cw_T hcw))
    exact va_mmin hx hb (by rw [hml]; exact hl.1.symm) ho w1 w2 w3 w4 (by omega) (by omega) hc hs hd kk

theorem dm_step {k0 z0 : Nat} {S : dm_S} (E : dm_E D p s mm args meth c m) (X : dm_X scr b s A) (hA : ∀ q, s.heap.size ≤ q → A q) (hRf : mF m ≤ R.frames) (hRl : mL m ≤ R.locals) (hs : dm_st scr m S = some (.inl S')) (hk0 : k0 ≤ S.2.2.2.1.length) (hz0 : z0 ≤ dm_sz S.2.2.2.1) (hRc : S'.2.2.2.1.length - k0 ≤ R.cells) (hRs : dm_sz S'.2.2.2.1 - z0 ≤ R.slots)
    (kk : ∀ (ad' : Nat → Nat) (ca' : Nat → ClassId), (∀ k, k < S.2.2.2.1.length → ad' k = ad k) → (S'.2.2.2.1 = S.2.2.2.1 → ad' = ad) → dm_go D p l e R s mm args below meth c Q A b m ad' ca' (S'.2.2.2.1.length - k0) (dm_sz S'.2.2.2.1 - z0) S') :
    dm_go D p l e R s mm args below meth c Q A b m ad ca (S.2.2.2.1.length - k0) (dm_sz S.2.2.2.1 - z0) S := by
  obtain ⟨ins, len, hd, hn, hx⟩ := dm_st_inv hs
  obtain ⟨pc, ls, st, h⟩ := S
  dsimp only at hd hx hk0 hz0 kk ⊢
  have kn : S'.2.2.2.1 = h.1 → dm_go D p l e R s mm args below meth c Q A b m ad ca (h.1.length - k0) (dm_sz h.1 - z0) S' := fun e1 => by
    have k1 := kk ad ca (fun _ _ => rfl) (fun _ => rfl)
    rw [e1] at k1
    exact k1
  have ka : ∀ kd, S'.2.2.2.1 = h.1 ++ [kd] → h.1.length - k0 + 1 ≤ R.cells ∧ dm_sz h.1 - z0 + dm_kz kd ≤ R.slots ∧ ∀ (ad' : Nat → Nat) (ca' : Nat → ClassId), (∀ k, k < h.1.length → ad' k = ad k) → dm_go D p l e R s mm args below meth c Q A b m ad' ca' (h.1.length - k0 + 1) (dm_sz h.1 - z0 + dm_kz kd) S' := by
    intro kd e1
    have e2 : S'.2.2.2.1.length - k0 = h.1.length - k0 + 1 := by rw [e1]; simp only [List.length_append, List.length_cons, List.length_nil]; omega
    have e3 : dm_sz S'.2.2.2.1 - z0 = dm_sz h.1 - z0 + dm_kz kd := by rw [e1, dm_sz_app]; omega
    rw [e2, e3] at kk
    rw [e2] at hRc
    rw [e3] at hRs
    exact ⟨hRc, hRs, fun ad' ca' h1 => kk ad' ca' h1 (fun z => by rw [e1] at z; have := congrArg List.length z; simp only [List.length_append, List.length_cons, List.length_nil] at this; omega)⟩
  cases ins with
  | iconst _ => exact dm_n_iconst E hd hn hx kn
  | bipush _ => exact dm_n_bipush E hd hn hx kn
  | sipush _ => exact dm_n_sipush E hd hn hx kn
  | ldc _ => exact dm_n_ldc E hd hn hx kn
  | ldc_w _ => exact dm_n_ldc_w E hd hn hx kn
  | ldc2_w _ => exact dm_n_ldc2_w E hd hn hx kn
  | lconst _ => exact dm_n_lconst E hd hn hx kn
  | aconst_null  => exact dm_n_aconst_null E hd hn hx kn
  | iload _ => exact dm_n_iload E hd hn hx kn
  | lload _ => exact dm_n_lload E hd hn hx kn
  | iload_n _ => exact dm_n_iload_n E hd hn hx kn
  | lload_n _ => exact dm_n_lload_n E hd hn hx kn
  | aload _ => exact dm_n_aload E hd hn hx kn
  | aload_n _ => exact dm_n_aload_n E hd hn hx kn
  | istore _ => exact dm_n_istore E hd hn hx kn
  | istore_n _ => exact dm_n_istore_n E hd hn hx kn
  | astore _ => exact dm_n_astore E hd hn hx kn
  | astore_n _ => exact dm_n_astore_n E hd hn hx kn
  | lstore _ => exact dm_n_lstore E hd hn hx kn
  | lstore_n _ => exact dm_n_lstore_n E hd hn hx kn
  | iinc _ _ => exact dm_n_iinc E hd hn hx kn
  | iadd  => exact dm_n_iadd E hd hn hx kn
  | isub  => exact dm_n_isub E hd hn hx kn
  | imul  => exact dm_n_imul E hd hn hx kn
  | iand  => exact dm_n_iand E hd hn hx kn
  | ior  => exact dm_n_ior E hd hn hx kn
  | ixor  => exact dm_n_ixor E hd hn hx kn
  | ishl  => exact dm_n_ishl E hd hn hx kn
  | ishr  => exact dm_n_ishr E hd hn hx kn
  | iushr  => exact dm_n_iushr E hd hn hx kn
  | idiv  => exact dm_n_idiv E hd hn hx kn
  | irem  => exact dm_n_irem E hd hn hx kn
  | ladd  => exact dm_n_ladd E hd hn hx kn
  | lmul  => exact dm_n_lmul E hd hn hx kn
  | land  => exact dm_n_land E hd hn hx kn
  | ldiv  => exact dm_n_ldiv E hd hn hx kn
  | lrem  => exact dm_n_lrem E hd hn hx kn
  | lcmp  => exact dm_n_lcmp E hd hn hx kn
  | i2l  => exact dm_n_i2l E hd hn hx kn
  | l2i  => exact dm_n_l2i E hd hn hx kn
  | ifnull _ => exact dm_n_ifnull E hd hn hx kn
  | dup  => exact dm_n_dup E hd hn hx kn
  | dup2  => exact dm_n_dup2 E hd hn hx kn
  | pop  => exact dm_n_pop E hd hn hx kn
  | goto _ => exact dm_n_goto E hd hn hx kn
  | tableswitch _ _ _ _ => exact dm_n_tableswitch E hd hn hx kn
  | lookupswitch _ _ => exact dm_n_lookupswitch E hd hn hx kn
  | getfield _ => exact dm_n_getfield E hd hn hx kn
  | putfield _ => exact dm_n_putfield E hd hn hx kn
  | iastore  => exact dm_n_iastore E hd hn hx kn
  | bastore  => exact dm_n_bastore E hd hn hx kn
  | aaload  => exact dm_n_aaload E hd hn hx kn
  | aastore  => exact dm_n_aastore E hd hn hx kn
  | if_icmp _ _ => exact dm_n_icmp E hd hn hx kn
  | ifCond _ _ => exact dm_n_ifc E hd hn hx kn
  | iaload => exact dm_n_iaload E X hd hn hx kn
  | baload => exact dm_n_baload E X hd hn hx kn
  | arraylength => exact dm_n_arraylength E X hd hn hx kn
  | new _ => exact dm_a_new E hA hd hn hx ka
  | newarray _ => exact dm_a_newarray E hA hd hn hx ka
  | anewarray _ => exact dm_a_anewarray E hA hd hn hx ka
  | invokevirtual i =>
    rcases dm_iv_inv hx with ⟨y, -, hk, -⟩ | ⟨y, kd, -, hk, h8, -⟩ | ⟨y, kd, as, r, hc, z⟩
    · exact absurd hk (by decide)
    · rcases h8 with rfl | rfl <;> exact absurd hk (by decide)
    · cases z
  | invokestatic i =>
    obtain rfl : 3 = len := hn.resolve_left (by simp [dm_len])
    rcases dm_iv_inv hx with ⟨y, -, hk, -⟩ | ⟨y, kd, hM, hk, h8, a0, b0, r, rfl, h1, h2, z⟩ | ⟨y, kd, as, r, hc, z⟩
    · exact absurd hk (by decide)
    · cases z
      exact dm_a_mm E hRf hRl hRc hRs hd hM h8 h1 h2 (kn rfl)
    · cases z
  | invokespecial i =>
    obtain rfl : 3 = len := hn.resolve_left (by simp [dm_len])
    rcases dm_iv_inv hx with ⟨y, hM, hk, a, r, rfl, h1, h2, z⟩ | ⟨y, kd, -, hk, h8, -⟩ | ⟨y, kd, as, r, hc, z⟩
    · cases z
      exact dm_a_obj E hRf hRl hd hM h1 h2 (kn rfl)
    · rcases h8 with rfl | rfl <;> exact absurd hk (by decide)
    · cases z
  | ireturn => have := dm_x_R (len := len) hx; simp only [dm_x] at hx; (repeat' split at hx) <;> cases hx
  | areturn => simp only [dm_x] at hx; (repeat' split at hx) <;> cases hx
  | return_ => simp only [dm_x] at hx; (repeat' split at hx) <;> cases hx
  | _ => cases hx
end DMA
end
section
/-! contracts of methods out of runs; a run is the machine's own -/
/-- the script in a heap, apart from the world -/
def dm_XH (scr : dm_Sc) (b : Nat) (ad : Nat → Nat) (n : Nat) (U : State) : Prop := ∀ (L : Nat) (xs : Nat → Int32), scr = some (L, xs) → va_X b L xs U U.heap ∧ b < U.heap.size ∧ ∀ k, k < n → ad k ≠ b
def dm_Pc (scr : dm_Sc) (D : va_G) (b : Nat) (ad : Nat → Nat) (ca : Nat → ClassId) (h : dm_H) (sz : Nat) (as : List Value) : Array Value → State → Prop := va_Pc (as.map (dm_cv ad b)) (fun U => U.heap.size = sz ∧ dm_W D (fun _ => True) b ad ca h U U.heap ∧ va_K D dm_cl [] U ∧ (∀ w ∈ dm_N, va_Nw w U) ∧ va_AO "BlindGuides$State" U ∧ dm_XH scr b ad h.1.length U)
def dm_Qc (D : va_G) (b : Nat) (ad : Nat → Nat) (ca : Nat → ClassId) (h hF : dm_H) (r : Option Value) (sz : Nat) : Array Value → State → Outcome → State → Prop := fun _ st oc t =>
  (∃ (ad' : Nat → Nat) (ca' : Nat → ClassId), oc = .returned (r.map (dm_cv ad' b)) ∧ (∀ k, k < h.1.length → ad' k = ad k) ∧ (hF.1 = h.1 → ad' = ad) ∧ dm_W D (va_A (dm_w (dm_cv ad b) ad ca h) sz) b ad' ca' hF t t.heap) ∧ va_F (va_A (dm_w (dm_cv ad b) ad ca h) sz) st t
def dm_rm (y : Nat) (h hF : dm_H) : Room := { frames := mF y, cells := hF.1.length - h.1.length, slots := dm_sz hF.1 - dm_sz h.1, locals := mL y }
/-- the contract of a method for one start and one end -/
def dm_Met (scr : dm_Sc) (l : Launch) (D : va_G) (y : Nat) (as : List Value) (h : dm_H) (r : Option Value) (hF : dm_H) : Prop := ∀ (b : Nat) (ad : Nat → Nat) (ca : Nat → ClassId) (sz : Nat),
  Met l (mY y) (dm_Ts y) (dm_rm y h hF) (dm_Pc scr D b ad ca h sz as) (dm_Qc D b ad ca h hF r sz) (hF.1.length - h.1.length) (dm_sz hF.1 - dm_sz h.1) (va_A (dm_w (dm_cv ad b) ad ca h) sz)
theorem dm_Pc_blind {scr : dm_Sc} {D : va_G} {b : Nat} {ad : Nat → Nat} {ca : Nat → ClassId} {h : dm_H} {sz : Nat} {as : List Value} : FrameBlind (dm_Pc scr D b ad ca h sz as) := by
  intro a U g mk q
  obtain ⟨q1, q2, q3, q4, q5, q6, q7⟩ := q
  exact ⟨q1, q2, dm_W.moved (u := U) (U := U.calling g mk a) (Vm.Alike.refl U.vm) q3, va_K.moved (u := U) (U := U.calling g mk a) (Vm.Alike.refl U.vm) q4, fun w hw => va_Nw.same (dm_N_on hw) (u := U) (U := U.calling g mk a) rfl (q5 w hw), va_AO.moved (u := U) (U := U.calling g mk a) (Vm.Alike.refl U.vm) q6, fun L xs z => ⟨va_X.moved (u := U) (U := U.calling g mk a) (Vm.Alike.refl U.vm) (q7 L xs z).1, (q7 L xs z).2⟩⟩
theorem dm_good {m : Nat} {ws : List Jvm.Cond} (h : ∀ w ∈ ws, w ∈ dm_T) : GoodIn (dm_Ts m) ws := fun w hw => ⟨List.mem_cons_of_mem _ (h w hw), good_of_word (dm_T_good (h w hw))⟩
section DMC
variable {D : va_G} {p : Program} {l : Launch} {e : Env} {R : Room} {s : State} {mm : MethodId} {args : Array Value} {below : List Frame} {meth : Method} {c : Code} {Q : State → Prop} {A : Nat → Prop} {b m : Nat} {ad : Nat → Nat} {ca : Nat → ClassId} {cells slots : Nat}
variable {scr : dm_Sc} {pc : Nat} {ls : dm_L} {st : List Value} {h : dm_H} {S' : dm_S}
theorem dm_join {hF : dm_H} {r : Option Value} {H : Heap} {locs : List Loc} {mc ms : Nat} {arr : Array Slot} {st0 rest : List Value} {a : Array Value}
    (hr : va_Run p l e R s mm args below meth c H locs cells slots mc ms (F0 mm pc arr st0) rest (dm_Qc D b ad ca h hF r H.size a) (va_A (dm_w (dm_cv ad b) ad ca h) H.size)) (hS : va_S A s.heap H locs) (hD : va_D A (dm_w (dm_cv ad b) ad ca h)) (hA : ∀ q, s.heap.size ≤ q → A q)
    (kk : ∀ (ad' : Nat → Nat) (ca' : Nat → ClassId) (H1 : Heap) (locs1 : List Loc), (∀ k, k < h.1.length → ad' k = ad k) → (hF.1 = h.1 → ad' = ad) → dm_W D A b ad' ca' hF s H1 → va_S A s.heap H1 locs1 → W p l e R s mm args below meth c H1 locs1 (cells + mc) (slots + ms) Q (F0 mm (pc + 3) arr ((r.map (dm_cv ad' b)).toList ++ rest))) :
    W p l e R s mm args below meth c H locs cells slots Q (F0 mm pc arr st0) := by
  have hF0 : ∀ q, va_A (dm_w (dm_cv ad b) ad ca h) H.size q → A q := by
    rintro q (⟨k, e1, hk⟩ | hq)
    · exact hD.2 k _ hk
    · exact hA q (Nat.le_trans hS.1 hq)
  intro T hT X
  obtain ⟨v, st₀, t, T', L, h0, X', hL, e1, e2, ⟨⟨ad', ca', hv, had, hsame, hW1⟩, hz, hk⟩, st⟩ := hr T hT X
  cases hv
  rw [h0] at hz hk
  have hvm : s.vm.Alike t.vm := by rw [← e2]; exact X'.warmed.alike
  have hW2 : dm_W D A b ad' ca' hF s T'.heap := by
    rw [e1]
    refine dm_W.moved hvm.symm ⟨hW1.1, hW1.2.1.weaken (fun _ q _ z => hF0 q.1 z), hW1.2.2.1, hW1.2.2.2⟩
  obtain ⟨t2, a1, b1⟩ := kk ad' ca' T'.heap (locs ++ L) had hsame hW2
    ⟨Nat.le_trans hS.1 (by rw [e1]; exact hz), fun q h1 h2 => by rw [e1, hk q (Nat.lt_of_lt_of_le h1 hS.1) (fun z => h2 (hF0 q z))]; exact hS.2.1 q h1 h2, fun q hq => by
      rcases List.mem_append.mp hq with h | h
      · exact hS.2.2 q h
      · exact hF0 _ (hL q h)⟩ T' rfl X'
  exact ⟨t2, st t2 a1, b1⟩
theorem dm_call {S : dm_S} {y : Nat} {as : List Value} {S2 : dm_S} {hF : dm_H} {r : Option Value} (E : dm_E D p s mm args meth c m) (X : dm_X scr b s A) (hA : ∀ q, s.heap.size ≤ q → A q) (hRf : mF m ≤ R.frames) (hRl : mL m ≤ R.locals)
    (hs : dm_st scr m S = some (.inr (.inr (y, as, S2)))) (hM : dm_Met (dm_sc scr y) l D y as S.2.2.2 r hF) (hm1 : S.2.2.2.1.length ≤ hF.1.length) (hm2 : dm_sz S.2.2.2.1 ≤ dm_sz hF.1)
    (hok : hF.1 = S.2.2.2.1 ∨ dm_okl S.2.2.2.1.length S2.2.1 S2.2.2.1 = true) (hRc : cells + (hF.1.length - S.2.2.2.1.length) ≤ R.cells ∧ slots + (dm_sz hF.1 - dm_sz S.2.2.2.1) ≤ R.slots)
    (kk : ∀ (ad' : Nat → Nat) (ca' : Nat → ClassId), (∀ k, k < S.2.2.2.1.length → ad' k = ad k) → (hF.1 = S.2.2.2.1 → ad' = ad) → dm_go D p l e R s mm args below meth c Q A b m ad' ca' (cells + (hF.1.length - S.2.2.2.1.length)) (slots + (dm_sz hF.1 - dm_sz S.2.2.2.1)) (S2.1, S2.2.1, r.toList ++ S2.2.2.1, hF)) :
    dm_go D p l e R s mm args below meth c Q A b m ad ca cells slots S := by
  obtain ⟨ins, len, hd, hn, hx⟩ := dm_st_inv hs
  obtain ⟨pc, ls, st, h⟩ := S
  dsimp only at hd hx hM hm1 hm2 hok hRc kk ⊢
  intro H locs arr hl hg hW hS
  obtain ⟨hx0, hb, hml, ho, hts, hini, hK, hN, hAO⟩ := id E
  have hpc := dm_x_C hx
  have hl : dm_lh arr (mX m) (dm_cv ad b) ls := hl
  have hg : dm_lg m ls := hg
  have hW : dm_W D A b ad ca h s H := hW
  obtain ⟨i, kd, rest, e2, hk⟩ := (hpc : ∃ i kd r, S2 = (pc + 3, ls, r, h) ∧ _)
  subst e2
  dsimp only at hok kk
  -- behind the call
  have after : ∀ (a : Array Value) (mc ms : Nat), mc = hF.1.length - h.1.length → ms = dm_sz hF.1 - dm_sz h.1 → va_Run p l e R s mm args below meth c H locs cells slots mc ms (F0 mm pc arr (st.map (dm_cv ad b))) (rest.map (dm_cv ad b)) (dm_Qc D b ad ca h hF r H.size a) (va_A (dm_w (dm_cv ad b) ad ca h) H.size) →
      W p l e R s mm args below meth c H locs cells slots Q (F0 mm pc arr (st.map (dm_cv ad b))) := by
    intro a mc ms e1 e2 hr
    subst e1
    subst e2
    refine dm_join hr hS hW.2.1 hA (fun ad' ca' H1 locs1 had hsame hW1 hS1 => ?_)
    have e3 : rest.map (dm_cv ad' b) = rest.map (dm_cv ad b) := by
      rcases hok with h1 | h1
      · rw [hsame h1]
      · exact dm_okl_st had h1
    have hl' : dm_lh arr (mX m) (dm_cv ad' b) ls := by
      rcases hok with h1 | h1
      · rw [hsame h1]; exact hl
      · exact dm_okl_lh had h1 hl
    have k1 := kk ad' ca' had hsame H1 locs1 arr hl' hg hW1 hS1
    dsimp only at k1
    have e4 : (r.toList ++ rest).map (dm_cv ad' b) = (r.map (dm_cv ad' b)).toList ++ rest.map (dm_cv ad b) := by
      rw [List.map_append, e3]
      cases r <;> rfl
    rw [e4] at k1
    exact k1
  have hcs := dm_cat_sum (rest.map (dm_cv ad b))
  rw [List.length_map] at hcs
  have pcU : ∀ U : State, U.heap = H → s.WarmedH U.vm → dm_Pc (dm_sc scr y) D b ad ca h H.size as (as.map (dm_cv ad b)).toArray U := by
    intro U hU hWm
    refine ⟨rfl, by rw [hU], ?_, va_K.moved hWm.alike hK, fun w hw => dm_N_warm hw hWm (hN w hw), va_AO.moved hWm.alike hAO, ?_⟩
    · rw [hU]
      exact dm_W.moved hWm.alike ⟨hW.1, hW.2.1.weaken (fun _ _ _ _ => trivial), hW.2.2.1, hW.2.2.2⟩
    · intro L xs z
      have z1 : scr = some (L, xs) := by
        unfold dm_sc at z
        split at z
        · exact z
        · cases z
      obtain ⟨x1, x2, x3⟩ := X L xs z1
      rw [hU]
      refine ⟨va_X.moved hWm.alike (x1.kept (hS.2.1 b x2 x3)), Nat.lt_of_lt_of_le x2 hS.1, fun k hk e => x3 ?_⟩
      obtain ⟨kd, hkd⟩ : ∃ kd, h.1[k]? = some kd := ⟨_, List.getElem?_eq_getElem hk⟩
      have h5 := hW.2.1.2 k _ (dm_w_get (f := dm_cv ad b) (ad := ad) (ca := ca) hkd)
      rw [← e]
      exact h5
  rcases hk with ⟨rfl, hk⟩ | ⟨rfl, hk⟩ | ⟨rfl, hk⟩
  · -- invokevirtual
    obtain rfl : 3 = len := hn.resolve_left (by simp [dm_len])
    obtain ⟨hrM, hks, h7, h8, h9, hst, hlen, hr4, hf1, hf2, haok, hrcv⟩ := hk
    obtain ⟨hw, hck⟩ := dm_okM hrM
    have hkd : kd = 0 ∨ kd = 1 := by simpa using hks
    obtain ⟨a, as', rfl, ci, hci, hOc, hc11⟩ : ∃ a as', as = .ref a :: as' ∧ ∃ ci, h.1[a]? = some (0, ci) ∧ mO y = ci ∧ ci < 10 := by
      cases as with
      | nil => rcases hkd with rfl | rfl <;> simp [dm_rcv] at hrcv
      | cons v as' =>
        cases v with
        | ref a =>
          refine ⟨a, as', rfl, ?_⟩
          have hq : (kd == 0 || kd == 1) = true := by rcases hkd with rfl | rfl <;> rfl
          simp only [dm_rcv, hq, if_true] at hrcv
          split at hrcv
          · next ci hci =>
            simp only [Bool.and_eq_true, beq_iff_eq, decide_eq_true_eq] at hrcv
            exact ⟨ci, hci, hrcv.1, hrcv.2⟩
          · cases hrcv
        | _ => rcases hkd with rfl | rfl <;> simp [dm_rcv] at hrcv
    have hck7 := hck
    simp only [dm_ckm, Bool.or_eq_true, Bool.and_eq_true, bne_iff_ne, ne_eq, beq_iff_eq, decide_eq_true_eq] at hck
    obtain ⟨⟨⟨⟨⟨⟨hmh, hpl⟩, hown⟩, hini0⟩, hmx⟩, hmn⟩, hcw⟩ := hck.resolve_left h7
    have hcwT := dm_cw_T hcw
    obtain ⟨q, hq⟩ : ∃ q, dm_cl[ci]? = some q := ⟨_, List.getElem?_eq_getElem (show ci < dm_cl.length from hc11)⟩
    obtain ⟨o1, o2, o3, o4, o5⟩ := dm_okK hq
    have hrecv := va_recv hK hW.1 hq (dm_w_get (f := dm_cv ad b) (ad := ad) (ca := ca) hci)
    have hcls : q.1 = (mY y).cls := by rw [o5, hown]; unfold dm_own; rw [hOc]
    rw [hcls] at hrecv
    have hn' : (as'.map (dm_cv ad b)).length = mN y := by
      have hz : ¬ (kd = 2 ∨ kd = 3) := by rcases hkd with rfl | rfl <;> decide
      rw [if_neg hz] at hlen
      rw [List.length_map]
      simp only [List.length_cons] at hlen
      omega
    have hstk : st.map (dm_cv ad b) = (as'.map (dm_cv ad b)).reverse ++ .ref (ad a) :: rest.map (dm_cv ad b) := by
      rw [hst]
      simp [dm_cv]
    rcases hkd with rfl | rfl
    · have w1 := dm_TN (hw (.methodLink (dm_ow.getD (mO m) "") i (mY y)) (by simp [dm_wM])) rfl
      have w2 := dm_TN (hw (.instanceMethod (mY y)) (by simp [dm_wM])) rfl
      have w3 := dm_TN (hw (.selects (mY y).cls (mY y) (mY y)) (by simp [dm_wM])) rfl
      have w4 := dm_TN (hw (.initialized (mY y).cls) (by simp [dm_wM])) rfl
      have hGood : GoodIn (dm_Ts m) (wsV (dm_own m) i (mY y).cls (mY y) (dm_Ts y)) := dm_good (fun w hw9 => by
        simp only [wsV, dm_Ts, List.mem_append, List.mem_cons, List.mem_nil_iff, or_false] at hw9
        rcases hw9 with (rfl | rfl | rfl | rfl) | rfl | hw9
        · exact w1
        · exact w2
        · exact w3
        · exact w4
        · exact hcwT
        · exact hw9)
      exact after _ _ _ rfl rfl (va_runV (As := as'.map (dm_cv ad b)) (b := ad a) (C := (mY y).cls) ⟨hx0, hb, hml, ho, hts⟩ (hM b ad ca H.size) (cwV (mN y) hts hGood rfl rfl rfl ⟨rfl, hmh⟩ ⟨by show mF y + 1 ≤ R.frames; omega, by show 8 + (mX y + 11) + mL y ≤ R.locals; omega⟩) ⟨dm_Pc_blind, hrecv, pcU⟩ rfl hn' hl.1 hstk (lv_room (by omega)) hd hRc)
    · have w1 := dm_NT (hw (.methodLinkNest (dm_ow.getD (mO m) "") i (mY y) "BlindGuides") (by simp [dm_wM])) rfl
      have w2 := dm_TN (hw (.instanceMethod (mY y)) (by simp [dm_wM])) rfl
      have w3 := dm_TN (hw (.selects (mY y).cls (mY y) (mY y)) (by simp [dm_wM])) rfl
      have w4 := dm_TN (hw (.initialized (mY y).cls) (by simp [dm_wM])) rfl
      have hGood : GoodIn (dm_Ts m) (dm_Ts y) := dm_good (fun w hw9 => by
        rcases List.mem_cons.mp hw9 with rfl | hw9
        · exact hcwT
        · exact hw9)
      exact after _ _ _ rfl rfl (va_runVN (As := as'.map (dm_cv ad b)) (b := ad a) (C := (mY y).cls) ⟨hx0, hb, hml, ho, hts⟩ (hM b ad ca H.size) ⟨va_cnB (mN y) hts hGood rfl rfl rfl (hN _ w1) (hts _ (List.mem_cons_of_mem _ w4)) hmh ⟨by show mF y + 1 ≤ R.frames; omega, by show 8 + (mX y + 11) + mL y ≤ R.locals; omega⟩, hts _ (List.mem_cons_of_mem _ w2), hts _ (List.mem_cons_of_mem _ w3)⟩ ⟨dm_Pc_blind, hrecv, pcU⟩ rfl hn' hl.1 hstk (lv_room (by omega)) hd hRc)
  · -- invokestatic
    obtain rfl : 3 = len := hn.resolve_left (by simp [dm_len])
    obtain ⟨hrM, hks, h7, h8, h9, hst, hlen, hr4, hf1, hf2, haok, hrcv⟩ := hk
    obtain ⟨hw, hck⟩ := dm_okM hrM
    have hkd : kd = 2 ∨ kd = 3 := by
      simp only [List.mem_cons, List.mem_nil_iff, or_false] at hks
      omega
    simp only [dm_ckm, Bool.or_eq_true, Bool.and_eq_true, bne_iff_ne, ne_eq, beq_iff_eq, decide_eq_true_eq] at hck
    obtain ⟨⟨⟨⟨⟨⟨hmh, hpl⟩, hown⟩, hini0⟩, hmx⟩, hmn⟩, hcw⟩ := hck.resolve_left h7
    have hcwT := dm_cw_T hcw
    have hn' : (as.map (dm_cv ad b)).length = mN y := by
      rw [if_pos hkd] at hlen
      rw [List.length_map]
      omega
    have hstk : st.map (dm_cv ad b) = (as.map (dm_cv ad b)).reverse ++ rest.map (dm_cv ad b) := by
      rw [hst]
      simp
    rcases hkd with rfl | rfl
    · have w1 := dm_TN (hw (.methodLink (dm_ow.getD (mO m) "") i (mY y)) (by simp [dm_wM])) rfl
      have w2 := dm_TN (hw (.static (mY y)) (by simp [dm_wM])) rfl
      have w4 := dm_TN (hw (.initialized (mY y).cls) (by simp [dm_wM])) rfl
      have hGood : GoodIn (dm_Ts m) (va_wsS (dm_own m) i (mY y) (dm_Ts y)) := dm_good (fun w hw9 => by
        simp only [va_wsS, dm_Ts, List.mem_append, List.mem_cons, List.mem_nil_iff, or_false] at hw9
        rcases hw9 with (rfl | rfl | rfl) | rfl | hw9
        · exact w1
        · exact w2
        · exact w4
        · exact hcwT
        · exact hw9)
      exact after _ _ _ rfl rfl (va_runS (As := as.map (dm_cv ad b)) ⟨hx0, hb, hml, ho, hts⟩ (hM b ad ca H.size) (va_cwS (mN y) hts hGood rfl rfl rfl hmh ⟨by show mF y + 1 ≤ R.frames; omega, by show 8 + (mX y + 11) + mL y ≤ R.locals; omega⟩) ⟨dm_Pc_blind, pcU⟩ rfl hn' hl.1 hstk (lv_room (by omega)) hd hRc)
    · have w1 := dm_NT (hw (.methodLinkNest (dm_ow.getD (mO m) "") i (mY y) "BlindGuides") (by simp [dm_wM])) rfl
      have w2 := dm_TN (hw (.static (mY y)) (by simp [dm_wM])) rfl
      have w4 := dm_TN (hw (.initialized (mY y).cls) (by simp [dm_wM])) rfl
      have hGood : GoodIn (dm_Ts m) (dm_Ts y) := dm_good (fun w hw9 => by
        rcases List.mem_cons.mp hw9 with rfl | hw9
        · exact hcwT
        · exact hw9)
      exact after _ _ _ rfl rfl (va_runSN (As := as.map (dm_cv ad b)) ⟨hx0, hb, hml, ho, hts⟩ (hM b ad ca H.size) ⟨va_cnB (mN y) hts hGood rfl rfl rfl (hN _ w1) (hts _ (List.mem_cons_of_mem _ w4)) hmh ⟨by show mF y + 1 ≤ R.frames; omega, by show 8 + (mX y + 11) + mL y ≤ R.locals; omega⟩, hts _ (List.mem_cons_of_mem _ w2), trivial⟩ ⟨dm_Pc_blind, pcU⟩ rfl hn' hl.1 hstk (lv_room (by omega)) hd hRc)
  · -- invokespecial
    obtain rfl : 3 = len := hn.resolve_left (by simp [dm_len])
    obtain ⟨hrM, hks, h7, h8, h9, hst, hlen, hr4, hf1, hf2, haok, hrcv⟩ := hk
    obtain ⟨hw, hck⟩ := dm_okM hrM
    have hkd : kd = 5 ∨ kd = 6 := by
      simp only [List.mem_cons, List.mem_nil_iff, or_false] at hks
      omega
    simp only [dm_ckm, Bool.or_eq_true, Bool.and_eq_true, bne_iff_ne, ne_eq, beq_iff_eq, decide_eq_true_eq] at hck
    obtain ⟨⟨⟨⟨⟨⟨hmh, hpl⟩, hown⟩, hini0⟩, hmx⟩, hmn⟩, hcw⟩ := hck.resolve_left h7
    have hcwT := dm_cw_T hcw
    have hini1 : (mY y).name = "<init>" ∧ mR y = none := hini0.resolve_right (fun z => by
      rcases hkd with rfl | rfl
      · exact z.1 rfl
      · exact z.2 rfl)
    obtain ⟨a, as', rfl⟩ : ∃ a as', as = .ref a :: as' := by
      cases as with
      | nil => rcases hkd with rfl | rfl <;> simp [dm_rcv] at hrcv
      | cons v as' =>
        cases v with
        | ref a => exact ⟨a, as', rfl⟩
        | _ => rcases hkd with rfl | rfl <;> simp [dm_rcv] at hrcv
    have hn' : (as'.map (dm_cv ad b)).length = mN y := by
      have hz : ¬ (kd = 2 ∨ kd = 3) := by rcases hkd with rfl | rfl <;> decide
      rw [if_neg hz] at hlen
      rw [List.length_map]
      simp only [List.length_cons] at hlen
      omega
    have hstk : st.map (dm_cv ad b) = (as'.map (dm_cv ad b)).reverse ++ .ref (ad a) :: rest.map (dm_cv ad b) := by
      rw [hst]
      simp [dm_cv]
    have hTs : dm_Ts y = Cond.code (mY y) (mB y) (mX y) none :: dm_T := by unfold dm_Ts; rw [hini1.2]
    have hGood : GoodIn (dm_Ts m) (dm_Ts y) := dm_good (fun w hw9 => by
      rcases List.mem_cons.mp hw9 with rfl | hw9
      · exact hcwT
      · exact hw9)
    rcases hkd with rfl | rfl
    · have w1 := dm_TN (hw (.methodLink (dm_ow.getD (mO m) "") i (mY y)) (by simp [dm_wM])) rfl
      have w2 := dm_TN (hw (.instanceMethod (mY y)) (by simp [dm_wM])) rfl
      have w4 := dm_TN (hw (.initialized (mY y).cls) (by simp [dm_wM])) rfl
      exact after _ _ _ rfl rfl (va_runI (As := as'.map (dm_cv ad b)) (b := ad a) ⟨hx0, hb, hml, ho, hts⟩ (hM b ad ca H.size) (cwI (mN y) hts hGood hTs rfl rfl (hts _ (List.mem_cons_of_mem _ w4)) (hts _ (List.mem_cons_of_mem _ w1)) (hts _ (List.mem_cons_of_mem _ w2)) hini1.1 hmh ⟨by show mF y + 1 ≤ R.frames; omega, by show 8 + (mX y + 11) + mL y ≤ R.locals; omega⟩) ⟨dm_Pc_blind, pcU⟩ rfl hn' hl.1 hstk (lv_room (by omega)) hd hRc)
    · have w1 := dm_NT (hw (.methodLinkNest (dm_ow.getD (mO m) "") i (mY y) "BlindGuides") (by simp [dm_wM])) rfl
      have w2 := dm_TN (hw (.instanceMethod (mY y)) (by simp [dm_wM])) rfl
      have w4 := dm_TN (hw (.initialized (mY y).cls) (by simp [dm_wM])) rfl
      exact after _ _ _ rfl rfl (va_runIN (As := as'.map (dm_cv ad b)) (b := ad a) ⟨hx0, hb, hml, ho, hts⟩ (hM b ad ca H.size) ⟨va_cnB (mN y) hts hGood hTs rfl rfl (hN _ w1) (hts _ (List.mem_cons_of_mem _ w4)) hmh ⟨by show mF y + 1 ≤ R.frames; omega, by show 8 + (mX y + 11) + mL y ≤ R.locals; omega⟩, hini1.1, hts _ (List.mem_cons_of_mem _ w2)⟩ ⟨dm_Pc_blind, pcU⟩ rfl hn' hl.1 hstk (lv_room (by omega)) hd hRc)
end DMC
end
section
/-! the soundness of runs, by the fuel -/
theorem dm_ia_len : ∀ as : List Value, (dm_ia as).length = (lg_sl as).length
  | [] => rfl
  | v :: as => by
    have h := dm_ia_len as
    unfold dm_ia lg_sl at h ⊢
    rw [List.flatMap_cons, List.flatMap_cons, List.length_append, List.length_append, h]
    by_cases hc : v.category = 2
    · rw [if_pos hc, if_pos hc]; rfl
    · rw [if_neg hc, if_neg hc]; rfl
theorem dm_ia_at : ∀ (as : List Value) (i j : Nat) (v : Value), (dm_ia as)[j]? = some (some v) → (i + j, v) ∈ lv_args i as
  | [], i, j, v, h => by simp [dm_ia] at h
  | a :: as, i, j, v, h => by
    have ih := dm_ia_at as
    unfold dm_ia at h ih
    rw [List.flatMap_cons] at h
    simp only [lv_args]
    by_cases hc : a.category = 2
    · rw [if_pos hc] at h ⊢
      rcases j with _ | _ | j
      · simp only [List.cons_append, List.getElem?_cons_zero, Option.some.injEq] at h
        subst h
        exact List.mem_cons_self
      · simp at h
      · have h1 := ih (i + 2) j v (by simpa using h)
        rw [show i + (j + 1 + 1) = i + 2 + j by omega]
        exact List.mem_cons_of_mem _ h1
    · rw [if_neg hc] at h ⊢
      rcases j with _ | j
      · simp only [List.cons_append, List.getElem?_cons_zero, Option.some.injEq] at h
        subst h
        exact List.mem_cons_self
      · have h1 := ih (i + 1) j v (by simpa using h)
        rw [show i + (j + 1) = i + 1 + j by omega]
        exact List.mem_cons_of_mem _ h1
theorem dm_args_map {f : Value → Value} (hf : ∀ v, (f v).category = v.category) : ∀ (as : List Value) (i : Nat), lv_args i (as.map f) = (lv_args i as).map (fun q => (q.1, f q.2))
  | [], _ => rfl
  | a :: as, i => by
    simp only [List.map_cons, lv_args, hf]
    rw [dm_args_map hf as]
theorem dm_sl_map {f : Value → Value} (hf : ∀ v, (f v).category = v.category) (as : List Value) : (lg_sl (as.map f)).length = (lg_sl as).length := by
  induction as with
  | nil => rfl
  | cons v as ih =>
    unfold lg_sl at ih ⊢
    rw [List.map_cons, List.flatMap_cons, List.flatMap_cons, List.length_append, List.length_append, ih, hf]
    by_cases hc : v.category = 2
    · rw [if_pos hc, if_pos hc]; rfl
    · rw [if_neg hc, if_neg hc]; rfl
theorem dm_in0_at {y : Nat} {as : List Value} {k : Nat} {v : Value} (h : (dm_in0 y as)[k]? = some (some v)) : (k, v) ∈ lv_args 0 as := by
  unfold dm_in0 at h
  rcases Nat.lt_or_ge k (dm_ia as).length with hk | hk
  · rw [List.getElem?_append_left hk] at h
    have := dm_ia_at as 0 k v h
    rwa [Nat.zero_add] at this
  · rw [List.getElem?_append_right hk] at h
    have hm := List.mem_of_getElem? h
    rw [List.mem_replicate] at hm
    cases hm.2
theorem dm_in0_lg {y : Nat} {as : List Value} (h : dm_aok y as = true) : dm_lg y (dm_in0 y as) := by
  simp only [dm_aok, Bool.and_eq_true, decide_eq_true_eq, List.all_eq_true, Bool.or_eq_true, bne_iff_ne, ne_eq, List.contains_iff_mem] at h
  refine ⟨?_, fun k v hk hc => ?_⟩
  · unfold dm_in0
    rw [List.length_append, List.length_replicate, dm_ia_len]
    omega
  · exact (h.2 (k, v) (dm_in0_at hk)).resolve_left (fun z => z hc)
theorem dm_in0_lh {y : Nat} {as : List Value} {ad : Nat → Nat} {b : Nat} (h : dm_aok y as = true) : dm_lh ((lg_sl (as.map (dm_cv ad b)) ++ List.replicate (mX y - (lg_sl (as.map (dm_cv ad b))).length) Slot.unset).toArray) (mX y) (dm_cv ad b) (dm_in0 y as) := by
  have h1 := lv_entry (as.map (dm_cv ad b)) (n := mX y) (by
    rw [dm_sl_map (dm_cv_cat ad b)]
    simp only [dm_aok, Bool.and_eq_true, decide_eq_true_eq] at h
    exact h.1)
  refine ⟨h1.1, h1.2.1, fun k v hk => ?_⟩
  refine h1.2.2 (k, dm_cv ad b v) ?_
  rw [dm_args_map (dm_cv_cat ad b)]
  exact List.mem_map.mpr ⟨(k, v), dm_in0_at hk, rfl⟩
def dm_Snd (n : Nat) : Prop := ∀ {scr : dm_Sc} {m : Nat} {S : dm_S} {r : Option Value} {hF : dm_H}, dm_run scr n m S = some (r, hF) →
  ∀ {D : va_G} {p : Program} {l : Launch} {e : Env} {R : Room} {s : State} {mm : MethodId} {args : Array Value} {below : List Frame} {meth : Method} {c : Code} {Q : State → Prop} {A : Nat → Prop} {b : Nat} {ad : Nat → Nat} {ca : Nat → ClassId} {k0 z0 : Nat},
  dm_E D p s mm args meth c m → dm_X scr b s A → (∀ q, s.heap.size ≤ q → A q) → mF m ≤ R.frames → mL m ≤ R.locals → k0 ≤ S.2.2.2.1.length → z0 ≤ dm_sz S.2.2.2.1 → hF.1.length - k0 ≤ R.cells → dm_sz hF.1 - z0 ≤ R.slots →
  (∀ (ad' : Nat → Nat) (ca' : Nat → ClassId) (pc : Nat) (arr : Array Slot) (H : Heap) (locs : List Loc), dm_rok m pc r → (∀ k, k < S.2.2.2.1.length → ad' k = ad k) → (hF.1 = S.2.2.2.1 → ad' = ad) → dm_W D A b ad' ca' hF s H → va_S A s.heap H locs → W p l e R s mm args below meth c H locs (hF.1.length - k0) (dm_sz hF.1 - z0) Q (F0 mm pc arr (r.map (dm_cv ad' b)).toList)) →
  dm_go D p l e R s mm args below meth c Q A b m ad ca (S.2.2.2.1.length - k0) (dm_sz S.2.2.2.1 - z0) S
theorem dm_met {scr : dm_Sc} {n y : Nat} {as : List Value} {h : dm_H} {r : Option Value} {hF : dm_H} (hn : dm_Snd n) (hr : dm_run scr n y (0, dm_in0 y as, [], h) = some (r, hF)) (ha : dm_aok y as = true) (hp : plainName (mY y).cls = true) (ho : (mY y).cls = dm_own y) (l : Launch) (D : va_G) : dm_Met scr l D y as h r hF := by
  intro b ad ca sz
  refine Met.ofW (cc := mB y) (maxL := mX y) (ret := mR y) hp rfl ?_
  intro p e s mm args below meth c s₁ B hml hv
  obtain ⟨rfl, hsz, hW, hK, hN, hAO, hXX⟩ := hv
  subst hsz
  have E : dm_E D p s mm (as.map (dm_cv ad b)).toArray meth c y := ⟨B.exec, B.bytes, hml, by rw [← ho]; exact findClass_of_methodNamed B.named, atoms_spec (ws := dm_Ts y) B.pre, fun hi => by rw [(name_of_methodNamed B.named B.method).1]; exact hi, hK, hN, hAO⟩
  have hmono := dm_run_mono n hr
  dsimp only at hmono
  have hW' : dm_W D (va_A (dm_w (dm_cv ad b) ad ca h) s.heap.size) b ad ca h s s.heap := ⟨hW.1, hW.2.1.self, hW.2.2.1, hW.2.2.2⟩
  have k1 := hn hr (D := D) (l := l) (e := e) (below := below) (R := dm_rm y h hF) (A := va_A (dm_w (dm_cv ad b) ad ca h) s.heap.size) (b := b) (ad := ad) (ca := ca) (k0 := h.1.length) (z0 := dm_sz h.1)
    (Q := MQ below (dm_Qc D b ad ca h hF r s.heap.size) (as.map (dm_cv ad b)).toArray s (hF.1.length - h.1.length) (dm_sz hF.1 - dm_sz h.1) (va_A (dm_w (dm_cv ad b) ad ca h) s.heap.size)) E (fun L xs z => ⟨(hXX L xs z).1, (hXX L xs z).2.1, fun z2 => by
      rcases z2 with ⟨k, e1, hk⟩ | hq
      · obtain ⟨kd, h6, e2⟩ := dm_w_at hk
        exact (hXX L xs z).2.2 k (List.getElem?_eq_some_iff.mp h6).1 (congrArg Prod.fst e2).symm
      · have := (hXX L xs z).2.1
        omega⟩) (fun q hq => Or.inr hq) (Nat.le_refl _) (Nat.le_refl _) (Nat.le_refl _) (Nat.le_refl _) (Nat.le_refl _) (Nat.le_refl _) ?_
  · have k2 := k1 s.heap [] _ (dm_in0_lh ha) (dm_in0_lg ha) hW' va_S.rf
    dsimp only at k2
    rw [Nat.sub_self, Nat.sub_self] at k2
    rw [lg_entry_eq]
    exact k2
  · intro ad' ca' pc arr H locs hrk had hsame hW1 hS1
    have hq : ∀ (o : Outcome) (t : State), o = .returned (r.map (dm_cv ad' b)) → t.heap = H → s.WarmedH t.vm → dm_Qc D b ad ca h hF r s.heap.size (as.map (dm_cv ad b)).toArray s o t := by
      intro o t ho1 ht hWm
      refine ⟨⟨ad', ca', ho1, had, hsame, ?_⟩, hS1.F ht⟩
      rw [ht]
      exact dm_W.moved hWm.alike hW1
    rcases hrk with ⟨rfl, hR, hd⟩ | ⟨x, t, rfl, hR, hnar, hd⟩ | ⟨x, t, rfl, hR, ht, hd⟩
    · exact W.vret B.exec B.bytes (by rw [B.returns]; exact hR) (fun t ht hWm => hq _ t rfl ht hWm) hS1.2.2 hd B.notSynchronized
    · exact W.zret B.exec B.bytes (by rw [B.returns]; exact hR) hnar (fun t ht hWm => hq _ t rfl ht hWm) hS1.2.2 hd B.notSynchronized
    · exact W.aret B.exec B.bytes (by rw [B.returns]; exact hR) ht (Or.inr ⟨_, rfl⟩) (fun t ht hWm => hq _ t rfl ht hWm) hS1.2.2 hd B.notSynchronized
theorem dm_snd : ∀ n, dm_Snd n := by
  intro n
  induction n with
  | zero => intro scr m S r hF h; simp [dm_run] at h
  | succ n ih =>
    intro scr m S r hF h D p l e R s mm args below meth c Q A b ad ca k0 z0 E X hA hRf hRl hk0 hz0 hRc hRs hret
    have hmono := dm_run_mono (n + 1) h
    simp only [dm_run] at h
    split at h
    · cases h
    · next S' hS =>
      have hm2 := dm_run_mono n h
      obtain ⟨ins, len, -, -, hx⟩ := dm_st_inv hS
      have hK : S'.2.2.2.1 = S.2.2.2.1 ∨ ∃ kd, S'.2.2.2.1 = S.2.2.2.1 ++ [kd] := dm_x_K hx
      have hgrow : S.2.2.2.1.length ≤ S'.2.2.2.1.length ∧ dm_sz S.2.2.2.1 ≤ dm_sz S'.2.2.2.1 := by
        rcases hK with e1 | ⟨kd, e1⟩
        · rw [e1]; exact ⟨Nat.le_refl _, Nat.le_refl _⟩
        · rw [e1, dm_sz_app, List.length_append]; omega
      refine dm_step E X hA hRf hRl hS hk0 hz0 (by omega) (by omega) (fun ad' ca' had hsame => ?_)
      refine ih h E X hA hRf hRl (by omega) (by omega) hRc hRs (fun ad2 ca2 pc arr H locs hrk had2 hsame2 hW hS2 => ?_)
      refine hret ad2 ca2 pc arr H locs hrk (fun k hk => (had2 k (by omega)).trans (had k hk)) (fun z => ?_) hW hS2
      have e1 : S'.2.2.2.1 = S.2.2.2.1 := by
        rcases hK with e1 | ⟨kd, e1⟩
        · exact e1
        · have h5 := hm2.1
          rw [z, e1, List.length_append] at h5
          simp only [List.length_cons, List.length_nil] at h5
          omega
      rw [hsame2 (z.trans e1.symm), hsame e1]
    · next R' hS =>
      cases h
      obtain ⟨ins, len, hd, hn, hx⟩ := dm_st_inv hS
      have h1 : hF = S.2.2.2 ∧ S.2.2.1 = r.toList := dm_x_K hx
      have h2 : decode (mB m) S.1 = .ok (ins, len) → dm_len ins = 0 ∨ dm_len ins = len → dm_rok m S.1 r := dm_x_R (len := len) hx
      obtain ⟨e1, e2⟩ := h1
      subst e1
      intro H locs arr hl hg hW hS2
      have k1 := hret ad ca S.1 arr H locs (h2 hd hn) (fun _ _ => rfl) (fun _ => rfl) hW hS2
      have e3 : S.2.2.1.map (dm_cv ad b) = (r.map (dm_cv ad b)).toList := by
        rw [e2]
        cases r <;> rfl
      rw [e3]
      exact k1
    · next y as pc ls st hh hS =>
      split at h
      · cases h
      · next r' h' hr =>
        split at h
        · next hc =>
          obtain ⟨ins, len, hd, hn, hx⟩ := dm_st_inv hS
          have hKh : hh = S.2.2.2 := dm_x_K hx
          subst hKh
          have hm3 := dm_run_mono n hr
          have hm4 := dm_run_mono n h
          dsimp only at hm3 hm4
          obtain ⟨i, kd, rest, e2, hk⟩ := (dm_x_C hx : ∃ i kd r, (pc, ls, st, S.2.2.2) = (S.1 + 3, S.2.1, r, S.2.2.2) ∧ _)
          have hall : dm_aok y as = true ∧ ∃ o, rM (mO m) o = some (y, kd) ∧ kd ≠ 7 ∧ kd ≠ 8 ∧ kd ≠ 9 := by
            rcases hk with ⟨-, hk⟩ | ⟨-, hk⟩ | ⟨-, hk⟩
            · exact ⟨hk.2.2.2.2.2.2.2.2.2.2.1, i, hk.1, hk.2.2.1, hk.2.2.2.1, hk.2.2.2.2.1⟩
            · exact ⟨hk.2.2.2.2.2.2.2.2.2.2.1, i, hk.1, hk.2.2.1, hk.2.2.2.1, hk.2.2.2.2.1⟩
            · exact ⟨hk.2.2.2.2.2.2.2.2.2.2.1, i, hk.1, hk.2.2.1, hk.2.2.2.1, hk.2.2.2.2.1⟩
          obtain ⟨haok, o, hrM, h7, h8, h9⟩ := hall
          obtain ⟨-, hck⟩ := dm_okM hrM
          simp only [dm_ckm, Bool.or_eq_true, Bool.and_eq_true, bne_iff_ne, ne_eq, beq_iff_eq, decide_eq_true_eq] at hck
          obtain ⟨⟨⟨⟨⟨⟨hmh, hpl⟩, hown⟩, hini0⟩, hmx⟩, hmn⟩, hcw⟩ := hck.resolve_left h7
          have hpl : plainName (mY y).cls = true := hpl.resolve_left (fun z => z.elim h8 h9)
          have hM := dm_met ih hr haok hpl hown l D
          simp only [Bool.or_eq_true, decide_eq_true_eq] at hc
          have hls : ls = S.2.1 := congrArg (fun q : dm_S => q.2.1) e2
          refine dm_call E X hA hRf hRl hS hM hm3.1 hm3.2 hc ⟨by omega, by omega⟩ (fun ad' ca' had hsame => ?_)
          have e3 : S.2.2.2.1.length - k0 + (h'.1.length - S.2.2.2.1.length) = h'.1.length - k0 := by omega
          have e4 : dm_sz S.2.2.2.1 - z0 + (dm_sz h'.1 - dm_sz S.2.2.2.1) = dm_sz h'.1 - z0 := by omega
          rw [e3, e4]
          refine ih h E X hA hRf hRl (by dsimp only; omega) (by dsimp only; omega) hRc hRs (fun ad2 ca2 pc2 arr H locs hrk had2 hsame2 hW hS2 => ?_)
          dsimp only at had2 hsame2
          refine hret ad2 ca2 pc2 arr H locs hrk (fun k hk => (had2 k (by omega)).trans (had k hk)) (fun z => ?_) hW hS2
          obtain ⟨x1, x2⟩ := dm_run_pre n hr
          obtain ⟨x3, x4⟩ := dm_run_pre n h
          dsimp only at x2 x4
          have e5 : h'.1 = S.2.2.2.1 := by
            have h5 : hF.1.length = S.2.2.2.1.length := by rw [z]
            have h6 : x1 = [] := by
              have := congrArg List.length x2
              simp only [List.length_append] at this
              exact List.eq_nil_of_length_eq_zero (by omega)
            rw [x2, h6, List.append_nil]
          rw [hsame2 (z.trans e5.symm), hsame e5]
        · cases h
end
section
/-! THE CLAIM OUT OF ONE WALK OF THE LAW'S BODY. Your part is whole_start (and what it stands on); all else here is the same for every law, but numbers. -/
def R_law : String := "BlindGuidesLaw"
def lw_P (b : Addr) (xs : List Int32) (args : Array Value) (s : State) : Prop := args = #[.ref b] ∧ s.IntsAt b xs ∧ xs.length ≤ 260 ∧ (Jvm.Cond.and given_1 narrow_1).before args s = true
def lw_Q (_ : Array Value) (s : State) (o : Outcome) (t : State) : Prop := o = .returned (some (.int 1)) ∧ Framed s o t [] 600000 7302250
def lw_Z (below : List Frame) (a : Array Value) (s : State) : State → Prop := fun t => ∃ o, t.status = .running ∧ Ended t below o ∧ lw_Q a s o t
/-- the law's own end, with 1 on the stack, nothing written that was there before, its room as the claim has it -/
theorem lw_ret {p : Program} {l : Launch} {e : Env} {s : State} {m : MethodId} {below : List Frame} {meth : Method} {c : Code} {b : Nat} (hx : p.tables.exec = Jvm.exec) (hb : c.code = code) (hr : meth.sig.returnType = ret) (hlocks : meth.locks = false) {pc : Nat} {H : Heap} {ls : Array Slot} (hdg : decode code pc = .ok (.ireturn, 1)) : W p l e room_1 s m #[Value.ref b] below meth c H [] 600000 7302250 (lw_Z below #[Value.ref b] s) (F0 m pc ls [.int 1]) := by
  intro T hT X
  obtain ⟨fs, hret, hrun, hended, hW, hframe⟩ := X.leave (v := some (.int 1)) (hlocks := hlocks) (fun h => by rw [hr] at h; cases h)
  have hmeth' : T.vm.method? m = some meth := X.method'
  refine ⟨T.setFrames fs, ?_, .returned (some (.int 1)), hrun, hended, rfl, ⟨_, rfl⟩, hW, hframe⟩
  jvm_step X.here [X.here.top, hx, hb, hdg, hmeth', hr, ret, narrow_b1]
  (try refine ⟨rfl, ?_⟩); (try refine ⟨rfl, ?_⟩)
  first | (intro acts; rw [hret _ acts rfl rfl rfl]) | rw [hret _ _ rfl rfl rfl]
  exact Steps.refl _
/-- what holds at the law's entry: the machine, the code, the tables' words (any of lw_tbl by 'hts w (by decide +kernel)'), the script of L ints xs at the cell b, what the Statement gives of the start (any of its parts by flat_of_before) -/
def lw_At (p : Program) (s : State) (m : MethodId) (meth : Method) (c : Code) (b L : Nat) (xs : Nat → Int32) : Prop :=
  p.tables.exec = Jvm.exec ∧ c.code = code ∧ meth.sig.returnType = ret ∧ c.maxLocals = 30 ∧ s.vm.findClass R_law = some m.cls ∧ (∀ w ∈ lw_tbl, w.before #[Value.ref b] s = true) ∧ va_X b L xs s s.heap ∧ b < s.heap.size ∧ meth.locks = false ∧ (Jvm.Cond.and given_1 narrow_1).before #[Value.ref b] s = true ∧ (Jvm.Cond.code x code maxLocals ret).before #[Value.ref b] s = true
/-- the law's run on the abstract machine, from nothing, with the script xs of L ints: it ends, and answers 1 -/
def dm_law (L : Nat) (xs : Nat → Int32) : Prop := ∃ (n : Nat) (hF : dm_H), dm_run (some (L, xs)) n 132 (0, dm_in0 132 [.retAddr 0], [], ([], fun _ _ => .null)) = some (some (.int 1), hF) ∧ hF.1.length ≤ 600000 ∧ dm_sz hF.1 ≤ 7302250
theorem dm_inst : (List.range 10).all (fun c => match dm_cl[c]? with
  | some q => dm_has (.instantiable q.1 q.2.2)
  | none => false) = true := by decide +kernel
theorem dm_instT {c : Nat} {q : vw_C} (h : dm_cl[c]? = some q) : Cond.instantiable q.1 q.2.2 ∈ dm_T := by
  have hc : c < 10 := (List.getElem?_eq_some_iff.mp h).1
  have h1 := List.all_eq_true.mp dm_inst c (List.mem_range.mpr hc)
  rw [h] at h1
  exact dm_has_T h1
theorem whole_start (hrun : ∀ (L : Nat) (xs : Nat → Int32), L ≤ 260 → dm_law L xs) {p : Program} {e : Env} {s : State} {m : MethodId} {below : List Frame} {meth : Method} {c : Code} (l : Launch) (hflags : l.flags = flags0) {b L : Nat} {xs : Nat → Int32} (hL : L ≤ 260) (C0 : lw_At p s m meth c b L xs) : W p l e room_1 s m #[Value.ref b] below meth c s.heap [] 0 0 (lw_Z below #[Value.ref b] s) (entryFrame m ([Value.ref b] : List Value).toArray 30) := by
  obtain ⟨hx, hb, hr, hml, hown, hts, hX, hbl, hlocks, hgv, hcode⟩ := id C0
  obtain ⟨n, hF, hrn, hc1, hc2⟩ := hrun L xs hL
  have hkn : ∀ c : Nat, ∃ (cC : ClassId) (iS : Nat → Nat), ∀ q : vw_C, dm_cl[c]? = some q → u_Kn s q.1 q.2.1 q.2.2 cC iS := by
    intro c
    cases hq : dm_cl[c]? with
    | none => exact ⟨0, fun _ => 0, fun q z => by cases z⟩
    | some q =>
      obtain ⟨cC, iS, h1⟩ := u_known (C := q.1) (T := q.2.1) (N := q.2.2) (n := q.2.2) hts (fun w hw => dm_T_tbl ((dm_okK hq).1 w hw)) (hts _ (dm_T_tbl (dm_instT hq)))
      exact ⟨cC, iS, fun q' z => by cases z; exact h1⟩
  obtain ⟨dC, hdC⟩ := Classical.axiomOfChoice hkn
  obtain ⟨dI, hdI⟩ := Classical.axiomOfChoice hdC
  have hK : va_K (dC, dI) dm_cl [] s := ⟨fun c q hq => hdI c q hq, fun k q h => by simp at h⟩
  have E : dm_E (dC, dI) p s m #[Value.ref b] meth c 132 := ⟨hx, hb, hml, hown, fun w hw => by
    rcases List.mem_cons.mp hw with rfl | hw
    · exact hcode
    · exact hts _ (dm_T_tbl hw), fun z => absurd z (by decide +kernel), hK, fun w hw => va_Nw.of (dm_N_on hw) (hts _ (dm_N_tbl hw)), va_AO.of (hts _ dm_okA.2)⟩
  have hbA : ¬ (fun q : Nat => s.heap.size ≤ q) b := Nat.not_le.mpr hbl
  have k1 := dm_snd n hrn (D := (dC, dI)) (l := l) (e := e) (below := below) (R := room_1) (Q := lw_Z below #[Value.ref b] s) (A := fun q : Nat => s.heap.size ≤ q) (b := b) (ad := fun _ => 0) (ca := fun _ => 0) (k0 := 0) (z0 := 0) E (fun L' xs' z => by cases z; exact ⟨hX, hbl, hbA⟩) (fun q hq => hq) (Nat.le_of_ble_eq_true rfl) (Nat.le_of_ble_eq_true rfl) (Nat.zero_le _) (Nat.zero_le _) hc1 hc2 ?_
  · have haok : dm_aok 132 [.retAddr 0] = true := by decide +kernel
    have k2 := k1 s.heap [] _ (dm_in0_lh (y := 132) (as := [.retAddr 0]) (ad := fun _ => 0) (b := b) haok) (dm_in0_lg haok) ⟨fun k q h => by simp [dm_w] at h, ⟨fun i j p q h => by simp [dm_w] at h, fun k q h => by simp [dm_w] at h⟩, fun k kd h => by simp at h, fun k j k' h => by simp at h⟩ va_S.rf
    have hX : mX 132 = 30 := rfl
    rw [hX] at k2
    rw [lg_entry_eq]
    exact k2
  · intro ad' ca' pc arr H locs hrk had hsame hW hS
    have hd : decode code pc = .ok (.ireturn, 1) := by
      rcases hrk with ⟨z, -⟩ | ⟨x, t, -, -, -, hd⟩ | ⟨x, t, z, -⟩
      · cases z
      · exact hd
      · cases z
    refine va_forget (fun q hq => hS.2.2 q hq) ?_
    refine W.widen (k := 600000) (n := 7302250) (by omega) (by omega) ?_
    exact lw_ret hx hb hr hlocks hd
-- ===== YOUR PART ENDS =====
set_option maxHeartbeats 4000000 in
theorem lw_walk (hrun : ∀ (L : Nat) (xs : Nat → Int32), L ≤ 260 → dm_law L xs) (l : Launch) (hflags : l.flags = flags0) (b : Addr) (xs : List Int32) : MetFree l x (headSpec (Jvm.Cond.code x code maxLocals ret :: tables_1) room_1) (lw_P b xs) (fun _ _ _ _ _ => True) lw_Q := by
  refine MetFree.of_bodyS (code := code) (maxLocals := maxLocals) (ret := ret) (by decide) ?_ ?_
  · intro args s m h hn
    obtain ⟨meth, c, h1, h2, h3, h4, h5, h6, -, -⟩ := Cond.code_spec hn (atoms_spec (ws := Jvm.Cond.code x code maxLocals ret :: tables_1) h _ List.mem_cons_self)
    exact ⟨meth, c, h1, h2, h3, h4, h5, h6⟩
  · intro p e s m args below meth c s₁ B hml0 hP _
    obtain ⟨rfl, hx, hbd, hgv⟩ := hP
    obtain ⟨scr, harrAt, hlist, hof, hsmall⟩ := hx
    obtain ⟨hcb, hkn, -, -⟩ := State.arrayAt?_spec harrAt
    have hown : s.vm.findClass R_law = some m.cls := findClass_of_methodNamed B.named
    have hts0 : ∀ c ∈ (Jvm.Cond.code x code maxLocals ret :: tables_1), c.before #[Value.ref b] s = true := atoms_spec (ws := Jvm.Cond.code x code maxLocals ret :: tables_1) B.pre
    have hts : ∀ w ∈ lw_tbl, w.before #[Value.ref b] s = true := k2_hts_sels lw_privs (fun w hw => hts0 w (List.mem_cons_of_mem _ hw)) lw_privs_ok
    have hml : c.maxLocals = 30 := B.maxLocals_eq (hts0 _ List.mem_cons_self)
    have X₀ : Stand p l e room_1 s m #[Value.ref b] below meth c s₁ [] 0 0 := Stand.of_body B
    have hh0 : s₁.heap = s.heap := by rw [B.state]; rfl
    have hsz : scr.slots.size = xs.length := by rw [← Array.length_toList, hlist, List.length_map]
    have hval : ∀ j : Nat, j < xs.length → scr.slots[j]? = some (.int (xs.getD j 0)) := fun j hj => by
      rw [← Array.getElem?_toList, hlist]
      simp [hj]
    have hbl : b < s.heap.size := (Array.getElem?_eq_some_iff.mp hcb).1
    have hX : va_X b xs.length (fun j => xs.getD j 0) s s.heap := ⟨scr, hcb, hof, hkn, hsz, hval⟩
    have K : W p l e room_1 s m #[Value.ref b] below meth c s₁.heap [] 0 0 (lw_Z below #[Value.ref b] s) (entryFrame m ([Value.ref b] : List Value).toArray 30) := by
      rw [hh0]
      exact whole_start hrun l hflags hbd ⟨B.exec, B.bytes, B.returns, hml, hown, hts, hX, hbl, B.notSynchronized, hgv, hts0 _ List.mem_cons_self⟩
    obtain ⟨t, a1, o, b1, b2, b3⟩ := K s₁ rfl X₀
    exact ⟨t, o, a1, b1, b2, b3⟩
theorem lw_pre_spec {args : Array Value} {s : State} (h : (Jvm.Cond.and given_1 narrow_1).before args s = true) (hr : rest_1_c.before args s = true) : ∃ (b : Addr) (xs : List Int32), lw_P b xs args s := by
  have hs := flat_of_before _ h
  have hq := flat_of_before _ hr
  have hc : (Cond.count 1).before args s = true := hs _ (by decide +kernel)
  have harr : (Cond.arrayOf (.arg 0) .int).before args s = true := hs _ (by decide +kernel)
  have hle : (Cond.le (.length (.arg 0)) (.int 260)).before args s = true := hs _ (by decide +kernel)
  have hlen : (Cond.isInt (.length (.arg 0))).before args s = true := hq _ (by decide +kernel)
  have hall : (Cond.all (.arg 0) (.isInt (.elem (.arg 0) (.index 0)))).before args s = true := hq _ (by decide +kernel)
  obtain ⟨b, xs, hb, hx⟩ := State.ints_of_pre rfl harr hlen hall
  have hsm : xs.length < 2 ^ 31 := hx.choose_spec.2.2.2
  have hev : (Term.length (.arg 0)).eval args s none [] s = some (.int xs.length.toInt32) := hx.length_eval hb
  have hv := Cond.le_ints hev (show (Term.int 260).eval args s none [] s = some (.int 260) from rfl)
  have hd : xs.length.toInt32 ≤ 260 := by
    simpa [Cond.before, Cond.holds, hv] using hle
  have hN : xs.length ≤ 260 := (Int32.ofNat_le_ofNat hsm (by decide)).mp (show Int32.ofNat xs.length ≤ Int32.ofNat 260 from hd)
  exact ⟨b, xs, Cond.one_arg hc (show args[0]? = some (.ref b) from hb), hx, hN, h⟩
theorem lw_comes (hrun : ∀ (L : Nat) (xs : Nat → Int32), L ≤ 260 → dm_law L xs) (l : Launch) (hflags : l.flags = flags0) : Comes l x (Jvm.Cond.code x code maxLocals ret :: tables_1) room_1 (fun tb e args s => Calls_1 tb e args s ∧ rest_1 tb e args s ∧ Pre_1 tb e args s)
    (fun _ _ args s o t => lw_Q args s o t) := by
  intro p e ha hc hk s m args below hf hfit hheap happ hpre
  obtain ⟨b, xs, hP⟩ := lw_pre_spec hpre.2.2 hpre.2.1
  obtain ⟨k, o, h1, h2, h3, hQ⟩ := lw_walk hrun l hflags b xs p e ha hc hk s m args below hf ((Spec.applies_iff_loose hf).mp happ).1 hP trivial
  exact ⟨k, o, h1, h2, h3, hQ⟩
theorem lw_frame {s t : State} {o : Outcome} {args : Array Value} (h : Framed s o t [] 600000 7302250) :
    Framed s o t (fieldLocs frame_1_writes args s ++ arrayLocs frame_1_arrays args s ++ staticLocs frame_1_statics s) 600000 7302250 := h
theorem lw_limb (hrun : ∀ (L : Nat) (xs : Nat → Int32), L ≤ 260 → dm_law L xs) (L : Cond) (hL : ∀ (args : Array Value) (s t : State), L.after args s (.returned (some (.int 1))) t = true) :
    ArmFor flags0 classFile x code maxLocals ret World_1 tables_1 room_1 Calls_1 rest_1 Pre_1
      (fun tb e a s o t => postC L tb e a s o t ∧ Framed s o t (fieldLocs frame_1_writes a s ++ arrayLocs frame_1_arrays a s ++ staticLocs frame_1_statics s) 600000 7302250) := by
  intro l hflags _ _ p e ha hc hk s m args below hf hfit hheap happ hpre
  obtain ⟨k, o, h1, h2, h3, rfl, hF⟩ := lw_comes hrun l hflags p e ha hc hk s m args below hf hfit hheap happ hpre
  exact ⟨k, _, h1, h2, h3, hL args s _, lw_frame hF⟩
theorem i_vc_of (hrun : ∀ (L : Nat) (xs : Nat → Int32), L ≤ 260 → dm_law L xs) : Claimed_1_1 ∧ Claimed_1_2 := ⟨lw_limb hrun limb_1_1 (fun args s t => by simp [limb_1_1, Cond.after, Cond.holds, Cond.value]), lw_limb hrun limb_1_2 (fun args s t => Cond.after_iff.mpr (by
  first | (rw [show limb_1_2 = Cond.eq .result (.int 1) from rfl, Cond.eq_ints (x := 1) (y := 1) rfl rfl]; simp; done) | (simp [limb_1_2, Cond.value, Term.eval]; done)))⟩
end
