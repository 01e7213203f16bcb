section
-- ===== PART A: goes FIRST, ahead of the names: the tables' words, and 'selects' of the private methods out of them =====
/-- a private method of a class that the tables say can be made, by its rows of tables_1 -/
def lw_okq (q : MethodName × Nat) : Prop := (q.1.cls ≠ "java/lang/invoke/MethodHandle" ∧ q.1.cls ≠ "java/lang/invoke/VarHandle") ∧ Cond.instantiable q.1.cls q.2 ∈ tables_1 ∧ Cond.privateMethod q.1 ∈ tables_1 ∧ Cond.instanceMethod q.1 ∈ tables_1
theorem lw_p0 : lw_okq (⟨"BeamDrawer", "run", "(I)V"⟩, 10) := ⟨⟨by decide +kernel, by decide +kernel⟩, List.mem_of_getElem? (i := 13) (by decide +kernel), List.mem_of_getElem? (i := 78) (by decide +kernel), List.mem_of_getElem? (i := 79) (by decide +kernel)⟩
theorem lw_p1 : lw_okq (⟨"BeamDrawer", "draw", "(I)V"⟩, 10) := ⟨⟨by decide +kernel, by decide +kernel⟩, List.mem_of_getElem? (i := 13) (by decide +kernel), List.mem_of_getElem? (i := 82) (by decide +kernel), List.mem_of_getElem? (i := 83) (by decide +kernel)⟩
theorem lw_p2 : lw_okq (⟨"BeamDrawer", "isAt", "(II)Z"⟩, 10) := ⟨⟨by decide +kernel, by decide +kernel⟩, List.mem_of_getElem? (i := 13) (by decide +kernel), List.mem_of_getElem? (i := 86) (by decide +kernel), List.mem_of_getElem? (i := 87) (by decide +kernel)⟩
theorem lw_p3 : lw_okq (⟨"BeamDrawer", "isPlayerAt", "(II)Z"⟩, 10) := ⟨⟨by decide +kernel, by decide +kernel⟩, List.mem_of_getElem? (i := 13) (by decide +kernel), List.mem_of_getElem? (i := 90) (by decide +kernel), List.mem_of_getElem? (i := 91) (by decide +kernel)⟩
theorem lw_p4 : lw_okq (⟨"BeamDrawer", "hasBit", "(II)Z"⟩, 10) := ⟨⟨by decide +kernel, by decide +kernel⟩, List.mem_of_getElem? (i := 13) (by decide +kernel), List.mem_of_getElem? (i := 94) (by decide +kernel), List.mem_of_getElem? (i := 95) (by decide +kernel)⟩
theorem lw_p5 : lw_okq (⟨"BeamDrawer", "copiesOf", "(I)I"⟩, 10) := ⟨⟨by decide +kernel, by decide +kernel⟩, List.mem_of_getElem? (i := 13) (by decide +kernel), List.mem_of_getElem? (i := 98) (by decide +kernel), List.mem_of_getElem? (i := 99) (by decide +kernel)⟩
theorem lw_p6 : lw_okq (⟨"BeamDrawer", "behindPlace", "(II)I"⟩, 10) := ⟨⟨by decide +kernel, by decide +kernel⟩, List.mem_of_getElem? (i := 13) (by decide +kernel), List.mem_of_getElem? (i := 102) (by decide +kernel), List.mem_of_getElem? (i := 103) (by decide +kernel)⟩
theorem lw_p7 : lw_okq (⟨"BeamDrawer", "isMissileAt", "(II)Z"⟩, 10) := ⟨⟨by decide +kernel, by decide +kernel⟩, List.mem_of_getElem? (i := 13) (by decide +kernel), List.mem_of_getElem? (i := 116) (by decide +kernel), List.mem_of_getElem? (i := 117) (by decide +kernel)⟩
theorem lw_p8 : lw_okq (⟨"BeamDrawer", "widthIn", "(I)I"⟩, 10) := ⟨⟨by decide +kernel, by decide +kernel⟩, List.mem_of_getElem? (i := 13) (by decide +kernel), List.mem_of_getElem? (i := 120) (by decide +kernel), List.mem_of_getElem? (i := 121) (by decide +kernel)⟩
theorem lw_p9 : lw_okq (⟨"BeamDrawer", "isBallAt", "(I)Z"⟩, 10) := ⟨⟨by decide +kernel, by decide +kernel⟩, List.mem_of_getElem? (i := 13) (by decide +kernel), List.mem_of_getElem? (i := 124) (by decide +kernel), List.mem_of_getElem? (i := 125) (by decide +kernel)⟩
theorem lw_p10 : lw_okq (⟨"BeamDrawer", "isFieldAt", "(I)Z"⟩, 10) := ⟨⟨by decide +kernel, by decide +kernel⟩, List.mem_of_getElem? (i := 13) (by decide +kernel), List.mem_of_getElem? (i := 128) (by decide +kernel), List.mem_of_getElem? (i := 129) (by decide +kernel)⟩
theorem lw_p11 : lw_okq (⟨"BeamDrawer", "hasFieldBit", "(I)Z"⟩, 10) := ⟨⟨by decide +kernel, by decide +kernel⟩, List.mem_of_getElem? (i := 13) (by decide +kernel), List.mem_of_getElem? (i := 132) (by decide +kernel), List.mem_of_getElem? (i := 133) (by decide +kernel)⟩
theorem lw_p12 : lw_okq (⟨"BeamDrawer", "colourAt", "(II)I"⟩, 10) := ⟨⟨by decide +kernel, by decide +kernel⟩, List.mem_of_getElem? (i := 13) (by decide +kernel), List.mem_of_getElem? (i := 136) (by decide +kernel), List.mem_of_getElem? (i := 137) (by decide +kernel)⟩
theorem lw_p13 : lw_okq (⟨"BeamDrawer", "fieldColour", "(II)I"⟩, 10) := ⟨⟨by decide +kernel, by decide +kernel⟩, List.mem_of_getElem? (i := 13) (by decide +kernel), List.mem_of_getElem? (i := 140) (by decide +kernel), List.mem_of_getElem? (i := 141) (by decide +kernel)⟩
theorem lw_p14 : lw_okq (⟨"BeamDrawer", "keepMeetings", "(I)V"⟩, 10) := ⟨⟨by decide +kernel, by decide +kernel⟩, List.mem_of_getElem? (i := 13) (by decide +kernel), List.mem_of_getElem? (i := 144) (by decide +kernel), List.mem_of_getElem? (i := 145) (by decide +kernel)⟩
theorem lw_p15 : lw_okq (⟨"BeamDrawer$Timer", "tick", "()V"⟩, 4) := ⟨⟨by decide +kernel, by decide +kernel⟩, List.mem_of_getElem? (i := 21) (by decide +kernel), List.mem_of_getElem? (i := 148) (by decide +kernel), List.mem_of_getElem? (i := 149) (by decide +kernel)⟩
def lw_privs_1 : List (MethodName × Nat) := [(⟨"BeamDrawer", "run", "(I)V"⟩, 10), (⟨"BeamDrawer", "draw", "(I)V"⟩, 10), (⟨"BeamDrawer", "isAt", "(II)Z"⟩, 10), (⟨"BeamDrawer", "isPlayerAt", "(II)Z"⟩, 10), (⟨"BeamDrawer", "hasBit", "(II)Z"⟩, 10), (⟨"BeamDrawer", "copiesOf", "(I)I"⟩, 10), (⟨"BeamDrawer", "behindPlace", "(II)I"⟩, 10), (⟨"BeamDrawer", "isMissileAt", "(II)Z"⟩, 10), (⟨"BeamDrawer", "widthIn", "(I)I"⟩, 10), (⟨"BeamDrawer", "isBallAt", "(I)Z"⟩, 10), (⟨"BeamDrawer", "isFieldAt", "(I)Z"⟩, 10), (⟨"BeamDrawer", "hasFieldBit", "(I)Z"⟩, 10), (⟨"BeamDrawer", "colourAt", "(II)I"⟩, 10), (⟨"BeamDrawer", "fieldColour", "(II)I"⟩, 10), (⟨"BeamDrawer", "keepMeetings", "(I)V"⟩, 10), (⟨"BeamDrawer$Timer", "tick", "()V"⟩, 4)]
theorem lw_r1 : ∀ q ∈ lw_privs_1, lw_okq q := List.forall_mem_cons.mpr ⟨lw_p0, List.forall_mem_cons.mpr ⟨lw_p1, List.forall_mem_cons.mpr ⟨lw_p2, List.forall_mem_cons.mpr ⟨lw_p3, List.forall_mem_cons.mpr ⟨lw_p4, List.forall_mem_cons.mpr ⟨lw_p5, List.forall_mem_cons.mpr ⟨lw_p6, List.forall_mem_cons.mpr ⟨lw_p7, List.forall_mem_cons.mpr ⟨lw_p8, List.forall_mem_cons.mpr ⟨lw_p9, List.forall_mem_cons.mpr ⟨lw_p10, List.forall_mem_cons.mpr ⟨lw_p11, List.forall_mem_cons.mpr ⟨lw_p12, List.forall_mem_cons.mpr ⟨lw_p13, List.forall_mem_cons.mpr ⟨lw_p14, List.forall_mem_cons.mpr ⟨lw_p15, fun _ h => absurd h List.not_mem_nil⟩⟩⟩⟩⟩⟩⟩⟩⟩⟩⟩⟩⟩⟩⟩⟩
theorem lw_p16 : lw_okq (⟨"BeamDrawer", "stepClock", "()V"⟩, 10) := ⟨⟨by decide +kernel, by decide +kernel⟩, List.mem_of_getElem? (i := 13) (by decide +kernel), List.mem_of_getElem? (i := 152) (by decide +kernel), List.mem_of_getElem? (i := 153) (by decide +kernel)⟩
theorem lw_p17 : lw_okq (⟨"java/lang/Throwable", "fillInStackTrace", "(I)Ljava/lang/Throwable;"⟩, 6) := ⟨⟨by decide +kernel, by decide +kernel⟩, List.mem_of_getElem? (i := 202) (by decide +kernel), List.mem_of_getElem? (i := 200) (by decide +kernel), List.mem_of_getElem? (i := 201) (by decide +kernel)⟩
theorem lw_p18 : lw_okq (⟨"BeamDrawer", "strobe", "(I)V"⟩, 10) := ⟨⟨by decide +kernel, by decide +kernel⟩, List.mem_of_getElem? (i := 13) (by decide +kernel), List.mem_of_getElem? (i := 242) (by decide +kernel), List.mem_of_getElem? (i := 243) (by decide +kernel)⟩
theorem lw_p19 : lw_okq (⟨"BeamDrawer", "moveAll", "()V"⟩, 10) := ⟨⟨by decide +kernel, by decide +kernel⟩, List.mem_of_getElem? (i := 13) (by decide +kernel), List.mem_of_getElem? (i := 246) (by decide +kernel), List.mem_of_getElem? (i := 247) (by decide +kernel)⟩
theorem lw_p20 : lw_okq (⟨"BeamDrawer", "motionOf", "(I)I"⟩, 10) := ⟨⟨by decide +kernel, by decide +kernel⟩, List.mem_of_getElem? (i := 13) (by decide +kernel), List.mem_of_getElem? (i := 250) (by decide +kernel), List.mem_of_getElem? (i := 251) (by decide +kernel)⟩
theorem lw_p21 : lw_okq (⟨"BeamDrawer", "put", "(I)V"⟩, 10) := ⟨⟨by decide +kernel, by decide +kernel⟩, List.mem_of_getElem? (i := 13) (by decide +kernel), List.mem_of_getElem? (i := 263) (by decide +kernel), List.mem_of_getElem? (i := 264) (by decide +kernel)⟩
theorem lw_p22 : lw_okq (⟨"BeamDrawer", "store", "(II)V"⟩, 10) := ⟨⟨by decide +kernel, by decide +kernel⟩, List.mem_of_getElem? (i := 13) (by decide +kernel), List.mem_of_getElem? (i := 267) (by decide +kernel), List.mem_of_getElem? (i := 268) (by decide +kernel)⟩
theorem lw_p23 : lw_okq (⟨"BeamDrawer", "unlock", "(I)V"⟩, 10) := ⟨⟨by decide +kernel, by decide +kernel⟩, List.mem_of_getElem? (i := 13) (by decide +kernel), List.mem_of_getElem? (i := 271) (by decide +kernel), List.mem_of_getElem? (i := 272) (by decide +kernel)⟩
theorem lw_p24 : lw_okq (⟨"BeamDrawer$Timer", "start", "(II)V"⟩, 4) := ⟨⟨by decide +kernel, by decide +kernel⟩, List.mem_of_getElem? (i := 21) (by decide +kernel), List.mem_of_getElem? (i := 325) (by decide +kernel), List.mem_of_getElem? (i := 326) (by decide +kernel)⟩
theorem lw_p25 : lw_okq (⟨"BeamDrawer", "countMeetings", "()I"⟩, 10) := ⟨⟨by decide +kernel, by decide +kernel⟩, List.mem_of_getElem? (i := 13) (by decide +kernel), List.mem_of_getElem? (i := 336) (by decide +kernel), List.mem_of_getElem? (i := 337) (by decide +kernel)⟩
theorem lw_p26 : lw_okq (⟨"BeamDrawerModel", "goes", "(ZZ)Z"⟩, 17) := ⟨⟨by decide +kernel, by decide +kernel⟩, List.mem_of_getElem? (i := 346) (by decide +kernel), List.mem_of_getElem? (i := 413) (by decide +kernel), List.mem_of_getElem? (i := 414) (by decide +kernel)⟩
theorem lw_p27 : lw_okq (⟨"BeamDrawerModel", "special", "(I)V"⟩, 17) := ⟨⟨by decide +kernel, by decide +kernel⟩, List.mem_of_getElem? (i := 346) (by decide +kernel), List.mem_of_getElem? (i := 417) (by decide +kernel), List.mem_of_getElem? (i := 418) (by decide +kernel)⟩
theorem lw_p28 : lw_okq (⟨"BeamDrawerModel", "reset", "(I)V"⟩, 17) := ⟨⟨by decide +kernel, by decide +kernel⟩, List.mem_of_getElem? (i := 346) (by decide +kernel), List.mem_of_getElem? (i := 421) (by decide +kernel), List.mem_of_getElem? (i := 422) (by decide +kernel)⟩
theorem lw_p29 : lw_okq (⟨"BeamDrawerModel", "move", "()V"⟩, 17) := ⟨⟨by decide +kernel, by decide +kernel⟩, List.mem_of_getElem? (i := 346) (by decide +kernel), List.mem_of_getElem? (i := 425) (by decide +kernel), List.mem_of_getElem? (i := 426) (by decide +kernel)⟩
theorem lw_p30 : lw_okq (⟨"BeamDrawerModel", "lock", "(II)V"⟩, 17) := ⟨⟨by decide +kernel, by decide +kernel⟩, List.mem_of_getElem? (i := 346) (by decide +kernel), List.mem_of_getElem? (i := 429) (by decide +kernel), List.mem_of_getElem? (i := 430) (by decide +kernel)⟩
theorem lw_p31 : lw_okq (⟨"BeamDrawerModel", "bit", "(II)Z"⟩, 17) := ⟨⟨by decide +kernel, by decide +kernel⟩, List.mem_of_getElem? (i := 346) (by decide +kernel), List.mem_of_getElem? (i := 433) (by decide +kernel), List.mem_of_getElem? (i := 434) (by decide +kernel)⟩
def lw_privs_2 : List (MethodName × Nat) := [(⟨"BeamDrawer", "stepClock", "()V"⟩, 10), (⟨"java/lang/Throwable", "fillInStackTrace", "(I)Ljava/lang/Throwable;"⟩, 6), (⟨"BeamDrawer", "strobe", "(I)V"⟩, 10), (⟨"BeamDrawer", "moveAll", "()V"⟩, 10), (⟨"BeamDrawer", "motionOf", "(I)I"⟩, 10), (⟨"BeamDrawer", "put", "(I)V"⟩, 10), (⟨"BeamDrawer", "store", "(II)V"⟩, 10), (⟨"BeamDrawer", "unlock", "(I)V"⟩, 10), (⟨"BeamDrawer$Timer", "start", "(II)V"⟩, 4), (⟨"BeamDrawer", "countMeetings", "()I"⟩, 10), (⟨"BeamDrawerModel", "goes", "(ZZ)Z"⟩, 17), (⟨"BeamDrawerModel", "special", "(I)V"⟩, 17), (⟨"BeamDrawerModel", "reset", "(I)V"⟩, 17), (⟨"BeamDrawerModel", "move", "()V"⟩, 17), (⟨"BeamDrawerModel", "lock", "(II)V"⟩, 17), (⟨"BeamDrawerModel", "bit", "(II)Z"⟩, 17)]
theorem lw_r2 : ∀ q ∈ lw_privs_2, lw_okq q := List.forall_mem_cons.mpr ⟨lw_p16, List.forall_mem_cons.mpr ⟨lw_p17, List.forall_mem_cons.mpr ⟨lw_p18, List.forall_mem_cons.mpr ⟨lw_p19, List.forall_mem_cons.mpr ⟨lw_p20, List.forall_mem_cons.mpr ⟨lw_p21, List.forall_mem_cons.mpr ⟨lw_p22, List.forall_mem_cons.mpr ⟨lw_p23, List.forall_mem_cons.mpr ⟨lw_p24, List.forall_mem_cons.mpr ⟨lw_p25, List.forall_mem_cons.mpr ⟨lw_p26, List.forall_mem_cons.mpr ⟨lw_p27, List.forall_mem_cons.mpr ⟨lw_p28, List.forall_mem_cons.mpr ⟨lw_p29, List.forall_mem_cons.mpr ⟨lw_p30, List.forall_mem_cons.mpr ⟨lw_p31, fun _ h => absurd h List.not_mem_nil⟩⟩⟩⟩⟩⟩⟩⟩⟩⟩⟩⟩⟩⟩⟩⟩
theorem lw_p32 : lw_okq (⟨"BeamDrawerModel", "wide", "(I)I"⟩, 17) := ⟨⟨by decide +kernel, by decide +kernel⟩, List.mem_of_getElem? (i := 346) (by decide +kernel), List.mem_of_getElem? (i := 437) (by decide +kernel), List.mem_of_getElem? (i := 438) (by decide +kernel)⟩
theorem lw_p33 : lw_okq (⟨"BeamDrawerModel", "copiesOf", "(I)I"⟩, 17) := ⟨⟨by decide +kernel, by decide +kernel⟩, List.mem_of_getElem? (i := 346) (by decide +kernel), List.mem_of_getElem? (i := 441) (by decide +kernel), List.mem_of_getElem? (i := 442) (by decide +kernel)⟩
theorem lw_p34 : lw_okq (⟨"BeamDrawerModel", "oneClock", "()V"⟩, 17) := ⟨⟨by decide +kernel, by decide +kernel⟩, List.mem_of_getElem? (i := 346) (by decide +kernel), List.mem_of_getElem? (i := 449) (by decide +kernel), List.mem_of_getElem? (i := 450) (by decide +kernel)⟩
theorem lw_p35 : lw_okq (⟨"BeamDrawerModel", "draw", "(I)V"⟩, 17) := ⟨⟨by decide +kernel, by decide +kernel⟩, List.mem_of_getElem? (i := 346) (by decide +kernel), List.mem_of_getElem? (i := 453) (by decide +kernel), List.mem_of_getElem? (i := 454) (by decide +kernel)⟩
theorem lw_p36 : lw_okq (⟨"BeamDrawerModel", "isThere", "(II)Z"⟩, 17) := ⟨⟨by decide +kernel, by decide +kernel⟩, List.mem_of_getElem? (i := 346) (by decide +kernel), List.mem_of_getElem? (i := 457) (by decide +kernel), List.mem_of_getElem? (i := 458) (by decide +kernel)⟩
theorem lw_p37 : lw_okq (⟨"BeamDrawerModel", "player", "(II)Z"⟩, 17) := ⟨⟨by decide +kernel, by decide +kernel⟩, List.mem_of_getElem? (i := 346) (by decide +kernel), List.mem_of_getElem? (i := 461) (by decide +kernel), List.mem_of_getElem? (i := 462) (by decide +kernel)⟩
theorem lw_p38 : lw_okq (⟨"BeamDrawerModel", "hasCopy", "(II)Z"⟩, 17) := ⟨⟨by decide +kernel, by decide +kernel⟩, List.mem_of_getElem? (i := 346) (by decide +kernel), List.mem_of_getElem? (i := 468) (by decide +kernel), List.mem_of_getElem? (i := 469) (by decide +kernel)⟩
theorem lw_p39 : lw_okq (⟨"BeamDrawerModel", "missile", "(II)Z"⟩, 17) := ⟨⟨by decide +kernel, by decide +kernel⟩, List.mem_of_getElem? (i := 346) (by decide +kernel), List.mem_of_getElem? (i := 472) (by decide +kernel), List.mem_of_getElem? (i := 473) (by decide +kernel)⟩
theorem lw_p40 : lw_okq (⟨"BeamDrawerModel", "playfield", "(I)Z"⟩, 17) := ⟨⟨by decide +kernel, by decide +kernel⟩, List.mem_of_getElem? (i := 346) (by decide +kernel), List.mem_of_getElem? (i := 479) (by decide +kernel), List.mem_of_getElem? (i := 480) (by decide +kernel)⟩
theorem lw_p41 : lw_okq (⟨"BeamDrawerModel", "colour", "(I)I"⟩, 17) := ⟨⟨by decide +kernel, by decide +kernel⟩, List.mem_of_getElem? (i := 346) (by decide +kernel), List.mem_of_getElem? (i := 483) (by decide +kernel), List.mem_of_getElem? (i := 484) (by decide +kernel)⟩
theorem lw_p42 : lw_okq (⟨"BeamDrawerModel", "timer", "()V"⟩, 17) := ⟨⟨by decide +kernel, by decide +kernel⟩, List.mem_of_getElem? (i := 346) (by decide +kernel), List.mem_of_getElem? (i := 487) (by decide +kernel), List.mem_of_getElem? (i := 488) (by decide +kernel)⟩
def lw_privs_3 : List (MethodName × Nat) := [(⟨"BeamDrawerModel", "wide", "(I)I"⟩, 17), (⟨"BeamDrawerModel", "copiesOf", "(I)I"⟩, 17), (⟨"BeamDrawerModel", "oneClock", "()V"⟩, 17), (⟨"BeamDrawerModel", "draw", "(I)V"⟩, 17), (⟨"BeamDrawerModel", "isThere", "(II)Z"⟩, 17), (⟨"BeamDrawerModel", "player", "(II)Z"⟩, 17), (⟨"BeamDrawerModel", "hasCopy", "(II)Z"⟩, 17), (⟨"BeamDrawerModel", "missile", "(II)Z"⟩, 17), (⟨"BeamDrawerModel", "playfield", "(I)Z"⟩, 17), (⟨"BeamDrawerModel", "colour", "(I)I"⟩, 17), (⟨"BeamDrawerModel", "timer", "()V"⟩, 17)]
theorem lw_r3 : ∀ q ∈ lw_privs_3, lw_okq q := List.forall_mem_cons.mpr ⟨lw_p32, List.forall_mem_cons.mpr ⟨lw_p33, List.forall_mem_cons.mpr ⟨lw_p34, List.forall_mem_cons.mpr ⟨lw_p35, List.forall_mem_cons.mpr ⟨lw_p36, List.forall_mem_cons.mpr ⟨lw_p37, List.forall_mem_cons.mpr ⟨lw_p38, List.forall_mem_cons.mpr ⟨lw_p39, List.forall_mem_cons.mpr ⟨lw_p40, List.forall_mem_cons.mpr ⟨lw_p41, List.forall_mem_cons.mpr ⟨lw_p42, fun _ h => absurd h List.not_mem_nil⟩⟩⟩⟩⟩⟩⟩⟩⟩⟩⟩
def lw_privs : List (MethodName × Nat) := lw_privs_1 ++ (lw_privs_2 ++ (lw_privs_3))
def lw_tbl : List Cond := k2_sels lw_privs ++ tables_1
theorem lw_privs_ok : ∀ q ∈ lw_privs, lw_okq q := by
  show ∀ q ∈ lw_privs_1 ++ (lw_privs_2 ++ (lw_privs_3)), lw_okq q
  exact List.forall_mem_append.mpr ⟨lw_r1, List.forall_mem_append.mpr ⟨lw_r2, lw_r3⟩⟩
end
section
/-! words: one list for every method -/
def kGood : Cond → Bool
  | .fieldLinkNest .. => true
  | .methodLinkNest .. => true
  | w => goodWord w
def TB : List Cond := lw_tbl.filter kGood
theorem kTB {w : Cond} (h : w ∈ lw_tbl) (g : kGood w = true) : w ∈ TB := List.mem_filter.mpr ⟨h, g⟩
theorem kStable {w : Cond} (h : kGood w = true) {args a' : Array Value} {s U : State} (hW : s.WarmedH U.vm) (hb : w.before args s = true) : w.before a' U = true := by
  cases w with
  | fieldLinkNest a i b n d h => exact va_Nw.use rfl (va_Nw.warmF hW (va_Nw.of rfl hb))
  | methodLinkNest a i x h => exact va_Nw.use rfl (va_Nw.warmM hW (va_Nw.of rfl hb))
  | _ => exact word_at hW (good_of_word h) hb
theorem kHws {c0 : Cond} (h0 : c0 ∈ TB) {args : Array Value} {s : State} (hT : ∀ w ∈ TB, w.before args s = true) : ∀ w ∈ (c0 :: TB), ∀ (a' : Array Value) (U : State), s.WarmedH U.vm → w.before a' U = true := by
  intro w hw a' U hW
  have hm : w ∈ TB := by
    rcases List.mem_cons.mp hw with rfl | h
    · exact h0
    · exact h
  exact kStable (List.mem_filter.mp hm).2 hW (hT w hm)
theorem kin {i : Int32} {n : Nat} (h : ¬ (i < 0 ∨ n ≤ i.toNatClampNeg)) : vp_in i n := h
section KC
variable {R : Room} {s : State} {args : Array Value} {own C host : String} {index maxL : Nat} {y : MethodName} {bytes : ByteArray} {ret : Option FieldType} {rm : Room}
/-- a method's words: code, its class is ready, no method handle, how many parameters -/
def kM (y : MethodName) (bytes : ByteArray) (maxL : Nat) (ret : Option FieldType) (n : Nat) : Prop := Cond.code y bytes maxL ret ∈ TB ∧ Cond.initialized y.cls ∈ TB ∧ y.cls ≠ "java/lang/invoke/MethodHandle" ∧ y.cls ≠ "java/lang/invoke/VarHandle" ∧ (parseMethodDescriptor y.desc).map (fun d => d.parameters.length) = some n
theorem kM_len {n : Nat} (h : kM y bytes maxL ret n) : ∀ sig, parseMethodDescriptor y.desc = some sig → n = sig.parameters.length := by
  intro sig hs
  have h2 := h.2.2.2.2
  rw [hs] at h2
  exact (Option.some.inj h2).symm
theorem kCB (n : Nat) (hT : ∀ w ∈ TB, w.before args s = true) (hl : Cond.methodLink own index y ∈ TB) (hM : kM y bytes maxL ret n) (hR : rm.frames + 1 ≤ R.frames ∧ 8 + (maxL + 11) + rm.locals ≤ R.locals) :
    CallB R s args own index y bytes maxL ret (.code y bytes maxL ret :: TB) rm rm.cells rm.slots n :=
  ⟨rfl, rfl, hR.1, hR.2, kHws hM.1 hT, List.mem_cons_self, hT _ hM.1, hT _ hM.2.1, ⟨hM.2.2.1, hM.2.2.2.1⟩, kM_len hM, hT _ hl⟩
theorem kCV (n : Nat) (hT : ∀ w ∈ TB, w.before args s = true) (hl : Cond.methodLink own index y ∈ TB) (hM : kM y bytes maxL ret n ∧ Cond.instanceMethod y ∈ TB ∧ Cond.selects C y y ∈ TB) (hR : rm.frames + 1 ≤ R.frames ∧ 8 + (maxL + 11) + rm.locals ≤ R.locals) :
    CallW R s args own C index y bytes maxL ret (.code y bytes maxL ret :: TB) rm rm.cells rm.slots n :=
  ⟨kCB n hT hl hM.1 hR, hT _ hM.2.1, hT _ hM.2.2⟩
theorem kCS (n : Nat) (hT : ∀ w ∈ TB, w.before args s = true) (hl : Cond.methodLink own index y ∈ TB) (hM : kM y bytes maxL ret n ∧ Cond.static y ∈ TB) (hR : rm.frames + 1 ≤ R.frames ∧ 8 + (maxL + 11) + rm.locals ≤ R.locals) :
    CallB R s args own index y bytes maxL ret (.code y bytes maxL ret :: TB) rm rm.cells rm.slots n ∧ (Cond.static y).before args s = true :=
  ⟨kCB n hT hl hM.1 hR, hT _ hM.2⟩
theorem kCI (n : Nat) (hT : ∀ w ∈ TB, w.before args s = true) (hl : Cond.methodLink own index y ∈ TB) (hM : kM y bytes maxL none n ∧ Cond.instanceMethod y ∈ TB) (hy : y.name = "<init>") (hR : rm.frames + 1 ≤ R.frames ∧ 8 + (maxL + 11) + rm.locals ≤ R.locals) :
    CallB R s args own index y bytes maxL none (.code y bytes maxL none :: TB) rm rm.cells rm.slots n ∧ y.name = "<init>" ∧ (Cond.instanceMethod y).before args s = true :=
  ⟨kCB n hT hl hM.1 hR, hy, hT _ hM.2⟩
theorem kCNB (n : Nat) (hT : ∀ w ∈ TB, w.before args s = true) (hl : Cond.methodLinkNest own index y host ∈ TB) (hM : kM y bytes maxL ret n) (hR : rm.frames + 1 ≤ R.frames ∧ 8 + (maxL + 11) + rm.locals ≤ R.locals) :
    va_CN R s args own index y host bytes maxL ret (.code y bytes maxL ret :: TB) rm rm.cells rm.slots n :=
  ⟨⟨rfl, rfl, hR.1, hR.2, kHws hM.1 hT, List.mem_cons_self⟩, hT _ hM.1, hT _ hM.2.1, ⟨hM.2.2.1, hM.2.2.2.1⟩, kM_len hM, hT _ hl⟩
theorem kCN (n : Nat) (hT : ∀ w ∈ TB, w.before args s = true) (hl : Cond.methodLinkNest own index y host ∈ TB) (hM : kM y bytes maxL ret n ∧ Cond.instanceMethod y ∈ TB ∧ Cond.selects C y y ∈ TB) (hR : rm.frames + 1 ≤ R.frames ∧ 8 + (maxL + 11) + rm.locals ≤ R.locals) :
    va_CN R s args own index y host bytes maxL ret (.code y bytes maxL ret :: TB) rm rm.cells rm.slots n ∧ (Cond.instanceMethod y).before args s = true ∧ (Cond.selects C y y).before args s = true :=
  ⟨kCNB n hT hl hM.1 hR, hT _ hM.2.1, hT _ hM.2.2⟩
theorem kCNI (n : Nat) (hT : ∀ w ∈ TB, w.before args s = true) (hl : Cond.methodLinkNest own index y host ∈ TB) (hM : kM y bytes maxL none n ∧ Cond.instanceMethod y ∈ TB) (hy : y.name = "<init>") (hR : rm.frames + 1 ≤ R.frames ∧ 8 + (maxL + 11) + rm.locals ≤ R.locals) :
    va_CN R s args own index y host bytes maxL none (.code y bytes maxL none :: TB) rm rm.cells rm.slots n ∧ y.name = "<init>" ∧ (Cond.instanceMethod y).before args s = true :=
  ⟨kCNB n hT hl hM.1 hR, hy, hT _ hM.2⟩
end KC
/-! addresses of an object's cells -/
def kA (n : Nat) (ad : Nat → Nat) : Nat → Prop := fun q => ∃ k, k < n ∧ q = ad k
def kap (n : Nat) (ad : Nat → Nat) : Prop := ∀ i j, i < n → j < n → ad i = ad j → i = j
theorem kD {n : Nat} {ad : Nat → Nat} {ws : va_W} (hap : kap n ad) (h : ws.map Prod.fst = (List.range n).map ad) : va_D (kA n ad) ws := by
  have key : ∀ (k : Nat) (q : Nat × va_E), ws[k]? = some q → k < n ∧ q.1 = ad k := by
    intro k q hk
    have h1 : (ws.map Prod.fst)[k]? = some q.1 := by rw [List.getElem?_map, hk]; rfl
    rw [h, List.getElem?_map] at h1
    by_cases hkn : k < n
    · rw [List.getElem?_range hkn] at h1
      exact ⟨hkn, (Option.some.inj h1).symm⟩
    · rw [List.getElem?_eq_none (by simp; omega)] at h1
      cases h1
  refine ⟨fun i j p q hi hj hpq => ?_, fun k q hk => ?_⟩
  · obtain ⟨h1, h2⟩ := key i p hi
    obtain ⟨h3, h4⟩ := key j q hj
    exact hap i j h1 h3 (by rw [← h2, ← h4]; exact hpq)
  · obtain ⟨h1, h2⟩ := key k q hk
    exact ⟨k, h1, h2⟩
def kup (σ : Nat → Nat → Int32) (k j : Nat) (v : Int32) : Nat → Nat → Int32 := fun a => if a = k then upd (σ a) j v else σ a
theorem kz_nar {x : Int32} (h : x = 0 ∨ x = 1) : narrow .boolean (.int x) = .int x := by rcases h with rfl | rfl <;> decide
theorem kz_fit {x : Int32} (h : x = 0 ∨ x = 1) : fits .boolean (.int x) = true := by rcases h with rfl | rfl <;> decide
end
section
abbrev R_B : String := "BeamDrawer"
def F_B : u_T := fun k => match k with
  | 0 => ("BeamDrawer", "registers", "[I", true)
  | 1 => ("BeamDrawer", "oldShapes", "[I", true)
  | 2 => ("BeamDrawer", "places", "[I", true)
  | 3 => ("BeamDrawer", "colours", "[I", true)
  | 4 => ("BeamDrawer", "meetings", "[I", true)
  | 5 => ("BeamDrawer", "timer", "LBeamDrawer$Timer;", true)
  | 6 => ("BeamDrawer", "oldBall", "I", false)
  | 7 => ("BeamDrawer", "clock", "I", false)
  | 8 => ("BeamDrawer", "line", "I", false)
  | _ => ("BeamDrawer", "drawn", "I", false)
def ft_B : Nat → FieldType := fun k => match k with
  | 0 => .array .int
  | 1 => .array .int
  | 2 => .array .int
  | 3 => .array .int
  | 4 => .array .int
  | 5 => .object "BeamDrawer$Timer"
  | 6 => .int
  | 7 => .int
  | 8 => .int
  | _ => .int
theorem n_B : ∀ a, a < 10 → ∀ b, b < 10 → a ≠ b → (F_B a).2.1 ≠ (F_B b).2.1 := by decide +kernel
theorem ft_B_ok : ∀ k, k < 10 → parseFieldDescriptor (F_B k).2.2.1 = some (ft_B k) := by decide +kernel
theorem in_B : ∀ w ∈ u_ws R_B F_B 10, w ∈ TB := by
  intro w hw
  have h : (u_ws R_B F_B 10).all (fun w => decide (w ∈ tables_1) && kGood w) = true := by decide +kernel
  have h1 := List.all_eq_true.mp h w hw
  simp only [Bool.and_eq_true, decide_eq_true_eq] at h1
  exact kTB (List.mem_append_right _ h1.1) h1.2
abbrev R_T : String := "BeamDrawer$Timer"
def F_T : u_T := fun k => match k with
  | 0 => ("BeamDrawer$Timer", "value", "I", false)
  | 1 => ("BeamDrawer$Timer", "interval", "I", false)
  | 2 => ("BeamDrawer$Timer", "clocksLeft", "I", false)
  | _ => ("BeamDrawer$Timer", "rung", "Z", false)
def ft_T : Nat → FieldType := fun k => match k with
  | 0 => .int
  | 1 => .int
  | 2 => .int
  | _ => .boolean
theorem n_T : ∀ a, a < 4 → ∀ b, b < 4 → a ≠ b → (F_T a).2.1 ≠ (F_T b).2.1 := by decide +kernel
theorem ft_T_ok : ∀ k, k < 4 → parseFieldDescriptor (F_T k).2.2.1 = some (ft_T k) := by decide +kernel
theorem in_T : ∀ w ∈ u_ws R_T F_T 4, w ∈ TB := by
  intro w hw
  have h : (u_ws R_T F_T 4).all (fun w => decide (w ∈ tables_1) && kGood w) = true := by decide +kernel
  have h1 := List.all_eq_true.mp h w hw
  simp only [Bool.and_eq_true, decide_eq_true_eq] at h1
  exact kTB (List.mem_append_right _ h1.1) h1.2
abbrev R_M : String := "BeamDrawerModel"
def F_M : u_T := fun k => match k with
  | 0 => ("BeamDrawerModel", "thrown", "I", false)
  | 1 => ("BeamDrawerModel", "registers", "[I", true)
  | 2 => ("BeamDrawerModel", "places", "[I", true)
  | 3 => ("BeamDrawerModel", "shapes", "[I", true)
  | 4 => ("BeamDrawerModel", "olds", "[I", true)
  | 5 => ("BeamDrawerModel", "ball", "Z", false)
  | 6 => ("BeamDrawerModel", "oldBall", "Z", false)
  | 7 => ("BeamDrawerModel", "meetings", "[Z", true)
  | 8 => ("BeamDrawerModel", "pixels", "[I", true)
  | 9 => ("BeamDrawerModel", "here", "[Z", true)
  | 10 => ("BeamDrawerModel", "clock", "I", false)
  | 11 => ("BeamDrawerModel", "line", "I", false)
  | 12 => ("BeamDrawerModel", "drawn", "I", false)
  | 13 => ("BeamDrawerModel", "value", "I", false)
  | 14 => ("BeamDrawerModel", "interval", "I", false)
  | 15 => ("BeamDrawerModel", "passed", "I", false)
  | _ => ("BeamDrawerModel", "rung", "Z", false)
def ft_M : Nat → FieldType := fun k => match k with
  | 0 => .int
  | 1 => .array .int
  | 2 => .array .int
  | 3 => .array .int
  | 4 => .array .int
  | 5 => .boolean
  | 6 => .boolean
  | 7 => .array .boolean
  | 8 => .array .int
  | 9 => .array .boolean
  | 10 => .int
  | 11 => .int
  | 12 => .int
  | 13 => .int
  | 14 => .int
  | 15 => .int
  | _ => .boolean
theorem n_M : ∀ a, a < 17 → ∀ b, b < 17 → a ≠ b → (F_M a).2.1 ≠ (F_M b).2.1 := by decide +kernel
theorem ft_M_ok : ∀ k, k < 17 → parseFieldDescriptor (F_M k).2.2.1 = some (ft_M k) := by decide +kernel
theorem in_M : ∀ w ∈ u_ws R_M F_M 17, w ∈ TB := by
  intro w hw
  have h : (u_ws R_M F_M 17).all (fun w => decide (w ∈ tables_1) && kGood w) = true := by decide +kernel
  have h1 := List.all_eq_true.mp h w hw
  simp only [Bool.and_eq_true, decide_eq_true_eq] at h1
  exact kTB (List.mem_append_right _ h1.1) h1.2
abbrev R_L : String := "BeamDrawerLaw"
abbrev R_JM : String := "java/lang/Math"
abbrev R_JI : String := "java/lang/Integer"
abbrev R_JA : String := "java/util/Arrays"
abbrev R_JO : String := "java/lang/Object"
end
section
def y_JM_floorMod : MethodName := ⟨R_JM, "floorMod", "(II)I"⟩
abbrev b_JM_floorMod : ByteArray := prog_8_method_50_code
def w_JM_floorMod : List Cond := .code y_JM_floorMod b_JM_floorMod 3 (some .int) :: TB
theorem d_JM_floorMod_0 : decode b_JM_floorMod 0 = .ok (.iload_n 0, 1) := by decide +kernel
theorem d_JM_floorMod_1 : decode b_JM_floorMod 1 = .ok (.iload_n 1, 1) := by decide +kernel
theorem d_JM_floorMod_2 : decode b_JM_floorMod 2 = .ok (.irem, 1) := by decide +kernel
theorem d_JM_floorMod_3 : decode b_JM_floorMod 3 = .ok (.istore_n 2, 1) := by decide +kernel
theorem d_JM_floorMod_4 : decode b_JM_floorMod 4 = .ok (.iload_n 0, 1) := by decide +kernel
theorem d_JM_floorMod_5 : decode b_JM_floorMod 5 = .ok (.iload_n 1, 1) := by decide +kernel
theorem d_JM_floorMod_6 : decode b_JM_floorMod 6 = .ok (.ixor, 1) := by decide +kernel
theorem d_JM_floorMod_7 : decode b_JM_floorMod 7 = .ok (.ifCond .ge 11, 3) := by decide +kernel
theorem d_JM_floorMod_10 : decode b_JM_floorMod 10 = .ok (.iload_n 2, 1) := by decide +kernel
theorem d_JM_floorMod_11 : decode b_JM_floorMod 11 = .ok (.ifCond .eq 7, 3) := by decide +kernel
theorem d_JM_floorMod_14 : decode b_JM_floorMod 14 = .ok (.iload_n 2, 1) := by decide +kernel
theorem d_JM_floorMod_15 : decode b_JM_floorMod 15 = .ok (.iload_n 1, 1) := by decide +kernel
theorem d_JM_floorMod_16 : decode b_JM_floorMod 16 = .ok (.iadd, 1) := by decide +kernel
theorem d_JM_floorMod_17 : decode b_JM_floorMod 17 = .ok (.ireturn, 1) := by decide +kernel
theorem d_JM_floorMod_18 : decode b_JM_floorMod 18 = .ok (.iload_n 2, 1) := by decide +kernel
theorem d_JM_floorMod_19 : decode b_JM_floorMod 19 = .ok (.ireturn, 1) := by decide +kernel
def y_JI_bitCount : MethodName := ⟨R_JI, "bitCount", "(I)I"⟩
abbrev b_JI_bitCount : ByteArray := prog_7_method_49_code
def w_JI_bitCount : List Cond := .code y_JI_bitCount b_JI_bitCount 1 (some .int) :: TB
theorem d_JI_bitCount_0 : decode b_JI_bitCount 0 = .ok (.iload_n 0, 1) := by decide +kernel
theorem d_JI_bitCount_1 : decode b_JI_bitCount 1 = .ok (.iload_n 0, 1) := by decide +kernel
theorem d_JI_bitCount_2 : decode b_JI_bitCount 2 = .ok (.iconst 1, 1) := by decide +kernel
theorem d_JI_bitCount_3 : decode b_JI_bitCount 3 = .ok (.iushr, 1) := by decide +kernel
theorem d_JI_bitCount_4 : decode b_JI_bitCount 4 = .ok (.ldc_w 265, 3) := by decide +kernel
theorem d_JI_bitCount_7 : decode b_JI_bitCount 7 = .ok (.iand, 1) := by decide +kernel
theorem d_JI_bitCount_8 : decode b_JI_bitCount 8 = .ok (.isub, 1) := by decide +kernel
theorem d_JI_bitCount_9 : decode b_JI_bitCount 9 = .ok (.istore_n 0, 1) := by decide +kernel
theorem d_JI_bitCount_10 : decode b_JI_bitCount 10 = .ok (.iload_n 0, 1) := by decide +kernel
theorem d_JI_bitCount_11 : decode b_JI_bitCount 11 = .ok (.ldc_w 266, 3) := by decide +kernel
theorem d_JI_bitCount_14 : decode b_JI_bitCount 14 = .ok (.iand, 1) := by decide +kernel
theorem d_JI_bitCount_15 : decode b_JI_bitCount 15 = .ok (.iload_n 0, 1) := by decide +kernel
theorem d_JI_bitCount_16 : decode b_JI_bitCount 16 = .ok (.iconst 2, 1) := by decide +kernel
theorem d_JI_bitCount_17 : decode b_JI_bitCount 17 = .ok (.iushr, 1) := by decide +kernel
theorem d_JI_bitCount_18 : decode b_JI_bitCount 18 = .ok (.ldc_w 266, 3) := by decide +kernel
theorem d_JI_bitCount_21 : decode b_JI_bitCount 21 = .ok (.iand, 1) := by decide +kernel
theorem d_JI_bitCount_22 : decode b_JI_bitCount 22 = .ok (.iadd, 1) := by decide +kernel
theorem d_JI_bitCount_23 : decode b_JI_bitCount 23 = .ok (.istore_n 0, 1) := by decide +kernel
theorem d_JI_bitCount_24 : decode b_JI_bitCount 24 = .ok (.iload_n 0, 1) := by decide +kernel
theorem d_JI_bitCount_25 : decode b_JI_bitCount 25 = .ok (.iload_n 0, 1) := by decide +kernel
theorem d_JI_bitCount_26 : decode b_JI_bitCount 26 = .ok (.iconst 4, 1) := by decide +kernel
theorem d_JI_bitCount_27 : decode b_JI_bitCount 27 = .ok (.iushr, 1) := by decide +kernel
theorem d_JI_bitCount_28 : decode b_JI_bitCount 28 = .ok (.iadd, 1) := by decide +kernel
theorem d_JI_bitCount_29 : decode b_JI_bitCount 29 = .ok (.ldc_w 267, 3) := by decide +kernel
theorem d_JI_bitCount_32 : decode b_JI_bitCount 32 = .ok (.iand, 1) := by decide +kernel
theorem d_JI_bitCount_33 : decode b_JI_bitCount 33 = .ok (.istore_n 0, 1) := by decide +kernel
theorem d_JI_bitCount_34 : decode b_JI_bitCount 34 = .ok (.iload_n 0, 1) := by decide +kernel
theorem d_JI_bitCount_35 : decode b_JI_bitCount 35 = .ok (.iload_n 0, 1) := by decide +kernel
theorem d_JI_bitCount_36 : decode b_JI_bitCount 36 = .ok (.bipush 8, 2) := by decide +kernel
theorem d_JI_bitCount_38 : decode b_JI_bitCount 38 = .ok (.iushr, 1) := by decide +kernel
theorem d_JI_bitCount_39 : decode b_JI_bitCount 39 = .ok (.iadd, 1) := by decide +kernel
theorem d_JI_bitCount_40 : decode b_JI_bitCount 40 = .ok (.istore_n 0, 1) := by decide +kernel
theorem d_JI_bitCount_41 : decode b_JI_bitCount 41 = .ok (.iload_n 0, 1) := by decide +kernel
theorem d_JI_bitCount_42 : decode b_JI_bitCount 42 = .ok (.iload_n 0, 1) := by decide +kernel
theorem d_JI_bitCount_43 : decode b_JI_bitCount 43 = .ok (.bipush 16, 2) := by decide +kernel
theorem d_JI_bitCount_45 : decode b_JI_bitCount 45 = .ok (.iushr, 1) := by decide +kernel
theorem d_JI_bitCount_46 : decode b_JI_bitCount 46 = .ok (.iadd, 1) := by decide +kernel
theorem d_JI_bitCount_47 : decode b_JI_bitCount 47 = .ok (.istore_n 0, 1) := by decide +kernel
theorem d_JI_bitCount_48 : decode b_JI_bitCount 48 = .ok (.iload_n 0, 1) := by decide +kernel
theorem d_JI_bitCount_49 : decode b_JI_bitCount 49 = .ok (.bipush 63, 2) := by decide +kernel
theorem d_JI_bitCount_51 : decode b_JI_bitCount 51 = .ok (.iand, 1) := by decide +kernel
theorem d_JI_bitCount_52 : decode b_JI_bitCount 52 = .ok (.ireturn, 1) := by decide +kernel
def y_B_isPixel : MethodName := ⟨R_B, "isPixel", "(I)Z"⟩
abbrev b_B_isPixel : ByteArray := prog_1_method_11_code
def w_B_isPixel : List Cond := .code y_B_isPixel b_B_isPixel 1 (some .boolean) :: TB
theorem d_B_isPixel_0 : decode b_B_isPixel 0 = .ok (.iload_n 0, 1) := by decide +kernel
theorem d_B_isPixel_1 : decode b_B_isPixel 1 = .ok (.ifCond .lt 14, 3) := by decide +kernel
theorem d_B_isPixel_4 : decode b_B_isPixel 4 = .ok (.iload_n 0, 1) := by decide +kernel
theorem d_B_isPixel_5 : decode b_B_isPixel 5 = .ok (.sipush 160, 3) := by decide +kernel
theorem d_B_isPixel_8 : decode b_B_isPixel 8 = .ok (.if_icmp .ge 7, 3) := by decide +kernel
theorem d_B_isPixel_11 : decode b_B_isPixel 11 = .ok (.iconst 1, 1) := by decide +kernel
theorem d_B_isPixel_12 : decode b_B_isPixel 12 = .ok (.goto 4, 3) := by decide +kernel
theorem d_B_isPixel_15 : decode b_B_isPixel 15 = .ok (.iconst 0, 1) := by decide +kernel
theorem d_B_isPixel_16 : decode b_B_isPixel 16 = .ok (.ireturn, 1) := by decide +kernel
def y_B_isObject : MethodName := ⟨R_B, "isObject", "(I)Z"⟩
abbrev b_B_isObject : ByteArray := prog_1_method_12_code
def w_B_isObject : List Cond := .code y_B_isObject b_B_isObject 1 (some .boolean) :: TB
theorem d_B_isObject_0 : decode b_B_isObject 0 = .ok (.iload_n 0, 1) := by decide +kernel
theorem d_B_isObject_1 : decode b_B_isObject 1 = .ok (.ifCond .lt 13, 3) := by decide +kernel
theorem d_B_isObject_4 : decode b_B_isObject 4 = .ok (.iload_n 0, 1) := by decide +kernel
theorem d_B_isObject_5 : decode b_B_isObject 5 = .ok (.bipush 6, 2) := by decide +kernel
theorem d_B_isObject_7 : decode b_B_isObject 7 = .ok (.if_icmp .ge 7, 3) := by decide +kernel
theorem d_B_isObject_10 : decode b_B_isObject 10 = .ok (.iconst 1, 1) := by decide +kernel
theorem d_B_isObject_11 : decode b_B_isObject 11 = .ok (.goto 4, 3) := by decide +kernel
theorem d_B_isObject_14 : decode b_B_isObject 14 = .ok (.iconst 0, 1) := by decide +kernel
theorem d_B_isObject_15 : decode b_B_isObject 15 = .ok (.ireturn, 1) := by decide +kernel
def y_B_hasBit : MethodName := ⟨R_B, "hasBit", "(II)Z"⟩
abbrev b_B_hasBit : ByteArray := prog_1_method_13_code
def w_B_hasBit : List Cond := .code y_B_hasBit b_B_hasBit 3 (some .boolean) :: TB
theorem d_B_hasBit_0 : decode b_B_hasBit 0 = .ok (.aload_n 0, 1) := by decide +kernel
theorem d_B_hasBit_1 : decode b_B_hasBit 1 = .ok (.getfield 9, 3) := by decide +kernel
theorem d_B_hasBit_4 : decode b_B_hasBit 4 = .ok (.iload_n 1, 1) := by decide +kernel
theorem d_B_hasBit_5 : decode b_B_hasBit 5 = .ok (.iaload, 1) := by decide +kernel
theorem d_B_hasBit_6 : decode b_B_hasBit 6 = .ok (.iload_n 2, 1) := by decide +kernel
theorem d_B_hasBit_7 : decode b_B_hasBit 7 = .ok (.iand, 1) := by decide +kernel
theorem d_B_hasBit_8 : decode b_B_hasBit 8 = .ok (.ifCond .eq 7, 3) := by decide +kernel
theorem d_B_hasBit_11 : decode b_B_hasBit 11 = .ok (.iconst 1, 1) := by decide +kernel
theorem d_B_hasBit_12 : decode b_B_hasBit 12 = .ok (.goto 4, 3) := by decide +kernel
theorem d_B_hasBit_15 : decode b_B_hasBit 15 = .ok (.iconst 0, 1) := by decide +kernel
theorem d_B_hasBit_16 : decode b_B_hasBit 16 = .ok (.ireturn, 1) := by decide +kernel
def y_B_copiesOf : MethodName := ⟨R_B, "copiesOf", "(I)I"⟩
abbrev b_B_copiesOf : ByteArray := prog_1_method_33_code
def w_B_copiesOf : List Cond := .code y_B_copiesOf b_B_copiesOf 2 (some .int) :: TB
theorem d_B_copiesOf_0 : decode b_B_copiesOf 0 = .ok (.aload_n 0, 1) := by decide +kernel
theorem d_B_copiesOf_1 : decode b_B_copiesOf 1 = .ok (.getfield 9, 3) := by decide +kernel
theorem d_B_copiesOf_4 : decode b_B_copiesOf 4 = .ok (.bipush 17, 2) := by decide +kernel
theorem d_B_copiesOf_6 : decode b_B_copiesOf 6 = .ok (.iload_n 1, 1) := by decide +kernel
theorem d_B_copiesOf_7 : decode b_B_copiesOf 7 = .ok (.iadd, 1) := by decide +kernel
theorem d_B_copiesOf_8 : decode b_B_copiesOf 8 = .ok (.iaload, 1) := by decide +kernel
theorem d_B_copiesOf_9 : decode b_B_copiesOf 9 = .ok (.bipush 7, 2) := by decide +kernel
theorem d_B_copiesOf_11 : decode b_B_copiesOf 11 = .ok (.iand, 1) := by decide +kernel
theorem d_B_copiesOf_12 : decode b_B_copiesOf 12 = .ok (.ireturn, 1) := by decide +kernel
def y_B_widthIn : MethodName := ⟨R_B, "widthIn", "(I)I"⟩
abbrev b_B_widthIn : ByteArray := prog_1_method_34_code
def w_B_widthIn : List Cond := .code y_B_widthIn b_B_widthIn 2 (some .int) :: TB
theorem d_B_widthIn_0 : decode b_B_widthIn 0 = .ok (.iconst 1, 1) := by decide +kernel
theorem d_B_widthIn_1 : decode b_B_widthIn 1 = .ok (.aload_n 0, 1) := by decide +kernel
theorem d_B_widthIn_2 : decode b_B_widthIn 2 = .ok (.getfield 9, 3) := by decide +kernel
theorem d_B_widthIn_5 : decode b_B_widthIn 5 = .ok (.iload_n 1, 1) := by decide +kernel
theorem d_B_widthIn_6 : decode b_B_widthIn 6 = .ok (.iaload, 1) := by decide +kernel
theorem d_B_widthIn_7 : decode b_B_widthIn 7 = .ok (.iconst 4, 1) := by decide +kernel
theorem d_B_widthIn_8 : decode b_B_widthIn 8 = .ok (.ishr, 1) := by decide +kernel
theorem d_B_widthIn_9 : decode b_B_widthIn 9 = .ok (.iconst 3, 1) := by decide +kernel
theorem d_B_widthIn_10 : decode b_B_widthIn 10 = .ok (.iand, 1) := by decide +kernel
theorem d_B_widthIn_11 : decode b_B_widthIn 11 = .ok (.ishl, 1) := by decide +kernel
theorem d_B_widthIn_12 : decode b_B_widthIn 12 = .ok (.ireturn, 1) := by decide +kernel
def y_B_behindPlace : MethodName := ⟨R_B, "behindPlace", "(II)I"⟩
abbrev b_B_behindPlace : ByteArray := prog_1_method_35_code
def w_B_behindPlace : List Cond := .code y_B_behindPlace b_B_behindPlace 3 (some .int) :: TB
theorem d_B_behindPlace_0 : decode b_B_behindPlace 0 = .ok (.iload_n 2, 1) := by decide +kernel
theorem d_B_behindPlace_1 : decode b_B_behindPlace 1 = .ok (.aload_n 0, 1) := by decide +kernel
theorem d_B_behindPlace_2 : decode b_B_behindPlace 2 = .ok (.getfield 16, 3) := by decide +kernel
theorem d_B_behindPlace_5 : decode b_B_behindPlace 5 = .ok (.iload_n 1, 1) := by decide +kernel
theorem d_B_behindPlace_6 : decode b_B_behindPlace 6 = .ok (.iaload, 1) := by decide +kernel
theorem d_B_behindPlace_7 : decode b_B_behindPlace 7 = .ok (.isub, 1) := by decide +kernel
theorem d_B_behindPlace_8 : decode b_B_behindPlace 8 = .ok (.sipush 160, 3) := by decide +kernel
theorem d_B_behindPlace_11 : decode b_B_behindPlace 11 = .ok (.invokestatic 121, 3) := by decide +kernel
theorem d_B_behindPlace_14 : decode b_B_behindPlace 14 = .ok (.ireturn, 1) := by decide +kernel
def y_B_behindCopy : MethodName := ⟨R_B, "behindCopy", "(II)I"⟩
abbrev b_B_behindCopy : ByteArray := prog_1_method_36_code
def w_B_behindCopy : List Cond := .code y_B_behindCopy b_B_behindCopy 3 (some .int) :: TB
theorem d_B_behindCopy_0 : decode b_B_behindCopy 0 = .ok (.getstatic 96, 3) := by decide +kernel
theorem d_B_behindCopy_3 : decode b_B_behindCopy 3 = .ok (.iload_n 0, 1) := by decide +kernel
theorem d_B_behindCopy_4 : decode b_B_behindCopy 4 = .ok (.iaload, 1) := by decide +kernel
theorem d_B_behindCopy_5 : decode b_B_behindCopy 5 = .ok (.ifCond .le 5, 3) := by decide +kernel
theorem d_B_behindCopy_8 : decode b_B_behindCopy 8 = .ok (.iload_n 1, 1) := by decide +kernel
theorem d_B_behindCopy_9 : decode b_B_behindCopy 9 = .ok (.ireturn, 1) := by decide +kernel
theorem d_B_behindCopy_10 : decode b_B_behindCopy 10 = .ok (.getstatic 174, 3) := by decide +kernel
theorem d_B_behindCopy_13 : decode b_B_behindCopy 13 = .ok (.iload_n 0, 1) := by decide +kernel
theorem d_B_behindCopy_14 : decode b_B_behindCopy 14 = .ok (.iaload, 1) := by decide +kernel
theorem d_B_behindCopy_15 : decode b_B_behindCopy 15 = .ok (.iload_n 1, 1) := by decide +kernel
theorem d_B_behindCopy_16 : decode b_B_behindCopy 16 = .ok (.bipush 16, 2) := by decide +kernel
theorem d_B_behindCopy_18 : decode b_B_behindCopy 18 = .ok (.idiv, 1) := by decide +kernel
theorem d_B_behindCopy_19 : decode b_B_behindCopy 19 = .ok (.ishr, 1) := by decide +kernel
theorem d_B_behindCopy_20 : decode b_B_behindCopy 20 = .ok (.iconst 1, 1) := by decide +kernel
theorem d_B_behindCopy_21 : decode b_B_behindCopy 21 = .ok (.iand, 1) := by decide +kernel
theorem d_B_behindCopy_22 : decode b_B_behindCopy 22 = .ok (.ifCond .eq 7, 3) := by decide +kernel
theorem d_B_behindCopy_25 : decode b_B_behindCopy 25 = .ok (.iconst 1, 1) := by decide +kernel
theorem d_B_behindCopy_26 : decode b_B_behindCopy 26 = .ok (.goto 4, 3) := by decide +kernel
theorem d_B_behindCopy_29 : decode b_B_behindCopy 29 = .ok (.iconst 0, 1) := by decide +kernel
theorem d_B_behindCopy_30 : decode b_B_behindCopy 30 = .ok (.istore_n 2, 1) := by decide +kernel
theorem d_B_behindCopy_31 : decode b_B_behindCopy 31 = .ok (.iload_n 2, 1) := by decide +kernel
theorem d_B_behindCopy_32 : decode b_B_behindCopy 32 = .ok (.ifCond .eq 10, 3) := by decide +kernel
theorem d_B_behindCopy_35 : decode b_B_behindCopy 35 = .ok (.iload_n 1, 1) := by decide +kernel
theorem d_B_behindCopy_36 : decode b_B_behindCopy 36 = .ok (.bipush 16, 2) := by decide +kernel
theorem d_B_behindCopy_38 : decode b_B_behindCopy 38 = .ok (.irem, 1) := by decide +kernel
theorem d_B_behindCopy_39 : decode b_B_behindCopy 39 = .ok (.goto 6, 3) := by decide +kernel
theorem d_B_behindCopy_42 : decode b_B_behindCopy 42 = .ok (.sipush 160, 3) := by decide +kernel
theorem d_B_behindCopy_45 : decode b_B_behindCopy 45 = .ok (.ireturn, 1) := by decide +kernel
def y_B_motionOf : MethodName := ⟨R_B, "motionOf", "(I)I"⟩
abbrev b_B_motionOf : ByteArray := prog_1_method_19_code
def w_B_motionOf : List Cond := .code y_B_motionOf b_B_motionOf 3 (some .int) :: TB
theorem d_B_motionOf_0 : decode b_B_motionOf 0 = .ok (.aload_n 0, 1) := by decide +kernel
theorem d_B_motionOf_1 : decode b_B_motionOf 1 = .ok (.getfield 9, 3) := by decide +kernel
theorem d_B_motionOf_4 : decode b_B_motionOf 4 = .ok (.bipush 23, 2) := by decide +kernel
theorem d_B_motionOf_6 : decode b_B_motionOf 6 = .ok (.iload_n 1, 1) := by decide +kernel
theorem d_B_motionOf_7 : decode b_B_motionOf 7 = .ok (.iadd, 1) := by decide +kernel
theorem d_B_motionOf_8 : decode b_B_motionOf 8 = .ok (.iaload, 1) := by decide +kernel
theorem d_B_motionOf_9 : decode b_B_motionOf 9 = .ok (.iconst 4, 1) := by decide +kernel
theorem d_B_motionOf_10 : decode b_B_motionOf 10 = .ok (.ishr, 1) := by decide +kernel
theorem d_B_motionOf_11 : decode b_B_motionOf 11 = .ok (.istore_n 2, 1) := by decide +kernel
theorem d_B_motionOf_12 : decode b_B_motionOf 12 = .ok (.iload_n 2, 1) := by decide +kernel
theorem d_B_motionOf_13 : decode b_B_motionOf 13 = .ok (.bipush 8, 2) := by decide +kernel
theorem d_B_motionOf_15 : decode b_B_motionOf 15 = .ok (.if_icmp .ge 7, 3) := by decide +kernel
theorem d_B_motionOf_18 : decode b_B_motionOf 18 = .ok (.iload_n 2, 1) := by decide +kernel
theorem d_B_motionOf_19 : decode b_B_motionOf 19 = .ok (.goto 7, 3) := by decide +kernel
theorem d_B_motionOf_22 : decode b_B_motionOf 22 = .ok (.iload_n 2, 1) := by decide +kernel
theorem d_B_motionOf_23 : decode b_B_motionOf 23 = .ok (.bipush 16, 2) := by decide +kernel
theorem d_B_motionOf_25 : decode b_B_motionOf 25 = .ok (.isub, 1) := by decide +kernel
theorem d_B_motionOf_26 : decode b_B_motionOf 26 = .ok (.ireturn, 1) := by decide +kernel
def y_B_hasFieldBit : MethodName := ⟨R_B, "hasFieldBit", "(I)Z"⟩
abbrev b_B_hasFieldBit : ByteArray := prog_1_method_32_code
def w_B_hasFieldBit : List Cond := .code y_B_hasFieldBit b_B_hasFieldBit 2 (some .boolean) :: TB
theorem d_B_hasFieldBit_0 : decode b_B_hasFieldBit 0 = .ok (.iload_n 1, 1) := by decide +kernel
theorem d_B_hasFieldBit_1 : decode b_B_hasFieldBit 1 = .ok (.iconst 4, 1) := by decide +kernel
theorem d_B_hasFieldBit_2 : decode b_B_hasFieldBit 2 = .ok (.if_icmp .ge 13, 3) := by decide +kernel
theorem d_B_hasFieldBit_5 : decode b_B_hasFieldBit 5 = .ok (.aload_n 0, 1) := by decide +kernel
theorem d_B_hasFieldBit_6 : decode b_B_hasFieldBit 6 = .ok (.iconst 5, 1) := by decide +kernel
theorem d_B_hasFieldBit_7 : decode b_B_hasFieldBit 7 = .ok (.bipush 16, 2) := by decide +kernel
theorem d_B_hasFieldBit_9 : decode b_B_hasFieldBit 9 = .ok (.iload_n 1, 1) := by decide +kernel
theorem d_B_hasFieldBit_10 : decode b_B_hasFieldBit 10 = .ok (.ishl, 1) := by decide +kernel
theorem d_B_hasFieldBit_11 : decode b_B_hasFieldBit 11 = .ok (.invokevirtual 90, 3) := by decide +kernel
theorem d_B_hasFieldBit_14 : decode b_B_hasFieldBit 14 = .ok (.ireturn, 1) := by decide +kernel
theorem d_B_hasFieldBit_15 : decode b_B_hasFieldBit 15 = .ok (.iload_n 1, 1) := by decide +kernel
theorem d_B_hasFieldBit_16 : decode b_B_hasFieldBit 16 = .ok (.bipush 12, 2) := by decide +kernel
theorem d_B_hasFieldBit_18 : decode b_B_hasFieldBit 18 = .ok (.if_icmp .ge 17, 3) := by decide +kernel
theorem d_B_hasFieldBit_21 : decode b_B_hasFieldBit 21 = .ok (.aload_n 0, 1) := by decide +kernel
theorem d_B_hasFieldBit_22 : decode b_B_hasFieldBit 22 = .ok (.bipush 6, 2) := by decide +kernel
theorem d_B_hasFieldBit_24 : decode b_B_hasFieldBit 24 = .ok (.sipush 128, 3) := by decide +kernel
theorem d_B_hasFieldBit_27 : decode b_B_hasFieldBit 27 = .ok (.iload_n 1, 1) := by decide +kernel
theorem d_B_hasFieldBit_28 : decode b_B_hasFieldBit 28 = .ok (.iconst 4, 1) := by decide +kernel
theorem d_B_hasFieldBit_29 : decode b_B_hasFieldBit 29 = .ok (.isub, 1) := by decide +kernel
theorem d_B_hasFieldBit_30 : decode b_B_hasFieldBit 30 = .ok (.ishr, 1) := by decide +kernel
theorem d_B_hasFieldBit_31 : decode b_B_hasFieldBit 31 = .ok (.invokevirtual 90, 3) := by decide +kernel
theorem d_B_hasFieldBit_34 : decode b_B_hasFieldBit 34 = .ok (.ireturn, 1) := by decide +kernel
theorem d_B_hasFieldBit_35 : decode b_B_hasFieldBit 35 = .ok (.aload_n 0, 1) := by decide +kernel
theorem d_B_hasFieldBit_36 : decode b_B_hasFieldBit 36 = .ok (.bipush 7, 2) := by decide +kernel
theorem d_B_hasFieldBit_38 : decode b_B_hasFieldBit 38 = .ok (.iconst 1, 1) := by decide +kernel
theorem d_B_hasFieldBit_39 : decode b_B_hasFieldBit 39 = .ok (.iload_n 1, 1) := by decide +kernel
theorem d_B_hasFieldBit_40 : decode b_B_hasFieldBit 40 = .ok (.bipush 12, 2) := by decide +kernel
theorem d_B_hasFieldBit_42 : decode b_B_hasFieldBit 42 = .ok (.isub, 1) := by decide +kernel
theorem d_B_hasFieldBit_43 : decode b_B_hasFieldBit 43 = .ok (.ishl, 1) := by decide +kernel
theorem d_B_hasFieldBit_44 : decode b_B_hasFieldBit 44 = .ok (.invokevirtual 90, 3) := by decide +kernel
theorem d_B_hasFieldBit_47 : decode b_B_hasFieldBit 47 = .ok (.ireturn, 1) := by decide +kernel
def y_B_isFieldAt : MethodName := ⟨R_B, "isFieldAt", "(I)Z"⟩
abbrev b_B_isFieldAt : ByteArray := prog_1_method_31_code
def w_B_isFieldAt : List Cond := .code y_B_isFieldAt b_B_isFieldAt 3 (some .boolean) :: TB
theorem d_B_isFieldAt_0 : decode b_B_isFieldAt 0 = .ok (.iload_n 1, 1) := by decide +kernel
theorem d_B_isFieldAt_1 : decode b_B_isFieldAt 1 = .ok (.bipush 80, 2) := by decide +kernel
theorem d_B_isFieldAt_3 : decode b_B_isFieldAt 3 = .ok (.if_icmp .ge 11, 3) := by decide +kernel
theorem d_B_isFieldAt_6 : decode b_B_isFieldAt 6 = .ok (.aload_n 0, 1) := by decide +kernel
theorem d_B_isFieldAt_7 : decode b_B_isFieldAt 7 = .ok (.iload_n 1, 1) := by decide +kernel
theorem d_B_isFieldAt_8 : decode b_B_isFieldAt 8 = .ok (.iconst 4, 1) := by decide +kernel
theorem d_B_isFieldAt_9 : decode b_B_isFieldAt 9 = .ok (.idiv, 1) := by decide +kernel
theorem d_B_isFieldAt_10 : decode b_B_isFieldAt 10 = .ok (.invokevirtual 171, 3) := by decide +kernel
theorem d_B_isFieldAt_13 : decode b_B_isFieldAt 13 = .ok (.ireturn, 1) := by decide +kernel
theorem d_B_isFieldAt_14 : decode b_B_isFieldAt 14 = .ok (.iload_n 1, 1) := by decide +kernel
theorem d_B_isFieldAt_15 : decode b_B_isFieldAt 15 = .ok (.bipush 80, 2) := by decide +kernel
theorem d_B_isFieldAt_17 : decode b_B_isFieldAt 17 = .ok (.isub, 1) := by decide +kernel
theorem d_B_isFieldAt_18 : decode b_B_isFieldAt 18 = .ok (.iconst 4, 1) := by decide +kernel
theorem d_B_isFieldAt_19 : decode b_B_isFieldAt 19 = .ok (.idiv, 1) := by decide +kernel
theorem d_B_isFieldAt_20 : decode b_B_isFieldAt 20 = .ok (.istore_n 2, 1) := by decide +kernel
theorem d_B_isFieldAt_21 : decode b_B_isFieldAt 21 = .ok (.aload_n 0, 1) := by decide +kernel
theorem d_B_isFieldAt_22 : decode b_B_isFieldAt 22 = .ok (.aload_n 0, 1) := by decide +kernel
theorem d_B_isFieldAt_23 : decode b_B_isFieldAt 23 = .ok (.bipush 8, 2) := by decide +kernel
theorem d_B_isFieldAt_25 : decode b_B_isFieldAt 25 = .ok (.iconst 1, 1) := by decide +kernel
theorem d_B_isFieldAt_26 : decode b_B_isFieldAt 26 = .ok (.invokevirtual 90, 3) := by decide +kernel
theorem d_B_isFieldAt_29 : decode b_B_isFieldAt 29 = .ok (.ifCond .eq 10, 3) := by decide +kernel
theorem d_B_isFieldAt_32 : decode b_B_isFieldAt 32 = .ok (.bipush 19, 2) := by decide +kernel
theorem d_B_isFieldAt_34 : decode b_B_isFieldAt 34 = .ok (.iload_n 2, 1) := by decide +kernel
theorem d_B_isFieldAt_35 : decode b_B_isFieldAt 35 = .ok (.isub, 1) := by decide +kernel
theorem d_B_isFieldAt_36 : decode b_B_isFieldAt 36 = .ok (.goto 4, 3) := by decide +kernel
theorem d_B_isFieldAt_39 : decode b_B_isFieldAt 39 = .ok (.iload_n 2, 1) := by decide +kernel
theorem d_B_isFieldAt_40 : decode b_B_isFieldAt 40 = .ok (.invokevirtual 171, 3) := by decide +kernel
theorem d_B_isFieldAt_43 : decode b_B_isFieldAt 43 = .ok (.ireturn, 1) := by decide +kernel
def y_B_isBallAt : MethodName := ⟨R_B, "isBallAt", "(I)Z"⟩
abbrev b_B_isBallAt : ByteArray := prog_1_method_30_code
def w_B_isBallAt : List Cond := .code y_B_isBallAt b_B_isBallAt 3 (some .boolean) :: TB
theorem d_B_isBallAt_0 : decode b_B_isBallAt 0 = .ok (.aload_n 0, 1) := by decide +kernel
theorem d_B_isBallAt_1 : decode b_B_isBallAt 1 = .ok (.bipush 14, 2) := by decide +kernel
theorem d_B_isBallAt_3 : decode b_B_isBallAt 3 = .ok (.iconst 1, 1) := by decide +kernel
theorem d_B_isBallAt_4 : decode b_B_isBallAt 4 = .ok (.invokevirtual 90, 3) := by decide +kernel
theorem d_B_isBallAt_7 : decode b_B_isBallAt 7 = .ok (.ifCond .eq 10, 3) := by decide +kernel
theorem d_B_isBallAt_10 : decode b_B_isBallAt 10 = .ok (.aload_n 0, 1) := by decide +kernel
theorem d_B_isBallAt_11 : decode b_B_isBallAt 11 = .ok (.getfield 87, 3) := by decide +kernel
theorem d_B_isBallAt_14 : decode b_B_isBallAt 14 = .ok (.goto 10, 3) := by decide +kernel
theorem d_B_isBallAt_17 : decode b_B_isBallAt 17 = .ok (.aload_n 0, 1) := by decide +kernel
theorem d_B_isBallAt_18 : decode b_B_isBallAt 18 = .ok (.getfield 9, 3) := by decide +kernel
theorem d_B_isBallAt_21 : decode b_B_isBallAt 21 = .ok (.bipush 13, 2) := by decide +kernel
theorem d_B_isBallAt_23 : decode b_B_isBallAt 23 = .ok (.iaload, 1) := by decide +kernel
theorem d_B_isBallAt_24 : decode b_B_isBallAt 24 = .ok (.istore_n 2, 1) := by decide +kernel
theorem d_B_isBallAt_25 : decode b_B_isBallAt 25 = .ok (.iload_n 2, 1) := by decide +kernel
theorem d_B_isBallAt_26 : decode b_B_isBallAt 26 = .ok (.iconst 2, 1) := by decide +kernel
theorem d_B_isBallAt_27 : decode b_B_isBallAt 27 = .ok (.iand, 1) := by decide +kernel
theorem d_B_isBallAt_28 : decode b_B_isBallAt 28 = .ok (.ifCond .eq 22, 3) := by decide +kernel
theorem d_B_isBallAt_31 : decode b_B_isBallAt 31 = .ok (.aload_n 0, 1) := by decide +kernel
theorem d_B_isBallAt_32 : decode b_B_isBallAt 32 = .ok (.iconst 4, 1) := by decide +kernel
theorem d_B_isBallAt_33 : decode b_B_isBallAt 33 = .ok (.iload_n 1, 1) := by decide +kernel
theorem d_B_isBallAt_34 : decode b_B_isBallAt 34 = .ok (.invokevirtual 162, 3) := by decide +kernel
theorem d_B_isBallAt_37 : decode b_B_isBallAt 37 = .ok (.aload_n 0, 1) := by decide +kernel
theorem d_B_isBallAt_38 : decode b_B_isBallAt 38 = .ok (.bipush 8, 2) := by decide +kernel
theorem d_B_isBallAt_40 : decode b_B_isBallAt 40 = .ok (.invokevirtual 168, 3) := by decide +kernel
theorem d_B_isBallAt_43 : decode b_B_isBallAt 43 = .ok (.if_icmp .ge 7, 3) := by decide +kernel
theorem d_B_isBallAt_46 : decode b_B_isBallAt 46 = .ok (.iconst 1, 1) := by decide +kernel
theorem d_B_isBallAt_47 : decode b_B_isBallAt 47 = .ok (.goto 4, 3) := by decide +kernel
theorem d_B_isBallAt_50 : decode b_B_isBallAt 50 = .ok (.iconst 0, 1) := by decide +kernel
theorem d_B_isBallAt_51 : decode b_B_isBallAt 51 = .ok (.ireturn, 1) := by decide +kernel
def y_B_isMissileAt : MethodName := ⟨R_B, "isMissileAt", "(II)Z"⟩
abbrev b_B_isMissileAt : ByteArray := prog_1_method_29_code
def w_B_isMissileAt : List Cond := .code y_B_isMissileAt b_B_isMissileAt 3 (some .boolean) :: TB
theorem d_B_isMissileAt_0 : decode b_B_isMissileAt 0 = .ok (.aload_n 0, 1) := by decide +kernel
theorem d_B_isMissileAt_1 : decode b_B_isMissileAt 1 = .ok (.bipush 19, 2) := by decide +kernel
theorem d_B_isMissileAt_3 : decode b_B_isMissileAt 3 = .ok (.iload_n 1, 1) := by decide +kernel
theorem d_B_isMissileAt_4 : decode b_B_isMissileAt 4 = .ok (.iadd, 1) := by decide +kernel
theorem d_B_isMissileAt_5 : decode b_B_isMissileAt 5 = .ok (.iconst 2, 1) := by decide +kernel
theorem d_B_isMissileAt_6 : decode b_B_isMissileAt 6 = .ok (.invokevirtual 90, 3) := by decide +kernel
theorem d_B_isMissileAt_9 : decode b_B_isMissileAt 9 = .ok (.ifCond .eq 15, 3) := by decide +kernel
theorem d_B_isMissileAt_12 : decode b_B_isMissileAt 12 = .ok (.aload_n 0, 1) := by decide +kernel
theorem d_B_isMissileAt_13 : decode b_B_isMissileAt 13 = .ok (.bipush 21, 2) := by decide +kernel
theorem d_B_isMissileAt_15 : decode b_B_isMissileAt 15 = .ok (.iload_n 1, 1) := by decide +kernel
theorem d_B_isMissileAt_16 : decode b_B_isMissileAt 16 = .ok (.iadd, 1) := by decide +kernel
theorem d_B_isMissileAt_17 : decode b_B_isMissileAt 17 = .ok (.iconst 2, 1) := by decide +kernel
theorem d_B_isMissileAt_18 : decode b_B_isMissileAt 18 = .ok (.invokevirtual 90, 3) := by decide +kernel
theorem d_B_isMissileAt_21 : decode b_B_isMissileAt 21 = .ok (.ifCond .eq 5, 3) := by decide +kernel
theorem d_B_isMissileAt_24 : decode b_B_isMissileAt 24 = .ok (.iconst 0, 1) := by decide +kernel
theorem d_B_isMissileAt_25 : decode b_B_isMissileAt 25 = .ok (.ireturn, 1) := by decide +kernel
theorem d_B_isMissileAt_26 : decode b_B_isMissileAt 26 = .ok (.aload_n 0, 1) := by decide +kernel
theorem d_B_isMissileAt_27 : decode b_B_isMissileAt 27 = .ok (.iload_n 1, 1) := by decide +kernel
theorem d_B_isMissileAt_28 : decode b_B_isMissileAt 28 = .ok (.invokevirtual 99, 3) := by decide +kernel
theorem d_B_isMissileAt_31 : decode b_B_isMissileAt 31 = .ok (.aload_n 0, 1) := by decide +kernel
theorem d_B_isMissileAt_32 : decode b_B_isMissileAt 32 = .ok (.iconst 2, 1) := by decide +kernel
theorem d_B_isMissileAt_33 : decode b_B_isMissileAt 33 = .ok (.iload_n 1, 1) := by decide +kernel
theorem d_B_isMissileAt_34 : decode b_B_isMissileAt 34 = .ok (.iadd, 1) := by decide +kernel
theorem d_B_isMissileAt_35 : decode b_B_isMissileAt 35 = .ok (.iload_n 2, 1) := by decide +kernel
theorem d_B_isMissileAt_36 : decode b_B_isMissileAt 36 = .ok (.invokevirtual 162, 3) := by decide +kernel
theorem d_B_isMissileAt_39 : decode b_B_isMissileAt 39 = .ok (.invokestatic 165, 3) := by decide +kernel
theorem d_B_isMissileAt_42 : decode b_B_isMissileAt 42 = .ok (.aload_n 0, 1) := by decide +kernel
theorem d_B_isMissileAt_43 : decode b_B_isMissileAt 43 = .ok (.bipush 17, 2) := by decide +kernel
theorem d_B_isMissileAt_45 : decode b_B_isMissileAt 45 = .ok (.iload_n 1, 1) := by decide +kernel
theorem d_B_isMissileAt_46 : decode b_B_isMissileAt 46 = .ok (.iadd, 1) := by decide +kernel
theorem d_B_isMissileAt_47 : decode b_B_isMissileAt 47 = .ok (.invokevirtual 168, 3) := by decide +kernel
theorem d_B_isMissileAt_50 : decode b_B_isMissileAt 50 = .ok (.if_icmp .ge 7, 3) := by decide +kernel
theorem d_B_isMissileAt_53 : decode b_B_isMissileAt 53 = .ok (.iconst 1, 1) := by decide +kernel
theorem d_B_isMissileAt_54 : decode b_B_isMissileAt 54 = .ok (.goto 4, 3) := by decide +kernel
theorem d_B_isMissileAt_57 : decode b_B_isMissileAt 57 = .ok (.iconst 0, 1) := by decide +kernel
theorem d_B_isMissileAt_58 : decode b_B_isMissileAt 58 = .ok (.ireturn, 1) := by decide +kernel
def y_B_isPlayerAt : MethodName := ⟨R_B, "isPlayerAt", "(II)Z"⟩
abbrev b_B_isPlayerAt : ByteArray := prog_1_method_28_code
def w_B_isPlayerAt : List Cond := .code y_B_isPlayerAt b_B_isPlayerAt 7 (some .boolean) :: TB
theorem d_B_isPlayerAt_0 : decode b_B_isPlayerAt 0 = .ok (.aload_n 0, 1) := by decide +kernel
theorem d_B_isPlayerAt_1 : decode b_B_isPlayerAt 1 = .ok (.bipush 11, 2) := by decide +kernel
theorem d_B_isPlayerAt_3 : decode b_B_isPlayerAt 3 = .ok (.iload_n 1, 1) := by decide +kernel
theorem d_B_isPlayerAt_4 : decode b_B_isPlayerAt 4 = .ok (.iadd, 1) := by decide +kernel
theorem d_B_isPlayerAt_5 : decode b_B_isPlayerAt 5 = .ok (.iconst 1, 1) := by decide +kernel
theorem d_B_isPlayerAt_6 : decode b_B_isPlayerAt 6 = .ok (.invokevirtual 90, 3) := by decide +kernel
theorem d_B_isPlayerAt_9 : decode b_B_isPlayerAt 9 = .ok (.ifCond .eq 12, 3) := by decide +kernel
theorem d_B_isPlayerAt_12 : decode b_B_isPlayerAt 12 = .ok (.aload_n 0, 1) := by decide +kernel
theorem d_B_isPlayerAt_13 : decode b_B_isPlayerAt 13 = .ok (.getfield 13, 3) := by decide +kernel
theorem d_B_isPlayerAt_16 : decode b_B_isPlayerAt 16 = .ok (.iload_n 1, 1) := by decide +kernel
theorem d_B_isPlayerAt_17 : decode b_B_isPlayerAt 17 = .ok (.iaload, 1) := by decide +kernel
theorem d_B_isPlayerAt_18 : decode b_B_isPlayerAt 18 = .ok (.goto 12, 3) := by decide +kernel
theorem d_B_isPlayerAt_21 : decode b_B_isPlayerAt 21 = .ok (.aload_n 0, 1) := by decide +kernel
theorem d_B_isPlayerAt_22 : decode b_B_isPlayerAt 22 = .ok (.getfield 9, 3) := by decide +kernel
theorem d_B_isPlayerAt_25 : decode b_B_isPlayerAt 25 = .ok (.bipush 9, 2) := by decide +kernel
theorem d_B_isPlayerAt_27 : decode b_B_isPlayerAt 27 = .ok (.iload_n 1, 1) := by decide +kernel
theorem d_B_isPlayerAt_28 : decode b_B_isPlayerAt 28 = .ok (.iadd, 1) := by decide +kernel
theorem d_B_isPlayerAt_29 : decode b_B_isPlayerAt 29 = .ok (.iaload, 1) := by decide +kernel
theorem d_B_isPlayerAt_30 : decode b_B_isPlayerAt 30 = .ok (.istore_n 3, 1) := by decide +kernel
theorem d_B_isPlayerAt_31 : decode b_B_isPlayerAt 31 = .ok (.aload_n 0, 1) := by decide +kernel
theorem d_B_isPlayerAt_32 : decode b_B_isPlayerAt 32 = .ok (.iload_n 1, 1) := by decide +kernel
theorem d_B_isPlayerAt_33 : decode b_B_isPlayerAt 33 = .ok (.invokevirtual 99, 3) := by decide +kernel
theorem d_B_isPlayerAt_36 : decode b_B_isPlayerAt 36 = .ok (.istore 4, 2) := by decide +kernel
theorem d_B_isPlayerAt_38 : decode b_B_isPlayerAt 38 = .ok (.iload 4, 2) := by decide +kernel
theorem d_B_isPlayerAt_40 : decode b_B_isPlayerAt 40 = .ok (.aload_n 0, 1) := by decide +kernel
theorem d_B_isPlayerAt_41 : decode b_B_isPlayerAt 41 = .ok (.iload_n 1, 1) := by decide +kernel
theorem d_B_isPlayerAt_42 : decode b_B_isPlayerAt 42 = .ok (.iload_n 2, 1) := by decide +kernel
theorem d_B_isPlayerAt_43 : decode b_B_isPlayerAt 43 = .ok (.invokevirtual 162, 3) := by decide +kernel
theorem d_B_isPlayerAt_46 : decode b_B_isPlayerAt 46 = .ok (.invokestatic 165, 3) := by decide +kernel
theorem d_B_isPlayerAt_49 : decode b_B_isPlayerAt 49 = .ok (.getstatic 96, 3) := by decide +kernel
theorem d_B_isPlayerAt_52 : decode b_B_isPlayerAt 52 = .ok (.iload 4, 2) := by decide +kernel
theorem d_B_isPlayerAt_54 : decode b_B_isPlayerAt 54 = .ok (.iaload, 1) := by decide +kernel
theorem d_B_isPlayerAt_55 : decode b_B_isPlayerAt 55 = .ok (.ishr, 1) := by decide +kernel
theorem d_B_isPlayerAt_56 : decode b_B_isPlayerAt 56 = .ok (.istore 5, 2) := by decide +kernel
theorem d_B_isPlayerAt_58 : decode b_B_isPlayerAt 58 = .ok (.iload 5, 2) := by decide +kernel
theorem d_B_isPlayerAt_60 : decode b_B_isPlayerAt 60 = .ok (.bipush 7, 2) := by decide +kernel
theorem d_B_isPlayerAt_62 : decode b_B_isPlayerAt 62 = .ok (.if_icmp .le 5, 3) := by decide +kernel
theorem d_B_isPlayerAt_65 : decode b_B_isPlayerAt 65 = .ok (.iconst 0, 1) := by decide +kernel
theorem d_B_isPlayerAt_66 : decode b_B_isPlayerAt 66 = .ok (.ireturn, 1) := by decide +kernel
theorem d_B_isPlayerAt_67 : decode b_B_isPlayerAt 67 = .ok (.aload_n 0, 1) := by decide +kernel
theorem d_B_isPlayerAt_68 : decode b_B_isPlayerAt 68 = .ok (.bipush 15, 2) := by decide +kernel
theorem d_B_isPlayerAt_70 : decode b_B_isPlayerAt 70 = .ok (.iload_n 1, 1) := by decide +kernel
theorem d_B_isPlayerAt_71 : decode b_B_isPlayerAt 71 = .ok (.iadd, 1) := by decide +kernel
theorem d_B_isPlayerAt_72 : decode b_B_isPlayerAt 72 = .ok (.bipush 8, 2) := by decide +kernel
theorem d_B_isPlayerAt_74 : decode b_B_isPlayerAt 74 = .ok (.invokevirtual 90, 3) := by decide +kernel
theorem d_B_isPlayerAt_77 : decode b_B_isPlayerAt 77 = .ok (.ifCond .eq 8, 3) := by decide +kernel
theorem d_B_isPlayerAt_80 : decode b_B_isPlayerAt 80 = .ok (.iload 5, 2) := by decide +kernel
theorem d_B_isPlayerAt_82 : decode b_B_isPlayerAt 82 = .ok (.goto 8, 3) := by decide +kernel
theorem d_B_isPlayerAt_85 : decode b_B_isPlayerAt 85 = .ok (.bipush 7, 2) := by decide +kernel
theorem d_B_isPlayerAt_87 : decode b_B_isPlayerAt 87 = .ok (.iload 5, 2) := by decide +kernel
theorem d_B_isPlayerAt_89 : decode b_B_isPlayerAt 89 = .ok (.isub, 1) := by decide +kernel
theorem d_B_isPlayerAt_90 : decode b_B_isPlayerAt 90 = .ok (.istore 6, 2) := by decide +kernel
theorem d_B_isPlayerAt_92 : decode b_B_isPlayerAt 92 = .ok (.iload_n 3, 1) := by decide +kernel
theorem d_B_isPlayerAt_93 : decode b_B_isPlayerAt 93 = .ok (.iload 6, 2) := by decide +kernel
theorem d_B_isPlayerAt_95 : decode b_B_isPlayerAt 95 = .ok (.ishr, 1) := by decide +kernel
theorem d_B_isPlayerAt_96 : decode b_B_isPlayerAt 96 = .ok (.iconst 1, 1) := by decide +kernel
theorem d_B_isPlayerAt_97 : decode b_B_isPlayerAt 97 = .ok (.iand, 1) := by decide +kernel
theorem d_B_isPlayerAt_98 : decode b_B_isPlayerAt 98 = .ok (.ifCond .eq 7, 3) := by decide +kernel
theorem d_B_isPlayerAt_101 : decode b_B_isPlayerAt 101 = .ok (.iconst 1, 1) := by decide +kernel
theorem d_B_isPlayerAt_102 : decode b_B_isPlayerAt 102 = .ok (.goto 4, 3) := by decide +kernel
theorem d_B_isPlayerAt_105 : decode b_B_isPlayerAt 105 = .ok (.iconst 0, 1) := by decide +kernel
theorem d_B_isPlayerAt_106 : decode b_B_isPlayerAt 106 = .ok (.ireturn, 1) := by decide +kernel
def y_B_isAt : MethodName := ⟨R_B, "isAt", "(II)Z"⟩
abbrev b_B_isAt : ByteArray := prog_1_method_27_code
def w_B_isAt : List Cond := .code y_B_isAt b_B_isAt 3 (some .boolean) :: TB
theorem d_B_isAt_0 : decode b_B_isAt 0 = .ok (.iload_n 1, 1) := by decide +kernel
theorem d_B_isAt_1 : decode b_B_isAt 1 = .ok (.iconst 2, 1) := by decide +kernel
theorem d_B_isAt_2 : decode b_B_isAt 2 = .ok (.if_icmp .ge 10, 3) := by decide +kernel
theorem d_B_isAt_5 : decode b_B_isAt 5 = .ok (.aload_n 0, 1) := by decide +kernel
theorem d_B_isAt_6 : decode b_B_isAt 6 = .ok (.iload_n 1, 1) := by decide +kernel
theorem d_B_isAt_7 : decode b_B_isAt 7 = .ok (.iload_n 2, 1) := by decide +kernel
theorem d_B_isAt_8 : decode b_B_isAt 8 = .ok (.invokevirtual 150, 3) := by decide +kernel
theorem d_B_isAt_11 : decode b_B_isAt 11 = .ok (.ireturn, 1) := by decide +kernel
theorem d_B_isAt_12 : decode b_B_isAt 12 = .ok (.iload_n 1, 1) := by decide +kernel
theorem d_B_isAt_13 : decode b_B_isAt 13 = .ok (.iconst 4, 1) := by decide +kernel
theorem d_B_isAt_14 : decode b_B_isAt 14 = .ok (.if_icmp .ge 12, 3) := by decide +kernel
theorem d_B_isAt_17 : decode b_B_isAt 17 = .ok (.aload_n 0, 1) := by decide +kernel
theorem d_B_isAt_18 : decode b_B_isAt 18 = .ok (.iload_n 1, 1) := by decide +kernel
theorem d_B_isAt_19 : decode b_B_isAt 19 = .ok (.iconst 2, 1) := by decide +kernel
theorem d_B_isAt_20 : decode b_B_isAt 20 = .ok (.isub, 1) := by decide +kernel
theorem d_B_isAt_21 : decode b_B_isAt 21 = .ok (.iload_n 2, 1) := by decide +kernel
theorem d_B_isAt_22 : decode b_B_isAt 22 = .ok (.invokevirtual 153, 3) := by decide +kernel
theorem d_B_isAt_25 : decode b_B_isAt 25 = .ok (.ireturn, 1) := by decide +kernel
theorem d_B_isAt_26 : decode b_B_isAt 26 = .ok (.iload_n 1, 1) := by decide +kernel
theorem d_B_isAt_27 : decode b_B_isAt 27 = .ok (.iconst 5, 1) := by decide +kernel
theorem d_B_isAt_28 : decode b_B_isAt 28 = .ok (.if_icmp .ge 11, 3) := by decide +kernel
theorem d_B_isAt_31 : decode b_B_isAt 31 = .ok (.aload_n 0, 1) := by decide +kernel
theorem d_B_isAt_32 : decode b_B_isAt 32 = .ok (.iload_n 2, 1) := by decide +kernel
theorem d_B_isAt_33 : decode b_B_isAt 33 = .ok (.invokevirtual 156, 3) := by decide +kernel
theorem d_B_isAt_36 : decode b_B_isAt 36 = .ok (.goto 8, 3) := by decide +kernel
theorem d_B_isAt_39 : decode b_B_isAt 39 = .ok (.aload_n 0, 1) := by decide +kernel
theorem d_B_isAt_40 : decode b_B_isAt 40 = .ok (.iload_n 2, 1) := by decide +kernel
theorem d_B_isAt_41 : decode b_B_isAt 41 = .ok (.invokevirtual 159, 3) := by decide +kernel
theorem d_B_isAt_44 : decode b_B_isAt 44 = .ok (.ireturn, 1) := by decide +kernel
def y_B_fieldColour : MethodName := ⟨R_B, "fieldColour", "(II)I"⟩
abbrev b_B_fieldColour : ByteArray := prog_1_method_24_code
def w_B_fieldColour : List Cond := .code y_B_fieldColour b_B_fieldColour 3 (some .int) :: TB
theorem d_B_fieldColour_0 : decode b_B_fieldColour 0 = .ok (.iload_n 2, 1) := by decide +kernel
theorem d_B_fieldColour_1 : decode b_B_fieldColour 1 = .ok (.bipush 32, 2) := by decide +kernel
theorem d_B_fieldColour_3 : decode b_B_fieldColour 3 = .ok (.iand, 1) := by decide +kernel
theorem d_B_fieldColour_4 : decode b_B_fieldColour 4 = .ok (.ifCond .eq 13, 3) := by decide +kernel
theorem d_B_fieldColour_7 : decode b_B_fieldColour 7 = .ok (.aload_n 0, 1) := by decide +kernel
theorem d_B_fieldColour_8 : decode b_B_fieldColour 8 = .ok (.bipush 8, 2) := by decide +kernel
theorem d_B_fieldColour_10 : decode b_B_fieldColour 10 = .ok (.iconst 2, 1) := by decide +kernel
theorem d_B_fieldColour_11 : decode b_B_fieldColour 11 = .ok (.invokevirtual 90, 3) := by decide +kernel
theorem d_B_fieldColour_14 : decode b_B_fieldColour 14 = .ok (.ifCond .ne 10, 3) := by decide +kernel
theorem d_B_fieldColour_17 : decode b_B_fieldColour 17 = .ok (.aload_n 0, 1) := by decide +kernel
theorem d_B_fieldColour_18 : decode b_B_fieldColour 18 = .ok (.getfield 9, 3) := by decide +kernel
theorem d_B_fieldColour_21 : decode b_B_fieldColour 21 = .ok (.iconst 1, 1) := by decide +kernel
theorem d_B_fieldColour_22 : decode b_B_fieldColour 22 = .ok (.iaload, 1) := by decide +kernel
theorem d_B_fieldColour_23 : decode b_B_fieldColour 23 = .ok (.ireturn, 1) := by decide +kernel
theorem d_B_fieldColour_24 : decode b_B_fieldColour 24 = .ok (.aload_n 0, 1) := by decide +kernel
theorem d_B_fieldColour_25 : decode b_B_fieldColour 25 = .ok (.getfield 9, 3) := by decide +kernel
theorem d_B_fieldColour_28 : decode b_B_fieldColour 28 = .ok (.iload_n 1, 1) := by decide +kernel
theorem d_B_fieldColour_29 : decode b_B_fieldColour 29 = .ok (.bipush 80, 2) := by decide +kernel
theorem d_B_fieldColour_31 : decode b_B_fieldColour 31 = .ok (.if_icmp .ge 7, 3) := by decide +kernel
theorem d_B_fieldColour_34 : decode b_B_fieldColour 34 = .ok (.iconst 2, 1) := by decide +kernel
theorem d_B_fieldColour_35 : decode b_B_fieldColour 35 = .ok (.goto 4, 3) := by decide +kernel
theorem d_B_fieldColour_38 : decode b_B_fieldColour 38 = .ok (.iconst 3, 1) := by decide +kernel
theorem d_B_fieldColour_39 : decode b_B_fieldColour 39 = .ok (.iaload, 1) := by decide +kernel
theorem d_B_fieldColour_40 : decode b_B_fieldColour 40 = .ok (.ireturn, 1) := by decide +kernel
def y_B_colourAt : MethodName := ⟨R_B, "colourAt", "(II)I"⟩
abbrev b_B_colourAt : ByteArray := prog_1_method_23_code
def w_B_colourAt : List Cond := .code y_B_colourAt b_B_colourAt 4 (some .int) :: TB
theorem d_B_colourAt_0 : decode b_B_colourAt 0 = .ok (.aload_n 0, 1) := by decide +kernel
theorem d_B_colourAt_1 : decode b_B_colourAt 1 = .ok (.iconst 4, 1) := by decide +kernel
theorem d_B_colourAt_2 : decode b_B_colourAt 2 = .ok (.iconst 1, 1) := by decide +kernel
theorem d_B_colourAt_3 : decode b_B_colourAt 3 = .ok (.invokevirtual 90, 3) := by decide +kernel
theorem d_B_colourAt_6 : decode b_B_colourAt 6 = .ok (.ifCond .eq 5, 3) := by decide +kernel
theorem d_B_colourAt_9 : decode b_B_colourAt 9 = .ok (.iconst 0, 1) := by decide +kernel
theorem d_B_colourAt_10 : decode b_B_colourAt 10 = .ok (.ireturn, 1) := by decide +kernel
theorem d_B_colourAt_11 : decode b_B_colourAt 11 = .ok (.iload_n 2, 1) := by decide +kernel
theorem d_B_colourAt_12 : decode b_B_colourAt 12 = .ok (.bipush 48, 2) := by decide +kernel
theorem d_B_colourAt_14 : decode b_B_colourAt 14 = .ok (.iand, 1) := by decide +kernel
theorem d_B_colourAt_15 : decode b_B_colourAt 15 = .ok (.ifCond .eq 7, 3) := by decide +kernel
theorem d_B_colourAt_18 : decode b_B_colourAt 18 = .ok (.iconst 1, 1) := by decide +kernel
theorem d_B_colourAt_19 : decode b_B_colourAt 19 = .ok (.goto 4, 3) := by decide +kernel
theorem d_B_colourAt_22 : decode b_B_colourAt 22 = .ok (.iconst 0, 1) := by decide +kernel
theorem d_B_colourAt_23 : decode b_B_colourAt 23 = .ok (.istore_n 3, 1) := by decide +kernel
theorem d_B_colourAt_24 : decode b_B_colourAt 24 = .ok (.iload_n 3, 1) := by decide +kernel
theorem d_B_colourAt_25 : decode b_B_colourAt 25 = .ok (.ifCond .eq 20, 3) := by decide +kernel
theorem d_B_colourAt_28 : decode b_B_colourAt 28 = .ok (.aload_n 0, 1) := by decide +kernel
theorem d_B_colourAt_29 : decode b_B_colourAt 29 = .ok (.bipush 8, 2) := by decide +kernel
theorem d_B_colourAt_31 : decode b_B_colourAt 31 = .ok (.iconst 4, 1) := by decide +kernel
theorem d_B_colourAt_32 : decode b_B_colourAt 32 = .ok (.invokevirtual 90, 3) := by decide +kernel
theorem d_B_colourAt_35 : decode b_B_colourAt 35 = .ok (.ifCond .eq 10, 3) := by decide +kernel
theorem d_B_colourAt_38 : decode b_B_colourAt 38 = .ok (.aload_n 0, 1) := by decide +kernel
theorem d_B_colourAt_39 : decode b_B_colourAt 39 = .ok (.iload_n 1, 1) := by decide +kernel
theorem d_B_colourAt_40 : decode b_B_colourAt 40 = .ok (.iload_n 2, 1) := by decide +kernel
theorem d_B_colourAt_41 : decode b_B_colourAt 41 = .ok (.invokevirtual 142, 3) := by decide +kernel
theorem d_B_colourAt_44 : decode b_B_colourAt 44 = .ok (.ireturn, 1) := by decide +kernel
theorem d_B_colourAt_45 : decode b_B_colourAt 45 = .ok (.iload_n 2, 1) := by decide +kernel
theorem d_B_colourAt_46 : decode b_B_colourAt 46 = .ok (.iconst 5, 1) := by decide +kernel
theorem d_B_colourAt_47 : decode b_B_colourAt 47 = .ok (.iand, 1) := by decide +kernel
theorem d_B_colourAt_48 : decode b_B_colourAt 48 = .ok (.ifCond .eq 10, 3) := by decide +kernel
theorem d_B_colourAt_51 : decode b_B_colourAt 51 = .ok (.aload_n 0, 1) := by decide +kernel
theorem d_B_colourAt_52 : decode b_B_colourAt 52 = .ok (.getfield 9, 3) := by decide +kernel
theorem d_B_colourAt_55 : decode b_B_colourAt 55 = .ok (.iconst 2, 1) := by decide +kernel
theorem d_B_colourAt_56 : decode b_B_colourAt 56 = .ok (.iaload, 1) := by decide +kernel
theorem d_B_colourAt_57 : decode b_B_colourAt 57 = .ok (.ireturn, 1) := by decide +kernel
theorem d_B_colourAt_58 : decode b_B_colourAt 58 = .ok (.iload_n 2, 1) := by decide +kernel
theorem d_B_colourAt_59 : decode b_B_colourAt 59 = .ok (.bipush 10, 2) := by decide +kernel
theorem d_B_colourAt_61 : decode b_B_colourAt 61 = .ok (.iand, 1) := by decide +kernel
theorem d_B_colourAt_62 : decode b_B_colourAt 62 = .ok (.ifCond .eq 10, 3) := by decide +kernel
theorem d_B_colourAt_65 : decode b_B_colourAt 65 = .ok (.aload_n 0, 1) := by decide +kernel
theorem d_B_colourAt_66 : decode b_B_colourAt 66 = .ok (.getfield 9, 3) := by decide +kernel
theorem d_B_colourAt_69 : decode b_B_colourAt 69 = .ok (.iconst 3, 1) := by decide +kernel
theorem d_B_colourAt_70 : decode b_B_colourAt 70 = .ok (.iaload, 1) := by decide +kernel
theorem d_B_colourAt_71 : decode b_B_colourAt 71 = .ok (.ireturn, 1) := by decide +kernel
theorem d_B_colourAt_72 : decode b_B_colourAt 72 = .ok (.iload_n 3, 1) := by decide +kernel
theorem d_B_colourAt_73 : decode b_B_colourAt 73 = .ok (.ifCond .eq 12, 3) := by decide +kernel
theorem d_B_colourAt_76 : decode b_B_colourAt 76 = .ok (.aload_n 0, 1) := by decide +kernel
theorem d_B_colourAt_77 : decode b_B_colourAt 77 = .ok (.iload_n 1, 1) := by decide +kernel
theorem d_B_colourAt_78 : decode b_B_colourAt 78 = .ok (.iload_n 2, 1) := by decide +kernel
theorem d_B_colourAt_79 : decode b_B_colourAt 79 = .ok (.invokevirtual 142, 3) := by decide +kernel
theorem d_B_colourAt_82 : decode b_B_colourAt 82 = .ok (.goto 9, 3) := by decide +kernel
theorem d_B_colourAt_85 : decode b_B_colourAt 85 = .ok (.aload_n 0, 1) := by decide +kernel
theorem d_B_colourAt_86 : decode b_B_colourAt 86 = .ok (.getfield 9, 3) := by decide +kernel
theorem d_B_colourAt_89 : decode b_B_colourAt 89 = .ok (.iconst 0, 1) := by decide +kernel
theorem d_B_colourAt_90 : decode b_B_colourAt 90 = .ok (.iaload, 1) := by decide +kernel
theorem d_B_colourAt_91 : decode b_B_colourAt 91 = .ok (.ireturn, 1) := by decide +kernel
def y_B_countMeetings : MethodName := ⟨R_B, "countMeetings", "()I"⟩
abbrev b_B_countMeetings : ByteArray := prog_1_method_26_code
def w_B_countMeetings : List Cond := .code y_B_countMeetings b_B_countMeetings 6 (some .int) :: TB
theorem d_B_countMeetings_0 : decode b_B_countMeetings 0 = .ok (.iconst 0, 1) := by decide +kernel
theorem d_B_countMeetings_1 : decode b_B_countMeetings 1 = .ok (.istore_n 1, 1) := by decide +kernel
theorem d_B_countMeetings_2 : decode b_B_countMeetings 2 = .ok (.aload_n 0, 1) := by decide +kernel
theorem d_B_countMeetings_3 : decode b_B_countMeetings 3 = .ok (.getfield 22, 3) := by decide +kernel
theorem d_B_countMeetings_6 : decode b_B_countMeetings 6 = .ok (.astore_n 2, 1) := by decide +kernel
theorem d_B_countMeetings_7 : decode b_B_countMeetings 7 = .ok (.aload_n 2, 1) := by decide +kernel
theorem d_B_countMeetings_8 : decode b_B_countMeetings 8 = .ok (.arraylength, 1) := by decide +kernel
theorem d_B_countMeetings_9 : decode b_B_countMeetings 9 = .ok (.istore_n 3, 1) := by decide +kernel
theorem d_B_countMeetings_10 : decode b_B_countMeetings 10 = .ok (.iconst 0, 1) := by decide +kernel
theorem d_B_countMeetings_11 : decode b_B_countMeetings 11 = .ok (.istore 4, 2) := by decide +kernel
theorem d_B_countMeetings_13 : decode b_B_countMeetings 13 = .ok (.iload 4, 2) := by decide +kernel
theorem d_B_countMeetings_15 : decode b_B_countMeetings 15 = .ok (.iload_n 3, 1) := by decide +kernel
theorem d_B_countMeetings_16 : decode b_B_countMeetings 16 = .ok (.if_icmp .ge 23, 3) := by decide +kernel
theorem d_B_countMeetings_19 : decode b_B_countMeetings 19 = .ok (.aload_n 2, 1) := by decide +kernel
theorem d_B_countMeetings_20 : decode b_B_countMeetings 20 = .ok (.iload 4, 2) := by decide +kernel
theorem d_B_countMeetings_22 : decode b_B_countMeetings 22 = .ok (.iaload, 1) := by decide +kernel
theorem d_B_countMeetings_23 : decode b_B_countMeetings 23 = .ok (.istore 5, 2) := by decide +kernel
theorem d_B_countMeetings_25 : decode b_B_countMeetings 25 = .ok (.iload_n 1, 1) := by decide +kernel
theorem d_B_countMeetings_26 : decode b_B_countMeetings 26 = .ok (.iload 5, 2) := by decide +kernel
theorem d_B_countMeetings_28 : decode b_B_countMeetings 28 = .ok (.invokestatic 145, 3) := by decide +kernel
theorem d_B_countMeetings_31 : decode b_B_countMeetings 31 = .ok (.iadd, 1) := by decide +kernel
theorem d_B_countMeetings_32 : decode b_B_countMeetings 32 = .ok (.istore_n 1, 1) := by decide +kernel
theorem d_B_countMeetings_33 : decode b_B_countMeetings 33 = .ok (.iinc 4 1, 3) := by decide +kernel
theorem d_B_countMeetings_36 : decode b_B_countMeetings 36 = .ok (.goto (-23), 3) := by decide +kernel
theorem d_B_countMeetings_39 : decode b_B_countMeetings 39 = .ok (.iload_n 1, 1) := by decide +kernel
theorem d_B_countMeetings_40 : decode b_B_countMeetings 40 = .ok (.iconst 2, 1) := by decide +kernel
theorem d_B_countMeetings_41 : decode b_B_countMeetings 41 = .ok (.idiv, 1) := by decide +kernel
theorem d_B_countMeetings_42 : decode b_B_countMeetings 42 = .ok (.ireturn, 1) := by decide +kernel
def y_JA_rangeCheck : MethodName := ⟨R_JA, "rangeCheck", "(III)V"⟩
abbrev b_JA_rangeCheck : ByteArray := prog_11_method_30_code
def w_JA_rangeCheck : List Cond := .code y_JA_rangeCheck b_JA_rangeCheck 3 none :: TB
theorem d_JA_rangeCheck_0 : decode b_JA_rangeCheck 0 = .ok (.iload_n 1, 1) := by decide +kernel
theorem d_JA_rangeCheck_1 : decode b_JA_rangeCheck 1 = .ok (.iload_n 2, 1) := by decide +kernel
theorem d_JA_rangeCheck_2 : decode b_JA_rangeCheck 2 = .ok (.if_icmp .le 44, 3) := by decide +kernel
theorem d_JA_rangeCheck_5 : decode b_JA_rangeCheck 5 = .ok (.new 43, 3) := by decide +kernel
theorem d_JA_rangeCheck_8 : decode b_JA_rangeCheck 8 = .ok (.dup, 1) := by decide +kernel
theorem d_JA_rangeCheck_9 : decode b_JA_rangeCheck 9 = .ok (.new 45, 3) := by decide +kernel
theorem d_JA_rangeCheck_12 : decode b_JA_rangeCheck 12 = .ok (.dup, 1) := by decide +kernel
theorem d_JA_rangeCheck_13 : decode b_JA_rangeCheck 13 = .ok (.invokespecial 47, 3) := by decide +kernel
theorem d_JA_rangeCheck_16 : decode b_JA_rangeCheck 16 = .ok (.ldc 48, 2) := by decide +kernel
theorem d_JA_rangeCheck_18 : decode b_JA_rangeCheck 18 = .ok (.invokevirtual 50, 3) := by decide +kernel
theorem d_JA_rangeCheck_21 : decode b_JA_rangeCheck 21 = .ok (.iload_n 1, 1) := by decide +kernel
theorem d_JA_rangeCheck_22 : decode b_JA_rangeCheck 22 = .ok (.invokevirtual 54, 3) := by decide +kernel
theorem d_JA_rangeCheck_25 : decode b_JA_rangeCheck 25 = .ok (.ldc 57, 2) := by decide +kernel
theorem d_JA_rangeCheck_27 : decode b_JA_rangeCheck 27 = .ok (.invokevirtual 50, 3) := by decide +kernel
theorem d_JA_rangeCheck_30 : decode b_JA_rangeCheck 30 = .ok (.iload_n 2, 1) := by decide +kernel
theorem d_JA_rangeCheck_31 : decode b_JA_rangeCheck 31 = .ok (.invokevirtual 54, 3) := by decide +kernel
theorem d_JA_rangeCheck_34 : decode b_JA_rangeCheck 34 = .ok (.ldc 59, 2) := by decide +kernel
theorem d_JA_rangeCheck_36 : decode b_JA_rangeCheck 36 = .ok (.invokevirtual 50, 3) := by decide +kernel
theorem d_JA_rangeCheck_39 : decode b_JA_rangeCheck 39 = .ok (.invokevirtual 61, 3) := by decide +kernel
theorem d_JA_rangeCheck_42 : decode b_JA_rangeCheck 42 = .ok (.invokespecial 65, 3) := by decide +kernel
theorem d_JA_rangeCheck_45 : decode b_JA_rangeCheck 45 = .ok (.athrow, 1) := by decide +kernel
theorem d_JA_rangeCheck_46 : decode b_JA_rangeCheck 46 = .ok (.iload_n 1, 1) := by decide +kernel
theorem d_JA_rangeCheck_47 : decode b_JA_rangeCheck 47 = .ok (.ifCond .ge 12, 3) := by decide +kernel
theorem d_JA_rangeCheck_50 : decode b_JA_rangeCheck 50 = .ok (.new 68, 3) := by decide +kernel
theorem d_JA_rangeCheck_53 : decode b_JA_rangeCheck 53 = .ok (.dup, 1) := by decide +kernel
theorem d_JA_rangeCheck_54 : decode b_JA_rangeCheck 54 = .ok (.iload_n 1, 1) := by decide +kernel
theorem d_JA_rangeCheck_55 : decode b_JA_rangeCheck 55 = .ok (.invokespecial 70, 3) := by decide +kernel
theorem d_JA_rangeCheck_58 : decode b_JA_rangeCheck 58 = .ok (.athrow, 1) := by decide +kernel
theorem d_JA_rangeCheck_59 : decode b_JA_rangeCheck 59 = .ok (.iload_n 2, 1) := by decide +kernel
theorem d_JA_rangeCheck_60 : decode b_JA_rangeCheck 60 = .ok (.iload_n 0, 1) := by decide +kernel
theorem d_JA_rangeCheck_61 : decode b_JA_rangeCheck 61 = .ok (.if_icmp .le 12, 3) := by decide +kernel
theorem d_JA_rangeCheck_64 : decode b_JA_rangeCheck 64 = .ok (.new 68, 3) := by decide +kernel
theorem d_JA_rangeCheck_67 : decode b_JA_rangeCheck 67 = .ok (.dup, 1) := by decide +kernel
theorem d_JA_rangeCheck_68 : decode b_JA_rangeCheck 68 = .ok (.iload_n 2, 1) := by decide +kernel
theorem d_JA_rangeCheck_69 : decode b_JA_rangeCheck 69 = .ok (.invokespecial 70, 3) := by decide +kernel
theorem d_JA_rangeCheck_72 : decode b_JA_rangeCheck 72 = .ok (.athrow, 1) := by decide +kernel
theorem d_JA_rangeCheck_73 : decode b_JA_rangeCheck 73 = .ok (.return_, 1) := by decide +kernel
def y_JA_fill4 : MethodName := ⟨R_JA, "fill", "([IIII)V"⟩
abbrev b_JA_fill4 : ByteArray := prog_11_method_104_code
def w_JA_fill4 : List Cond := .code y_JA_fill4 b_JA_fill4 5 none :: TB
theorem d_JA_fill4_0 : decode b_JA_fill4 0 = .ok (.aload_n 0, 1) := by decide +kernel
theorem d_JA_fill4_1 : decode b_JA_fill4 1 = .ok (.arraylength, 1) := by decide +kernel
theorem d_JA_fill4_2 : decode b_JA_fill4 2 = .ok (.iload_n 1, 1) := by decide +kernel
theorem d_JA_fill4_3 : decode b_JA_fill4 3 = .ok (.iload_n 2, 1) := by decide +kernel
theorem d_JA_fill4_4 : decode b_JA_fill4 4 = .ok (.invokestatic 13, 3) := by decide +kernel
theorem d_JA_fill4_7 : decode b_JA_fill4 7 = .ok (.iload_n 1, 1) := by decide +kernel
theorem d_JA_fill4_8 : decode b_JA_fill4 8 = .ok (.istore 4, 2) := by decide +kernel
theorem d_JA_fill4_10 : decode b_JA_fill4 10 = .ok (.iload 4, 2) := by decide +kernel
theorem d_JA_fill4_12 : decode b_JA_fill4 12 = .ok (.iload_n 2, 1) := by decide +kernel
theorem d_JA_fill4_13 : decode b_JA_fill4 13 = .ok (.if_icmp .ge 14, 3) := by decide +kernel
theorem d_JA_fill4_16 : decode b_JA_fill4 16 = .ok (.aload_n 0, 1) := by decide +kernel
theorem d_JA_fill4_17 : decode b_JA_fill4 17 = .ok (.iload 4, 2) := by decide +kernel
theorem d_JA_fill4_19 : decode b_JA_fill4 19 = .ok (.iload_n 3, 1) := by decide +kernel
theorem d_JA_fill4_20 : decode b_JA_fill4 20 = .ok (.iastore, 1) := by decide +kernel
theorem d_JA_fill4_21 : decode b_JA_fill4 21 = .ok (.iinc 4 1, 3) := by decide +kernel
theorem d_JA_fill4_24 : decode b_JA_fill4 24 = .ok (.goto (-14), 3) := by decide +kernel
theorem d_JA_fill4_27 : decode b_JA_fill4 27 = .ok (.return_, 1) := by decide +kernel
def y_JA_fill2 : MethodName := ⟨R_JA, "fill", "([II)V"⟩
abbrev b_JA_fill2 : ByteArray := prog_11_method_103_code
def w_JA_fill2 : List Cond := .code y_JA_fill2 b_JA_fill2 4 none :: TB
theorem d_JA_fill2_0 : decode b_JA_fill2 0 = .ok (.iconst 0, 1) := by decide +kernel
theorem d_JA_fill2_1 : decode b_JA_fill2 1 = .ok (.istore_n 2, 1) := by decide +kernel
theorem d_JA_fill2_2 : decode b_JA_fill2 2 = .ok (.aload_n 0, 1) := by decide +kernel
theorem d_JA_fill2_3 : decode b_JA_fill2 3 = .ok (.arraylength, 1) := by decide +kernel
theorem d_JA_fill2_4 : decode b_JA_fill2 4 = .ok (.istore_n 3, 1) := by decide +kernel
theorem d_JA_fill2_5 : decode b_JA_fill2 5 = .ok (.iload_n 2, 1) := by decide +kernel
theorem d_JA_fill2_6 : decode b_JA_fill2 6 = .ok (.iload_n 3, 1) := by decide +kernel
theorem d_JA_fill2_7 : decode b_JA_fill2 7 = .ok (.if_icmp .ge 13, 3) := by decide +kernel
theorem d_JA_fill2_10 : decode b_JA_fill2 10 = .ok (.aload_n 0, 1) := by decide +kernel
theorem d_JA_fill2_11 : decode b_JA_fill2 11 = .ok (.iload_n 2, 1) := by decide +kernel
theorem d_JA_fill2_12 : decode b_JA_fill2 12 = .ok (.iload_n 1, 1) := by decide +kernel
theorem d_JA_fill2_13 : decode b_JA_fill2 13 = .ok (.iastore, 1) := by decide +kernel
theorem d_JA_fill2_14 : decode b_JA_fill2 14 = .ok (.iinc 2 1, 3) := by decide +kernel
theorem d_JA_fill2_17 : decode b_JA_fill2 17 = .ok (.goto (-12), 3) := by decide +kernel
theorem d_JA_fill2_20 : decode b_JA_fill2 20 = .ok (.return_, 1) := by decide +kernel
def y_T_start : MethodName := ⟨R_T, "start", "(II)V"⟩
abbrev b_T_start : ByteArray := prog_2_method_2_code
def w_T_start : List Cond := .code y_T_start b_T_start 3 none :: TB
theorem d_T_start_0 : decode b_T_start 0 = .ok (.aload_n 0, 1) := by decide +kernel
theorem d_T_start_1 : decode b_T_start 1 = .ok (.iload_n 2, 1) := by decide +kernel
theorem d_T_start_2 : decode b_T_start 2 = .ok (.putfield 18, 3) := by decide +kernel
theorem d_T_start_5 : decode b_T_start 5 = .ok (.aload_n 0, 1) := by decide +kernel
theorem d_T_start_6 : decode b_T_start 6 = .ok (.iconst 0, 1) := by decide +kernel
theorem d_T_start_7 : decode b_T_start 7 = .ok (.putfield 21, 3) := by decide +kernel
theorem d_T_start_10 : decode b_T_start 10 = .ok (.aload_n 0, 1) := by decide +kernel
theorem d_T_start_11 : decode b_T_start 11 = .ok (.iload_n 1, 1) := by decide +kernel
theorem d_T_start_12 : decode b_T_start 12 = .ok (.putfield 9, 3) := by decide +kernel
theorem d_T_start_15 : decode b_T_start 15 = .ok (.aload_n 0, 1) := by decide +kernel
theorem d_T_start_16 : decode b_T_start 16 = .ok (.iload_n 1, 1) := by decide +kernel
theorem d_T_start_17 : decode b_T_start 17 = .ok (.iconst 3, 1) := by decide +kernel
theorem d_T_start_18 : decode b_T_start 18 = .ok (.imul, 1) := by decide +kernel
theorem d_T_start_19 : decode b_T_start 19 = .ok (.putfield 15, 3) := by decide +kernel
theorem d_T_start_22 : decode b_T_start 22 = .ok (.return_, 1) := by decide +kernel
def y_T_tick : MethodName := ⟨R_T, "tick", "()V"⟩
abbrev b_T_tick : ByteArray := prog_2_method_3_code
def w_T_tick : List Cond := .code y_T_tick b_T_tick 1 none :: TB
theorem d_T_tick_0 : decode b_T_tick 0 = .ok (.aload_n 0, 1) := by decide +kernel
theorem d_T_tick_1 : decode b_T_tick 1 = .ok (.dup, 1) := by decide +kernel
theorem d_T_tick_2 : decode b_T_tick 2 = .ok (.getfield 15, 3) := by decide +kernel
theorem d_T_tick_5 : decode b_T_tick 5 = .ok (.iconst 1, 1) := by decide +kernel
theorem d_T_tick_6 : decode b_T_tick 6 = .ok (.isub, 1) := by decide +kernel
theorem d_T_tick_7 : decode b_T_tick 7 = .ok (.putfield 15, 3) := by decide +kernel
theorem d_T_tick_10 : decode b_T_tick 10 = .ok (.aload_n 0, 1) := by decide +kernel
theorem d_T_tick_11 : decode b_T_tick 11 = .ok (.getfield 15, 3) := by decide +kernel
theorem d_T_tick_14 : decode b_T_tick 14 = .ok (.ifCond .le 4, 3) := by decide +kernel
theorem d_T_tick_17 : decode b_T_tick 17 = .ok (.return_, 1) := by decide +kernel
theorem d_T_tick_18 : decode b_T_tick 18 = .ok (.aload_n 0, 1) := by decide +kernel
theorem d_T_tick_19 : decode b_T_tick 19 = .ok (.dup, 1) := by decide +kernel
theorem d_T_tick_20 : decode b_T_tick 20 = .ok (.getfield 18, 3) := by decide +kernel
theorem d_T_tick_23 : decode b_T_tick 23 = .ok (.iconst 1, 1) := by decide +kernel
theorem d_T_tick_24 : decode b_T_tick 24 = .ok (.isub, 1) := by decide +kernel
theorem d_T_tick_25 : decode b_T_tick 25 = .ok (.putfield 18, 3) := by decide +kernel
theorem d_T_tick_28 : decode b_T_tick 28 = .ok (.aload_n 0, 1) := by decide +kernel
theorem d_T_tick_29 : decode b_T_tick 29 = .ok (.getfield 18, 3) := by decide +kernel
theorem d_T_tick_32 : decode b_T_tick 32 = .ok (.ifCond .ge 20, 3) := by decide +kernel
theorem d_T_tick_35 : decode b_T_tick 35 = .ok (.aload_n 0, 1) := by decide +kernel
theorem d_T_tick_36 : decode b_T_tick 36 = .ok (.sipush 255, 3) := by decide +kernel
theorem d_T_tick_39 : decode b_T_tick 39 = .ok (.putfield 18, 3) := by decide +kernel
theorem d_T_tick_42 : decode b_T_tick 42 = .ok (.aload_n 0, 1) := by decide +kernel
theorem d_T_tick_43 : decode b_T_tick 43 = .ok (.iconst 1, 1) := by decide +kernel
theorem d_T_tick_44 : decode b_T_tick 44 = .ok (.putfield 21, 3) := by decide +kernel
theorem d_T_tick_47 : decode b_T_tick 47 = .ok (.aload_n 0, 1) := by decide +kernel
theorem d_T_tick_48 : decode b_T_tick 48 = .ok (.iconst 1, 1) := by decide +kernel
theorem d_T_tick_49 : decode b_T_tick 49 = .ok (.putfield 9, 3) := by decide +kernel
theorem d_T_tick_52 : decode b_T_tick 52 = .ok (.aload_n 0, 1) := by decide +kernel
theorem d_T_tick_53 : decode b_T_tick 53 = .ok (.aload_n 0, 1) := by decide +kernel
theorem d_T_tick_54 : decode b_T_tick 54 = .ok (.getfield 9, 3) := by decide +kernel
theorem d_T_tick_57 : decode b_T_tick 57 = .ok (.iconst 3, 1) := by decide +kernel
theorem d_T_tick_58 : decode b_T_tick 58 = .ok (.imul, 1) := by decide +kernel
theorem d_T_tick_59 : decode b_T_tick 59 = .ok (.putfield 15, 3) := by decide +kernel
theorem d_T_tick_62 : decode b_T_tick 62 = .ok (.return_, 1) := by decide +kernel
def y_B_stepClock : MethodName := ⟨R_B, "stepClock", "()V"⟩
abbrev b_B_stepClock : ByteArray := prog_1_method_21_code
def w_B_stepClock : List Cond := .code y_B_stepClock b_B_stepClock 1 none :: TB
theorem d_B_stepClock_0 : decode b_B_stepClock 0 = .ok (.aload_n 0, 1) := by decide +kernel
theorem d_B_stepClock_1 : decode b_B_stepClock 1 = .ok (.dup, 1) := by decide +kernel
theorem d_B_stepClock_2 : decode b_B_stepClock 2 = .ok (.getfield 49, 3) := by decide +kernel
theorem d_B_stepClock_5 : decode b_B_stepClock 5 = .ok (.iconst 1, 1) := by decide +kernel
theorem d_B_stepClock_6 : decode b_B_stepClock 6 = .ok (.iadd, 1) := by decide +kernel
theorem d_B_stepClock_7 : decode b_B_stepClock 7 = .ok (.putfield 49, 3) := by decide +kernel
theorem d_B_stepClock_10 : decode b_B_stepClock 10 = .ok (.aload_n 0, 1) := by decide +kernel
theorem d_B_stepClock_11 : decode b_B_stepClock 11 = .ok (.getfield 49, 3) := by decide +kernel
theorem d_B_stepClock_14 : decode b_B_stepClock 14 = .ok (.sipush 228, 3) := by decide +kernel
theorem d_B_stepClock_17 : decode b_B_stepClock 17 = .ok (.if_icmp .ne 18, 3) := by decide +kernel
theorem d_B_stepClock_20 : decode b_B_stepClock 20 = .ok (.aload_n 0, 1) := by decide +kernel
theorem d_B_stepClock_21 : decode b_B_stepClock 21 = .ok (.iconst 0, 1) := by decide +kernel
theorem d_B_stepClock_22 : decode b_B_stepClock 22 = .ok (.putfield 49, 3) := by decide +kernel
theorem d_B_stepClock_25 : decode b_B_stepClock 25 = .ok (.aload_n 0, 1) := by decide +kernel
theorem d_B_stepClock_26 : decode b_B_stepClock 26 = .ok (.dup, 1) := by decide +kernel
theorem d_B_stepClock_27 : decode b_B_stepClock 27 = .ok (.getfield 73, 3) := by decide +kernel
theorem d_B_stepClock_30 : decode b_B_stepClock 30 = .ok (.iconst 1, 1) := by decide +kernel
theorem d_B_stepClock_31 : decode b_B_stepClock 31 = .ok (.iadd, 1) := by decide +kernel
theorem d_B_stepClock_32 : decode b_B_stepClock 32 = .ok (.putfield 73, 3) := by decide +kernel
theorem d_B_stepClock_35 : decode b_B_stepClock 35 = .ok (.return_, 1) := by decide +kernel
def y_B_keepMeetings : MethodName := ⟨R_B, "keepMeetings", "(I)V"⟩
abbrev b_B_keepMeetings : ByteArray := prog_1_method_25_code
def w_B_keepMeetings : List Cond := .code y_B_keepMeetings b_B_keepMeetings 4 none :: TB
theorem d_B_keepMeetings_0 : decode b_B_keepMeetings 0 = .ok (.iconst 0, 1) := by decide +kernel
theorem d_B_keepMeetings_1 : decode b_B_keepMeetings 1 = .ok (.istore_n 2, 1) := by decide +kernel
theorem d_B_keepMeetings_2 : decode b_B_keepMeetings 2 = .ok (.iload_n 2, 1) := by decide +kernel
theorem d_B_keepMeetings_3 : decode b_B_keepMeetings 3 = .ok (.bipush 6, 2) := by decide +kernel
theorem d_B_keepMeetings_5 : decode b_B_keepMeetings 5 = .ok (.if_icmp .ge 33, 3) := by decide +kernel
theorem d_B_keepMeetings_8 : decode b_B_keepMeetings 8 = .ok (.iconst 1, 1) := by decide +kernel
theorem d_B_keepMeetings_9 : decode b_B_keepMeetings 9 = .ok (.iload_n 2, 1) := by decide +kernel
theorem d_B_keepMeetings_10 : decode b_B_keepMeetings 10 = .ok (.ishl, 1) := by decide +kernel
theorem d_B_keepMeetings_11 : decode b_B_keepMeetings 11 = .ok (.istore_n 3, 1) := by decide +kernel
theorem d_B_keepMeetings_12 : decode b_B_keepMeetings 12 = .ok (.iload_n 1, 1) := by decide +kernel
theorem d_B_keepMeetings_13 : decode b_B_keepMeetings 13 = .ok (.iload_n 3, 1) := by decide +kernel
theorem d_B_keepMeetings_14 : decode b_B_keepMeetings 14 = .ok (.iand, 1) := by decide +kernel
theorem d_B_keepMeetings_15 : decode b_B_keepMeetings 15 = .ok (.ifCond .eq 17, 3) := by decide +kernel
theorem d_B_keepMeetings_18 : decode b_B_keepMeetings 18 = .ok (.aload_n 0, 1) := by decide +kernel
theorem d_B_keepMeetings_19 : decode b_B_keepMeetings 19 = .ok (.getfield 22, 3) := by decide +kernel
theorem d_B_keepMeetings_22 : decode b_B_keepMeetings 22 = .ok (.iload_n 2, 1) := by decide +kernel
theorem d_B_keepMeetings_23 : decode b_B_keepMeetings 23 = .ok (.dup2, 1) := by decide +kernel
theorem d_B_keepMeetings_24 : decode b_B_keepMeetings 24 = .ok (.iaload, 1) := by decide +kernel
theorem d_B_keepMeetings_25 : decode b_B_keepMeetings 25 = .ok (.iload_n 1, 1) := by decide +kernel
theorem d_B_keepMeetings_26 : decode b_B_keepMeetings 26 = .ok (.iload_n 3, 1) := by decide +kernel
theorem d_B_keepMeetings_27 : decode b_B_keepMeetings 27 = .ok (.iconst (-1), 1) := by decide +kernel
theorem d_B_keepMeetings_28 : decode b_B_keepMeetings 28 = .ok (.ixor, 1) := by decide +kernel
theorem d_B_keepMeetings_29 : decode b_B_keepMeetings 29 = .ok (.iand, 1) := by decide +kernel
theorem d_B_keepMeetings_30 : decode b_B_keepMeetings 30 = .ok (.ior, 1) := by decide +kernel
theorem d_B_keepMeetings_31 : decode b_B_keepMeetings 31 = .ok (.iastore, 1) := by decide +kernel
theorem d_B_keepMeetings_32 : decode b_B_keepMeetings 32 = .ok (.iinc 2 1, 3) := by decide +kernel
theorem d_B_keepMeetings_35 : decode b_B_keepMeetings 35 = .ok (.goto (-33), 3) := by decide +kernel
theorem d_B_keepMeetings_38 : decode b_B_keepMeetings 38 = .ok (.return_, 1) := by decide +kernel
def y_B_draw : MethodName := ⟨R_B, "draw", "(I)V"⟩
abbrev b_B_draw : ByteArray := prog_1_method_22_code
def w_B_draw : List Cond := .code y_B_draw b_B_draw 4 none :: TB
theorem d_B_draw_0 : decode b_B_draw 0 = .ok (.iconst 0, 1) := by decide +kernel
theorem d_B_draw_1 : decode b_B_draw 1 = .ok (.istore_n 2, 1) := by decide +kernel
theorem d_B_draw_2 : decode b_B_draw 2 = .ok (.iconst 0, 1) := by decide +kernel
theorem d_B_draw_3 : decode b_B_draw 3 = .ok (.istore_n 3, 1) := by decide +kernel
theorem d_B_draw_4 : decode b_B_draw 4 = .ok (.iload_n 3, 1) := by decide +kernel
theorem d_B_draw_5 : decode b_B_draw 5 = .ok (.bipush 6, 2) := by decide +kernel
theorem d_B_draw_7 : decode b_B_draw 7 = .ok (.if_icmp .ge 24, 3) := by decide +kernel
theorem d_B_draw_10 : decode b_B_draw 10 = .ok (.aload_n 0, 1) := by decide +kernel
theorem d_B_draw_11 : decode b_B_draw 11 = .ok (.iload_n 3, 1) := by decide +kernel
theorem d_B_draw_12 : decode b_B_draw 12 = .ok (.iload_n 1, 1) := by decide +kernel
theorem d_B_draw_13 : decode b_B_draw 13 = .ok (.invokevirtual 60, 3) := by decide +kernel
theorem d_B_draw_16 : decode b_B_draw 16 = .ok (.ifCond .eq 9, 3) := by decide +kernel
theorem d_B_draw_19 : decode b_B_draw 19 = .ok (.iload_n 2, 1) := by decide +kernel
theorem d_B_draw_20 : decode b_B_draw 20 = .ok (.iconst 1, 1) := by decide +kernel
theorem d_B_draw_21 : decode b_B_draw 21 = .ok (.iload_n 3, 1) := by decide +kernel
theorem d_B_draw_22 : decode b_B_draw 22 = .ok (.ishl, 1) := by decide +kernel
theorem d_B_draw_23 : decode b_B_draw 23 = .ok (.ior, 1) := by decide +kernel
theorem d_B_draw_24 : decode b_B_draw 24 = .ok (.istore_n 2, 1) := by decide +kernel
theorem d_B_draw_25 : decode b_B_draw 25 = .ok (.iinc 3 1, 3) := by decide +kernel
theorem d_B_draw_28 : decode b_B_draw 28 = .ok (.goto (-24), 3) := by decide +kernel
theorem d_B_draw_31 : decode b_B_draw 31 = .ok (.aload_n 0, 1) := by decide +kernel
theorem d_B_draw_32 : decode b_B_draw 32 = .ok (.getfield 19, 3) := by decide +kernel
theorem d_B_draw_35 : decode b_B_draw 35 = .ok (.iload_n 1, 1) := by decide +kernel
theorem d_B_draw_36 : decode b_B_draw 36 = .ok (.aload_n 0, 1) := by decide +kernel
theorem d_B_draw_37 : decode b_B_draw 37 = .ok (.iload_n 1, 1) := by decide +kernel
theorem d_B_draw_38 : decode b_B_draw 38 = .ok (.iload_n 2, 1) := by decide +kernel
theorem d_B_draw_39 : decode b_B_draw 39 = .ok (.invokevirtual 136, 3) := by decide +kernel
theorem d_B_draw_42 : decode b_B_draw 42 = .ok (.iastore, 1) := by decide +kernel
theorem d_B_draw_43 : decode b_B_draw 43 = .ok (.aload_n 0, 1) := by decide +kernel
theorem d_B_draw_44 : decode b_B_draw 44 = .ok (.iload_n 2, 1) := by decide +kernel
theorem d_B_draw_45 : decode b_B_draw 45 = .ok (.invokevirtual 139, 3) := by decide +kernel
theorem d_B_draw_48 : decode b_B_draw 48 = .ok (.return_, 1) := by decide +kernel
def y_B_run : MethodName := ⟨R_B, "run", "(I)V"⟩
abbrev b_B_run : ByteArray := prog_1_method_20_code
def w_B_run : List Cond := .code y_B_run b_B_run 3 none :: TB
theorem d_B_run_0 : decode b_B_run 0 = .ok (.iconst 0, 1) := by decide +kernel
theorem d_B_run_1 : decode b_B_run 1 = .ok (.istore_n 2, 1) := by decide +kernel
theorem d_B_run_2 : decode b_B_run 2 = .ok (.iload_n 2, 1) := by decide +kernel
theorem d_B_run_3 : decode b_B_run 3 = .ok (.iload_n 1, 1) := by decide +kernel
theorem d_B_run_4 : decode b_B_run 4 = .ok (.if_icmp .ge 57, 3) := by decide +kernel
theorem d_B_run_7 : decode b_B_run 7 = .ok (.aload_n 0, 1) := by decide +kernel
theorem d_B_run_8 : decode b_B_run 8 = .ok (.getfield 49, 3) := by decide +kernel
theorem d_B_run_11 : decode b_B_run 11 = .ok (.bipush 68, 2) := by decide +kernel
theorem d_B_run_13 : decode b_B_run 13 = .ok (.if_icmp .lt 31, 3) := by decide +kernel
theorem d_B_run_16 : decode b_B_run 16 = .ok (.iload_n 2, 1) := by decide +kernel
theorem d_B_run_17 : decode b_B_run 17 = .ok (.sipush 228, 3) := by decide +kernel
theorem d_B_run_20 : decode b_B_run 20 = .ok (.if_icmp .ge 14, 3) := by decide +kernel
theorem d_B_run_23 : decode b_B_run 23 = .ok (.aload_n 0, 1) := by decide +kernel
theorem d_B_run_24 : decode b_B_run 24 = .ok (.aload_n 0, 1) := by decide +kernel
theorem d_B_run_25 : decode b_B_run 25 = .ok (.getfield 49, 3) := by decide +kernel
theorem d_B_run_28 : decode b_B_run 28 = .ok (.bipush 68, 2) := by decide +kernel
theorem d_B_run_30 : decode b_B_run 30 = .ok (.isub, 1) := by decide +kernel
theorem d_B_run_31 : decode b_B_run 31 = .ok (.invokevirtual 127, 3) := by decide +kernel
theorem d_B_run_34 : decode b_B_run 34 = .ok (.aload_n 0, 1) := by decide +kernel
theorem d_B_run_35 : decode b_B_run 35 = .ok (.dup, 1) := by decide +kernel
theorem d_B_run_36 : decode b_B_run 36 = .ok (.getfield 84, 3) := by decide +kernel
theorem d_B_run_39 : decode b_B_run 39 = .ok (.iconst 1, 1) := by decide +kernel
theorem d_B_run_40 : decode b_B_run 40 = .ok (.iadd, 1) := by decide +kernel
theorem d_B_run_41 : decode b_B_run 41 = .ok (.putfield 84, 3) := by decide +kernel
theorem d_B_run_44 : decode b_B_run 44 = .ok (.aload_n 0, 1) := by decide +kernel
theorem d_B_run_45 : decode b_B_run 45 = .ok (.getfield 28, 3) := by decide +kernel
theorem d_B_run_48 : decode b_B_run 48 = .ok (.invokevirtual 130, 3) := by decide +kernel
theorem d_B_run_51 : decode b_B_run 51 = .ok (.aload_n 0, 1) := by decide +kernel
theorem d_B_run_52 : decode b_B_run 52 = .ok (.invokevirtual 133, 3) := by decide +kernel
theorem d_B_run_55 : decode b_B_run 55 = .ok (.iinc 2 1, 3) := by decide +kernel
theorem d_B_run_58 : decode b_B_run 58 = .ok (.goto (-56), 3) := by decide +kernel
theorem d_B_run_61 : decode b_B_run 61 = .ok (.return_, 1) := by decide +kernel
def y_B_put : MethodName := ⟨R_B, "put", "(I)V"⟩
abbrev b_B_put : ByteArray := prog_1_method_17_code
def w_B_put : List Cond := .code y_B_put b_B_put 3 none :: TB
theorem d_B_put_0 : decode b_B_put 0 = .ok (.iload_n 1, 1) := by decide +kernel
theorem d_B_put_1 : decode b_B_put 1 = .ok (.iconst 2, 1) := by decide +kernel
theorem d_B_put_2 : decode b_B_put 2 = .ok (.if_icmp .ge 7, 3) := by decide +kernel
theorem d_B_put_5 : decode b_B_put 5 = .ok (.iconst 1, 1) := by decide +kernel
theorem d_B_put_6 : decode b_B_put 6 = .ok (.goto 4, 3) := by decide +kernel
theorem d_B_put_9 : decode b_B_put 9 = .ok (.iconst 0, 1) := by decide +kernel
theorem d_B_put_10 : decode b_B_put 10 = .ok (.istore_n 2, 1) := by decide +kernel
theorem d_B_put_11 : decode b_B_put 11 = .ok (.aload_n 0, 1) := by decide +kernel
theorem d_B_put_12 : decode b_B_put 12 = .ok (.getfield 49, 3) := by decide +kernel
theorem d_B_put_15 : decode b_B_put 15 = .ok (.bipush 68, 2) := by decide +kernel
theorem d_B_put_17 : decode b_B_put 17 = .ok (.if_icmp .ge 15, 3) := by decide +kernel
theorem d_B_put_20 : decode b_B_put 20 = .ok (.aload_n 0, 1) := by decide +kernel
theorem d_B_put_21 : decode b_B_put 21 = .ok (.getfield 16, 3) := by decide +kernel
theorem d_B_put_24 : decode b_B_put 24 = .ok (.iload_n 1, 1) := by decide +kernel
theorem d_B_put_25 : decode b_B_put 25 = .ok (.iconst 2, 1) := by decide +kernel
theorem d_B_put_26 : decode b_B_put 26 = .ok (.iload_n 2, 1) := by decide +kernel
theorem d_B_put_27 : decode b_B_put 27 = .ok (.iadd, 1) := by decide +kernel
theorem d_B_put_28 : decode b_B_put 28 = .ok (.iastore, 1) := by decide +kernel
theorem d_B_put_29 : decode b_B_put 29 = .ok (.goto 24, 3) := by decide +kernel
theorem d_B_put_32 : decode b_B_put 32 = .ok (.aload_n 0, 1) := by decide +kernel
theorem d_B_put_33 : decode b_B_put 33 = .ok (.getfield 16, 3) := by decide +kernel
theorem d_B_put_36 : decode b_B_put 36 = .ok (.iload_n 1, 1) := by decide +kernel
theorem d_B_put_37 : decode b_B_put 37 = .ok (.aload_n 0, 1) := by decide +kernel
theorem d_B_put_38 : decode b_B_put 38 = .ok (.getfield 49, 3) := by decide +kernel
theorem d_B_put_41 : decode b_B_put 41 = .ok (.bipush 68, 2) := by decide +kernel
theorem d_B_put_43 : decode b_B_put 43 = .ok (.isub, 1) := by decide +kernel
theorem d_B_put_44 : decode b_B_put 44 = .ok (.iconst 4, 1) := by decide +kernel
theorem d_B_put_45 : decode b_B_put 45 = .ok (.iadd, 1) := by decide +kernel
theorem d_B_put_46 : decode b_B_put 46 = .ok (.iload_n 2, 1) := by decide +kernel
theorem d_B_put_47 : decode b_B_put 47 = .ok (.iadd, 1) := by decide +kernel
theorem d_B_put_48 : decode b_B_put 48 = .ok (.sipush 160, 3) := by decide +kernel
theorem d_B_put_51 : decode b_B_put 51 = .ok (.irem, 1) := by decide +kernel
theorem d_B_put_52 : decode b_B_put 52 = .ok (.iastore, 1) := by decide +kernel
theorem d_B_put_53 : decode b_B_put 53 = .ok (.return_, 1) := by decide +kernel
def y_B_moveAll : MethodName := ⟨R_B, "moveAll", "()V"⟩
abbrev b_B_moveAll : ByteArray := prog_1_method_18_code
def w_B_moveAll : List Cond := .code y_B_moveAll b_B_moveAll 2 none :: TB
theorem d_B_moveAll_0 : decode b_B_moveAll 0 = .ok (.iconst 0, 1) := by decide +kernel
theorem d_B_moveAll_1 : decode b_B_moveAll 1 = .ok (.istore_n 1, 1) := by decide +kernel
theorem d_B_moveAll_2 : decode b_B_moveAll 2 = .ok (.iload_n 1, 1) := by decide +kernel
theorem d_B_moveAll_3 : decode b_B_moveAll 3 = .ok (.iconst 5, 1) := by decide +kernel
theorem d_B_moveAll_4 : decode b_B_moveAll 4 = .ok (.if_icmp .ge 33, 3) := by decide +kernel
theorem d_B_moveAll_7 : decode b_B_moveAll 7 = .ok (.aload_n 0, 1) := by decide +kernel
theorem d_B_moveAll_8 : decode b_B_moveAll 8 = .ok (.getfield 16, 3) := by decide +kernel
theorem d_B_moveAll_11 : decode b_B_moveAll 11 = .ok (.iload_n 1, 1) := by decide +kernel
theorem d_B_moveAll_12 : decode b_B_moveAll 12 = .ok (.aload_n 0, 1) := by decide +kernel
theorem d_B_moveAll_13 : decode b_B_moveAll 13 = .ok (.getfield 16, 3) := by decide +kernel
theorem d_B_moveAll_16 : decode b_B_moveAll 16 = .ok (.iload_n 1, 1) := by decide +kernel
theorem d_B_moveAll_17 : decode b_B_moveAll 17 = .ok (.iaload, 1) := by decide +kernel
theorem d_B_moveAll_18 : decode b_B_moveAll 18 = .ok (.aload_n 0, 1) := by decide +kernel
theorem d_B_moveAll_19 : decode b_B_moveAll 19 = .ok (.iload_n 1, 1) := by decide +kernel
theorem d_B_moveAll_20 : decode b_B_moveAll 20 = .ok (.invokevirtual 118, 3) := by decide +kernel
theorem d_B_moveAll_23 : decode b_B_moveAll 23 = .ok (.isub, 1) := by decide +kernel
theorem d_B_moveAll_24 : decode b_B_moveAll 24 = .ok (.sipush 160, 3) := by decide +kernel
theorem d_B_moveAll_27 : decode b_B_moveAll 27 = .ok (.invokestatic 121, 3) := by decide +kernel
theorem d_B_moveAll_30 : decode b_B_moveAll 30 = .ok (.iastore, 1) := by decide +kernel
theorem d_B_moveAll_31 : decode b_B_moveAll 31 = .ok (.iinc 1 1, 3) := by decide +kernel
theorem d_B_moveAll_34 : decode b_B_moveAll 34 = .ok (.goto (-32), 3) := by decide +kernel
theorem d_B_moveAll_37 : decode b_B_moveAll 37 = .ok (.return_, 1) := by decide +kernel
def y_B_unlock : MethodName := ⟨R_B, "unlock", "(I)V"⟩
abbrev b_B_unlock : ByteArray := prog_1_method_15_code
def w_B_unlock : List Cond := .code y_B_unlock b_B_unlock 3 none :: TB
theorem d_B_unlock_0 : decode b_B_unlock 0 = .ok (.iconst 4, 1) := by decide +kernel
theorem d_B_unlock_1 : decode b_B_unlock 1 = .ok (.getstatic 96, 3) := by decide +kernel
theorem d_B_unlock_4 : decode b_B_unlock 4 = .ok (.aload_n 0, 1) := by decide +kernel
theorem d_B_unlock_5 : decode b_B_unlock 5 = .ok (.iload_n 1, 1) := by decide +kernel
theorem d_B_unlock_6 : decode b_B_unlock 6 = .ok (.invokevirtual 99, 3) := by decide +kernel
theorem d_B_unlock_9 : decode b_B_unlock 9 = .ok (.iaload, 1) := by decide +kernel
theorem d_B_unlock_10 : decode b_B_unlock 10 = .ok (.ishl, 1) := by decide +kernel
theorem d_B_unlock_11 : decode b_B_unlock 11 = .ok (.istore_n 2, 1) := by decide +kernel
theorem d_B_unlock_12 : decode b_B_unlock 12 = .ok (.aload_n 0, 1) := by decide +kernel
theorem d_B_unlock_13 : decode b_B_unlock 13 = .ok (.getfield 16, 3) := by decide +kernel
theorem d_B_unlock_16 : decode b_B_unlock 16 = .ok (.iconst 2, 1) := by decide +kernel
theorem d_B_unlock_17 : decode b_B_unlock 17 = .ok (.iload_n 1, 1) := by decide +kernel
theorem d_B_unlock_18 : decode b_B_unlock 18 = .ok (.iadd, 1) := by decide +kernel
theorem d_B_unlock_19 : decode b_B_unlock 19 = .ok (.aload_n 0, 1) := by decide +kernel
theorem d_B_unlock_20 : decode b_B_unlock 20 = .ok (.getfield 16, 3) := by decide +kernel
theorem d_B_unlock_23 : decode b_B_unlock 23 = .ok (.iload_n 1, 1) := by decide +kernel
theorem d_B_unlock_24 : decode b_B_unlock 24 = .ok (.iaload, 1) := by decide +kernel
theorem d_B_unlock_25 : decode b_B_unlock 25 = .ok (.iload_n 2, 1) := by decide +kernel
theorem d_B_unlock_26 : decode b_B_unlock 26 = .ok (.iadd, 1) := by decide +kernel
theorem d_B_unlock_27 : decode b_B_unlock 27 = .ok (.sipush 160, 3) := by decide +kernel
theorem d_B_unlock_30 : decode b_B_unlock 30 = .ok (.irem, 1) := by decide +kernel
theorem d_B_unlock_31 : decode b_B_unlock 31 = .ok (.iastore, 1) := by decide +kernel
theorem d_B_unlock_32 : decode b_B_unlock 32 = .ok (.return_, 1) := by decide +kernel
def y_B_strobe : MethodName := ⟨R_B, "strobe", "(I)V"⟩
abbrev b_B_strobe : ByteArray := prog_1_method_16_code
def w_B_strobe : List Cond := .code y_B_strobe b_B_strobe 2 none :: TB
theorem d_B_strobe_0 : decode b_B_strobe 0 = .ok (.iload_n 1, 1) := by decide +kernel
theorem d_B_strobe_1 : decode b_B_strobe 1 = .ok (.tableswitch 60 33 35 #[27, 34, 49], 27) := by decide +kernel
theorem d_B_strobe_28 : decode b_B_strobe 28 = .ok (.aload_n 0, 1) := by decide +kernel
theorem d_B_strobe_29 : decode b_B_strobe 29 = .ok (.invokevirtual 103, 3) := by decide +kernel
theorem d_B_strobe_32 : decode b_B_strobe 32 = .ok (.goto 37, 3) := by decide +kernel
theorem d_B_strobe_35 : decode b_B_strobe 35 = .ok (.aload_n 0, 1) := by decide +kernel
theorem d_B_strobe_36 : decode b_B_strobe 36 = .ok (.getfield 9, 3) := by decide +kernel
theorem d_B_strobe_39 : decode b_B_strobe 39 = .ok (.bipush 23, 2) := by decide +kernel
theorem d_B_strobe_41 : decode b_B_strobe 41 = .ok (.bipush 28, 2) := by decide +kernel
theorem d_B_strobe_43 : decode b_B_strobe 43 = .ok (.iconst 0, 1) := by decide +kernel
theorem d_B_strobe_44 : decode b_B_strobe 44 = .ok (.invokestatic 106, 3) := by decide +kernel
theorem d_B_strobe_47 : decode b_B_strobe 47 = .ok (.goto 22, 3) := by decide +kernel
theorem d_B_strobe_50 : decode b_B_strobe 50 = .ok (.aload_n 0, 1) := by decide +kernel
theorem d_B_strobe_51 : decode b_B_strobe 51 = .ok (.getfield 22, 3) := by decide +kernel
theorem d_B_strobe_54 : decode b_B_strobe 54 = .ok (.iconst 0, 1) := by decide +kernel
theorem d_B_strobe_55 : decode b_B_strobe 55 = .ok (.invokestatic 112, 3) := by decide +kernel
theorem d_B_strobe_58 : decode b_B_strobe 58 = .ok (.goto 11, 3) := by decide +kernel
theorem d_B_strobe_61 : decode b_B_strobe 61 = .ok (.aload_n 0, 1) := by decide +kernel
theorem d_B_strobe_62 : decode b_B_strobe 62 = .ok (.iload_n 1, 1) := by decide +kernel
theorem d_B_strobe_63 : decode b_B_strobe 63 = .ok (.bipush 28, 2) := by decide +kernel
theorem d_B_strobe_65 : decode b_B_strobe 65 = .ok (.isub, 1) := by decide +kernel
theorem d_B_strobe_66 : decode b_B_strobe 66 = .ok (.invokevirtual 115, 3) := by decide +kernel
theorem d_B_strobe_69 : decode b_B_strobe 69 = .ok (.return_, 1) := by decide +kernel
def y_B_store : MethodName := ⟨R_B, "store", "(II)V"⟩
abbrev b_B_store : ByteArray := prog_1_method_14_code
def w_B_store : List Cond := .code y_B_store b_B_store 3 none :: TB
theorem d_B_store_0 : decode b_B_store 0 = .ok (.iload_n 1, 1) := by decide +kernel
theorem d_B_store_1 : decode b_B_store 1 = .ok (.lookupswitch 112 #[(9, 43), (10, 59), (21, 86), (22, 86)], 43) := by decide +kernel
theorem d_B_store_44 : decode b_B_store 44 = .ok (.aload_n 0, 1) := by decide +kernel
theorem d_B_store_45 : decode b_B_store 45 = .ok (.getfield 13, 3) := by decide +kernel
theorem d_B_store_48 : decode b_B_store 48 = .ok (.iconst 1, 1) := by decide +kernel
theorem d_B_store_49 : decode b_B_store 49 = .ok (.aload_n 0, 1) := by decide +kernel
theorem d_B_store_50 : decode b_B_store 50 = .ok (.getfield 9, 3) := by decide +kernel
theorem d_B_store_53 : decode b_B_store 53 = .ok (.bipush 10, 2) := by decide +kernel
theorem d_B_store_55 : decode b_B_store 55 = .ok (.iaload, 1) := by decide +kernel
theorem d_B_store_56 : decode b_B_store 56 = .ok (.iastore, 1) := by decide +kernel
theorem d_B_store_57 : decode b_B_store 57 = .ok (.goto 56, 3) := by decide +kernel
theorem d_B_store_60 : decode b_B_store 60 = .ok (.aload_n 0, 1) := by decide +kernel
theorem d_B_store_61 : decode b_B_store 61 = .ok (.getfield 13, 3) := by decide +kernel
theorem d_B_store_64 : decode b_B_store 64 = .ok (.iconst 0, 1) := by decide +kernel
theorem d_B_store_65 : decode b_B_store 65 = .ok (.aload_n 0, 1) := by decide +kernel
theorem d_B_store_66 : decode b_B_store 66 = .ok (.getfield 9, 3) := by decide +kernel
theorem d_B_store_69 : decode b_B_store 69 = .ok (.bipush 9, 2) := by decide +kernel
theorem d_B_store_71 : decode b_B_store 71 = .ok (.iaload, 1) := by decide +kernel
theorem d_B_store_72 : decode b_B_store 72 = .ok (.iastore, 1) := by decide +kernel
theorem d_B_store_73 : decode b_B_store 73 = .ok (.aload_n 0, 1) := by decide +kernel
theorem d_B_store_74 : decode b_B_store 74 = .ok (.aload_n 0, 1) := by decide +kernel
theorem d_B_store_75 : decode b_B_store 75 = .ok (.getfield 9, 3) := by decide +kernel
theorem d_B_store_78 : decode b_B_store 78 = .ok (.bipush 13, 2) := by decide +kernel
theorem d_B_store_80 : decode b_B_store 80 = .ok (.iaload, 1) := by decide +kernel
theorem d_B_store_81 : decode b_B_store 81 = .ok (.putfield 87, 3) := by decide +kernel
theorem d_B_store_84 : decode b_B_store 84 = .ok (.goto 29, 3) := by decide +kernel
theorem d_B_store_87 : decode b_B_store 87 = .ok (.aload_n 0, 1) := by decide +kernel
theorem d_B_store_88 : decode b_B_store 88 = .ok (.iload_n 1, 1) := by decide +kernel
theorem d_B_store_89 : decode b_B_store 89 = .ok (.iconst 2, 1) := by decide +kernel
theorem d_B_store_90 : decode b_B_store 90 = .ok (.invokevirtual 90, 3) := by decide +kernel
theorem d_B_store_93 : decode b_B_store 93 = .ok (.ifCond .eq 20, 3) := by decide +kernel
theorem d_B_store_96 : decode b_B_store 96 = .ok (.iload_n 2, 1) := by decide +kernel
theorem d_B_store_97 : decode b_B_store 97 = .ok (.iconst 2, 1) := by decide +kernel
theorem d_B_store_98 : decode b_B_store 98 = .ok (.iand, 1) := by decide +kernel
theorem d_B_store_99 : decode b_B_store 99 = .ok (.ifCond .ne 14, 3) := by decide +kernel
theorem d_B_store_102 : decode b_B_store 102 = .ok (.aload_n 0, 1) := by decide +kernel
theorem d_B_store_103 : decode b_B_store 103 = .ok (.iload_n 1, 1) := by decide +kernel
theorem d_B_store_104 : decode b_B_store 104 = .ok (.bipush 21, 2) := by decide +kernel
theorem d_B_store_106 : decode b_B_store 106 = .ok (.isub, 1) := by decide +kernel
theorem d_B_store_107 : decode b_B_store 107 = .ok (.invokevirtual 93, 3) := by decide +kernel
theorem d_B_store_110 : decode b_B_store 110 = .ok (.goto 3, 3) := by decide +kernel
theorem d_B_store_113 : decode b_B_store 113 = .ok (.aload_n 0, 1) := by decide +kernel
theorem d_B_store_114 : decode b_B_store 114 = .ok (.getfield 9, 3) := by decide +kernel
theorem d_B_store_117 : decode b_B_store 117 = .ok (.iload_n 1, 1) := by decide +kernel
theorem d_B_store_118 : decode b_B_store 118 = .ok (.iload_n 2, 1) := by decide +kernel
theorem d_B_store_119 : decode b_B_store 119 = .ok (.iastore, 1) := by decide +kernel
theorem d_B_store_120 : decode b_B_store 120 = .ok (.return_, 1) := by decide +kernel
def y_B_write : MethodName := ⟨R_B, "write", "(II)V"⟩
abbrev b_B_write : ByteArray := prog_1_method_2_code
def w_B_write : List Cond := .code y_B_write b_B_write 3 none :: TB
theorem d_B_write_0 : decode b_B_write 0 = .ok (.iload_n 1, 1) := by decide +kernel
theorem d_B_write_1 : decode b_B_write 1 = .ok (.ifCond .lt 9, 3) := by decide +kernel
theorem d_B_write_4 : decode b_B_write 4 = .ok (.iload_n 1, 1) := by decide +kernel
theorem d_B_write_5 : decode b_B_write 5 = .ok (.bipush 36, 2) := by decide +kernel
theorem d_B_write_7 : decode b_B_write 7 = .ok (.if_icmp .lt 11, 3) := by decide +kernel
theorem d_B_write_10 : decode b_B_write 10 = .ok (.new 32, 3) := by decide +kernel
theorem d_B_write_13 : decode b_B_write 13 = .ok (.dup, 1) := by decide +kernel
theorem d_B_write_14 : decode b_B_write 14 = .ok (.invokespecial 34, 3) := by decide +kernel
theorem d_B_write_17 : decode b_B_write 17 = .ok (.athrow, 1) := by decide +kernel
theorem d_B_write_18 : decode b_B_write 18 = .ok (.iload_n 2, 1) := by decide +kernel
theorem d_B_write_19 : decode b_B_write 19 = .ok (.ifCond .lt 10, 3) := by decide +kernel
theorem d_B_write_22 : decode b_B_write 22 = .ok (.iload_n 2, 1) := by decide +kernel
theorem d_B_write_23 : decode b_B_write 23 = .ok (.sipush 255, 3) := by decide +kernel
theorem d_B_write_26 : decode b_B_write 26 = .ok (.if_icmp .le 11, 3) := by decide +kernel
theorem d_B_write_29 : decode b_B_write 29 = .ok (.new 35, 3) := by decide +kernel
theorem d_B_write_32 : decode b_B_write 32 = .ok (.dup, 1) := by decide +kernel
theorem d_B_write_33 : decode b_B_write 33 = .ok (.invokespecial 37, 3) := by decide +kernel
theorem d_B_write_36 : decode b_B_write 36 = .ok (.athrow, 1) := by decide +kernel
theorem d_B_write_37 : decode b_B_write 37 = .ok (.iload_n 1, 1) := by decide +kernel
theorem d_B_write_38 : decode b_B_write 38 = .ok (.bipush 28, 2) := by decide +kernel
theorem d_B_write_40 : decode b_B_write 40 = .ok (.if_icmp .lt 11, 3) := by decide +kernel
theorem d_B_write_43 : decode b_B_write 43 = .ok (.aload_n 0, 1) := by decide +kernel
theorem d_B_write_44 : decode b_B_write 44 = .ok (.iload_n 1, 1) := by decide +kernel
theorem d_B_write_45 : decode b_B_write 45 = .ok (.invokevirtual 38, 3) := by decide +kernel
theorem d_B_write_48 : decode b_B_write 48 = .ok (.goto 9, 3) := by decide +kernel
theorem d_B_write_51 : decode b_B_write 51 = .ok (.aload_n 0, 1) := by decide +kernel
theorem d_B_write_52 : decode b_B_write 52 = .ok (.iload_n 1, 1) := by decide +kernel
theorem d_B_write_53 : decode b_B_write 53 = .ok (.iload_n 2, 1) := by decide +kernel
theorem d_B_write_54 : decode b_B_write 54 = .ok (.invokevirtual 42, 3) := by decide +kernel
theorem d_B_write_57 : decode b_B_write 57 = .ok (.return_, 1) := by decide +kernel
def y_B_clocks : MethodName := ⟨R_B, "clocks", "(I)I"⟩
abbrev b_B_clocks : ByteArray := prog_1_method_3_code
def w_B_clocks : List Cond := .code y_B_clocks b_B_clocks 2 (some .int) :: TB
theorem d_B_clocks_0 : decode b_B_clocks 0 = .ok (.iload_n 1, 1) := by decide +kernel
theorem d_B_clocks_1 : decode b_B_clocks 1 = .ok (.ifCond .lt 10, 3) := by decide +kernel
theorem d_B_clocks_4 : decode b_B_clocks 4 = .ok (.iload_n 1, 1) := by decide +kernel
theorem d_B_clocks_5 : decode b_B_clocks 5 = .ok (.sipush 2000, 3) := by decide +kernel
theorem d_B_clocks_8 : decode b_B_clocks 8 = .ok (.if_icmp .le 11, 3) := by decide +kernel
theorem d_B_clocks_11 : decode b_B_clocks 11 = .ok (.new 35, 3) := by decide +kernel
theorem d_B_clocks_14 : decode b_B_clocks 14 = .ok (.dup, 1) := by decide +kernel
theorem d_B_clocks_15 : decode b_B_clocks 15 = .ok (.invokespecial 37, 3) := by decide +kernel
theorem d_B_clocks_18 : decode b_B_clocks 18 = .ok (.athrow, 1) := by decide +kernel
theorem d_B_clocks_19 : decode b_B_clocks 19 = .ok (.aload_n 0, 1) := by decide +kernel
theorem d_B_clocks_20 : decode b_B_clocks 20 = .ok (.iload_n 1, 1) := by decide +kernel
theorem d_B_clocks_21 : decode b_B_clocks 21 = .ok (.invokevirtual 46, 3) := by decide +kernel
theorem d_B_clocks_24 : decode b_B_clocks 24 = .ok (.aload_n 0, 1) := by decide +kernel
theorem d_B_clocks_25 : decode b_B_clocks 25 = .ok (.getfield 49, 3) := by decide +kernel
theorem d_B_clocks_28 : decode b_B_clocks 28 = .ok (.ireturn, 1) := by decide +kernel
def y_B_sync : MethodName := ⟨R_B, "sync", "()I"⟩
abbrev b_B_sync : ByteArray := prog_1_method_4_code
def w_B_sync : List Cond := .code y_B_sync b_B_sync 2 (some .int) :: TB
theorem d_B_sync_0 : decode b_B_sync 0 = .ok (.sipush 228, 3) := by decide +kernel
theorem d_B_sync_3 : decode b_B_sync 3 = .ok (.aload_n 0, 1) := by decide +kernel
theorem d_B_sync_4 : decode b_B_sync 4 = .ok (.getfield 49, 3) := by decide +kernel
theorem d_B_sync_7 : decode b_B_sync 7 = .ok (.isub, 1) := by decide +kernel
theorem d_B_sync_8 : decode b_B_sync 8 = .ok (.istore_n 1, 1) := by decide +kernel
theorem d_B_sync_9 : decode b_B_sync 9 = .ok (.aload_n 0, 1) := by decide +kernel
theorem d_B_sync_10 : decode b_B_sync 10 = .ok (.iload_n 1, 1) := by decide +kernel
theorem d_B_sync_11 : decode b_B_sync 11 = .ok (.invokevirtual 46, 3) := by decide +kernel
theorem d_B_sync_14 : decode b_B_sync 14 = .ok (.iload_n 1, 1) := by decide +kernel
theorem d_B_sync_15 : decode b_B_sync 15 = .ok (.ireturn, 1) := by decide +kernel
def y_B_pixel : MethodName := ⟨R_B, "pixel", "(I)I"⟩
abbrev b_B_pixel : ByteArray := prog_1_method_5_code
def w_B_pixel : List Cond := .code y_B_pixel b_B_pixel 2 (some .int) :: TB
theorem d_B_pixel_0 : decode b_B_pixel 0 = .ok (.iload_n 1, 1) := by decide +kernel
theorem d_B_pixel_1 : decode b_B_pixel 1 = .ok (.invokestatic 53, 3) := by decide +kernel
theorem d_B_pixel_4 : decode b_B_pixel 4 = .ok (.ifCond .ne 11, 3) := by decide +kernel
theorem d_B_pixel_7 : decode b_B_pixel 7 = .ok (.new 32, 3) := by decide +kernel
theorem d_B_pixel_10 : decode b_B_pixel 10 = .ok (.dup, 1) := by decide +kernel
theorem d_B_pixel_11 : decode b_B_pixel 11 = .ok (.invokespecial 34, 3) := by decide +kernel
theorem d_B_pixel_14 : decode b_B_pixel 14 = .ok (.athrow, 1) := by decide +kernel
theorem d_B_pixel_15 : decode b_B_pixel 15 = .ok (.aload_n 0, 1) := by decide +kernel
theorem d_B_pixel_16 : decode b_B_pixel 16 = .ok (.getfield 19, 3) := by decide +kernel
theorem d_B_pixel_19 : decode b_B_pixel 19 = .ok (.iload_n 1, 1) := by decide +kernel
theorem d_B_pixel_20 : decode b_B_pixel 20 = .ok (.iaload, 1) := by decide +kernel
theorem d_B_pixel_21 : decode b_B_pixel 21 = .ok (.ireturn, 1) := by decide +kernel
def y_B_met : MethodName := ⟨R_B, "met", "(II)Z"⟩
abbrev b_B_met : ByteArray := prog_1_method_6_code
def w_B_met : List Cond := .code y_B_met b_B_met 3 (some .boolean) :: TB
theorem d_B_met_0 : decode b_B_met 0 = .ok (.iload_n 1, 1) := by decide +kernel
theorem d_B_met_1 : decode b_B_met 1 = .ok (.invokestatic 57, 3) := by decide +kernel
theorem d_B_met_4 : decode b_B_met 4 = .ok (.ifCond .eq 15, 3) := by decide +kernel
theorem d_B_met_7 : decode b_B_met 7 = .ok (.iload_n 2, 1) := by decide +kernel
theorem d_B_met_8 : decode b_B_met 8 = .ok (.invokestatic 57, 3) := by decide +kernel
theorem d_B_met_11 : decode b_B_met 11 = .ok (.ifCond .eq 8, 3) := by decide +kernel
theorem d_B_met_14 : decode b_B_met 14 = .ok (.iload_n 1, 1) := by decide +kernel
theorem d_B_met_15 : decode b_B_met 15 = .ok (.iload_n 2, 1) := by decide +kernel
theorem d_B_met_16 : decode b_B_met 16 = .ok (.if_icmp .ne 11, 3) := by decide +kernel
theorem d_B_met_19 : decode b_B_met 19 = .ok (.new 32, 3) := by decide +kernel
theorem d_B_met_22 : decode b_B_met 22 = .ok (.dup, 1) := by decide +kernel
theorem d_B_met_23 : decode b_B_met 23 = .ok (.invokespecial 34, 3) := by decide +kernel
theorem d_B_met_26 : decode b_B_met 26 = .ok (.athrow, 1) := by decide +kernel
theorem d_B_met_27 : decode b_B_met 27 = .ok (.aload_n 0, 1) := by decide +kernel
theorem d_B_met_28 : decode b_B_met 28 = .ok (.getfield 22, 3) := by decide +kernel
theorem d_B_met_31 : decode b_B_met 31 = .ok (.iload_n 1, 1) := by decide +kernel
theorem d_B_met_32 : decode b_B_met 32 = .ok (.iaload, 1) := by decide +kernel
theorem d_B_met_33 : decode b_B_met 33 = .ok (.iload_n 2, 1) := by decide +kernel
theorem d_B_met_34 : decode b_B_met 34 = .ok (.ishr, 1) := by decide +kernel
theorem d_B_met_35 : decode b_B_met 35 = .ok (.iconst 1, 1) := by decide +kernel
theorem d_B_met_36 : decode b_B_met 36 = .ok (.iand, 1) := by decide +kernel
theorem d_B_met_37 : decode b_B_met 37 = .ok (.ifCond .eq 7, 3) := by decide +kernel
theorem d_B_met_40 : decode b_B_met 40 = .ok (.iconst 1, 1) := by decide +kernel
theorem d_B_met_41 : decode b_B_met 41 = .ok (.goto 4, 3) := by decide +kernel
theorem d_B_met_44 : decode b_B_met 44 = .ok (.iconst 0, 1) := by decide +kernel
theorem d_B_met_45 : decode b_B_met 45 = .ok (.ireturn, 1) := by decide +kernel
def y_B_place : MethodName := ⟨R_B, "place", "(I)I"⟩
abbrev b_B_place : ByteArray := prog_1_method_7_code
def w_B_place : List Cond := .code y_B_place b_B_place 2 (some .int) :: TB
theorem d_B_place_0 : decode b_B_place 0 = .ok (.iload_n 1, 1) := by decide +kernel
theorem d_B_place_1 : decode b_B_place 1 = .ok (.ifCond .lt 8, 3) := by decide +kernel
theorem d_B_place_4 : decode b_B_place 4 = .ok (.iload_n 1, 1) := by decide +kernel
theorem d_B_place_5 : decode b_B_place 5 = .ok (.iconst 5, 1) := by decide +kernel
theorem d_B_place_6 : decode b_B_place 6 = .ok (.if_icmp .lt 11, 3) := by decide +kernel
theorem d_B_place_9 : decode b_B_place 9 = .ok (.new 32, 3) := by decide +kernel
theorem d_B_place_12 : decode b_B_place 12 = .ok (.dup, 1) := by decide +kernel
theorem d_B_place_13 : decode b_B_place 13 = .ok (.invokespecial 34, 3) := by decide +kernel
theorem d_B_place_16 : decode b_B_place 16 = .ok (.athrow, 1) := by decide +kernel
theorem d_B_place_17 : decode b_B_place 17 = .ok (.aload_n 0, 1) := by decide +kernel
theorem d_B_place_18 : decode b_B_place 18 = .ok (.getfield 16, 3) := by decide +kernel
theorem d_B_place_21 : decode b_B_place 21 = .ok (.iload_n 1, 1) := by decide +kernel
theorem d_B_place_22 : decode b_B_place 22 = .ok (.iaload, 1) := by decide +kernel
theorem d_B_place_23 : decode b_B_place 23 = .ok (.ireturn, 1) := by decide +kernel
def y_B_there : MethodName := ⟨R_B, "there", "(II)Z"⟩
abbrev b_B_there : ByteArray := prog_1_method_8_code
def w_B_there : List Cond := .code y_B_there b_B_there 3 (some .boolean) :: TB
theorem d_B_there_0 : decode b_B_there 0 = .ok (.iload_n 1, 1) := by decide +kernel
theorem d_B_there_1 : decode b_B_there 1 = .ok (.invokestatic 57, 3) := by decide +kernel
theorem d_B_there_4 : decode b_B_there 4 = .ok (.ifCond .eq 10, 3) := by decide +kernel
theorem d_B_there_7 : decode b_B_there 7 = .ok (.iload_n 2, 1) := by decide +kernel
theorem d_B_there_8 : decode b_B_there 8 = .ok (.invokestatic 53, 3) := by decide +kernel
theorem d_B_there_11 : decode b_B_there 11 = .ok (.ifCond .ne 11, 3) := by decide +kernel
theorem d_B_there_14 : decode b_B_there 14 = .ok (.new 32, 3) := by decide +kernel
theorem d_B_there_17 : decode b_B_there 17 = .ok (.dup, 1) := by decide +kernel
theorem d_B_there_18 : decode b_B_there 18 = .ok (.invokespecial 34, 3) := by decide +kernel
theorem d_B_there_21 : decode b_B_there 21 = .ok (.athrow, 1) := by decide +kernel
theorem d_B_there_22 : decode b_B_there 22 = .ok (.aload_n 0, 1) := by decide +kernel
theorem d_B_there_23 : decode b_B_there 23 = .ok (.iload_n 1, 1) := by decide +kernel
theorem d_B_there_24 : decode b_B_there 24 = .ok (.iload_n 2, 1) := by decide +kernel
theorem d_B_there_25 : decode b_B_there 25 = .ok (.invokevirtual 60, 3) := by decide +kernel
theorem d_B_there_28 : decode b_B_there 28 = .ok (.ireturn, 1) := by decide +kernel
def y_B_set : MethodName := ⟨R_B, "set", "(II)I"⟩
abbrev b_B_set : ByteArray := prog_1_method_9_code
def w_B_set : List Cond := .code y_B_set b_B_set 4 (some .int) :: TB
theorem d_B_set_0 : decode b_B_set 0 = .ok (.iload_n 1, 1) := by decide +kernel
theorem d_B_set_1 : decode b_B_set 1 = .ok (.ifCond .lt 11, 3) := by decide +kernel
theorem d_B_set_4 : decode b_B_set 4 = .ok (.iload_n 1, 1) := by decide +kernel
theorem d_B_set_5 : decode b_B_set 5 = .ok (.getstatic 64, 3) := by decide +kernel
theorem d_B_set_8 : decode b_B_set 8 = .ok (.arraylength, 1) := by decide +kernel
theorem d_B_set_9 : decode b_B_set 9 = .ok (.if_icmp .lt 11, 3) := by decide +kernel
theorem d_B_set_12 : decode b_B_set 12 = .ok (.new 32, 3) := by decide +kernel
theorem d_B_set_15 : decode b_B_set 15 = .ok (.dup, 1) := by decide +kernel
theorem d_B_set_16 : decode b_B_set 16 = .ok (.invokespecial 34, 3) := by decide +kernel
theorem d_B_set_19 : decode b_B_set 19 = .ok (.athrow, 1) := by decide +kernel
theorem d_B_set_20 : decode b_B_set 20 = .ok (.iload_n 2, 1) := by decide +kernel
theorem d_B_set_21 : decode b_B_set 21 = .ok (.ifCond .lt 10, 3) := by decide +kernel
theorem d_B_set_24 : decode b_B_set 24 = .ok (.iload_n 2, 1) := by decide +kernel
theorem d_B_set_25 : decode b_B_set 25 = .ok (.sipush 255, 3) := by decide +kernel
theorem d_B_set_28 : decode b_B_set 28 = .ok (.if_icmp .le 11, 3) := by decide +kernel
theorem d_B_set_31 : decode b_B_set 31 = .ok (.new 35, 3) := by decide +kernel
theorem d_B_set_34 : decode b_B_set 34 = .ok (.dup, 1) := by decide +kernel
theorem d_B_set_35 : decode b_B_set 35 = .ok (.invokespecial 37, 3) := by decide +kernel
theorem d_B_set_38 : decode b_B_set 38 = .ok (.athrow, 1) := by decide +kernel
theorem d_B_set_39 : decode b_B_set 39 = .ok (.aload_n 0, 1) := by decide +kernel
theorem d_B_set_40 : decode b_B_set 40 = .ok (.getfield 28, 3) := by decide +kernel
theorem d_B_set_43 : decode b_B_set 43 = .ok (.getfield 67, 3) := by decide +kernel
theorem d_B_set_46 : decode b_B_set 46 = .ok (.istore_n 3, 1) := by decide +kernel
theorem d_B_set_47 : decode b_B_set 47 = .ok (.aload_n 0, 1) := by decide +kernel
theorem d_B_set_48 : decode b_B_set 48 = .ok (.getfield 28, 3) := by decide +kernel
theorem d_B_set_51 : decode b_B_set 51 = .ok (.getstatic 64, 3) := by decide +kernel
theorem d_B_set_54 : decode b_B_set 54 = .ok (.iload_n 1, 1) := by decide +kernel
theorem d_B_set_55 : decode b_B_set 55 = .ok (.iaload, 1) := by decide +kernel
theorem d_B_set_56 : decode b_B_set 56 = .ok (.iload_n 2, 1) := by decide +kernel
theorem d_B_set_57 : decode b_B_set 57 = .ok (.invokevirtual 70, 3) := by decide +kernel
theorem d_B_set_60 : decode b_B_set 60 = .ok (.iload_n 3, 1) := by decide +kernel
theorem d_B_set_61 : decode b_B_set 61 = .ok (.ireturn, 1) := by decide +kernel
def y_B_count : MethodName := ⟨R_B, "count", "(I)I"⟩
abbrev b_B_count : ByteArray := prog_1_method_10_code
def w_B_count : List Cond := .code y_B_count b_B_count 2 (some .int) :: TB
theorem d_B_count_0 : decode b_B_count 0 = .ok (.iload_n 1, 1) := by decide +kernel
theorem d_B_count_1 : decode b_B_count 1 = .ok (.tableswitch 83 0 5 #[39, 44, 49, 57, 73, 78], 39) := by decide +kernel
theorem d_B_count_40 : decode b_B_count 40 = .ok (.aload_n 0, 1) := by decide +kernel
theorem d_B_count_41 : decode b_B_count 41 = .ok (.getfield 49, 3) := by decide +kernel
theorem d_B_count_44 : decode b_B_count 44 = .ok (.ireturn, 1) := by decide +kernel
theorem d_B_count_45 : decode b_B_count 45 = .ok (.aload_n 0, 1) := by decide +kernel
theorem d_B_count_46 : decode b_B_count 46 = .ok (.getfield 73, 3) := by decide +kernel
theorem d_B_count_49 : decode b_B_count 49 = .ok (.ireturn, 1) := by decide +kernel
theorem d_B_count_50 : decode b_B_count 50 = .ok (.aload_n 0, 1) := by decide +kernel
theorem d_B_count_51 : decode b_B_count 51 = .ok (.getfield 28, 3) := by decide +kernel
theorem d_B_count_54 : decode b_B_count 54 = .ok (.getfield 67, 3) := by decide +kernel
theorem d_B_count_57 : decode b_B_count 57 = .ok (.ireturn, 1) := by decide +kernel
theorem d_B_count_58 : decode b_B_count 58 = .ok (.aload_n 0, 1) := by decide +kernel
theorem d_B_count_59 : decode b_B_count 59 = .ok (.getfield 28, 3) := by decide +kernel
theorem d_B_count_62 : decode b_B_count 62 = .ok (.getfield 76, 3) := by decide +kernel
theorem d_B_count_65 : decode b_B_count 65 = .ok (.ifCond .eq 7, 3) := by decide +kernel
theorem d_B_count_68 : decode b_B_count 68 = .ok (.iconst 1, 1) := by decide +kernel
theorem d_B_count_69 : decode b_B_count 69 = .ok (.goto 4, 3) := by decide +kernel
theorem d_B_count_72 : decode b_B_count 72 = .ok (.iconst 0, 1) := by decide +kernel
theorem d_B_count_73 : decode b_B_count 73 = .ok (.ireturn, 1) := by decide +kernel
theorem d_B_count_74 : decode b_B_count 74 = .ok (.aload_n 0, 1) := by decide +kernel
theorem d_B_count_75 : decode b_B_count 75 = .ok (.invokevirtual 80, 3) := by decide +kernel
theorem d_B_count_78 : decode b_B_count 78 = .ok (.ireturn, 1) := by decide +kernel
theorem d_B_count_79 : decode b_B_count 79 = .ok (.aload_n 0, 1) := by decide +kernel
theorem d_B_count_80 : decode b_B_count 80 = .ok (.getfield 84, 3) := by decide +kernel
theorem d_B_count_83 : decode b_B_count 83 = .ok (.ireturn, 1) := by decide +kernel
theorem d_B_count_84 : decode b_B_count 84 = .ok (.new 32, 3) := by decide +kernel
theorem d_B_count_87 : decode b_B_count 87 = .ok (.dup, 1) := by decide +kernel
theorem d_B_count_88 : decode b_B_count 88 = .ok (.invokespecial 34, 3) := by decide +kernel
theorem d_B_count_91 : decode b_B_count 91 = .ok (.athrow, 1) := by decide +kernel
end
section
def y_M_thrown : MethodName := ⟨R_M, "thrown", "()I"⟩
abbrev b_M_thrown : ByteArray := prog_4_method_2_code
def w_M_thrown : List Cond := .code y_M_thrown b_M_thrown 1 (some .int) :: TB
theorem d_M_thrown_0 : decode b_M_thrown 0 = .ok (.aload_n 0, 1) := by decide +kernel
theorem d_M_thrown_1 : decode b_M_thrown 1 = .ok (.getfield 36, 3) := by decide +kernel
theorem d_M_thrown_4 : decode b_M_thrown 4 = .ok (.ireturn, 1) := by decide +kernel
def y_M_goes : MethodName := ⟨R_M, "goes", "(ZZ)Z"⟩
abbrev b_M_goes : ByteArray := prog_4_method_3_code
def w_M_goes : List Cond := .code y_M_goes b_M_goes 3 (some .boolean) :: TB
theorem d_M_goes_0 : decode b_M_goes 0 = .ok (.aload_n 0, 1) := by decide +kernel
theorem d_M_goes_1 : decode b_M_goes 1 = .ok (.iload_n 1, 1) := by decide +kernel
theorem d_M_goes_2 : decode b_M_goes 2 = .ok (.ifCond .ne 7, 3) := by decide +kernel
theorem d_M_goes_5 : decode b_M_goes 5 = .ok (.iconst 1, 1) := by decide +kernel
theorem d_M_goes_6 : decode b_M_goes 6 = .ok (.goto 12, 3) := by decide +kernel
theorem d_M_goes_9 : decode b_M_goes 9 = .ok (.iload_n 2, 1) := by decide +kernel
theorem d_M_goes_10 : decode b_M_goes 10 = .ok (.ifCond .ne 7, 3) := by decide +kernel
theorem d_M_goes_13 : decode b_M_goes 13 = .ok (.iconst 2, 1) := by decide +kernel
theorem d_M_goes_14 : decode b_M_goes 14 = .ok (.goto 4, 3) := by decide +kernel
theorem d_M_goes_17 : decode b_M_goes 17 = .ok (.iconst 0, 1) := by decide +kernel
theorem d_M_goes_18 : decode b_M_goes 18 = .ok (.putfield 36, 3) := by decide +kernel
theorem d_M_goes_21 : decode b_M_goes 21 = .ok (.aload_n 0, 1) := by decide +kernel
theorem d_M_goes_22 : decode b_M_goes 22 = .ok (.getfield 36, 3) := by decide +kernel
theorem d_M_goes_25 : decode b_M_goes 25 = .ok (.ifCond .ne 7, 3) := by decide +kernel
theorem d_M_goes_28 : decode b_M_goes 28 = .ok (.iconst 1, 1) := by decide +kernel
theorem d_M_goes_29 : decode b_M_goes 29 = .ok (.goto 4, 3) := by decide +kernel
theorem d_M_goes_32 : decode b_M_goes 32 = .ok (.iconst 0, 1) := by decide +kernel
theorem d_M_goes_33 : decode b_M_goes 33 = .ok (.ireturn, 1) := by decide +kernel
def y_M_bit : MethodName := ⟨R_M, "bit", "(II)Z"⟩
abbrev b_M_bit : ByteArray := prog_4_method_4_code
def w_M_bit : List Cond := .code y_M_bit b_M_bit 3 (some .boolean) :: TB
theorem d_M_bit_0 : decode b_M_bit 0 = .ok (.aload_n 0, 1) := by decide +kernel
theorem d_M_bit_1 : decode b_M_bit 1 = .ok (.getfield 7, 3) := by decide +kernel
theorem d_M_bit_4 : decode b_M_bit 4 = .ok (.iload_n 1, 1) := by decide +kernel
theorem d_M_bit_5 : decode b_M_bit 5 = .ok (.iaload, 1) := by decide +kernel
theorem d_M_bit_6 : decode b_M_bit 6 = .ok (.iload_n 2, 1) := by decide +kernel
theorem d_M_bit_7 : decode b_M_bit 7 = .ok (.ishr, 1) := by decide +kernel
theorem d_M_bit_8 : decode b_M_bit 8 = .ok (.iconst 1, 1) := by decide +kernel
theorem d_M_bit_9 : decode b_M_bit 9 = .ok (.iand, 1) := by decide +kernel
theorem d_M_bit_10 : decode b_M_bit 10 = .ok (.iconst 1, 1) := by decide +kernel
theorem d_M_bit_11 : decode b_M_bit 11 = .ok (.if_icmp .ne 7, 3) := by decide +kernel
theorem d_M_bit_14 : decode b_M_bit 14 = .ok (.iconst 1, 1) := by decide +kernel
theorem d_M_bit_15 : decode b_M_bit 15 = .ok (.goto 4, 3) := by decide +kernel
theorem d_M_bit_18 : decode b_M_bit 18 = .ok (.iconst 0, 1) := by decide +kernel
theorem d_M_bit_19 : decode b_M_bit 19 = .ok (.ireturn, 1) := by decide +kernel
def y_M_copiesOf : MethodName := ⟨R_M, "copiesOf", "(I)I"⟩
abbrev b_M_copiesOf : ByteArray := prog_4_method_5_code
def w_M_copiesOf : List Cond := .code y_M_copiesOf b_M_copiesOf 2 (some .int) :: TB
theorem d_M_copiesOf_0 : decode b_M_copiesOf 0 = .ok (.aload_n 0, 1) := by decide +kernel
theorem d_M_copiesOf_1 : decode b_M_copiesOf 1 = .ok (.getfield 7, 3) := by decide +kernel
theorem d_M_copiesOf_4 : decode b_M_copiesOf 4 = .ok (.bipush 17, 2) := by decide +kernel
theorem d_M_copiesOf_6 : decode b_M_copiesOf 6 = .ok (.iload_n 1, 1) := by decide +kernel
theorem d_M_copiesOf_7 : decode b_M_copiesOf 7 = .ok (.iadd, 1) := by decide +kernel
theorem d_M_copiesOf_8 : decode b_M_copiesOf 8 = .ok (.iaload, 1) := by decide +kernel
theorem d_M_copiesOf_9 : decode b_M_copiesOf 9 = .ok (.bipush 7, 2) := by decide +kernel
theorem d_M_copiesOf_11 : decode b_M_copiesOf 11 = .ok (.iand, 1) := by decide +kernel
theorem d_M_copiesOf_12 : decode b_M_copiesOf 12 = .ok (.ireturn, 1) := by decide +kernel
def y_M_wide : MethodName := ⟨R_M, "wide", "(I)I"⟩
abbrev b_M_wide : ByteArray := prog_4_method_6_code
def w_M_wide : List Cond := .code y_M_wide b_M_wide 2 (some .int) :: TB
theorem d_M_wide_0 : decode b_M_wide 0 = .ok (.aload_n 0, 1) := by decide +kernel
theorem d_M_wide_1 : decode b_M_wide 1 = .ok (.iload_n 1, 1) := by decide +kernel
theorem d_M_wide_2 : decode b_M_wide 2 = .ok (.invokevirtual 39, 3) := by decide +kernel
theorem d_M_wide_5 : decode b_M_wide 5 = .ok (.iconst 5, 1) := by decide +kernel
theorem d_M_wide_6 : decode b_M_wide 6 = .ok (.if_icmp .ne 7, 3) := by decide +kernel
theorem d_M_wide_9 : decode b_M_wide 9 = .ok (.iconst 2, 1) := by decide +kernel
theorem d_M_wide_10 : decode b_M_wide 10 = .ok (.goto 18, 3) := by decide +kernel
theorem d_M_wide_13 : decode b_M_wide 13 = .ok (.aload_n 0, 1) := by decide +kernel
theorem d_M_wide_14 : decode b_M_wide 14 = .ok (.iload_n 1, 1) := by decide +kernel
theorem d_M_wide_15 : decode b_M_wide 15 = .ok (.invokevirtual 39, 3) := by decide +kernel
theorem d_M_wide_18 : decode b_M_wide 18 = .ok (.bipush 7, 2) := by decide +kernel
theorem d_M_wide_20 : decode b_M_wide 20 = .ok (.if_icmp .ne 7, 3) := by decide +kernel
theorem d_M_wide_23 : decode b_M_wide 23 = .ok (.iconst 4, 1) := by decide +kernel
theorem d_M_wide_24 : decode b_M_wide 24 = .ok (.goto 4, 3) := by decide +kernel
theorem d_M_wide_27 : decode b_M_wide 27 = .ok (.iconst 1, 1) := by decide +kernel
theorem d_M_wide_28 : decode b_M_wide 28 = .ok (.ireturn, 1) := by decide +kernel
def y_M_lock : MethodName := ⟨R_M, "lock", "(II)V"⟩
abbrev b_M_lock : ByteArray := prog_4_method_7_code
def w_M_lock : List Cond := .code y_M_lock b_M_lock 4 none :: TB
theorem d_M_lock_0 : decode b_M_lock 0 = .ok (.aload_n 0, 1) := by decide +kernel
theorem d_M_lock_1 : decode b_M_lock 1 = .ok (.bipush 21, 2) := by decide +kernel
theorem d_M_lock_3 : decode b_M_lock 3 = .ok (.iload_n 1, 1) := by decide +kernel
theorem d_M_lock_4 : decode b_M_lock 4 = .ok (.iadd, 1) := by decide +kernel
theorem d_M_lock_5 : decode b_M_lock 5 = .ok (.iconst 1, 1) := by decide +kernel
theorem d_M_lock_6 : decode b_M_lock 6 = .ok (.invokevirtual 43, 3) := by decide +kernel
theorem d_M_lock_9 : decode b_M_lock 9 = .ok (.ifCond .eq 15, 3) := by decide +kernel
theorem d_M_lock_12 : decode b_M_lock 12 = .ok (.iload_n 2, 1) := by decide +kernel
theorem d_M_lock_13 : decode b_M_lock 13 = .ok (.iconst 1, 1) := by decide +kernel
theorem d_M_lock_14 : decode b_M_lock 14 = .ok (.ishr, 1) := by decide +kernel
theorem d_M_lock_15 : decode b_M_lock 15 = .ok (.iconst 1, 1) := by decide +kernel
theorem d_M_lock_16 : decode b_M_lock 16 = .ok (.iand, 1) := by decide +kernel
theorem d_M_lock_17 : decode b_M_lock 17 = .ok (.ifCond .ne 7, 3) := by decide +kernel
theorem d_M_lock_20 : decode b_M_lock 20 = .ok (.iconst 1, 1) := by decide +kernel
theorem d_M_lock_21 : decode b_M_lock 21 = .ok (.goto 4, 3) := by decide +kernel
theorem d_M_lock_24 : decode b_M_lock 24 = .ok (.iconst 0, 1) := by decide +kernel
theorem d_M_lock_25 : decode b_M_lock 25 = .ok (.istore_n 3, 1) := by decide +kernel
theorem d_M_lock_26 : decode b_M_lock 26 = .ok (.iload_n 3, 1) := by decide +kernel
theorem d_M_lock_27 : decode b_M_lock 27 = .ok (.ifCond .eq 29, 3) := by decide +kernel
theorem d_M_lock_30 : decode b_M_lock 30 = .ok (.aload_n 0, 1) := by decide +kernel
theorem d_M_lock_31 : decode b_M_lock 31 = .ok (.getfield 13, 3) := by decide +kernel
theorem d_M_lock_34 : decode b_M_lock 34 = .ok (.iconst 2, 1) := by decide +kernel
theorem d_M_lock_35 : decode b_M_lock 35 = .ok (.iload_n 1, 1) := by decide +kernel
theorem d_M_lock_36 : decode b_M_lock 36 = .ok (.iadd, 1) := by decide +kernel
theorem d_M_lock_37 : decode b_M_lock 37 = .ok (.aload_n 0, 1) := by decide +kernel
theorem d_M_lock_38 : decode b_M_lock 38 = .ok (.getfield 13, 3) := by decide +kernel
theorem d_M_lock_41 : decode b_M_lock 41 = .ok (.iload_n 1, 1) := by decide +kernel
theorem d_M_lock_42 : decode b_M_lock 42 = .ok (.iaload, 1) := by decide +kernel
theorem d_M_lock_43 : decode b_M_lock 43 = .ok (.iconst 4, 1) := by decide +kernel
theorem d_M_lock_44 : decode b_M_lock 44 = .ok (.aload_n 0, 1) := by decide +kernel
theorem d_M_lock_45 : decode b_M_lock 45 = .ok (.iload_n 1, 1) := by decide +kernel
theorem d_M_lock_46 : decode b_M_lock 46 = .ok (.invokevirtual 47, 3) := by decide +kernel
theorem d_M_lock_49 : decode b_M_lock 49 = .ok (.imul, 1) := by decide +kernel
theorem d_M_lock_50 : decode b_M_lock 50 = .ok (.iadd, 1) := by decide +kernel
theorem d_M_lock_51 : decode b_M_lock 51 = .ok (.sipush 160, 3) := by decide +kernel
theorem d_M_lock_54 : decode b_M_lock 54 = .ok (.irem, 1) := by decide +kernel
theorem d_M_lock_55 : decode b_M_lock 55 = .ok (.iastore, 1) := by decide +kernel
theorem d_M_lock_56 : decode b_M_lock 56 = .ok (.return_, 1) := by decide +kernel
def y_M_reset : MethodName := ⟨R_M, "reset", "(I)V"⟩
abbrev b_M_reset : ByteArray := prog_4_method_8_code
def w_M_reset : List Cond := .code y_M_reset b_M_reset 3 none :: TB
theorem d_M_reset_0 : decode b_M_reset 0 = .ok (.aload_n 0, 1) := by decide +kernel
theorem d_M_reset_1 : decode b_M_reset 1 = .ok (.getfield 50, 3) := by decide +kernel
theorem d_M_reset_4 : decode b_M_reset 4 = .ok (.bipush 68, 2) := by decide +kernel
theorem d_M_reset_6 : decode b_M_reset 6 = .ok (.isub, 1) := by decide +kernel
theorem d_M_reset_7 : decode b_M_reset 7 = .ok (.istore_n 2, 1) := by decide +kernel
theorem d_M_reset_8 : decode b_M_reset 8 = .ok (.iload_n 1, 1) := by decide +kernel
theorem d_M_reset_9 : decode b_M_reset 9 = .ok (.iconst 2, 1) := by decide +kernel
theorem d_M_reset_10 : decode b_M_reset 10 = .ok (.if_icmp .ge 27, 3) := by decide +kernel
theorem d_M_reset_13 : decode b_M_reset 13 = .ok (.aload_n 0, 1) := by decide +kernel
theorem d_M_reset_14 : decode b_M_reset 14 = .ok (.getfield 13, 3) := by decide +kernel
theorem d_M_reset_17 : decode b_M_reset 17 = .ok (.iload_n 1, 1) := by decide +kernel
theorem d_M_reset_18 : decode b_M_reset 18 = .ok (.iload_n 2, 1) := by decide +kernel
theorem d_M_reset_19 : decode b_M_reset 19 = .ok (.ifCond .ge 7, 3) := by decide +kernel
theorem d_M_reset_22 : decode b_M_reset 22 = .ok (.iconst 3, 1) := by decide +kernel
theorem d_M_reset_23 : decode b_M_reset 23 = .ok (.goto 10, 3) := by decide +kernel
theorem d_M_reset_26 : decode b_M_reset 26 = .ok (.iload_n 2, 1) := by decide +kernel
theorem d_M_reset_27 : decode b_M_reset 27 = .ok (.iconst 5, 1) := by decide +kernel
theorem d_M_reset_28 : decode b_M_reset 28 = .ok (.iadd, 1) := by decide +kernel
theorem d_M_reset_29 : decode b_M_reset 29 = .ok (.sipush 160, 3) := by decide +kernel
theorem d_M_reset_32 : decode b_M_reset 32 = .ok (.irem, 1) := by decide +kernel
theorem d_M_reset_33 : decode b_M_reset 33 = .ok (.iastore, 1) := by decide +kernel
theorem d_M_reset_34 : decode b_M_reset 34 = .ok (.goto 24, 3) := by decide +kernel
theorem d_M_reset_37 : decode b_M_reset 37 = .ok (.aload_n 0, 1) := by decide +kernel
theorem d_M_reset_38 : decode b_M_reset 38 = .ok (.getfield 13, 3) := by decide +kernel
theorem d_M_reset_41 : decode b_M_reset 41 = .ok (.iload_n 1, 1) := by decide +kernel
theorem d_M_reset_42 : decode b_M_reset 42 = .ok (.iload_n 2, 1) := by decide +kernel
theorem d_M_reset_43 : decode b_M_reset 43 = .ok (.ifCond .ge 7, 3) := by decide +kernel
theorem d_M_reset_46 : decode b_M_reset 46 = .ok (.iconst 2, 1) := by decide +kernel
theorem d_M_reset_47 : decode b_M_reset 47 = .ok (.goto 10, 3) := by decide +kernel
theorem d_M_reset_50 : decode b_M_reset 50 = .ok (.iload_n 2, 1) := by decide +kernel
theorem d_M_reset_51 : decode b_M_reset 51 = .ok (.iconst 4, 1) := by decide +kernel
theorem d_M_reset_52 : decode b_M_reset 52 = .ok (.iadd, 1) := by decide +kernel
theorem d_M_reset_53 : decode b_M_reset 53 = .ok (.sipush 160, 3) := by decide +kernel
theorem d_M_reset_56 : decode b_M_reset 56 = .ok (.irem, 1) := by decide +kernel
theorem d_M_reset_57 : decode b_M_reset 57 = .ok (.iastore, 1) := by decide +kernel
theorem d_M_reset_58 : decode b_M_reset 58 = .ok (.return_, 1) := by decide +kernel
def y_M_move : MethodName := ⟨R_M, "move", "()V"⟩
abbrev b_M_move : ByteArray := prog_4_method_9_code
def w_M_move : List Cond := .code y_M_move b_M_move 3 none :: TB
theorem d_M_move_0 : decode b_M_move 0 = .ok (.iconst 0, 1) := by decide +kernel
theorem d_M_move_1 : decode b_M_move 1 = .ok (.istore_n 1, 1) := by decide +kernel
theorem d_M_move_2 : decode b_M_move 2 = .ok (.iload_n 1, 1) := by decide +kernel
theorem d_M_move_3 : decode b_M_move 3 = .ok (.iconst 5, 1) := by decide +kernel
theorem d_M_move_4 : decode b_M_move 4 = .ok (.if_icmp .ge 59, 3) := by decide +kernel
theorem d_M_move_7 : decode b_M_move 7 = .ok (.aload_n 0, 1) := by decide +kernel
theorem d_M_move_8 : decode b_M_move 8 = .ok (.getfield 7, 3) := by decide +kernel
theorem d_M_move_11 : decode b_M_move 11 = .ok (.bipush 23, 2) := by decide +kernel
theorem d_M_move_13 : decode b_M_move 13 = .ok (.iload_n 1, 1) := by decide +kernel
theorem d_M_move_14 : decode b_M_move 14 = .ok (.iadd, 1) := by decide +kernel
theorem d_M_move_15 : decode b_M_move 15 = .ok (.iaload, 1) := by decide +kernel
theorem d_M_move_16 : decode b_M_move 16 = .ok (.bipush 16, 2) := by decide +kernel
theorem d_M_move_18 : decode b_M_move 18 = .ok (.idiv, 1) := by decide +kernel
theorem d_M_move_19 : decode b_M_move 19 = .ok (.istore_n 2, 1) := by decide +kernel
theorem d_M_move_20 : decode b_M_move 20 = .ok (.iload_n 2, 1) := by decide +kernel
theorem d_M_move_21 : decode b_M_move 21 = .ok (.bipush 7, 2) := by decide +kernel
theorem d_M_move_23 : decode b_M_move 23 = .ok (.if_icmp .le 10, 3) := by decide +kernel
theorem d_M_move_26 : decode b_M_move 26 = .ok (.iload_n 2, 1) := by decide +kernel
theorem d_M_move_27 : decode b_M_move 27 = .ok (.bipush 16, 2) := by decide +kernel
theorem d_M_move_29 : decode b_M_move 29 = .ok (.isub, 1) := by decide +kernel
theorem d_M_move_30 : decode b_M_move 30 = .ok (.goto 4, 3) := by decide +kernel
theorem d_M_move_33 : decode b_M_move 33 = .ok (.iload_n 2, 1) := by decide +kernel
theorem d_M_move_34 : decode b_M_move 34 = .ok (.istore_n 2, 1) := by decide +kernel
theorem d_M_move_35 : decode b_M_move 35 = .ok (.aload_n 0, 1) := by decide +kernel
theorem d_M_move_36 : decode b_M_move 36 = .ok (.getfield 13, 3) := by decide +kernel
theorem d_M_move_39 : decode b_M_move 39 = .ok (.iload_n 1, 1) := by decide +kernel
theorem d_M_move_40 : decode b_M_move 40 = .ok (.aload_n 0, 1) := by decide +kernel
theorem d_M_move_41 : decode b_M_move 41 = .ok (.getfield 13, 3) := by decide +kernel
theorem d_M_move_44 : decode b_M_move 44 = .ok (.iload_n 1, 1) := by decide +kernel
theorem d_M_move_45 : decode b_M_move 45 = .ok (.iaload, 1) := by decide +kernel
theorem d_M_move_46 : decode b_M_move 46 = .ok (.iload_n 2, 1) := by decide +kernel
theorem d_M_move_47 : decode b_M_move 47 = .ok (.isub, 1) := by decide +kernel
theorem d_M_move_48 : decode b_M_move 48 = .ok (.sipush 160, 3) := by decide +kernel
theorem d_M_move_51 : decode b_M_move 51 = .ok (.iadd, 1) := by decide +kernel
theorem d_M_move_52 : decode b_M_move 52 = .ok (.sipush 160, 3) := by decide +kernel
theorem d_M_move_55 : decode b_M_move 55 = .ok (.irem, 1) := by decide +kernel
theorem d_M_move_56 : decode b_M_move 56 = .ok (.iastore, 1) := by decide +kernel
theorem d_M_move_57 : decode b_M_move 57 = .ok (.iinc 1 1, 3) := by decide +kernel
theorem d_M_move_60 : decode b_M_move 60 = .ok (.goto (-58), 3) := by decide +kernel
theorem d_M_move_63 : decode b_M_move 63 = .ok (.return_, 1) := by decide +kernel
def y_M_special : MethodName := ⟨R_M, "special", "(I)V"⟩
abbrev b_M_special : ByteArray := prog_4_method_10_code
def w_M_special : List Cond := .code y_M_special b_M_special 3 none :: TB
theorem d_M_special_0 : decode b_M_special 0 = .ok (.iload_n 1, 1) := by decide +kernel
theorem d_M_special_1 : decode b_M_special 1 = .ok (.bipush 33, 2) := by decide +kernel
theorem d_M_special_3 : decode b_M_special 3 = .ok (.if_icmp .ge 14, 3) := by decide +kernel
theorem d_M_special_6 : decode b_M_special 6 = .ok (.aload_n 0, 1) := by decide +kernel
theorem d_M_special_7 : decode b_M_special 7 = .ok (.iload_n 1, 1) := by decide +kernel
theorem d_M_special_8 : decode b_M_special 8 = .ok (.bipush 28, 2) := by decide +kernel
theorem d_M_special_10 : decode b_M_special 10 = .ok (.isub, 1) := by decide +kernel
theorem d_M_special_11 : decode b_M_special 11 = .ok (.invokevirtual 53, 3) := by decide +kernel
theorem d_M_special_14 : decode b_M_special 14 = .ok (.goto 68, 3) := by decide +kernel
theorem d_M_special_17 : decode b_M_special 17 = .ok (.iload_n 1, 1) := by decide +kernel
theorem d_M_special_18 : decode b_M_special 18 = .ok (.bipush 33, 2) := by decide +kernel
theorem d_M_special_20 : decode b_M_special 20 = .ok (.if_icmp .ne 10, 3) := by decide +kernel
theorem d_M_special_23 : decode b_M_special 23 = .ok (.aload_n 0, 1) := by decide +kernel
theorem d_M_special_24 : decode b_M_special 24 = .ok (.invokevirtual 57, 3) := by decide +kernel
theorem d_M_special_27 : decode b_M_special 27 = .ok (.goto 55, 3) := by decide +kernel
theorem d_M_special_30 : decode b_M_special 30 = .ok (.iload_n 1, 1) := by decide +kernel
theorem d_M_special_31 : decode b_M_special 31 = .ok (.bipush 34, 2) := by decide +kernel
theorem d_M_special_33 : decode b_M_special 33 = .ok (.if_icmp .ne 28, 3) := by decide +kernel
theorem d_M_special_36 : decode b_M_special 36 = .ok (.bipush 23, 2) := by decide +kernel
theorem d_M_special_38 : decode b_M_special 38 = .ok (.istore_n 2, 1) := by decide +kernel
theorem d_M_special_39 : decode b_M_special 39 = .ok (.iload_n 2, 1) := by decide +kernel
theorem d_M_special_40 : decode b_M_special 40 = .ok (.bipush 28, 2) := by decide +kernel
theorem d_M_special_42 : decode b_M_special 42 = .ok (.if_icmp .ge 16, 3) := by decide +kernel
theorem d_M_special_45 : decode b_M_special 45 = .ok (.aload_n 0, 1) := by decide +kernel
theorem d_M_special_46 : decode b_M_special 46 = .ok (.getfield 7, 3) := by decide +kernel
theorem d_M_special_49 : decode b_M_special 49 = .ok (.iload_n 2, 1) := by decide +kernel
theorem d_M_special_50 : decode b_M_special 50 = .ok (.iconst 0, 1) := by decide +kernel
theorem d_M_special_51 : decode b_M_special 51 = .ok (.iastore, 1) := by decide +kernel
theorem d_M_special_52 : decode b_M_special 52 = .ok (.iinc 2 1, 3) := by decide +kernel
theorem d_M_special_55 : decode b_M_special 55 = .ok (.goto (-16), 3) := by decide +kernel
theorem d_M_special_58 : decode b_M_special 58 = .ok (.goto 24, 3) := by decide +kernel
theorem d_M_special_61 : decode b_M_special 61 = .ok (.iconst 0, 1) := by decide +kernel
theorem d_M_special_62 : decode b_M_special 62 = .ok (.istore_n 2, 1) := by decide +kernel
theorem d_M_special_63 : decode b_M_special 63 = .ok (.iload_n 2, 1) := by decide +kernel
theorem d_M_special_64 : decode b_M_special 64 = .ok (.bipush 36, 2) := by decide +kernel
theorem d_M_special_66 : decode b_M_special 66 = .ok (.if_icmp .ge 16, 3) := by decide +kernel
theorem d_M_special_69 : decode b_M_special 69 = .ok (.aload_n 0, 1) := by decide +kernel
theorem d_M_special_70 : decode b_M_special 70 = .ok (.getfield 22, 3) := by decide +kernel
theorem d_M_special_73 : decode b_M_special 73 = .ok (.iload_n 2, 1) := by decide +kernel
theorem d_M_special_74 : decode b_M_special 74 = .ok (.iconst 0, 1) := by decide +kernel
theorem d_M_special_75 : decode b_M_special 75 = .ok (.bastore, 1) := by decide +kernel
theorem d_M_special_76 : decode b_M_special 76 = .ok (.iinc 2 1, 3) := by decide +kernel
theorem d_M_special_79 : decode b_M_special 79 = .ok (.goto (-16), 3) := by decide +kernel
theorem d_M_special_82 : decode b_M_special 82 = .ok (.return_, 1) := by decide +kernel
def y_M_write : MethodName := ⟨R_M, "write", "(II)V"⟩
abbrev b_M_write : ByteArray := prog_4_method_11_code
def w_M_write : List Cond := .code y_M_write b_M_write 3 none :: TB
theorem d_M_write_0 : decode b_M_write 0 = .ok (.aload_n 0, 1) := by decide +kernel
theorem d_M_write_1 : decode b_M_write 1 = .ok (.iload_n 1, 1) := by decide +kernel
theorem d_M_write_2 : decode b_M_write 2 = .ok (.ifCond .lt 13, 3) := by decide +kernel
theorem d_M_write_5 : decode b_M_write 5 = .ok (.iload_n 1, 1) := by decide +kernel
theorem d_M_write_6 : decode b_M_write 6 = .ok (.bipush 35, 2) := by decide +kernel
theorem d_M_write_8 : decode b_M_write 8 = .ok (.if_icmp .gt 7, 3) := by decide +kernel
theorem d_M_write_11 : decode b_M_write 11 = .ok (.iconst 1, 1) := by decide +kernel
theorem d_M_write_12 : decode b_M_write 12 = .ok (.goto 4, 3) := by decide +kernel
theorem d_M_write_15 : decode b_M_write 15 = .ok (.iconst 0, 1) := by decide +kernel
theorem d_M_write_16 : decode b_M_write 16 = .ok (.iload_n 2, 1) := by decide +kernel
theorem d_M_write_17 : decode b_M_write 17 = .ok (.ifCond .lt 14, 3) := by decide +kernel
theorem d_M_write_20 : decode b_M_write 20 = .ok (.iload_n 2, 1) := by decide +kernel
theorem d_M_write_21 : decode b_M_write 21 = .ok (.sipush 255, 3) := by decide +kernel
theorem d_M_write_24 : decode b_M_write 24 = .ok (.if_icmp .gt 7, 3) := by decide +kernel
theorem d_M_write_27 : decode b_M_write 27 = .ok (.iconst 1, 1) := by decide +kernel
theorem d_M_write_28 : decode b_M_write 28 = .ok (.goto 4, 3) := by decide +kernel
theorem d_M_write_31 : decode b_M_write 31 = .ok (.iconst 0, 1) := by decide +kernel
theorem d_M_write_32 : decode b_M_write 32 = .ok (.invokevirtual 60, 3) := by decide +kernel
theorem d_M_write_35 : decode b_M_write 35 = .ok (.ifCond .ne 4, 3) := by decide +kernel
theorem d_M_write_38 : decode b_M_write 38 = .ok (.return_, 1) := by decide +kernel
theorem d_M_write_39 : decode b_M_write 39 = .ok (.iload_n 1, 1) := by decide +kernel
theorem d_M_write_40 : decode b_M_write 40 = .ok (.bipush 27, 2) := by decide +kernel
theorem d_M_write_42 : decode b_M_write 42 = .ok (.if_icmp .le 9, 3) := by decide +kernel
theorem d_M_write_45 : decode b_M_write 45 = .ok (.aload_n 0, 1) := by decide +kernel
theorem d_M_write_46 : decode b_M_write 46 = .ok (.iload_n 1, 1) := by decide +kernel
theorem d_M_write_47 : decode b_M_write 47 = .ok (.invokevirtual 64, 3) := by decide +kernel
theorem d_M_write_50 : decode b_M_write 50 = .ok (.return_, 1) := by decide +kernel
theorem d_M_write_51 : decode b_M_write 51 = .ok (.iload_n 1, 1) := by decide +kernel
theorem d_M_write_52 : decode b_M_write 52 = .ok (.bipush 9, 2) := by decide +kernel
theorem d_M_write_54 : decode b_M_write 54 = .ok (.if_icmp .ne 25, 3) := by decide +kernel
theorem d_M_write_57 : decode b_M_write 57 = .ok (.aload_n 0, 1) := by decide +kernel
theorem d_M_write_58 : decode b_M_write 58 = .ok (.getfield 16, 3) := by decide +kernel
theorem d_M_write_61 : decode b_M_write 61 = .ok (.iconst 0, 1) := by decide +kernel
theorem d_M_write_62 : decode b_M_write 62 = .ok (.iload_n 2, 1) := by decide +kernel
theorem d_M_write_63 : decode b_M_write 63 = .ok (.iastore, 1) := by decide +kernel
theorem d_M_write_64 : decode b_M_write 64 = .ok (.aload_n 0, 1) := by decide +kernel
theorem d_M_write_65 : decode b_M_write 65 = .ok (.getfield 19, 3) := by decide +kernel
theorem d_M_write_68 : decode b_M_write 68 = .ok (.iconst 1, 1) := by decide +kernel
theorem d_M_write_69 : decode b_M_write 69 = .ok (.aload_n 0, 1) := by decide +kernel
theorem d_M_write_70 : decode b_M_write 70 = .ok (.getfield 16, 3) := by decide +kernel
theorem d_M_write_73 : decode b_M_write 73 = .ok (.iconst 1, 1) := by decide +kernel
theorem d_M_write_74 : decode b_M_write 74 = .ok (.iaload, 1) := by decide +kernel
theorem d_M_write_75 : decode b_M_write 75 = .ok (.iastore, 1) := by decide +kernel
theorem d_M_write_76 : decode b_M_write 76 = .ok (.goto 87, 3) := by decide +kernel
theorem d_M_write_79 : decode b_M_write 79 = .ok (.iload_n 1, 1) := by decide +kernel
theorem d_M_write_80 : decode b_M_write 80 = .ok (.bipush 10, 2) := by decide +kernel
theorem d_M_write_82 : decode b_M_write 82 = .ok (.if_icmp .ne 33, 3) := by decide +kernel
theorem d_M_write_85 : decode b_M_write 85 = .ok (.aload_n 0, 1) := by decide +kernel
theorem d_M_write_86 : decode b_M_write 86 = .ok (.getfield 16, 3) := by decide +kernel
theorem d_M_write_89 : decode b_M_write 89 = .ok (.iconst 1, 1) := by decide +kernel
theorem d_M_write_90 : decode b_M_write 90 = .ok (.iload_n 2, 1) := by decide +kernel
theorem d_M_write_91 : decode b_M_write 91 = .ok (.iastore, 1) := by decide +kernel
theorem d_M_write_92 : decode b_M_write 92 = .ok (.aload_n 0, 1) := by decide +kernel
theorem d_M_write_93 : decode b_M_write 93 = .ok (.getfield 19, 3) := by decide +kernel
theorem d_M_write_96 : decode b_M_write 96 = .ok (.iconst 0, 1) := by decide +kernel
theorem d_M_write_97 : decode b_M_write 97 = .ok (.aload_n 0, 1) := by decide +kernel
theorem d_M_write_98 : decode b_M_write 98 = .ok (.getfield 16, 3) := by decide +kernel
theorem d_M_write_101 : decode b_M_write 101 = .ok (.iconst 0, 1) := by decide +kernel
theorem d_M_write_102 : decode b_M_write 102 = .ok (.iaload, 1) := by decide +kernel
theorem d_M_write_103 : decode b_M_write 103 = .ok (.iastore, 1) := by decide +kernel
theorem d_M_write_104 : decode b_M_write 104 = .ok (.aload_n 0, 1) := by decide +kernel
theorem d_M_write_105 : decode b_M_write 105 = .ok (.aload_n 0, 1) := by decide +kernel
theorem d_M_write_106 : decode b_M_write 106 = .ok (.getfield 67, 3) := by decide +kernel
theorem d_M_write_109 : decode b_M_write 109 = .ok (.putfield 71, 3) := by decide +kernel
theorem d_M_write_112 : decode b_M_write 112 = .ok (.goto 51, 3) := by decide +kernel
theorem d_M_write_115 : decode b_M_write 115 = .ok (.iload_n 1, 1) := by decide +kernel
theorem d_M_write_116 : decode b_M_write 116 = .ok (.bipush 13, 2) := by decide +kernel
theorem d_M_write_118 : decode b_M_write 118 = .ok (.if_icmp .ne 24, 3) := by decide +kernel
theorem d_M_write_121 : decode b_M_write 121 = .ok (.aload_n 0, 1) := by decide +kernel
theorem d_M_write_122 : decode b_M_write 122 = .ok (.iload_n 2, 1) := by decide +kernel
theorem d_M_write_123 : decode b_M_write 123 = .ok (.iconst 1, 1) := by decide +kernel
theorem d_M_write_124 : decode b_M_write 124 = .ok (.ishr, 1) := by decide +kernel
theorem d_M_write_125 : decode b_M_write 125 = .ok (.iconst 1, 1) := by decide +kernel
theorem d_M_write_126 : decode b_M_write 126 = .ok (.iand, 1) := by decide +kernel
theorem d_M_write_127 : decode b_M_write 127 = .ok (.iconst 1, 1) := by decide +kernel
theorem d_M_write_128 : decode b_M_write 128 = .ok (.if_icmp .ne 7, 3) := by decide +kernel
theorem d_M_write_131 : decode b_M_write 131 = .ok (.iconst 1, 1) := by decide +kernel
theorem d_M_write_132 : decode b_M_write 132 = .ok (.goto 4, 3) := by decide +kernel
theorem d_M_write_135 : decode b_M_write 135 = .ok (.iconst 0, 1) := by decide +kernel
theorem d_M_write_136 : decode b_M_write 136 = .ok (.putfield 67, 3) := by decide +kernel
theorem d_M_write_139 : decode b_M_write 139 = .ok (.goto 24, 3) := by decide +kernel
theorem d_M_write_142 : decode b_M_write 142 = .ok (.iload_n 1, 1) := by decide +kernel
theorem d_M_write_143 : decode b_M_write 143 = .ok (.bipush 21, 2) := by decide +kernel
theorem d_M_write_145 : decode b_M_write 145 = .ok (.if_icmp .eq 9, 3) := by decide +kernel
theorem d_M_write_148 : decode b_M_write 148 = .ok (.iload_n 1, 1) := by decide +kernel
theorem d_M_write_149 : decode b_M_write 149 = .ok (.bipush 22, 2) := by decide +kernel
theorem d_M_write_151 : decode b_M_write 151 = .ok (.if_icmp .ne 12, 3) := by decide +kernel
theorem d_M_write_154 : decode b_M_write 154 = .ok (.aload_n 0, 1) := by decide +kernel
theorem d_M_write_155 : decode b_M_write 155 = .ok (.iload_n 1, 1) := by decide +kernel
theorem d_M_write_156 : decode b_M_write 156 = .ok (.bipush 21, 2) := by decide +kernel
theorem d_M_write_158 : decode b_M_write 158 = .ok (.isub, 1) := by decide +kernel
theorem d_M_write_159 : decode b_M_write 159 = .ok (.iload_n 2, 1) := by decide +kernel
theorem d_M_write_160 : decode b_M_write 160 = .ok (.invokevirtual 74, 3) := by decide +kernel
theorem d_M_write_163 : decode b_M_write 163 = .ok (.aload_n 0, 1) := by decide +kernel
theorem d_M_write_164 : decode b_M_write 164 = .ok (.getfield 7, 3) := by decide +kernel
theorem d_M_write_167 : decode b_M_write 167 = .ok (.iload_n 1, 1) := by decide +kernel
theorem d_M_write_168 : decode b_M_write 168 = .ok (.iload_n 2, 1) := by decide +kernel
theorem d_M_write_169 : decode b_M_write 169 = .ok (.iastore, 1) := by decide +kernel
theorem d_M_write_170 : decode b_M_write 170 = .ok (.return_, 1) := by decide +kernel
def y_M_behind : MethodName := ⟨R_M, "behind", "(II)I"⟩
abbrev b_M_behind : ByteArray := prog_4_method_12_code
def w_M_behind : List Cond := .code y_M_behind b_M_behind 2 (some .int) :: TB
theorem d_M_behind_0 : decode b_M_behind 0 = .ok (.iload_n 0, 1) := by decide +kernel
theorem d_M_behind_1 : decode b_M_behind 1 = .ok (.iload_n 1, 1) := by decide +kernel
theorem d_M_behind_2 : decode b_M_behind 2 = .ok (.isub, 1) := by decide +kernel
theorem d_M_behind_3 : decode b_M_behind 3 = .ok (.sipush 320, 3) := by decide +kernel
theorem d_M_behind_6 : decode b_M_behind 6 = .ok (.iadd, 1) := by decide +kernel
theorem d_M_behind_7 : decode b_M_behind 7 = .ok (.sipush 160, 3) := by decide +kernel
theorem d_M_behind_10 : decode b_M_behind 10 = .ok (.irem, 1) := by decide +kernel
theorem d_M_behind_11 : decode b_M_behind 11 = .ok (.ireturn, 1) := by decide +kernel
def y_M_hasCopy : MethodName := ⟨R_M, "hasCopy", "(II)Z"⟩
abbrev b_M_hasCopy : ByteArray := prog_4_method_13_code
def w_M_hasCopy : List Cond := .code y_M_hasCopy b_M_hasCopy 4 (some .boolean) :: TB
theorem d_M_hasCopy_0 : decode b_M_hasCopy 0 = .ok (.aload_n 0, 1) := by decide +kernel
theorem d_M_hasCopy_1 : decode b_M_hasCopy 1 = .ok (.iload_n 1, 1) := by decide +kernel
theorem d_M_hasCopy_2 : decode b_M_hasCopy 2 = .ok (.invokevirtual 39, 3) := by decide +kernel
theorem d_M_hasCopy_5 : decode b_M_hasCopy 5 = .ok (.istore_n 3, 1) := by decide +kernel
theorem d_M_hasCopy_6 : decode b_M_hasCopy 6 = .ok (.iload_n 2, 1) := by decide +kernel
theorem d_M_hasCopy_7 : decode b_M_hasCopy 7 = .ok (.lookupswitch 73 #[(0, 33), (16, 35), (32, 51)], 33) := by decide +kernel
theorem d_M_hasCopy_40 : decode b_M_hasCopy 40 = .ok (.iconst 1, 1) := by decide +kernel
theorem d_M_hasCopy_41 : decode b_M_hasCopy 41 = .ok (.ireturn, 1) := by decide +kernel
theorem d_M_hasCopy_42 : decode b_M_hasCopy 42 = .ok (.iload_n 3, 1) := by decide +kernel
theorem d_M_hasCopy_43 : decode b_M_hasCopy 43 = .ok (.iconst 1, 1) := by decide +kernel
theorem d_M_hasCopy_44 : decode b_M_hasCopy 44 = .ok (.if_icmp .eq 8, 3) := by decide +kernel
theorem d_M_hasCopy_47 : decode b_M_hasCopy 47 = .ok (.iload_n 3, 1) := by decide +kernel
theorem d_M_hasCopy_48 : decode b_M_hasCopy 48 = .ok (.iconst 3, 1) := by decide +kernel
theorem d_M_hasCopy_49 : decode b_M_hasCopy 49 = .ok (.if_icmp .ne 7, 3) := by decide +kernel
theorem d_M_hasCopy_52 : decode b_M_hasCopy 52 = .ok (.iconst 1, 1) := by decide +kernel
theorem d_M_hasCopy_53 : decode b_M_hasCopy 53 = .ok (.goto 4, 3) := by decide +kernel
theorem d_M_hasCopy_56 : decode b_M_hasCopy 56 = .ok (.iconst 0, 1) := by decide +kernel
theorem d_M_hasCopy_57 : decode b_M_hasCopy 57 = .ok (.ireturn, 1) := by decide +kernel
theorem d_M_hasCopy_58 : decode b_M_hasCopy 58 = .ok (.iload_n 3, 1) := by decide +kernel
theorem d_M_hasCopy_59 : decode b_M_hasCopy 59 = .ok (.iconst 2, 1) := by decide +kernel
theorem d_M_hasCopy_60 : decode b_M_hasCopy 60 = .ok (.if_icmp .eq 14, 3) := by decide +kernel
theorem d_M_hasCopy_63 : decode b_M_hasCopy 63 = .ok (.iload_n 3, 1) := by decide +kernel
theorem d_M_hasCopy_64 : decode b_M_hasCopy 64 = .ok (.iconst 3, 1) := by decide +kernel
theorem d_M_hasCopy_65 : decode b_M_hasCopy 65 = .ok (.if_icmp .eq 9, 3) := by decide +kernel
theorem d_M_hasCopy_68 : decode b_M_hasCopy 68 = .ok (.iload_n 3, 1) := by decide +kernel
theorem d_M_hasCopy_69 : decode b_M_hasCopy 69 = .ok (.bipush 6, 2) := by decide +kernel
theorem d_M_hasCopy_71 : decode b_M_hasCopy 71 = .ok (.if_icmp .ne 7, 3) := by decide +kernel
theorem d_M_hasCopy_74 : decode b_M_hasCopy 74 = .ok (.iconst 1, 1) := by decide +kernel
theorem d_M_hasCopy_75 : decode b_M_hasCopy 75 = .ok (.goto 4, 3) := by decide +kernel
theorem d_M_hasCopy_78 : decode b_M_hasCopy 78 = .ok (.iconst 0, 1) := by decide +kernel
theorem d_M_hasCopy_79 : decode b_M_hasCopy 79 = .ok (.ireturn, 1) := by decide +kernel
theorem d_M_hasCopy_80 : decode b_M_hasCopy 80 = .ok (.iload_n 3, 1) := by decide +kernel
theorem d_M_hasCopy_81 : decode b_M_hasCopy 81 = .ok (.iconst 4, 1) := by decide +kernel
theorem d_M_hasCopy_82 : decode b_M_hasCopy 82 = .ok (.if_icmp .eq 9, 3) := by decide +kernel
theorem d_M_hasCopy_85 : decode b_M_hasCopy 85 = .ok (.iload_n 3, 1) := by decide +kernel
theorem d_M_hasCopy_86 : decode b_M_hasCopy 86 = .ok (.bipush 6, 2) := by decide +kernel
theorem d_M_hasCopy_88 : decode b_M_hasCopy 88 = .ok (.if_icmp .ne 7, 3) := by decide +kernel
theorem d_M_hasCopy_91 : decode b_M_hasCopy 91 = .ok (.iconst 1, 1) := by decide +kernel
theorem d_M_hasCopy_92 : decode b_M_hasCopy 92 = .ok (.goto 4, 3) := by decide +kernel
theorem d_M_hasCopy_95 : decode b_M_hasCopy 95 = .ok (.iconst 0, 1) := by decide +kernel
theorem d_M_hasCopy_96 : decode b_M_hasCopy 96 = .ok (.ireturn, 1) := by decide +kernel
def y_M_player : MethodName := ⟨R_M, "player", "(II)Z"⟩
abbrev b_M_player : ByteArray := prog_4_method_14_code
def w_M_player : List Cond := .code y_M_player b_M_player 8 (some .boolean) :: TB
theorem d_M_player_0 : decode b_M_player 0 = .ok (.aload_n 0, 1) := by decide +kernel
theorem d_M_player_1 : decode b_M_player 1 = .ok (.bipush 11, 2) := by decide +kernel
theorem d_M_player_3 : decode b_M_player 3 = .ok (.iload_n 1, 1) := by decide +kernel
theorem d_M_player_4 : decode b_M_player 4 = .ok (.iadd, 1) := by decide +kernel
theorem d_M_player_5 : decode b_M_player 5 = .ok (.iconst 0, 1) := by decide +kernel
theorem d_M_player_6 : decode b_M_player 6 = .ok (.invokevirtual 43, 3) := by decide +kernel
theorem d_M_player_9 : decode b_M_player 9 = .ok (.ifCond .eq 12, 3) := by decide +kernel
theorem d_M_player_12 : decode b_M_player 12 = .ok (.aload_n 0, 1) := by decide +kernel
theorem d_M_player_13 : decode b_M_player 13 = .ok (.getfield 19, 3) := by decide +kernel
theorem d_M_player_16 : decode b_M_player 16 = .ok (.iload_n 1, 1) := by decide +kernel
theorem d_M_player_17 : decode b_M_player 17 = .ok (.iaload, 1) := by decide +kernel
theorem d_M_player_18 : decode b_M_player 18 = .ok (.goto 9, 3) := by decide +kernel
theorem d_M_player_21 : decode b_M_player 21 = .ok (.aload_n 0, 1) := by decide +kernel
theorem d_M_player_22 : decode b_M_player 22 = .ok (.getfield 16, 3) := by decide +kernel
theorem d_M_player_25 : decode b_M_player 25 = .ok (.iload_n 1, 1) := by decide +kernel
theorem d_M_player_26 : decode b_M_player 26 = .ok (.iaload, 1) := by decide +kernel
theorem d_M_player_27 : decode b_M_player 27 = .ok (.istore_n 3, 1) := by decide +kernel
theorem d_M_player_28 : decode b_M_player 28 = .ok (.iconst 0, 1) := by decide +kernel
theorem d_M_player_29 : decode b_M_player 29 = .ok (.istore 4, 2) := by decide +kernel
theorem d_M_player_31 : decode b_M_player 31 = .ok (.iconst 0, 1) := by decide +kernel
theorem d_M_player_32 : decode b_M_player 32 = .ok (.istore 5, 2) := by decide +kernel
theorem d_M_player_34 : decode b_M_player 34 = .ok (.iload 5, 2) := by decide +kernel
theorem d_M_player_36 : decode b_M_player 36 = .ok (.iconst 4, 1) := by decide +kernel
theorem d_M_player_37 : decode b_M_player 37 = .ok (.if_icmp .ge 107, 3) := by decide +kernel
theorem d_M_player_40 : decode b_M_player 40 = .ok (.iload 5, 2) := by decide +kernel
theorem d_M_player_42 : decode b_M_player 42 = .ok (.iconst 3, 1) := by decide +kernel
theorem d_M_player_43 : decode b_M_player 43 = .ok (.if_icmp .ne 8, 3) := by decide +kernel
theorem d_M_player_46 : decode b_M_player 46 = .ok (.bipush 64, 2) := by decide +kernel
theorem d_M_player_48 : decode b_M_player 48 = .ok (.goto 8, 3) := by decide +kernel
theorem d_M_player_51 : decode b_M_player 51 = .ok (.bipush 16, 2) := by decide +kernel
theorem d_M_player_53 : decode b_M_player 53 = .ok (.iload 5, 2) := by decide +kernel
theorem d_M_player_55 : decode b_M_player 55 = .ok (.imul, 1) := by decide +kernel
theorem d_M_player_56 : decode b_M_player 56 = .ok (.istore 6, 2) := by decide +kernel
theorem d_M_player_58 : decode b_M_player 58 = .ok (.iload_n 2, 1) := by decide +kernel
theorem d_M_player_59 : decode b_M_player 59 = .ok (.aload_n 0, 1) := by decide +kernel
theorem d_M_player_60 : decode b_M_player 60 = .ok (.getfield 13, 3) := by decide +kernel
theorem d_M_player_63 : decode b_M_player 63 = .ok (.iload_n 1, 1) := by decide +kernel
theorem d_M_player_64 : decode b_M_player 64 = .ok (.iaload, 1) := by decide +kernel
theorem d_M_player_65 : decode b_M_player 65 = .ok (.iload 6, 2) := by decide +kernel
theorem d_M_player_67 : decode b_M_player 67 = .ok (.iadd, 1) := by decide +kernel
theorem d_M_player_68 : decode b_M_player 68 = .ok (.invokestatic 78, 3) := by decide +kernel
theorem d_M_player_71 : decode b_M_player 71 = .ok (.aload_n 0, 1) := by decide +kernel
theorem d_M_player_72 : decode b_M_player 72 = .ok (.iload_n 1, 1) := by decide +kernel
theorem d_M_player_73 : decode b_M_player 73 = .ok (.invokevirtual 47, 3) := by decide +kernel
theorem d_M_player_76 : decode b_M_player 76 = .ok (.idiv, 1) := by decide +kernel
theorem d_M_player_77 : decode b_M_player 77 = .ok (.istore 7, 2) := by decide +kernel
theorem d_M_player_79 : decode b_M_player 79 = .ok (.aload_n 0, 1) := by decide +kernel
theorem d_M_player_80 : decode b_M_player 80 = .ok (.iload_n 1, 1) := by decide +kernel
theorem d_M_player_81 : decode b_M_player 81 = .ok (.iload 6, 2) := by decide +kernel
theorem d_M_player_83 : decode b_M_player 83 = .ok (.invokevirtual 82, 3) := by decide +kernel
theorem d_M_player_86 : decode b_M_player 86 = .ok (.ifCond .eq 52, 3) := by decide +kernel
theorem d_M_player_89 : decode b_M_player 89 = .ok (.iload 7, 2) := by decide +kernel
theorem d_M_player_91 : decode b_M_player 91 = .ok (.bipush 8, 2) := by decide +kernel
theorem d_M_player_93 : decode b_M_player 93 = .ok (.if_icmp .ge 45, 3) := by decide +kernel
theorem d_M_player_96 : decode b_M_player 96 = .ok (.iload 4, 2) := by decide +kernel
theorem d_M_player_98 : decode b_M_player 98 = .ok (.ifCond .ne 33, 3) := by decide +kernel
theorem d_M_player_101 : decode b_M_player 101 = .ok (.iload_n 3, 1) := by decide +kernel
theorem d_M_player_102 : decode b_M_player 102 = .ok (.aload_n 0, 1) := by decide +kernel
theorem d_M_player_103 : decode b_M_player 103 = .ok (.bipush 15, 2) := by decide +kernel
theorem d_M_player_105 : decode b_M_player 105 = .ok (.iload_n 1, 1) := by decide +kernel
theorem d_M_player_106 : decode b_M_player 106 = .ok (.iadd, 1) := by decide +kernel
theorem d_M_player_107 : decode b_M_player 107 = .ok (.iconst 3, 1) := by decide +kernel
theorem d_M_player_108 : decode b_M_player 108 = .ok (.invokevirtual 43, 3) := by decide +kernel
theorem d_M_player_111 : decode b_M_player 111 = .ok (.ifCond .eq 8, 3) := by decide +kernel
theorem d_M_player_114 : decode b_M_player 114 = .ok (.iload 7, 2) := by decide +kernel
theorem d_M_player_116 : decode b_M_player 116 = .ok (.goto 8, 3) := by decide +kernel
theorem d_M_player_119 : decode b_M_player 119 = .ok (.bipush 7, 2) := by decide +kernel
theorem d_M_player_121 : decode b_M_player 121 = .ok (.iload 7, 2) := by decide +kernel
theorem d_M_player_123 : decode b_M_player 123 = .ok (.isub, 1) := by decide +kernel
theorem d_M_player_124 : decode b_M_player 124 = .ok (.ishr, 1) := by decide +kernel
theorem d_M_player_125 : decode b_M_player 125 = .ok (.iconst 1, 1) := by decide +kernel
theorem d_M_player_126 : decode b_M_player 126 = .ok (.iand, 1) := by decide +kernel
theorem d_M_player_127 : decode b_M_player 127 = .ok (.iconst 1, 1) := by decide +kernel
theorem d_M_player_128 : decode b_M_player 128 = .ok (.if_icmp .ne 7, 3) := by decide +kernel
theorem d_M_player_131 : decode b_M_player 131 = .ok (.iconst 1, 1) := by decide +kernel
theorem d_M_player_132 : decode b_M_player 132 = .ok (.goto 4, 3) := by decide +kernel
theorem d_M_player_135 : decode b_M_player 135 = .ok (.iconst 0, 1) := by decide +kernel
theorem d_M_player_136 : decode b_M_player 136 = .ok (.istore 4, 2) := by decide +kernel
theorem d_M_player_138 : decode b_M_player 138 = .ok (.iinc 5 1, 3) := by decide +kernel
theorem d_M_player_141 : decode b_M_player 141 = .ok (.goto (-107), 3) := by decide +kernel
theorem d_M_player_144 : decode b_M_player 144 = .ok (.iload 4, 2) := by decide +kernel
theorem d_M_player_146 : decode b_M_player 146 = .ok (.ireturn, 1) := by decide +kernel
def y_M_size : MethodName := ⟨R_M, "size", "(I)I"⟩
abbrev b_M_size : ByteArray := prog_4_method_15_code
def w_M_size : List Cond := .code y_M_size b_M_size 1 (some .int) :: TB
theorem d_M_size_0 : decode b_M_size 0 = .ok (.iconst 1, 1) := by decide +kernel
theorem d_M_size_1 : decode b_M_size 1 = .ok (.iload_n 0, 1) := by decide +kernel
theorem d_M_size_2 : decode b_M_size 2 = .ok (.iconst 4, 1) := by decide +kernel
theorem d_M_size_3 : decode b_M_size 3 = .ok (.ishr, 1) := by decide +kernel
theorem d_M_size_4 : decode b_M_size 4 = .ok (.iconst 3, 1) := by decide +kernel
theorem d_M_size_5 : decode b_M_size 5 = .ok (.iand, 1) := by decide +kernel
theorem d_M_size_6 : decode b_M_size 6 = .ok (.ishl, 1) := by decide +kernel
theorem d_M_size_7 : decode b_M_size 7 = .ok (.ireturn, 1) := by decide +kernel
def y_M_missile : MethodName := ⟨R_M, "missile", "(II)Z"⟩
abbrev b_M_missile : ByteArray := prog_4_method_16_code
def w_M_missile : List Cond := .code y_M_missile b_M_missile 7 (some .boolean) :: TB
theorem d_M_missile_0 : decode b_M_missile 0 = .ok (.aload_n 0, 1) := by decide +kernel
theorem d_M_missile_1 : decode b_M_missile 1 = .ok (.bipush 19, 2) := by decide +kernel
theorem d_M_missile_3 : decode b_M_missile 3 = .ok (.iload_n 1, 1) := by decide +kernel
theorem d_M_missile_4 : decode b_M_missile 4 = .ok (.iadd, 1) := by decide +kernel
theorem d_M_missile_5 : decode b_M_missile 5 = .ok (.iconst 1, 1) := by decide +kernel
theorem d_M_missile_6 : decode b_M_missile 6 = .ok (.invokevirtual 43, 3) := by decide +kernel
theorem d_M_missile_9 : decode b_M_missile 9 = .ok (.ifCond .eq 19, 3) := by decide +kernel
theorem d_M_missile_12 : decode b_M_missile 12 = .ok (.aload_n 0, 1) := by decide +kernel
theorem d_M_missile_13 : decode b_M_missile 13 = .ok (.bipush 21, 2) := by decide +kernel
theorem d_M_missile_15 : decode b_M_missile 15 = .ok (.iload_n 1, 1) := by decide +kernel
theorem d_M_missile_16 : decode b_M_missile 16 = .ok (.iadd, 1) := by decide +kernel
theorem d_M_missile_17 : decode b_M_missile 17 = .ok (.iconst 1, 1) := by decide +kernel
theorem d_M_missile_18 : decode b_M_missile 18 = .ok (.invokevirtual 43, 3) := by decide +kernel
theorem d_M_missile_21 : decode b_M_missile 21 = .ok (.ifCond .ne 7, 3) := by decide +kernel
theorem d_M_missile_24 : decode b_M_missile 24 = .ok (.iconst 1, 1) := by decide +kernel
theorem d_M_missile_25 : decode b_M_missile 25 = .ok (.goto 4, 3) := by decide +kernel
theorem d_M_missile_28 : decode b_M_missile 28 = .ok (.iconst 0, 1) := by decide +kernel
theorem d_M_missile_29 : decode b_M_missile 29 = .ok (.istore_n 3, 1) := by decide +kernel
theorem d_M_missile_30 : decode b_M_missile 30 = .ok (.iconst 0, 1) := by decide +kernel
theorem d_M_missile_31 : decode b_M_missile 31 = .ok (.istore 4, 2) := by decide +kernel
theorem d_M_missile_33 : decode b_M_missile 33 = .ok (.iconst 0, 1) := by decide +kernel
theorem d_M_missile_34 : decode b_M_missile 34 = .ok (.istore 5, 2) := by decide +kernel
theorem d_M_missile_36 : decode b_M_missile 36 = .ok (.iload 5, 2) := by decide +kernel
theorem d_M_missile_38 : decode b_M_missile 38 = .ok (.iconst 4, 1) := by decide +kernel
theorem d_M_missile_39 : decode b_M_missile 39 = .ok (.if_icmp .ge 83, 3) := by decide +kernel
theorem d_M_missile_42 : decode b_M_missile 42 = .ok (.iload_n 3, 1) := by decide +kernel
theorem d_M_missile_43 : decode b_M_missile 43 = .ok (.ifCond .eq 79, 3) := by decide +kernel
theorem d_M_missile_46 : decode b_M_missile 46 = .ok (.iload 5, 2) := by decide +kernel
theorem d_M_missile_48 : decode b_M_missile 48 = .ok (.iconst 3, 1) := by decide +kernel
theorem d_M_missile_49 : decode b_M_missile 49 = .ok (.if_icmp .ne 8, 3) := by decide +kernel
theorem d_M_missile_52 : decode b_M_missile 52 = .ok (.bipush 64, 2) := by decide +kernel
theorem d_M_missile_54 : decode b_M_missile 54 = .ok (.goto 8, 3) := by decide +kernel
theorem d_M_missile_57 : decode b_M_missile 57 = .ok (.bipush 16, 2) := by decide +kernel
theorem d_M_missile_59 : decode b_M_missile 59 = .ok (.iload 5, 2) := by decide +kernel
theorem d_M_missile_61 : decode b_M_missile 61 = .ok (.imul, 1) := by decide +kernel
theorem d_M_missile_62 : decode b_M_missile 62 = .ok (.istore 6, 2) := by decide +kernel
theorem d_M_missile_64 : decode b_M_missile 64 = .ok (.iload 4, 2) := by decide +kernel
theorem d_M_missile_66 : decode b_M_missile 66 = .ok (.ifCond .ne 43, 3) := by decide +kernel
theorem d_M_missile_69 : decode b_M_missile 69 = .ok (.aload_n 0, 1) := by decide +kernel
theorem d_M_missile_70 : decode b_M_missile 70 = .ok (.iload_n 1, 1) := by decide +kernel
theorem d_M_missile_71 : decode b_M_missile 71 = .ok (.iload 6, 2) := by decide +kernel
theorem d_M_missile_73 : decode b_M_missile 73 = .ok (.invokevirtual 82, 3) := by decide +kernel
theorem d_M_missile_76 : decode b_M_missile 76 = .ok (.ifCond .eq 37, 3) := by decide +kernel
theorem d_M_missile_79 : decode b_M_missile 79 = .ok (.iload_n 2, 1) := by decide +kernel
theorem d_M_missile_80 : decode b_M_missile 80 = .ok (.aload_n 0, 1) := by decide +kernel
theorem d_M_missile_81 : decode b_M_missile 81 = .ok (.getfield 13, 3) := by decide +kernel
theorem d_M_missile_84 : decode b_M_missile 84 = .ok (.iconst 2, 1) := by decide +kernel
theorem d_M_missile_85 : decode b_M_missile 85 = .ok (.iload_n 1, 1) := by decide +kernel
theorem d_M_missile_86 : decode b_M_missile 86 = .ok (.iadd, 1) := by decide +kernel
theorem d_M_missile_87 : decode b_M_missile 87 = .ok (.iaload, 1) := by decide +kernel
theorem d_M_missile_88 : decode b_M_missile 88 = .ok (.iload 6, 2) := by decide +kernel
theorem d_M_missile_90 : decode b_M_missile 90 = .ok (.iadd, 1) := by decide +kernel
theorem d_M_missile_91 : decode b_M_missile 91 = .ok (.invokestatic 78, 3) := by decide +kernel
theorem d_M_missile_94 : decode b_M_missile 94 = .ok (.aload_n 0, 1) := by decide +kernel
theorem d_M_missile_95 : decode b_M_missile 95 = .ok (.getfield 7, 3) := by decide +kernel
theorem d_M_missile_98 : decode b_M_missile 98 = .ok (.bipush 17, 2) := by decide +kernel
theorem d_M_missile_100 : decode b_M_missile 100 = .ok (.iload_n 1, 1) := by decide +kernel
theorem d_M_missile_101 : decode b_M_missile 101 = .ok (.iadd, 1) := by decide +kernel
theorem d_M_missile_102 : decode b_M_missile 102 = .ok (.iaload, 1) := by decide +kernel
theorem d_M_missile_103 : decode b_M_missile 103 = .ok (.invokestatic 85, 3) := by decide +kernel
theorem d_M_missile_106 : decode b_M_missile 106 = .ok (.if_icmp .ge 7, 3) := by decide +kernel
theorem d_M_missile_109 : decode b_M_missile 109 = .ok (.iconst 1, 1) := by decide +kernel
theorem d_M_missile_110 : decode b_M_missile 110 = .ok (.goto 4, 3) := by decide +kernel
theorem d_M_missile_113 : decode b_M_missile 113 = .ok (.iconst 0, 1) := by decide +kernel
theorem d_M_missile_114 : decode b_M_missile 114 = .ok (.istore 4, 2) := by decide +kernel
theorem d_M_missile_116 : decode b_M_missile 116 = .ok (.iinc 5 1, 3) := by decide +kernel
theorem d_M_missile_119 : decode b_M_missile 119 = .ok (.goto (-83), 3) := by decide +kernel
theorem d_M_missile_122 : decode b_M_missile 122 = .ok (.iload 4, 2) := by decide +kernel
theorem d_M_missile_124 : decode b_M_missile 124 = .ok (.ireturn, 1) := by decide +kernel
def y_M_playfield : MethodName := ⟨R_M, "playfield", "(I)Z"⟩
abbrev b_M_playfield : ByteArray := prog_4_method_17_code
def w_M_playfield : List Cond := .code y_M_playfield b_M_playfield 3 (some .boolean) :: TB
theorem d_M_playfield_0 : decode b_M_playfield 0 = .ok (.iload_n 1, 1) := by decide +kernel
theorem d_M_playfield_1 : decode b_M_playfield 1 = .ok (.bipush 80, 2) := by decide +kernel
theorem d_M_playfield_3 : decode b_M_playfield 3 = .ok (.irem, 1) := by decide +kernel
theorem d_M_playfield_4 : decode b_M_playfield 4 = .ok (.iconst 4, 1) := by decide +kernel
theorem d_M_playfield_5 : decode b_M_playfield 5 = .ok (.idiv, 1) := by decide +kernel
theorem d_M_playfield_6 : decode b_M_playfield 6 = .ok (.istore_n 2, 1) := by decide +kernel
theorem d_M_playfield_7 : decode b_M_playfield 7 = .ok (.iload_n 1, 1) := by decide +kernel
theorem d_M_playfield_8 : decode b_M_playfield 8 = .ok (.bipush 80, 2) := by decide +kernel
theorem d_M_playfield_10 : decode b_M_playfield 10 = .ok (.if_icmp .lt 20, 3) := by decide +kernel
theorem d_M_playfield_13 : decode b_M_playfield 13 = .ok (.aload_n 0, 1) := by decide +kernel
theorem d_M_playfield_14 : decode b_M_playfield 14 = .ok (.bipush 8, 2) := by decide +kernel
theorem d_M_playfield_16 : decode b_M_playfield 16 = .ok (.iconst 0, 1) := by decide +kernel
theorem d_M_playfield_17 : decode b_M_playfield 17 = .ok (.invokevirtual 43, 3) := by decide +kernel
theorem d_M_playfield_20 : decode b_M_playfield 20 = .ok (.ifCond .eq 10, 3) := by decide +kernel
theorem d_M_playfield_23 : decode b_M_playfield 23 = .ok (.bipush 19, 2) := by decide +kernel
theorem d_M_playfield_25 : decode b_M_playfield 25 = .ok (.iload_n 2, 1) := by decide +kernel
theorem d_M_playfield_26 : decode b_M_playfield 26 = .ok (.isub, 1) := by decide +kernel
theorem d_M_playfield_27 : decode b_M_playfield 27 = .ok (.goto 4, 3) := by decide +kernel
theorem d_M_playfield_30 : decode b_M_playfield 30 = .ok (.iload_n 2, 1) := by decide +kernel
theorem d_M_playfield_31 : decode b_M_playfield 31 = .ok (.istore_n 2, 1) := by decide +kernel
theorem d_M_playfield_32 : decode b_M_playfield 32 = .ok (.iload_n 2, 1) := by decide +kernel
theorem d_M_playfield_33 : decode b_M_playfield 33 = .ok (.iconst 4, 1) := by decide +kernel
theorem d_M_playfield_34 : decode b_M_playfield 34 = .ok (.if_icmp .ge 14, 3) := by decide +kernel
theorem d_M_playfield_37 : decode b_M_playfield 37 = .ok (.aload_n 0, 1) := by decide +kernel
theorem d_M_playfield_38 : decode b_M_playfield 38 = .ok (.iconst 5, 1) := by decide +kernel
theorem d_M_playfield_39 : decode b_M_playfield 39 = .ok (.iconst 4, 1) := by decide +kernel
theorem d_M_playfield_40 : decode b_M_playfield 40 = .ok (.iload_n 2, 1) := by decide +kernel
theorem d_M_playfield_41 : decode b_M_playfield 41 = .ok (.iadd, 1) := by decide +kernel
theorem d_M_playfield_42 : decode b_M_playfield 42 = .ok (.invokevirtual 43, 3) := by decide +kernel
theorem d_M_playfield_45 : decode b_M_playfield 45 = .ok (.goto 32, 3) := by decide +kernel
theorem d_M_playfield_48 : decode b_M_playfield 48 = .ok (.iload_n 2, 1) := by decide +kernel
theorem d_M_playfield_49 : decode b_M_playfield 49 = .ok (.bipush 12, 2) := by decide +kernel
theorem d_M_playfield_51 : decode b_M_playfield 51 = .ok (.if_icmp .ge 16, 3) := by decide +kernel
theorem d_M_playfield_54 : decode b_M_playfield 54 = .ok (.aload_n 0, 1) := by decide +kernel
theorem d_M_playfield_55 : decode b_M_playfield 55 = .ok (.bipush 6, 2) := by decide +kernel
theorem d_M_playfield_57 : decode b_M_playfield 57 = .ok (.bipush 11, 2) := by decide +kernel
theorem d_M_playfield_59 : decode b_M_playfield 59 = .ok (.iload_n 2, 1) := by decide +kernel
theorem d_M_playfield_60 : decode b_M_playfield 60 = .ok (.isub, 1) := by decide +kernel
theorem d_M_playfield_61 : decode b_M_playfield 61 = .ok (.invokevirtual 43, 3) := by decide +kernel
theorem d_M_playfield_64 : decode b_M_playfield 64 = .ok (.goto 13, 3) := by decide +kernel
theorem d_M_playfield_67 : decode b_M_playfield 67 = .ok (.aload_n 0, 1) := by decide +kernel
theorem d_M_playfield_68 : decode b_M_playfield 68 = .ok (.bipush 7, 2) := by decide +kernel
theorem d_M_playfield_70 : decode b_M_playfield 70 = .ok (.iload_n 2, 1) := by decide +kernel
theorem d_M_playfield_71 : decode b_M_playfield 71 = .ok (.bipush 12, 2) := by decide +kernel
theorem d_M_playfield_73 : decode b_M_playfield 73 = .ok (.isub, 1) := by decide +kernel
theorem d_M_playfield_74 : decode b_M_playfield 74 = .ok (.invokevirtual 43, 3) := by decide +kernel
theorem d_M_playfield_77 : decode b_M_playfield 77 = .ok (.ireturn, 1) := by decide +kernel
def y_M_isThere : MethodName := ⟨R_M, "isThere", "(II)Z"⟩
abbrev b_M_isThere : ByteArray := prog_4_method_18_code
def w_M_isThere : List Cond := .code y_M_isThere b_M_isThere 3 (some .boolean) :: TB
theorem d_M_isThere_0 : decode b_M_isThere 0 = .ok (.iload_n 1, 1) := by decide +kernel
theorem d_M_isThere_1 : decode b_M_isThere 1 = .ok (.tableswitch 107 0 4 #[35, 35, 42, 42, 51], 35) := by decide +kernel
theorem d_M_isThere_36 : decode b_M_isThere 36 = .ok (.aload_n 0, 1) := by decide +kernel
theorem d_M_isThere_37 : decode b_M_isThere 37 = .ok (.iload_n 1, 1) := by decide +kernel
theorem d_M_isThere_38 : decode b_M_isThere 38 = .ok (.iload_n 2, 1) := by decide +kernel
theorem d_M_isThere_39 : decode b_M_isThere 39 = .ok (.invokevirtual 88, 3) := by decide +kernel
theorem d_M_isThere_42 : decode b_M_isThere 42 = .ok (.ireturn, 1) := by decide +kernel
theorem d_M_isThere_43 : decode b_M_isThere 43 = .ok (.aload_n 0, 1) := by decide +kernel
theorem d_M_isThere_44 : decode b_M_isThere 44 = .ok (.iload_n 1, 1) := by decide +kernel
theorem d_M_isThere_45 : decode b_M_isThere 45 = .ok (.iconst 2, 1) := by decide +kernel
theorem d_M_isThere_46 : decode b_M_isThere 46 = .ok (.isub, 1) := by decide +kernel
theorem d_M_isThere_47 : decode b_M_isThere 47 = .ok (.iload_n 2, 1) := by decide +kernel
theorem d_M_isThere_48 : decode b_M_isThere 48 = .ok (.invokevirtual 91, 3) := by decide +kernel
theorem d_M_isThere_51 : decode b_M_isThere 51 = .ok (.ireturn, 1) := by decide +kernel
theorem d_M_isThere_52 : decode b_M_isThere 52 = .ok (.aload_n 0, 1) := by decide +kernel
theorem d_M_isThere_53 : decode b_M_isThere 53 = .ok (.bipush 14, 2) := by decide +kernel
theorem d_M_isThere_55 : decode b_M_isThere 55 = .ok (.iconst 0, 1) := by decide +kernel
theorem d_M_isThere_56 : decode b_M_isThere 56 = .ok (.invokevirtual 43, 3) := by decide +kernel
theorem d_M_isThere_59 : decode b_M_isThere 59 = .ok (.ifCond .eq 13, 3) := by decide +kernel
theorem d_M_isThere_62 : decode b_M_isThere 62 = .ok (.aload_n 0, 1) := by decide +kernel
theorem d_M_isThere_63 : decode b_M_isThere 63 = .ok (.getfield 71, 3) := by decide +kernel
theorem d_M_isThere_66 : decode b_M_isThere 66 = .ok (.ifCond .eq 40, 3) := by decide +kernel
theorem d_M_isThere_69 : decode b_M_isThere 69 = .ok (.goto 10, 3) := by decide +kernel
theorem d_M_isThere_72 : decode b_M_isThere 72 = .ok (.aload_n 0, 1) := by decide +kernel
theorem d_M_isThere_73 : decode b_M_isThere 73 = .ok (.getfield 67, 3) := by decide +kernel
theorem d_M_isThere_76 : decode b_M_isThere 76 = .ok (.ifCond .eq 30, 3) := by decide +kernel
theorem d_M_isThere_79 : decode b_M_isThere 79 = .ok (.iload_n 2, 1) := by decide +kernel
theorem d_M_isThere_80 : decode b_M_isThere 80 = .ok (.aload_n 0, 1) := by decide +kernel
theorem d_M_isThere_81 : decode b_M_isThere 81 = .ok (.getfield 13, 3) := by decide +kernel
theorem d_M_isThere_84 : decode b_M_isThere 84 = .ok (.iconst 4, 1) := by decide +kernel
theorem d_M_isThere_85 : decode b_M_isThere 85 = .ok (.iaload, 1) := by decide +kernel
theorem d_M_isThere_86 : decode b_M_isThere 86 = .ok (.invokestatic 78, 3) := by decide +kernel
theorem d_M_isThere_89 : decode b_M_isThere 89 = .ok (.aload_n 0, 1) := by decide +kernel
theorem d_M_isThere_90 : decode b_M_isThere 90 = .ok (.getfield 7, 3) := by decide +kernel
theorem d_M_isThere_93 : decode b_M_isThere 93 = .ok (.bipush 8, 2) := by decide +kernel
theorem d_M_isThere_95 : decode b_M_isThere 95 = .ok (.iaload, 1) := by decide +kernel
theorem d_M_isThere_96 : decode b_M_isThere 96 = .ok (.invokestatic 85, 3) := by decide +kernel
theorem d_M_isThere_99 : decode b_M_isThere 99 = .ok (.if_icmp .ge 7, 3) := by decide +kernel
theorem d_M_isThere_102 : decode b_M_isThere 102 = .ok (.iconst 1, 1) := by decide +kernel
theorem d_M_isThere_103 : decode b_M_isThere 103 = .ok (.goto 4, 3) := by decide +kernel
theorem d_M_isThere_106 : decode b_M_isThere 106 = .ok (.iconst 0, 1) := by decide +kernel
theorem d_M_isThere_107 : decode b_M_isThere 107 = .ok (.ireturn, 1) := by decide +kernel
theorem d_M_isThere_108 : decode b_M_isThere 108 = .ok (.aload_n 0, 1) := by decide +kernel
theorem d_M_isThere_109 : decode b_M_isThere 109 = .ok (.iload_n 2, 1) := by decide +kernel
theorem d_M_isThere_110 : decode b_M_isThere 110 = .ok (.invokevirtual 94, 3) := by decide +kernel
theorem d_M_isThere_113 : decode b_M_isThere 113 = .ok (.ireturn, 1) := by decide +kernel
def y_M_colour : MethodName := ⟨R_M, "colour", "(I)I"⟩
abbrev b_M_colour : ByteArray := prog_4_method_19_code
def w_M_colour : List Cond := .code y_M_colour b_M_colour 4 (some .int) :: TB
theorem d_M_colour_0 : decode b_M_colour 0 = .ok (.aload_n 0, 1) := by decide +kernel
theorem d_M_colour_1 : decode b_M_colour 1 = .ok (.bipush 8, 2) := by decide +kernel
theorem d_M_colour_3 : decode b_M_colour 3 = .ok (.iconst 2, 1) := by decide +kernel
theorem d_M_colour_4 : decode b_M_colour 4 = .ok (.invokevirtual 43, 3) := by decide +kernel
theorem d_M_colour_7 : decode b_M_colour 7 = .ok (.istore_n 2, 1) := by decide +kernel
theorem d_M_colour_8 : decode b_M_colour 8 = .ok (.aload_n 0, 1) := by decide +kernel
theorem d_M_colour_9 : decode b_M_colour 9 = .ok (.getfield 29, 3) := by decide +kernel
theorem d_M_colour_12 : decode b_M_colour 12 = .ok (.iconst 4, 1) := by decide +kernel
theorem d_M_colour_13 : decode b_M_colour 13 = .ok (.baload, 1) := by decide +kernel
theorem d_M_colour_14 : decode b_M_colour 14 = .ok (.ifCond .ne 12, 3) := by decide +kernel
theorem d_M_colour_17 : decode b_M_colour 17 = .ok (.aload_n 0, 1) := by decide +kernel
theorem d_M_colour_18 : decode b_M_colour 18 = .ok (.getfield 29, 3) := by decide +kernel
theorem d_M_colour_21 : decode b_M_colour 21 = .ok (.iconst 5, 1) := by decide +kernel
theorem d_M_colour_22 : decode b_M_colour 22 = .ok (.baload, 1) := by decide +kernel
theorem d_M_colour_23 : decode b_M_colour 23 = .ok (.ifCond .eq 7, 3) := by decide +kernel
theorem d_M_colour_26 : decode b_M_colour 26 = .ok (.iconst 1, 1) := by decide +kernel
theorem d_M_colour_27 : decode b_M_colour 27 = .ok (.goto 4, 3) := by decide +kernel
theorem d_M_colour_30 : decode b_M_colour 30 = .ok (.iconst 0, 1) := by decide +kernel
theorem d_M_colour_31 : decode b_M_colour 31 = .ok (.istore_n 3, 1) := by decide +kernel
theorem d_M_colour_32 : decode b_M_colour 32 = .ok (.aload_n 0, 1) := by decide +kernel
theorem d_M_colour_33 : decode b_M_colour 33 = .ok (.iconst 4, 1) := by decide +kernel
theorem d_M_colour_34 : decode b_M_colour 34 = .ok (.iconst 0, 1) := by decide +kernel
theorem d_M_colour_35 : decode b_M_colour 35 = .ok (.invokevirtual 43, 3) := by decide +kernel
theorem d_M_colour_38 : decode b_M_colour 38 = .ok (.ifCond .eq 5, 3) := by decide +kernel
theorem d_M_colour_41 : decode b_M_colour 41 = .ok (.iconst 0, 1) := by decide +kernel
theorem d_M_colour_42 : decode b_M_colour 42 = .ok (.ireturn, 1) := by decide +kernel
theorem d_M_colour_43 : decode b_M_colour 43 = .ok (.iload_n 2, 1) := by decide +kernel
theorem d_M_colour_44 : decode b_M_colour 44 = .ok (.ifCond .eq 7, 3) := by decide +kernel
theorem d_M_colour_47 : decode b_M_colour 47 = .ok (.iload_n 3, 1) := by decide +kernel
theorem d_M_colour_48 : decode b_M_colour 48 = .ok (.ifCond .ne 53, 3) := by decide +kernel
theorem d_M_colour_51 : decode b_M_colour 51 = .ok (.aload_n 0, 1) := by decide +kernel
theorem d_M_colour_52 : decode b_M_colour 52 = .ok (.getfield 29, 3) := by decide +kernel
theorem d_M_colour_55 : decode b_M_colour 55 = .ok (.iconst 0, 1) := by decide +kernel
theorem d_M_colour_56 : decode b_M_colour 56 = .ok (.baload, 1) := by decide +kernel
theorem d_M_colour_57 : decode b_M_colour 57 = .ok (.ifCond .ne 12, 3) := by decide +kernel
theorem d_M_colour_60 : decode b_M_colour 60 = .ok (.aload_n 0, 1) := by decide +kernel
theorem d_M_colour_61 : decode b_M_colour 61 = .ok (.getfield 29, 3) := by decide +kernel
theorem d_M_colour_64 : decode b_M_colour 64 = .ok (.iconst 2, 1) := by decide +kernel
theorem d_M_colour_65 : decode b_M_colour 65 = .ok (.baload, 1) := by decide +kernel
theorem d_M_colour_66 : decode b_M_colour 66 = .ok (.ifCond .eq 10, 3) := by decide +kernel
theorem d_M_colour_69 : decode b_M_colour 69 = .ok (.aload_n 0, 1) := by decide +kernel
theorem d_M_colour_70 : decode b_M_colour 70 = .ok (.getfield 7, 3) := by decide +kernel
theorem d_M_colour_73 : decode b_M_colour 73 = .ok (.iconst 2, 1) := by decide +kernel
theorem d_M_colour_74 : decode b_M_colour 74 = .ok (.iaload, 1) := by decide +kernel
theorem d_M_colour_75 : decode b_M_colour 75 = .ok (.ireturn, 1) := by decide +kernel
theorem d_M_colour_76 : decode b_M_colour 76 = .ok (.aload_n 0, 1) := by decide +kernel
theorem d_M_colour_77 : decode b_M_colour 77 = .ok (.getfield 29, 3) := by decide +kernel
theorem d_M_colour_80 : decode b_M_colour 80 = .ok (.iconst 1, 1) := by decide +kernel
theorem d_M_colour_81 : decode b_M_colour 81 = .ok (.baload, 1) := by decide +kernel
theorem d_M_colour_82 : decode b_M_colour 82 = .ok (.ifCond .ne 12, 3) := by decide +kernel
theorem d_M_colour_85 : decode b_M_colour 85 = .ok (.aload_n 0, 1) := by decide +kernel
theorem d_M_colour_86 : decode b_M_colour 86 = .ok (.getfield 29, 3) := by decide +kernel
theorem d_M_colour_89 : decode b_M_colour 89 = .ok (.iconst 3, 1) := by decide +kernel
theorem d_M_colour_90 : decode b_M_colour 90 = .ok (.baload, 1) := by decide +kernel
theorem d_M_colour_91 : decode b_M_colour 91 = .ok (.ifCond .eq 10, 3) := by decide +kernel
theorem d_M_colour_94 : decode b_M_colour 94 = .ok (.aload_n 0, 1) := by decide +kernel
theorem d_M_colour_95 : decode b_M_colour 95 = .ok (.getfield 7, 3) := by decide +kernel
theorem d_M_colour_98 : decode b_M_colour 98 = .ok (.iconst 3, 1) := by decide +kernel
theorem d_M_colour_99 : decode b_M_colour 99 = .ok (.iaload, 1) := by decide +kernel
theorem d_M_colour_100 : decode b_M_colour 100 = .ok (.ireturn, 1) := by decide +kernel
theorem d_M_colour_101 : decode b_M_colour 101 = .ok (.iload_n 3, 1) := by decide +kernel
theorem d_M_colour_102 : decode b_M_colour 102 = .ok (.ifCond .ne 10, 3) := by decide +kernel
theorem d_M_colour_105 : decode b_M_colour 105 = .ok (.aload_n 0, 1) := by decide +kernel
theorem d_M_colour_106 : decode b_M_colour 106 = .ok (.getfield 7, 3) := by decide +kernel
theorem d_M_colour_109 : decode b_M_colour 109 = .ok (.iconst 0, 1) := by decide +kernel
theorem d_M_colour_110 : decode b_M_colour 110 = .ok (.iaload, 1) := by decide +kernel
theorem d_M_colour_111 : decode b_M_colour 111 = .ok (.ireturn, 1) := by decide +kernel
theorem d_M_colour_112 : decode b_M_colour 112 = .ok (.aload_n 0, 1) := by decide +kernel
theorem d_M_colour_113 : decode b_M_colour 113 = .ok (.bipush 8, 2) := by decide +kernel
theorem d_M_colour_115 : decode b_M_colour 115 = .ok (.iconst 1, 1) := by decide +kernel
theorem d_M_colour_116 : decode b_M_colour 116 = .ok (.invokevirtual 43, 3) := by decide +kernel
theorem d_M_colour_119 : decode b_M_colour 119 = .ok (.ifCond .eq 31, 3) := by decide +kernel
theorem d_M_colour_122 : decode b_M_colour 122 = .ok (.aload_n 0, 1) := by decide +kernel
theorem d_M_colour_123 : decode b_M_colour 123 = .ok (.getfield 29, 3) := by decide +kernel
theorem d_M_colour_126 : decode b_M_colour 126 = .ok (.iconst 5, 1) := by decide +kernel
theorem d_M_colour_127 : decode b_M_colour 127 = .ok (.baload, 1) := by decide +kernel
theorem d_M_colour_128 : decode b_M_colour 128 = .ok (.ifCond .eq 22, 3) := by decide +kernel
theorem d_M_colour_131 : decode b_M_colour 131 = .ok (.aload_n 0, 1) := by decide +kernel
theorem d_M_colour_132 : decode b_M_colour 132 = .ok (.getfield 7, 3) := by decide +kernel
theorem d_M_colour_135 : decode b_M_colour 135 = .ok (.iload_n 1, 1) := by decide +kernel
theorem d_M_colour_136 : decode b_M_colour 136 = .ok (.bipush 80, 2) := by decide +kernel
theorem d_M_colour_138 : decode b_M_colour 138 = .ok (.if_icmp .ge 7, 3) := by decide +kernel
theorem d_M_colour_141 : decode b_M_colour 141 = .ok (.iconst 2, 1) := by decide +kernel
theorem d_M_colour_142 : decode b_M_colour 142 = .ok (.goto 4, 3) := by decide +kernel
theorem d_M_colour_145 : decode b_M_colour 145 = .ok (.iconst 3, 1) := by decide +kernel
theorem d_M_colour_146 : decode b_M_colour 146 = .ok (.iaload, 1) := by decide +kernel
theorem d_M_colour_147 : decode b_M_colour 147 = .ok (.goto 9, 3) := by decide +kernel
theorem d_M_colour_150 : decode b_M_colour 150 = .ok (.aload_n 0, 1) := by decide +kernel
theorem d_M_colour_151 : decode b_M_colour 151 = .ok (.getfield 7, 3) := by decide +kernel
theorem d_M_colour_154 : decode b_M_colour 154 = .ok (.iconst 1, 1) := by decide +kernel
theorem d_M_colour_155 : decode b_M_colour 155 = .ok (.iaload, 1) := by decide +kernel
theorem d_M_colour_156 : decode b_M_colour 156 = .ok (.ireturn, 1) := by decide +kernel
def y_M_draw : MethodName := ⟨R_M, "draw", "(I)V"⟩
abbrev b_M_draw : ByteArray := prog_4_method_20_code
def w_M_draw : List Cond := .code y_M_draw b_M_draw 3 none :: TB
theorem d_M_draw_0 : decode b_M_draw 0 = .ok (.iconst 0, 1) := by decide +kernel
theorem d_M_draw_1 : decode b_M_draw 1 = .ok (.istore_n 2, 1) := by decide +kernel
theorem d_M_draw_2 : decode b_M_draw 2 = .ok (.iload_n 2, 1) := by decide +kernel
theorem d_M_draw_3 : decode b_M_draw 3 = .ok (.bipush 6, 2) := by decide +kernel
theorem d_M_draw_5 : decode b_M_draw 5 = .ok (.if_icmp .ge 21, 3) := by decide +kernel
theorem d_M_draw_8 : decode b_M_draw 8 = .ok (.aload_n 0, 1) := by decide +kernel
theorem d_M_draw_9 : decode b_M_draw 9 = .ok (.getfield 29, 3) := by decide +kernel
theorem d_M_draw_12 : decode b_M_draw 12 = .ok (.iload_n 2, 1) := by decide +kernel
theorem d_M_draw_13 : decode b_M_draw 13 = .ok (.aload_n 0, 1) := by decide +kernel
theorem d_M_draw_14 : decode b_M_draw 14 = .ok (.iload_n 2, 1) := by decide +kernel
theorem d_M_draw_15 : decode b_M_draw 15 = .ok (.iload_n 1, 1) := by decide +kernel
theorem d_M_draw_16 : decode b_M_draw 16 = .ok (.invokevirtual 98, 3) := by decide +kernel
theorem d_M_draw_19 : decode b_M_draw 19 = .ok (.bastore, 1) := by decide +kernel
theorem d_M_draw_20 : decode b_M_draw 20 = .ok (.iinc 2 1, 3) := by decide +kernel
theorem d_M_draw_23 : decode b_M_draw 23 = .ok (.goto (-21), 3) := by decide +kernel
theorem d_M_draw_26 : decode b_M_draw 26 = .ok (.iconst 0, 1) := by decide +kernel
theorem d_M_draw_27 : decode b_M_draw 27 = .ok (.istore_n 2, 1) := by decide +kernel
theorem d_M_draw_28 : decode b_M_draw 28 = .ok (.iload_n 2, 1) := by decide +kernel
theorem d_M_draw_29 : decode b_M_draw 29 = .ok (.bipush 36, 2) := by decide +kernel
theorem d_M_draw_31 : decode b_M_draw 31 = .ok (.if_icmp .ge 64, 3) := by decide +kernel
theorem d_M_draw_34 : decode b_M_draw 34 = .ok (.aload_n 0, 1) := by decide +kernel
theorem d_M_draw_35 : decode b_M_draw 35 = .ok (.getfield 22, 3) := by decide +kernel
theorem d_M_draw_38 : decode b_M_draw 38 = .ok (.iload_n 2, 1) := by decide +kernel
theorem d_M_draw_39 : decode b_M_draw 39 = .ok (.aload_n 0, 1) := by decide +kernel
theorem d_M_draw_40 : decode b_M_draw 40 = .ok (.getfield 22, 3) := by decide +kernel
theorem d_M_draw_43 : decode b_M_draw 43 = .ok (.iload_n 2, 1) := by decide +kernel
theorem d_M_draw_44 : decode b_M_draw 44 = .ok (.baload, 1) := by decide +kernel
theorem d_M_draw_45 : decode b_M_draw 45 = .ok (.ifCond .ne 38, 3) := by decide +kernel
theorem d_M_draw_48 : decode b_M_draw 48 = .ok (.iload_n 2, 1) := by decide +kernel
theorem d_M_draw_49 : decode b_M_draw 49 = .ok (.bipush 6, 2) := by decide +kernel
theorem d_M_draw_51 : decode b_M_draw 51 = .ok (.idiv, 1) := by decide +kernel
theorem d_M_draw_52 : decode b_M_draw 52 = .ok (.iload_n 2, 1) := by decide +kernel
theorem d_M_draw_53 : decode b_M_draw 53 = .ok (.bipush 6, 2) := by decide +kernel
theorem d_M_draw_55 : decode b_M_draw 55 = .ok (.irem, 1) := by decide +kernel
theorem d_M_draw_56 : decode b_M_draw 56 = .ok (.if_icmp .eq 31, 3) := by decide +kernel
theorem d_M_draw_59 : decode b_M_draw 59 = .ok (.aload_n 0, 1) := by decide +kernel
theorem d_M_draw_60 : decode b_M_draw 60 = .ok (.getfield 29, 3) := by decide +kernel
theorem d_M_draw_63 : decode b_M_draw 63 = .ok (.iload_n 2, 1) := by decide +kernel
theorem d_M_draw_64 : decode b_M_draw 64 = .ok (.bipush 6, 2) := by decide +kernel
theorem d_M_draw_66 : decode b_M_draw 66 = .ok (.idiv, 1) := by decide +kernel
theorem d_M_draw_67 : decode b_M_draw 67 = .ok (.baload, 1) := by decide +kernel
theorem d_M_draw_68 : decode b_M_draw 68 = .ok (.ifCond .eq 19, 3) := by decide +kernel
theorem d_M_draw_71 : decode b_M_draw 71 = .ok (.aload_n 0, 1) := by decide +kernel
theorem d_M_draw_72 : decode b_M_draw 72 = .ok (.getfield 29, 3) := by decide +kernel
theorem d_M_draw_75 : decode b_M_draw 75 = .ok (.iload_n 2, 1) := by decide +kernel
theorem d_M_draw_76 : decode b_M_draw 76 = .ok (.bipush 6, 2) := by decide +kernel
theorem d_M_draw_78 : decode b_M_draw 78 = .ok (.irem, 1) := by decide +kernel
theorem d_M_draw_79 : decode b_M_draw 79 = .ok (.baload, 1) := by decide +kernel
theorem d_M_draw_80 : decode b_M_draw 80 = .ok (.ifCond .eq 7, 3) := by decide +kernel
theorem d_M_draw_83 : decode b_M_draw 83 = .ok (.iconst 1, 1) := by decide +kernel
theorem d_M_draw_84 : decode b_M_draw 84 = .ok (.goto 4, 3) := by decide +kernel
theorem d_M_draw_87 : decode b_M_draw 87 = .ok (.iconst 0, 1) := by decide +kernel
theorem d_M_draw_88 : decode b_M_draw 88 = .ok (.bastore, 1) := by decide +kernel
theorem d_M_draw_89 : decode b_M_draw 89 = .ok (.iinc 2 1, 3) := by decide +kernel
theorem d_M_draw_92 : decode b_M_draw 92 = .ok (.goto (-64), 3) := by decide +kernel
theorem d_M_draw_95 : decode b_M_draw 95 = .ok (.aload_n 0, 1) := by decide +kernel
theorem d_M_draw_96 : decode b_M_draw 96 = .ok (.getfield 26, 3) := by decide +kernel
theorem d_M_draw_99 : decode b_M_draw 99 = .ok (.iload_n 1, 1) := by decide +kernel
theorem d_M_draw_100 : decode b_M_draw 100 = .ok (.aload_n 0, 1) := by decide +kernel
theorem d_M_draw_101 : decode b_M_draw 101 = .ok (.iload_n 1, 1) := by decide +kernel
theorem d_M_draw_102 : decode b_M_draw 102 = .ok (.invokevirtual 101, 3) := by decide +kernel
theorem d_M_draw_105 : decode b_M_draw 105 = .ok (.iastore, 1) := by decide +kernel
theorem d_M_draw_106 : decode b_M_draw 106 = .ok (.aload_n 0, 1) := by decide +kernel
theorem d_M_draw_107 : decode b_M_draw 107 = .ok (.dup, 1) := by decide +kernel
theorem d_M_draw_108 : decode b_M_draw 108 = .ok (.getfield 104, 3) := by decide +kernel
theorem d_M_draw_111 : decode b_M_draw 111 = .ok (.iconst 1, 1) := by decide +kernel
theorem d_M_draw_112 : decode b_M_draw 112 = .ok (.iadd, 1) := by decide +kernel
theorem d_M_draw_113 : decode b_M_draw 113 = .ok (.putfield 104, 3) := by decide +kernel
theorem d_M_draw_116 : decode b_M_draw 116 = .ok (.return_, 1) := by decide +kernel
def y_M_timer : MethodName := ⟨R_M, "timer", "()V"⟩
abbrev b_M_timer : ByteArray := prog_4_method_21_code
def w_M_timer : List Cond := .code y_M_timer b_M_timer 1 none :: TB
theorem d_M_timer_0 : decode b_M_timer 0 = .ok (.aload_n 0, 1) := by decide +kernel
theorem d_M_timer_1 : decode b_M_timer 1 = .ok (.dup, 1) := by decide +kernel
theorem d_M_timer_2 : decode b_M_timer 2 = .ok (.getfield 107, 3) := by decide +kernel
theorem d_M_timer_5 : decode b_M_timer 5 = .ok (.iconst 1, 1) := by decide +kernel
theorem d_M_timer_6 : decode b_M_timer 6 = .ok (.iadd, 1) := by decide +kernel
theorem d_M_timer_7 : decode b_M_timer 7 = .ok (.putfield 107, 3) := by decide +kernel
theorem d_M_timer_10 : decode b_M_timer 10 = .ok (.aload_n 0, 1) := by decide +kernel
theorem d_M_timer_11 : decode b_M_timer 11 = .ok (.getfield 107, 3) := by decide +kernel
theorem d_M_timer_14 : decode b_M_timer 14 = .ok (.iconst 3, 1) := by decide +kernel
theorem d_M_timer_15 : decode b_M_timer 15 = .ok (.aload_n 0, 1) := by decide +kernel
theorem d_M_timer_16 : decode b_M_timer 16 = .ok (.getfield 32, 3) := by decide +kernel
theorem d_M_timer_19 : decode b_M_timer 19 = .ok (.imul, 1) := by decide +kernel
theorem d_M_timer_20 : decode b_M_timer 20 = .ok (.if_icmp .ge 4, 3) := by decide +kernel
theorem d_M_timer_23 : decode b_M_timer 23 = .ok (.return_, 1) := by decide +kernel
theorem d_M_timer_24 : decode b_M_timer 24 = .ok (.aload_n 0, 1) := by decide +kernel
theorem d_M_timer_25 : decode b_M_timer 25 = .ok (.iconst 0, 1) := by decide +kernel
theorem d_M_timer_26 : decode b_M_timer 26 = .ok (.putfield 107, 3) := by decide +kernel
theorem d_M_timer_29 : decode b_M_timer 29 = .ok (.aload_n 0, 1) := by decide +kernel
theorem d_M_timer_30 : decode b_M_timer 30 = .ok (.dup, 1) := by decide +kernel
theorem d_M_timer_31 : decode b_M_timer 31 = .ok (.getfield 110, 3) := by decide +kernel
theorem d_M_timer_34 : decode b_M_timer 34 = .ok (.iconst 1, 1) := by decide +kernel
theorem d_M_timer_35 : decode b_M_timer 35 = .ok (.isub, 1) := by decide +kernel
theorem d_M_timer_36 : decode b_M_timer 36 = .ok (.putfield 110, 3) := by decide +kernel
theorem d_M_timer_39 : decode b_M_timer 39 = .ok (.aload_n 0, 1) := by decide +kernel
theorem d_M_timer_40 : decode b_M_timer 40 = .ok (.getfield 110, 3) := by decide +kernel
theorem d_M_timer_43 : decode b_M_timer 43 = .ok (.ifCond .ge 20, 3) := by decide +kernel
theorem d_M_timer_46 : decode b_M_timer 46 = .ok (.aload_n 0, 1) := by decide +kernel
theorem d_M_timer_47 : decode b_M_timer 47 = .ok (.sipush 255, 3) := by decide +kernel
theorem d_M_timer_50 : decode b_M_timer 50 = .ok (.putfield 110, 3) := by decide +kernel
theorem d_M_timer_53 : decode b_M_timer 53 = .ok (.aload_n 0, 1) := by decide +kernel
theorem d_M_timer_54 : decode b_M_timer 54 = .ok (.iconst 1, 1) := by decide +kernel
theorem d_M_timer_55 : decode b_M_timer 55 = .ok (.putfield 113, 3) := by decide +kernel
theorem d_M_timer_58 : decode b_M_timer 58 = .ok (.aload_n 0, 1) := by decide +kernel
theorem d_M_timer_59 : decode b_M_timer 59 = .ok (.iconst 1, 1) := by decide +kernel
theorem d_M_timer_60 : decode b_M_timer 60 = .ok (.putfield 32, 3) := by decide +kernel
theorem d_M_timer_63 : decode b_M_timer 63 = .ok (.return_, 1) := by decide +kernel
def y_M_oneClock : MethodName := ⟨R_M, "oneClock", "()V"⟩
abbrev b_M_oneClock : ByteArray := prog_4_method_22_code
def w_M_oneClock : List Cond := .code y_M_oneClock b_M_oneClock 1 none :: TB
theorem d_M_oneClock_0 : decode b_M_oneClock 0 = .ok (.aload_n 0, 1) := by decide +kernel
theorem d_M_oneClock_1 : decode b_M_oneClock 1 = .ok (.getfield 50, 3) := by decide +kernel
theorem d_M_oneClock_4 : decode b_M_oneClock 4 = .ok (.bipush 68, 2) := by decide +kernel
theorem d_M_oneClock_6 : decode b_M_oneClock 6 = .ok (.if_icmp .lt 14, 3) := by decide +kernel
theorem d_M_oneClock_9 : decode b_M_oneClock 9 = .ok (.aload_n 0, 1) := by decide +kernel
theorem d_M_oneClock_10 : decode b_M_oneClock 10 = .ok (.aload_n 0, 1) := by decide +kernel
theorem d_M_oneClock_11 : decode b_M_oneClock 11 = .ok (.getfield 50, 3) := by decide +kernel
theorem d_M_oneClock_14 : decode b_M_oneClock 14 = .ok (.bipush 68, 2) := by decide +kernel
theorem d_M_oneClock_16 : decode b_M_oneClock 16 = .ok (.isub, 1) := by decide +kernel
theorem d_M_oneClock_17 : decode b_M_oneClock 17 = .ok (.invokevirtual 116, 3) := by decide +kernel
theorem d_M_oneClock_20 : decode b_M_oneClock 20 = .ok (.aload_n 0, 1) := by decide +kernel
theorem d_M_oneClock_21 : decode b_M_oneClock 21 = .ok (.invokevirtual 119, 3) := by decide +kernel
theorem d_M_oneClock_24 : decode b_M_oneClock 24 = .ok (.aload_n 0, 1) := by decide +kernel
theorem d_M_oneClock_25 : decode b_M_oneClock 25 = .ok (.dup, 1) := by decide +kernel
theorem d_M_oneClock_26 : decode b_M_oneClock 26 = .ok (.getfield 50, 3) := by decide +kernel
theorem d_M_oneClock_29 : decode b_M_oneClock 29 = .ok (.iconst 1, 1) := by decide +kernel
theorem d_M_oneClock_30 : decode b_M_oneClock 30 = .ok (.iadd, 1) := by decide +kernel
theorem d_M_oneClock_31 : decode b_M_oneClock 31 = .ok (.putfield 50, 3) := by decide +kernel
theorem d_M_oneClock_34 : decode b_M_oneClock 34 = .ok (.aload_n 0, 1) := by decide +kernel
theorem d_M_oneClock_35 : decode b_M_oneClock 35 = .ok (.getfield 50, 3) := by decide +kernel
theorem d_M_oneClock_38 : decode b_M_oneClock 38 = .ok (.sipush 228, 3) := by decide +kernel
theorem d_M_oneClock_41 : decode b_M_oneClock 41 = .ok (.if_icmp .ne 18, 3) := by decide +kernel
theorem d_M_oneClock_44 : decode b_M_oneClock 44 = .ok (.aload_n 0, 1) := by decide +kernel
theorem d_M_oneClock_45 : decode b_M_oneClock 45 = .ok (.iconst 0, 1) := by decide +kernel
theorem d_M_oneClock_46 : decode b_M_oneClock 46 = .ok (.putfield 50, 3) := by decide +kernel
theorem d_M_oneClock_49 : decode b_M_oneClock 49 = .ok (.aload_n 0, 1) := by decide +kernel
theorem d_M_oneClock_50 : decode b_M_oneClock 50 = .ok (.dup, 1) := by decide +kernel
theorem d_M_oneClock_51 : decode b_M_oneClock 51 = .ok (.getfield 122, 3) := by decide +kernel
theorem d_M_oneClock_54 : decode b_M_oneClock 54 = .ok (.iconst 1, 1) := by decide +kernel
theorem d_M_oneClock_55 : decode b_M_oneClock 55 = .ok (.iadd, 1) := by decide +kernel
theorem d_M_oneClock_56 : decode b_M_oneClock 56 = .ok (.putfield 122, 3) := by decide +kernel
theorem d_M_oneClock_59 : decode b_M_oneClock 59 = .ok (.return_, 1) := by decide +kernel
def y_M_clocks : MethodName := ⟨R_M, "clocks", "(I)I"⟩
abbrev b_M_clocks : ByteArray := prog_4_method_23_code
def w_M_clocks : List Cond := .code y_M_clocks b_M_clocks 3 (some .int) :: TB
theorem d_M_clocks_0 : decode b_M_clocks 0 = .ok (.aload_n 0, 1) := by decide +kernel
theorem d_M_clocks_1 : decode b_M_clocks 1 = .ok (.iload_n 1, 1) := by decide +kernel
theorem d_M_clocks_2 : decode b_M_clocks 2 = .ok (.ifCond .lt 14, 3) := by decide +kernel
theorem d_M_clocks_5 : decode b_M_clocks 5 = .ok (.iload_n 1, 1) := by decide +kernel
theorem d_M_clocks_6 : decode b_M_clocks 6 = .ok (.sipush 2000, 3) := by decide +kernel
theorem d_M_clocks_9 : decode b_M_clocks 9 = .ok (.if_icmp .gt 7, 3) := by decide +kernel
theorem d_M_clocks_12 : decode b_M_clocks 12 = .ok (.iconst 1, 1) := by decide +kernel
theorem d_M_clocks_13 : decode b_M_clocks 13 = .ok (.goto 4, 3) := by decide +kernel
theorem d_M_clocks_16 : decode b_M_clocks 16 = .ok (.iconst 0, 1) := by decide +kernel
theorem d_M_clocks_17 : decode b_M_clocks 17 = .ok (.iconst 1, 1) := by decide +kernel
theorem d_M_clocks_18 : decode b_M_clocks 18 = .ok (.invokevirtual 60, 3) := by decide +kernel
theorem d_M_clocks_21 : decode b_M_clocks 21 = .ok (.ifCond .ne 5, 3) := by decide +kernel
theorem d_M_clocks_24 : decode b_M_clocks 24 = .ok (.iconst 0, 1) := by decide +kernel
theorem d_M_clocks_25 : decode b_M_clocks 25 = .ok (.ireturn, 1) := by decide +kernel
theorem d_M_clocks_26 : decode b_M_clocks 26 = .ok (.iconst 0, 1) := by decide +kernel
theorem d_M_clocks_27 : decode b_M_clocks 27 = .ok (.istore_n 2, 1) := by decide +kernel
theorem d_M_clocks_28 : decode b_M_clocks 28 = .ok (.iload_n 2, 1) := by decide +kernel
theorem d_M_clocks_29 : decode b_M_clocks 29 = .ok (.iload_n 1, 1) := by decide +kernel
theorem d_M_clocks_30 : decode b_M_clocks 30 = .ok (.if_icmp .ge 13, 3) := by decide +kernel
theorem d_M_clocks_33 : decode b_M_clocks 33 = .ok (.aload_n 0, 1) := by decide +kernel
theorem d_M_clocks_34 : decode b_M_clocks 34 = .ok (.invokevirtual 125, 3) := by decide +kernel
theorem d_M_clocks_37 : decode b_M_clocks 37 = .ok (.iinc 2 1, 3) := by decide +kernel
theorem d_M_clocks_40 : decode b_M_clocks 40 = .ok (.goto (-12), 3) := by decide +kernel
theorem d_M_clocks_43 : decode b_M_clocks 43 = .ok (.aload_n 0, 1) := by decide +kernel
theorem d_M_clocks_44 : decode b_M_clocks 44 = .ok (.getfield 50, 3) := by decide +kernel
theorem d_M_clocks_47 : decode b_M_clocks 47 = .ok (.ireturn, 1) := by decide +kernel
def y_M_sync : MethodName := ⟨R_M, "sync", "()I"⟩
abbrev b_M_sync : ByteArray := prog_4_method_24_code
def w_M_sync : List Cond := .code y_M_sync b_M_sync 3 (some .int) :: TB
theorem d_M_sync_0 : decode b_M_sync 0 = .ok (.aload_n 0, 1) := by decide +kernel
theorem d_M_sync_1 : decode b_M_sync 1 = .ok (.iconst 0, 1) := by decide +kernel
theorem d_M_sync_2 : decode b_M_sync 2 = .ok (.putfield 36, 3) := by decide +kernel
theorem d_M_sync_5 : decode b_M_sync 5 = .ok (.sipush 228, 3) := by decide +kernel
theorem d_M_sync_8 : decode b_M_sync 8 = .ok (.aload_n 0, 1) := by decide +kernel
theorem d_M_sync_9 : decode b_M_sync 9 = .ok (.getfield 50, 3) := by decide +kernel
theorem d_M_sync_12 : decode b_M_sync 12 = .ok (.isub, 1) := by decide +kernel
theorem d_M_sync_13 : decode b_M_sync 13 = .ok (.istore_n 1, 1) := by decide +kernel
theorem d_M_sync_14 : decode b_M_sync 14 = .ok (.iconst 0, 1) := by decide +kernel
theorem d_M_sync_15 : decode b_M_sync 15 = .ok (.istore_n 2, 1) := by decide +kernel
theorem d_M_sync_16 : decode b_M_sync 16 = .ok (.iload_n 2, 1) := by decide +kernel
theorem d_M_sync_17 : decode b_M_sync 17 = .ok (.iload_n 1, 1) := by decide +kernel
theorem d_M_sync_18 : decode b_M_sync 18 = .ok (.if_icmp .ge 13, 3) := by decide +kernel
theorem d_M_sync_21 : decode b_M_sync 21 = .ok (.aload_n 0, 1) := by decide +kernel
theorem d_M_sync_22 : decode b_M_sync 22 = .ok (.invokevirtual 125, 3) := by decide +kernel
theorem d_M_sync_25 : decode b_M_sync 25 = .ok (.iinc 2 1, 3) := by decide +kernel
theorem d_M_sync_28 : decode b_M_sync 28 = .ok (.goto (-12), 3) := by decide +kernel
theorem d_M_sync_31 : decode b_M_sync 31 = .ok (.iload_n 1, 1) := by decide +kernel
theorem d_M_sync_32 : decode b_M_sync 32 = .ok (.ireturn, 1) := by decide +kernel
def y_M_isPixel : MethodName := ⟨R_M, "isPixel", "(I)Z"⟩
abbrev b_M_isPixel : ByteArray := prog_4_method_25_code
def w_M_isPixel : List Cond := .code y_M_isPixel b_M_isPixel 1 (some .boolean) :: TB
theorem d_M_isPixel_0 : decode b_M_isPixel 0 = .ok (.iload_n 0, 1) := by decide +kernel
theorem d_M_isPixel_1 : decode b_M_isPixel 1 = .ok (.ifCond .lt 14, 3) := by decide +kernel
theorem d_M_isPixel_4 : decode b_M_isPixel 4 = .ok (.iload_n 0, 1) := by decide +kernel
theorem d_M_isPixel_5 : decode b_M_isPixel 5 = .ok (.sipush 160, 3) := by decide +kernel
theorem d_M_isPixel_8 : decode b_M_isPixel 8 = .ok (.if_icmp .ge 7, 3) := by decide +kernel
theorem d_M_isPixel_11 : decode b_M_isPixel 11 = .ok (.iconst 1, 1) := by decide +kernel
theorem d_M_isPixel_12 : decode b_M_isPixel 12 = .ok (.goto 4, 3) := by decide +kernel
theorem d_M_isPixel_15 : decode b_M_isPixel 15 = .ok (.iconst 0, 1) := by decide +kernel
theorem d_M_isPixel_16 : decode b_M_isPixel 16 = .ok (.ireturn, 1) := by decide +kernel
def y_M_pixel : MethodName := ⟨R_M, "pixel", "(I)I"⟩
abbrev b_M_pixel : ByteArray := prog_4_method_26_code
def w_M_pixel : List Cond := .code y_M_pixel b_M_pixel 2 (some .int) :: TB
theorem d_M_pixel_0 : decode b_M_pixel 0 = .ok (.aload_n 0, 1) := by decide +kernel
theorem d_M_pixel_1 : decode b_M_pixel 1 = .ok (.iload_n 1, 1) := by decide +kernel
theorem d_M_pixel_2 : decode b_M_pixel 2 = .ok (.invokestatic 128, 3) := by decide +kernel
theorem d_M_pixel_5 : decode b_M_pixel 5 = .ok (.iconst 1, 1) := by decide +kernel
theorem d_M_pixel_6 : decode b_M_pixel 6 = .ok (.invokevirtual 60, 3) := by decide +kernel
theorem d_M_pixel_9 : decode b_M_pixel 9 = .ok (.ifCond .eq 12, 3) := by decide +kernel
theorem d_M_pixel_12 : decode b_M_pixel 12 = .ok (.aload_n 0, 1) := by decide +kernel
theorem d_M_pixel_13 : decode b_M_pixel 13 = .ok (.getfield 26, 3) := by decide +kernel
theorem d_M_pixel_16 : decode b_M_pixel 16 = .ok (.iload_n 1, 1) := by decide +kernel
theorem d_M_pixel_17 : decode b_M_pixel 17 = .ok (.iaload, 1) := by decide +kernel
theorem d_M_pixel_18 : decode b_M_pixel 18 = .ok (.goto 4, 3) := by decide +kernel
theorem d_M_pixel_21 : decode b_M_pixel 21 = .ok (.iconst 0, 1) := by decide +kernel
theorem d_M_pixel_22 : decode b_M_pixel 22 = .ok (.ireturn, 1) := by decide +kernel
def y_M_met : MethodName := ⟨R_M, "met", "(II)Z"⟩
abbrev b_M_met : ByteArray := prog_4_method_27_code
def w_M_met : List Cond := .code y_M_met b_M_met 3 (some .boolean) :: TB
theorem d_M_met_0 : decode b_M_met 0 = .ok (.aload_n 0, 1) := by decide +kernel
theorem d_M_met_1 : decode b_M_met 1 = .ok (.iload_n 1, 1) := by decide +kernel
theorem d_M_met_2 : decode b_M_met 2 = .ok (.ifCond .lt 28, 3) := by decide +kernel
theorem d_M_met_5 : decode b_M_met 5 = .ok (.iload_n 1, 1) := by decide +kernel
theorem d_M_met_6 : decode b_M_met 6 = .ok (.bipush 6, 2) := by decide +kernel
theorem d_M_met_8 : decode b_M_met 8 = .ok (.if_icmp .ge 22, 3) := by decide +kernel
theorem d_M_met_11 : decode b_M_met 11 = .ok (.iload_n 2, 1) := by decide +kernel
theorem d_M_met_12 : decode b_M_met 12 = .ok (.ifCond .lt 18, 3) := by decide +kernel
theorem d_M_met_15 : decode b_M_met 15 = .ok (.iload_n 2, 1) := by decide +kernel
theorem d_M_met_16 : decode b_M_met 16 = .ok (.bipush 6, 2) := by decide +kernel
theorem d_M_met_18 : decode b_M_met 18 = .ok (.if_icmp .ge 12, 3) := by decide +kernel
theorem d_M_met_21 : decode b_M_met 21 = .ok (.iload_n 1, 1) := by decide +kernel
theorem d_M_met_22 : decode b_M_met 22 = .ok (.iload_n 2, 1) := by decide +kernel
theorem d_M_met_23 : decode b_M_met 23 = .ok (.if_icmp .eq 7, 3) := by decide +kernel
theorem d_M_met_26 : decode b_M_met 26 = .ok (.iconst 1, 1) := by decide +kernel
theorem d_M_met_27 : decode b_M_met 27 = .ok (.goto 4, 3) := by decide +kernel
theorem d_M_met_30 : decode b_M_met 30 = .ok (.iconst 0, 1) := by decide +kernel
theorem d_M_met_31 : decode b_M_met 31 = .ok (.iconst 1, 1) := by decide +kernel
theorem d_M_met_32 : decode b_M_met 32 = .ok (.invokevirtual 60, 3) := by decide +kernel
theorem d_M_met_35 : decode b_M_met 35 = .ok (.ifCond .eq 21, 3) := by decide +kernel
theorem d_M_met_38 : decode b_M_met 38 = .ok (.aload_n 0, 1) := by decide +kernel
theorem d_M_met_39 : decode b_M_met 39 = .ok (.getfield 22, 3) := by decide +kernel
theorem d_M_met_42 : decode b_M_met 42 = .ok (.bipush 6, 2) := by decide +kernel
theorem d_M_met_44 : decode b_M_met 44 = .ok (.iload_n 1, 1) := by decide +kernel
theorem d_M_met_45 : decode b_M_met 45 = .ok (.imul, 1) := by decide +kernel
theorem d_M_met_46 : decode b_M_met 46 = .ok (.iload_n 2, 1) := by decide +kernel
theorem d_M_met_47 : decode b_M_met 47 = .ok (.iadd, 1) := by decide +kernel
theorem d_M_met_48 : decode b_M_met 48 = .ok (.baload, 1) := by decide +kernel
theorem d_M_met_49 : decode b_M_met 49 = .ok (.ifCond .eq 7, 3) := by decide +kernel
theorem d_M_met_52 : decode b_M_met 52 = .ok (.iconst 1, 1) := by decide +kernel
theorem d_M_met_53 : decode b_M_met 53 = .ok (.goto 4, 3) := by decide +kernel
theorem d_M_met_56 : decode b_M_met 56 = .ok (.iconst 0, 1) := by decide +kernel
theorem d_M_met_57 : decode b_M_met 57 = .ok (.ireturn, 1) := by decide +kernel
def y_M_place : MethodName := ⟨R_M, "place", "(I)I"⟩
abbrev b_M_place : ByteArray := prog_4_method_28_code
def w_M_place : List Cond := .code y_M_place b_M_place 2 (some .int) :: TB
theorem d_M_place_0 : decode b_M_place 0 = .ok (.aload_n 0, 1) := by decide +kernel
theorem d_M_place_1 : decode b_M_place 1 = .ok (.iload_n 1, 1) := by decide +kernel
theorem d_M_place_2 : decode b_M_place 2 = .ok (.ifCond .lt 12, 3) := by decide +kernel
theorem d_M_place_5 : decode b_M_place 5 = .ok (.iload_n 1, 1) := by decide +kernel
theorem d_M_place_6 : decode b_M_place 6 = .ok (.iconst 5, 1) := by decide +kernel
theorem d_M_place_7 : decode b_M_place 7 = .ok (.if_icmp .ge 7, 3) := by decide +kernel
theorem d_M_place_10 : decode b_M_place 10 = .ok (.iconst 1, 1) := by decide +kernel
theorem d_M_place_11 : decode b_M_place 11 = .ok (.goto 4, 3) := by decide +kernel
theorem d_M_place_14 : decode b_M_place 14 = .ok (.iconst 0, 1) := by decide +kernel
theorem d_M_place_15 : decode b_M_place 15 = .ok (.iconst 1, 1) := by decide +kernel
theorem d_M_place_16 : decode b_M_place 16 = .ok (.invokevirtual 60, 3) := by decide +kernel
theorem d_M_place_19 : decode b_M_place 19 = .ok (.ifCond .eq 12, 3) := by decide +kernel
theorem d_M_place_22 : decode b_M_place 22 = .ok (.aload_n 0, 1) := by decide +kernel
theorem d_M_place_23 : decode b_M_place 23 = .ok (.getfield 13, 3) := by decide +kernel
theorem d_M_place_26 : decode b_M_place 26 = .ok (.iload_n 1, 1) := by decide +kernel
theorem d_M_place_27 : decode b_M_place 27 = .ok (.iaload, 1) := by decide +kernel
theorem d_M_place_28 : decode b_M_place 28 = .ok (.goto 4, 3) := by decide +kernel
theorem d_M_place_31 : decode b_M_place 31 = .ok (.iconst 0, 1) := by decide +kernel
theorem d_M_place_32 : decode b_M_place 32 = .ok (.ireturn, 1) := by decide +kernel
def y_M_there : MethodName := ⟨R_M, "there", "(II)Z"⟩
abbrev b_M_there : ByteArray := prog_4_method_29_code
def w_M_there : List Cond := .code y_M_there b_M_there 3 (some .boolean) :: TB
theorem d_M_there_0 : decode b_M_there 0 = .ok (.aload_n 0, 1) := by decide +kernel
theorem d_M_there_1 : decode b_M_there 1 = .ok (.iload_n 1, 1) := by decide +kernel
theorem d_M_there_2 : decode b_M_there 2 = .ok (.ifCond .lt 20, 3) := by decide +kernel
theorem d_M_there_5 : decode b_M_there 5 = .ok (.iload_n 1, 1) := by decide +kernel
theorem d_M_there_6 : decode b_M_there 6 = .ok (.bipush 6, 2) := by decide +kernel
theorem d_M_there_8 : decode b_M_there 8 = .ok (.if_icmp .ge 14, 3) := by decide +kernel
theorem d_M_there_11 : decode b_M_there 11 = .ok (.iload_n 2, 1) := by decide +kernel
theorem d_M_there_12 : decode b_M_there 12 = .ok (.invokestatic 128, 3) := by decide +kernel
theorem d_M_there_15 : decode b_M_there 15 = .ok (.ifCond .eq 7, 3) := by decide +kernel
theorem d_M_there_18 : decode b_M_there 18 = .ok (.iconst 1, 1) := by decide +kernel
theorem d_M_there_19 : decode b_M_there 19 = .ok (.goto 4, 3) := by decide +kernel
theorem d_M_there_22 : decode b_M_there 22 = .ok (.iconst 0, 1) := by decide +kernel
theorem d_M_there_23 : decode b_M_there 23 = .ok (.iconst 1, 1) := by decide +kernel
theorem d_M_there_24 : decode b_M_there 24 = .ok (.invokevirtual 60, 3) := by decide +kernel
theorem d_M_there_27 : decode b_M_there 27 = .ok (.ifCond .eq 16, 3) := by decide +kernel
theorem d_M_there_30 : decode b_M_there 30 = .ok (.aload_n 0, 1) := by decide +kernel
theorem d_M_there_31 : decode b_M_there 31 = .ok (.iload_n 1, 1) := by decide +kernel
theorem d_M_there_32 : decode b_M_there 32 = .ok (.iload_n 2, 1) := by decide +kernel
theorem d_M_there_33 : decode b_M_there 33 = .ok (.invokevirtual 98, 3) := by decide +kernel
theorem d_M_there_36 : decode b_M_there 36 = .ok (.ifCond .eq 7, 3) := by decide +kernel
theorem d_M_there_39 : decode b_M_there 39 = .ok (.iconst 1, 1) := by decide +kernel
theorem d_M_there_40 : decode b_M_there 40 = .ok (.goto 4, 3) := by decide +kernel
theorem d_M_there_43 : decode b_M_there 43 = .ok (.iconst 0, 1) := by decide +kernel
theorem d_M_there_44 : decode b_M_there 44 = .ok (.ireturn, 1) := by decide +kernel
def y_M_set : MethodName := ⟨R_M, "set", "(II)I"⟩
abbrev b_M_set : ByteArray := prog_4_method_30_code
def w_M_set : List Cond := .code y_M_set b_M_set 4 (some .int) :: TB
theorem d_M_set_0 : decode b_M_set 0 = .ok (.aload_n 0, 1) := by decide +kernel
theorem d_M_set_1 : decode b_M_set 1 = .ok (.iload_n 1, 1) := by decide +kernel
theorem d_M_set_2 : decode b_M_set 2 = .ok (.ifCond .lt 12, 3) := by decide +kernel
theorem d_M_set_5 : decode b_M_set 5 = .ok (.iload_n 1, 1) := by decide +kernel
theorem d_M_set_6 : decode b_M_set 6 = .ok (.iconst 3, 1) := by decide +kernel
theorem d_M_set_7 : decode b_M_set 7 = .ok (.if_icmp .gt 7, 3) := by decide +kernel
theorem d_M_set_10 : decode b_M_set 10 = .ok (.iconst 1, 1) := by decide +kernel
theorem d_M_set_11 : decode b_M_set 11 = .ok (.goto 4, 3) := by decide +kernel
theorem d_M_set_14 : decode b_M_set 14 = .ok (.iconst 0, 1) := by decide +kernel
theorem d_M_set_15 : decode b_M_set 15 = .ok (.iload_n 2, 1) := by decide +kernel
theorem d_M_set_16 : decode b_M_set 16 = .ok (.ifCond .lt 14, 3) := by decide +kernel
theorem d_M_set_19 : decode b_M_set 19 = .ok (.iload_n 2, 1) := by decide +kernel
theorem d_M_set_20 : decode b_M_set 20 = .ok (.sipush 255, 3) := by decide +kernel
theorem d_M_set_23 : decode b_M_set 23 = .ok (.if_icmp .gt 7, 3) := by decide +kernel
theorem d_M_set_26 : decode b_M_set 26 = .ok (.iconst 1, 1) := by decide +kernel
theorem d_M_set_27 : decode b_M_set 27 = .ok (.goto 4, 3) := by decide +kernel
theorem d_M_set_30 : decode b_M_set 30 = .ok (.iconst 0, 1) := by decide +kernel
theorem d_M_set_31 : decode b_M_set 31 = .ok (.invokevirtual 60, 3) := by decide +kernel
theorem d_M_set_34 : decode b_M_set 34 = .ok (.ifCond .ne 5, 3) := by decide +kernel
theorem d_M_set_37 : decode b_M_set 37 = .ok (.iconst 0, 1) := by decide +kernel
theorem d_M_set_38 : decode b_M_set 38 = .ok (.ireturn, 1) := by decide +kernel
theorem d_M_set_39 : decode b_M_set 39 = .ok (.aload_n 0, 1) := by decide +kernel
theorem d_M_set_40 : decode b_M_set 40 = .ok (.getfield 110, 3) := by decide +kernel
theorem d_M_set_43 : decode b_M_set 43 = .ok (.istore_n 3, 1) := by decide +kernel
theorem d_M_set_44 : decode b_M_set 44 = .ok (.aload_n 0, 1) := by decide +kernel
theorem d_M_set_45 : decode b_M_set 45 = .ok (.iload_n 2, 1) := by decide +kernel
theorem d_M_set_46 : decode b_M_set 46 = .ok (.putfield 110, 3) := by decide +kernel
theorem d_M_set_49 : decode b_M_set 49 = .ok (.aload_n 0, 1) := by decide +kernel
theorem d_M_set_50 : decode b_M_set 50 = .ok (.iload_n 1, 1) := by decide +kernel
theorem d_M_set_51 : decode b_M_set 51 = .ok (.iconst 3, 1) := by decide +kernel
theorem d_M_set_52 : decode b_M_set 52 = .ok (.if_icmp .ne 9, 3) := by decide +kernel
theorem d_M_set_55 : decode b_M_set 55 = .ok (.sipush 1024, 3) := by decide +kernel
theorem d_M_set_58 : decode b_M_set 58 = .ok (.goto 24, 3) := by decide +kernel
theorem d_M_set_61 : decode b_M_set 61 = .ok (.iload_n 1, 1) := by decide +kernel
theorem d_M_set_62 : decode b_M_set 62 = .ok (.iconst 2, 1) := by decide +kernel
theorem d_M_set_63 : decode b_M_set 63 = .ok (.if_icmp .ne 8, 3) := by decide +kernel
theorem d_M_set_66 : decode b_M_set 66 = .ok (.bipush 64, 2) := by decide +kernel
theorem d_M_set_68 : decode b_M_set 68 = .ok (.goto 14, 3) := by decide +kernel
theorem d_M_set_71 : decode b_M_set 71 = .ok (.iload_n 1, 1) := by decide +kernel
theorem d_M_set_72 : decode b_M_set 72 = .ok (.iconst 1, 1) := by decide +kernel
theorem d_M_set_73 : decode b_M_set 73 = .ok (.if_icmp .ne 8, 3) := by decide +kernel
theorem d_M_set_76 : decode b_M_set 76 = .ok (.bipush 8, 2) := by decide +kernel
theorem d_M_set_78 : decode b_M_set 78 = .ok (.goto 4, 3) := by decide +kernel
theorem d_M_set_81 : decode b_M_set 81 = .ok (.iconst 1, 1) := by decide +kernel
theorem d_M_set_82 : decode b_M_set 82 = .ok (.putfield 32, 3) := by decide +kernel
theorem d_M_set_85 : decode b_M_set 85 = .ok (.aload_n 0, 1) := by decide +kernel
theorem d_M_set_86 : decode b_M_set 86 = .ok (.iconst 0, 1) := by decide +kernel
theorem d_M_set_87 : decode b_M_set 87 = .ok (.putfield 107, 3) := by decide +kernel
theorem d_M_set_90 : decode b_M_set 90 = .ok (.aload_n 0, 1) := by decide +kernel
theorem d_M_set_91 : decode b_M_set 91 = .ok (.iconst 0, 1) := by decide +kernel
theorem d_M_set_92 : decode b_M_set 92 = .ok (.putfield 113, 3) := by decide +kernel
theorem d_M_set_95 : decode b_M_set 95 = .ok (.iload_n 3, 1) := by decide +kernel
theorem d_M_set_96 : decode b_M_set 96 = .ok (.ireturn, 1) := by decide +kernel
def y_M_count : MethodName := ⟨R_M, "count", "(I)I"⟩
abbrev b_M_count : ByteArray := prog_4_method_31_code
def w_M_count : List Cond := .code y_M_count b_M_count 4 (some .int) :: TB
theorem d_M_count_0 : decode b_M_count 0 = .ok (.aload_n 0, 1) := by decide +kernel
theorem d_M_count_1 : decode b_M_count 1 = .ok (.iload_n 1, 1) := by decide +kernel
theorem d_M_count_2 : decode b_M_count 2 = .ok (.ifCond .lt 12, 3) := by decide +kernel
theorem d_M_count_5 : decode b_M_count 5 = .ok (.iload_n 1, 1) := by decide +kernel
theorem d_M_count_6 : decode b_M_count 6 = .ok (.iconst 5, 1) := by decide +kernel
theorem d_M_count_7 : decode b_M_count 7 = .ok (.if_icmp .gt 7, 3) := by decide +kernel
theorem d_M_count_10 : decode b_M_count 10 = .ok (.iconst 1, 1) := by decide +kernel
theorem d_M_count_11 : decode b_M_count 11 = .ok (.goto 4, 3) := by decide +kernel
theorem d_M_count_14 : decode b_M_count 14 = .ok (.iconst 0, 1) := by decide +kernel
theorem d_M_count_15 : decode b_M_count 15 = .ok (.iconst 1, 1) := by decide +kernel
theorem d_M_count_16 : decode b_M_count 16 = .ok (.invokevirtual 60, 3) := by decide +kernel
theorem d_M_count_19 : decode b_M_count 19 = .ok (.ifCond .ne 5, 3) := by decide +kernel
theorem d_M_count_22 : decode b_M_count 22 = .ok (.iconst 0, 1) := by decide +kernel
theorem d_M_count_23 : decode b_M_count 23 = .ok (.ireturn, 1) := by decide +kernel
theorem d_M_count_24 : decode b_M_count 24 = .ok (.iconst 0, 1) := by decide +kernel
theorem d_M_count_25 : decode b_M_count 25 = .ok (.istore_n 2, 1) := by decide +kernel
theorem d_M_count_26 : decode b_M_count 26 = .ok (.iconst 0, 1) := by decide +kernel
theorem d_M_count_27 : decode b_M_count 27 = .ok (.istore_n 3, 1) := by decide +kernel
theorem d_M_count_28 : decode b_M_count 28 = .ok (.iload_n 3, 1) := by decide +kernel
theorem d_M_count_29 : decode b_M_count 29 = .ok (.bipush 36, 2) := by decide +kernel
theorem d_M_count_31 : decode b_M_count 31 = .ok (.if_icmp .ge 26, 3) := by decide +kernel
theorem d_M_count_34 : decode b_M_count 34 = .ok (.aload_n 0, 1) := by decide +kernel
theorem d_M_count_35 : decode b_M_count 35 = .ok (.getfield 22, 3) := by decide +kernel
theorem d_M_count_38 : decode b_M_count 38 = .ok (.iload_n 3, 1) := by decide +kernel
theorem d_M_count_39 : decode b_M_count 39 = .ok (.baload, 1) := by decide +kernel
theorem d_M_count_40 : decode b_M_count 40 = .ok (.ifCond .eq 9, 3) := by decide +kernel
theorem d_M_count_43 : decode b_M_count 43 = .ok (.iload_n 2, 1) := by decide +kernel
theorem d_M_count_44 : decode b_M_count 44 = .ok (.iconst 1, 1) := by decide +kernel
theorem d_M_count_45 : decode b_M_count 45 = .ok (.iadd, 1) := by decide +kernel
theorem d_M_count_46 : decode b_M_count 46 = .ok (.goto 4, 3) := by decide +kernel
theorem d_M_count_49 : decode b_M_count 49 = .ok (.iload_n 2, 1) := by decide +kernel
theorem d_M_count_50 : decode b_M_count 50 = .ok (.istore_n 2, 1) := by decide +kernel
theorem d_M_count_51 : decode b_M_count 51 = .ok (.iinc 3 1, 3) := by decide +kernel
theorem d_M_count_54 : decode b_M_count 54 = .ok (.goto (-26), 3) := by decide +kernel
theorem d_M_count_57 : decode b_M_count 57 = .ok (.iload_n 1, 1) := by decide +kernel
theorem d_M_count_58 : decode b_M_count 58 = .ok (.tableswitch 66 0 4 #[34, 39, 44, 49, 62], 34) := by decide +kernel
theorem d_M_count_92 : decode b_M_count 92 = .ok (.aload_n 0, 1) := by decide +kernel
theorem d_M_count_93 : decode b_M_count 93 = .ok (.getfield 50, 3) := by decide +kernel
theorem d_M_count_96 : decode b_M_count 96 = .ok (.ireturn, 1) := by decide +kernel
theorem d_M_count_97 : decode b_M_count 97 = .ok (.aload_n 0, 1) := by decide +kernel
theorem d_M_count_98 : decode b_M_count 98 = .ok (.getfield 122, 3) := by decide +kernel
theorem d_M_count_101 : decode b_M_count 101 = .ok (.ireturn, 1) := by decide +kernel
theorem d_M_count_102 : decode b_M_count 102 = .ok (.aload_n 0, 1) := by decide +kernel
theorem d_M_count_103 : decode b_M_count 103 = .ok (.getfield 110, 3) := by decide +kernel
theorem d_M_count_106 : decode b_M_count 106 = .ok (.ireturn, 1) := by decide +kernel
theorem d_M_count_107 : decode b_M_count 107 = .ok (.aload_n 0, 1) := by decide +kernel
theorem d_M_count_108 : decode b_M_count 108 = .ok (.getfield 113, 3) := by decide +kernel
theorem d_M_count_111 : decode b_M_count 111 = .ok (.ifCond .eq 7, 3) := by decide +kernel
theorem d_M_count_114 : decode b_M_count 114 = .ok (.iconst 1, 1) := by decide +kernel
theorem d_M_count_115 : decode b_M_count 115 = .ok (.goto 4, 3) := by decide +kernel
theorem d_M_count_118 : decode b_M_count 118 = .ok (.iconst 0, 1) := by decide +kernel
theorem d_M_count_119 : decode b_M_count 119 = .ok (.ireturn, 1) := by decide +kernel
theorem d_M_count_120 : decode b_M_count 120 = .ok (.iload_n 2, 1) := by decide +kernel
theorem d_M_count_121 : decode b_M_count 121 = .ok (.iconst 2, 1) := by decide +kernel
theorem d_M_count_122 : decode b_M_count 122 = .ok (.idiv, 1) := by decide +kernel
theorem d_M_count_123 : decode b_M_count 123 = .ok (.ireturn, 1) := by decide +kernel
theorem d_M_count_124 : decode b_M_count 124 = .ok (.aload_n 0, 1) := by decide +kernel
theorem d_M_count_125 : decode b_M_count 125 = .ok (.getfield 104, 3) := by decide +kernel
theorem d_M_count_128 : decode b_M_count 128 = .ok (.ireturn, 1) := by decide +kernel
end
section
theorem kc_JI_265 : (Jvm.Cond.constant "java/lang/Integer" (265 : Nat) (1431655765 : Int32)) ∈ TB := kTB (List.mem_append_right _ (List.mem_of_getElem? (i := 342) (by decide +kernel))) rfl
theorem kc_JI_266 : (Jvm.Cond.constant "java/lang/Integer" (266 : Nat) (858993459 : Int32)) ∈ TB := kTB (List.mem_append_right _ (List.mem_of_getElem? (i := 343) (by decide +kernel))) rfl
theorem kc_JI_267 : (Jvm.Cond.constant "java/lang/Integer" (267 : Nat) (252645135 : Int32)) ∈ TB := kTB (List.mem_append_right _ (List.mem_of_getElem? (i := 344) (by decide +kernel))) rfl
theorem fl_B_9 : (Jvm.Cond.fieldLink "BeamDrawer" (9 : Nat) "BeamDrawer" "registers" "[I") ∈ TB := kTB (List.mem_append_right _ (List.mem_of_getElem? (i := 42) (by decide +kernel))) rfl
theorem fl_B_16 : (Jvm.Cond.fieldLink "BeamDrawer" (16 : Nat) "BeamDrawer" "places" "[I") ∈ TB := kTB (List.mem_append_right _ (List.mem_of_getElem? (i := 44) (by decide +kernel))) rfl
theorem ml_B_121 : (Jvm.Cond.methodLink "BeamDrawer" (121 : Nat) ({ cls := "java/lang/Math", name := "floorMod", desc := "(II)I" } : Jvm.MethodName)) ∈ TB := kTB (List.mem_append_right _ (List.mem_of_getElem? (i := 105) (by decide +kernel))) rfl
theorem wc_JM_floorMod : (Jvm.Cond.code ({ cls := "java/lang/Math", name := "floorMod", desc := "(II)I" } : Jvm.MethodName) prog_8_method_50_code (3 : Nat) (Option.some Jvm.ClassFile.FieldType.int)) ∈ TB := kTB (List.mem_append_right _ (List.mem_of_getElem? (i := 107) (by decide +kernel))) rfl
theorem wi_JM : (Jvm.Cond.initialized "java/lang/Math") ∈ TB := kTB (List.mem_append_right _ (List.mem_of_getElem? (i := 9) (by decide +kernel))) rfl
theorem wst_JM_floorMod : (Jvm.Cond.static ({ cls := "java/lang/Math", name := "floorMod", desc := "(II)I" } : Jvm.MethodName)) ∈ TB := kTB (List.mem_append_right _ (List.mem_of_getElem? (i := 106) (by decide +kernel))) rfl
theorem ms_JM_floorMod : kM y_JM_floorMod b_JM_floorMod 3 (some .int) 2 ∧ Cond.static y_JM_floorMod ∈ TB := ⟨⟨wc_JM_floorMod, wi_JM, by decide +kernel, by decide +kernel, by decide +kernel⟩, wst_JM_floorMod⟩
theorem fl_B_96 : (Jvm.Cond.fieldLink "BeamDrawer" (96 : Nat) "BeamDrawer" "STRETCH" "[I") ∈ TB := kTB (List.mem_append_right _ (List.mem_of_getElem? (i := 111) (by decide +kernel))) rfl
theorem fl_B_174 : (Jvm.Cond.fieldLink "BeamDrawer" (174 : Nat) "BeamDrawer" "COPY_STARTS" "[I") ∈ TB := kTB (List.mem_append_right _ (List.mem_of_getElem? (i := 113) (by decide +kernel))) rfl
theorem ml_B_90 : (Jvm.Cond.methodLink "BeamDrawer" (90 : Nat) ({ cls := "BeamDrawer", name := "hasBit", desc := "(II)Z" } : Jvm.MethodName)) ∈ TB := kTB (List.mem_append_right _ (List.mem_of_getElem? (i := 93) (by decide +kernel))) rfl
theorem wc_B_hasBit : (Jvm.Cond.code ({ cls := "BeamDrawer", name := "hasBit", desc := "(II)Z" } : Jvm.MethodName) prog_1_method_13_code (3 : Nat) (Option.some Jvm.ClassFile.FieldType.boolean)) ∈ TB := kTB (List.mem_append_right _ (List.mem_of_getElem? (i := 96) (by decide +kernel))) rfl
theorem wi_B : (Jvm.Cond.initialized "BeamDrawer") ∈ TB := kTB (List.mem_append_right _ (List.mem_of_getElem? (i := 1) (by decide +kernel))) rfl
theorem wm_B_hasBit : (Jvm.Cond.instanceMethod ({ cls := "BeamDrawer", name := "hasBit", desc := "(II)Z" } : Jvm.MethodName)) ∈ TB := kTB (List.mem_append_right _ (List.mem_of_getElem? (i := 95) (by decide +kernel))) rfl
theorem wsel_B_hasBit : (Jvm.Cond.selects "BeamDrawer" y_B_hasBit y_B_hasBit) ∈ TB := kTB (List.mem_append_left _ (by decide +kernel)) rfl
theorem mi_B_hasBit : kM y_B_hasBit b_B_hasBit 3 (some .boolean) 2 ∧ Cond.instanceMethod y_B_hasBit ∈ TB ∧ Cond.selects R_B y_B_hasBit y_B_hasBit ∈ TB := ⟨⟨wc_B_hasBit, wi_B, by decide +kernel, by decide +kernel, by decide +kernel⟩, wm_B_hasBit, wsel_B_hasBit⟩
theorem ml_B_171 : (Jvm.Cond.methodLink "BeamDrawer" (171 : Nat) ({ cls := "BeamDrawer", name := "hasFieldBit", desc := "(I)Z" } : Jvm.MethodName)) ∈ TB := kTB (List.mem_append_right _ (List.mem_of_getElem? (i := 131) (by decide +kernel))) rfl
theorem wc_B_hasFieldBit : (Jvm.Cond.code ({ cls := "BeamDrawer", name := "hasFieldBit", desc := "(I)Z" } : Jvm.MethodName) prog_1_method_32_code (2 : Nat) (Option.some Jvm.ClassFile.FieldType.boolean)) ∈ TB := kTB (List.mem_append_right _ (List.mem_of_getElem? (i := 134) (by decide +kernel))) rfl
theorem wm_B_hasFieldBit : (Jvm.Cond.instanceMethod ({ cls := "BeamDrawer", name := "hasFieldBit", desc := "(I)Z" } : Jvm.MethodName)) ∈ TB := kTB (List.mem_append_right _ (List.mem_of_getElem? (i := 133) (by decide +kernel))) rfl
theorem wsel_B_hasFieldBit : (Jvm.Cond.selects "BeamDrawer" y_B_hasFieldBit y_B_hasFieldBit) ∈ TB := kTB (List.mem_append_left _ (by decide +kernel)) rfl
theorem mi_B_hasFieldBit : kM y_B_hasFieldBit b_B_hasFieldBit 2 (some .boolean) 1 ∧ Cond.instanceMethod y_B_hasFieldBit ∈ TB ∧ Cond.selects R_B y_B_hasFieldBit y_B_hasFieldBit ∈ TB := ⟨⟨wc_B_hasFieldBit, wi_B, by decide +kernel, by decide +kernel, by decide +kernel⟩, wm_B_hasFieldBit, wsel_B_hasFieldBit⟩
theorem ml_B_162 : (Jvm.Cond.methodLink "BeamDrawer" (162 : Nat) ({ cls := "BeamDrawer", name := "behindPlace", desc := "(II)I" } : Jvm.MethodName)) ∈ TB := kTB (List.mem_append_right _ (List.mem_of_getElem? (i := 101) (by decide +kernel))) rfl
theorem wc_B_behindPlace : (Jvm.Cond.code ({ cls := "BeamDrawer", name := "behindPlace", desc := "(II)I" } : Jvm.MethodName) prog_1_method_35_code (3 : Nat) (Option.some Jvm.ClassFile.FieldType.int)) ∈ TB := kTB (List.mem_append_right _ (List.mem_of_getElem? (i := 104) (by decide +kernel))) rfl
theorem wm_B_behindPlace : (Jvm.Cond.instanceMethod ({ cls := "BeamDrawer", name := "behindPlace", desc := "(II)I" } : Jvm.MethodName)) ∈ TB := kTB (List.mem_append_right _ (List.mem_of_getElem? (i := 103) (by decide +kernel))) rfl
theorem wsel_B_behindPlace : (Jvm.Cond.selects "BeamDrawer" y_B_behindPlace y_B_behindPlace) ∈ TB := kTB (List.mem_append_left _ (by decide +kernel)) rfl
theorem mi_B_behindPlace : kM y_B_behindPlace b_B_behindPlace 3 (some .int) 2 ∧ Cond.instanceMethod y_B_behindPlace ∈ TB ∧ Cond.selects R_B y_B_behindPlace y_B_behindPlace ∈ TB := ⟨⟨wc_B_behindPlace, wi_B, by decide +kernel, by decide +kernel, by decide +kernel⟩, wm_B_behindPlace, wsel_B_behindPlace⟩
theorem ml_B_168 : (Jvm.Cond.methodLink "BeamDrawer" (168 : Nat) ({ cls := "BeamDrawer", name := "widthIn", desc := "(I)I" } : Jvm.MethodName)) ∈ TB := kTB (List.mem_append_right _ (List.mem_of_getElem? (i := 119) (by decide +kernel))) rfl
theorem wc_B_widthIn : (Jvm.Cond.code ({ cls := "BeamDrawer", name := "widthIn", desc := "(I)I" } : Jvm.MethodName) prog_1_method_34_code (2 : Nat) (Option.some Jvm.ClassFile.FieldType.int)) ∈ TB := kTB (List.mem_append_right _ (List.mem_of_getElem? (i := 122) (by decide +kernel))) rfl
theorem wm_B_widthIn : (Jvm.Cond.instanceMethod ({ cls := "BeamDrawer", name := "widthIn", desc := "(I)I" } : Jvm.MethodName)) ∈ TB := kTB (List.mem_append_right _ (List.mem_of_getElem? (i := 121) (by decide +kernel))) rfl
theorem wsel_B_widthIn : (Jvm.Cond.selects "BeamDrawer" y_B_widthIn y_B_widthIn) ∈ TB := kTB (List.mem_append_left _ (by decide +kernel)) rfl
theorem mi_B_widthIn : kM y_B_widthIn b_B_widthIn 2 (some .int) 1 ∧ Cond.instanceMethod y_B_widthIn ∈ TB ∧ Cond.selects R_B y_B_widthIn y_B_widthIn ∈ TB := ⟨⟨wc_B_widthIn, wi_B, by decide +kernel, by decide +kernel, by decide +kernel⟩, wm_B_widthIn, wsel_B_widthIn⟩
theorem fl_B_87 : (Jvm.Cond.fieldLink "BeamDrawer" (87 : Nat) "BeamDrawer" "oldBall" "I") ∈ TB := kTB (List.mem_append_right _ (List.mem_of_getElem? (i := 48) (by decide +kernel))) rfl
theorem ml_B_99 : (Jvm.Cond.methodLink "BeamDrawer" (99 : Nat) ({ cls := "BeamDrawer", name := "copiesOf", desc := "(I)I" } : Jvm.MethodName)) ∈ TB := kTB (List.mem_append_right _ (List.mem_of_getElem? (i := 97) (by decide +kernel))) rfl
theorem wc_B_copiesOf : (Jvm.Cond.code ({ cls := "BeamDrawer", name := "copiesOf", desc := "(I)I" } : Jvm.MethodName) prog_1_method_33_code (2 : Nat) (Option.some Jvm.ClassFile.FieldType.int)) ∈ TB := kTB (List.mem_append_right _ (List.mem_of_getElem? (i := 100) (by decide +kernel))) rfl
theorem wm_B_copiesOf : (Jvm.Cond.instanceMethod ({ cls := "BeamDrawer", name := "copiesOf", desc := "(I)I" } : Jvm.MethodName)) ∈ TB := kTB (List.mem_append_right _ (List.mem_of_getElem? (i := 99) (by decide +kernel))) rfl
theorem wsel_B_copiesOf : (Jvm.Cond.selects "BeamDrawer" y_B_copiesOf y_B_copiesOf) ∈ TB := kTB (List.mem_append_left _ (by decide +kernel)) rfl
theorem mi_B_copiesOf : kM y_B_copiesOf b_B_copiesOf 2 (some .int) 1 ∧ Cond.instanceMethod y_B_copiesOf ∈ TB ∧ Cond.selects R_B y_B_copiesOf y_B_copiesOf ∈ TB := ⟨⟨wc_B_copiesOf, wi_B, by decide +kernel, by decide +kernel, by decide +kernel⟩, wm_B_copiesOf, wsel_B_copiesOf⟩
theorem ml_B_165 : (Jvm.Cond.methodLink "BeamDrawer" (165 : Nat) ({ cls := "BeamDrawer", name := "behindCopy", desc := "(II)I" } : Jvm.MethodName)) ∈ TB := kTB (List.mem_append_right _ (List.mem_of_getElem? (i := 108) (by decide +kernel))) rfl
theorem wc_B_behindCopy : (Jvm.Cond.code ({ cls := "BeamDrawer", name := "behindCopy", desc := "(II)I" } : Jvm.MethodName) prog_1_method_36_code (3 : Nat) (Option.some Jvm.ClassFile.FieldType.int)) ∈ TB := kTB (List.mem_append_right _ (List.mem_of_getElem? (i := 110) (by decide +kernel))) rfl
theorem wst_B_behindCopy : (Jvm.Cond.static ({ cls := "BeamDrawer", name := "behindCopy", desc := "(II)I" } : Jvm.MethodName)) ∈ TB := kTB (List.mem_append_right _ (List.mem_of_getElem? (i := 109) (by decide +kernel))) rfl
theorem ms_B_behindCopy : kM y_B_behindCopy b_B_behindCopy 3 (some .int) 2 ∧ Cond.static y_B_behindCopy ∈ TB := ⟨⟨wc_B_behindCopy, wi_B, by decide +kernel, by decide +kernel, by decide +kernel⟩, wst_B_behindCopy⟩
theorem fl_B_13 : (Jvm.Cond.fieldLink "BeamDrawer" (13 : Nat) "BeamDrawer" "oldShapes" "[I") ∈ TB := kTB (List.mem_append_right _ (List.mem_of_getElem? (i := 43) (by decide +kernel))) rfl
theorem ml_B_159 : (Jvm.Cond.methodLink "BeamDrawer" (159 : Nat) ({ cls := "BeamDrawer", name := "isFieldAt", desc := "(I)Z" } : Jvm.MethodName)) ∈ TB := kTB (List.mem_append_right _ (List.mem_of_getElem? (i := 127) (by decide +kernel))) rfl
theorem wc_B_isFieldAt : (Jvm.Cond.code ({ cls := "BeamDrawer", name := "isFieldAt", desc := "(I)Z" } : Jvm.MethodName) prog_1_method_31_code (3 : Nat) (Option.some Jvm.ClassFile.FieldType.boolean)) ∈ TB := kTB (List.mem_append_right _ (List.mem_of_getElem? (i := 130) (by decide +kernel))) rfl
theorem wm_B_isFieldAt : (Jvm.Cond.instanceMethod ({ cls := "BeamDrawer", name := "isFieldAt", desc := "(I)Z" } : Jvm.MethodName)) ∈ TB := kTB (List.mem_append_right _ (List.mem_of_getElem? (i := 129) (by decide +kernel))) rfl
theorem wsel_B_isFieldAt : (Jvm.Cond.selects "BeamDrawer" y_B_isFieldAt y_B_isFieldAt) ∈ TB := kTB (List.mem_append_left _ (by decide +kernel)) rfl
theorem mi_B_isFieldAt : kM y_B_isFieldAt b_B_isFieldAt 3 (some .boolean) 1 ∧ Cond.instanceMethod y_B_isFieldAt ∈ TB ∧ Cond.selects R_B y_B_isFieldAt y_B_isFieldAt ∈ TB := ⟨⟨wc_B_isFieldAt, wi_B, by decide +kernel, by decide +kernel, by decide +kernel⟩, wm_B_isFieldAt, wsel_B_isFieldAt⟩
theorem ml_B_156 : (Jvm.Cond.methodLink "BeamDrawer" (156 : Nat) ({ cls := "BeamDrawer", name := "isBallAt", desc := "(I)Z" } : Jvm.MethodName)) ∈ TB := kTB (List.mem_append_right _ (List.mem_of_getElem? (i := 123) (by decide +kernel))) rfl
theorem wc_B_isBallAt : (Jvm.Cond.code ({ cls := "BeamDrawer", name := "isBallAt", desc := "(I)Z" } : Jvm.MethodName) prog_1_method_30_code (3 : Nat) (Option.some Jvm.ClassFile.FieldType.boolean)) ∈ TB := kTB (List.mem_append_right _ (List.mem_of_getElem? (i := 126) (by decide +kernel))) rfl
theorem wm_B_isBallAt : (Jvm.Cond.instanceMethod ({ cls := "BeamDrawer", name := "isBallAt", desc := "(I)Z" } : Jvm.MethodName)) ∈ TB := kTB (List.mem_append_right _ (List.mem_of_getElem? (i := 125) (by decide +kernel))) rfl
theorem wsel_B_isBallAt : (Jvm.Cond.selects "BeamDrawer" y_B_isBallAt y_B_isBallAt) ∈ TB := kTB (List.mem_append_left _ (by decide +kernel)) rfl
theorem mi_B_isBallAt : kM y_B_isBallAt b_B_isBallAt 3 (some .boolean) 1 ∧ Cond.instanceMethod y_B_isBallAt ∈ TB ∧ Cond.selects R_B y_B_isBallAt y_B_isBallAt ∈ TB := ⟨⟨wc_B_isBallAt, wi_B, by decide +kernel, by decide +kernel, by decide +kernel⟩, wm_B_isBallAt, wsel_B_isBallAt⟩
theorem ml_B_153 : (Jvm.Cond.methodLink "BeamDrawer" (153 : Nat) ({ cls := "BeamDrawer", name := "isMissileAt", desc := "(II)Z" } : Jvm.MethodName)) ∈ TB := kTB (List.mem_append_right _ (List.mem_of_getElem? (i := 115) (by decide +kernel))) rfl
theorem wc_B_isMissileAt : (Jvm.Cond.code ({ cls := "BeamDrawer", name := "isMissileAt", desc := "(II)Z" } : Jvm.MethodName) prog_1_method_29_code (3 : Nat) (Option.some Jvm.ClassFile.FieldType.boolean)) ∈ TB := kTB (List.mem_append_right _ (List.mem_of_getElem? (i := 118) (by decide +kernel))) rfl
theorem wm_B_isMissileAt : (Jvm.Cond.instanceMethod ({ cls := "BeamDrawer", name := "isMissileAt", desc := "(II)Z" } : Jvm.MethodName)) ∈ TB := kTB (List.mem_append_right _ (List.mem_of_getElem? (i := 117) (by decide +kernel))) rfl
theorem wsel_B_isMissileAt : (Jvm.Cond.selects "BeamDrawer" y_B_isMissileAt y_B_isMissileAt) ∈ TB := kTB (List.mem_append_left _ (by decide +kernel)) rfl
theorem mi_B_isMissileAt : kM y_B_isMissileAt b_B_isMissileAt 3 (some .boolean) 2 ∧ Cond.instanceMethod y_B_isMissileAt ∈ TB ∧ Cond.selects R_B y_B_isMissileAt y_B_isMissileAt ∈ TB := ⟨⟨wc_B_isMissileAt, wi_B, by decide +kernel, by decide +kernel, by decide +kernel⟩, wm_B_isMissileAt, wsel_B_isMissileAt⟩
theorem ml_B_150 : (Jvm.Cond.methodLink "BeamDrawer" (150 : Nat) ({ cls := "BeamDrawer", name := "isPlayerAt", desc := "(II)Z" } : Jvm.MethodName)) ∈ TB := kTB (List.mem_append_right _ (List.mem_of_getElem? (i := 89) (by decide +kernel))) rfl
theorem wc_B_isPlayerAt : (Jvm.Cond.code ({ cls := "BeamDrawer", name := "isPlayerAt", desc := "(II)Z" } : Jvm.MethodName) prog_1_method_28_code (7 : Nat) (Option.some Jvm.ClassFile.FieldType.boolean)) ∈ TB := kTB (List.mem_append_right _ (List.mem_of_getElem? (i := 92) (by decide +kernel))) rfl
theorem wm_B_isPlayerAt : (Jvm.Cond.instanceMethod ({ cls := "BeamDrawer", name := "isPlayerAt", desc := "(II)Z" } : Jvm.MethodName)) ∈ TB := kTB (List.mem_append_right _ (List.mem_of_getElem? (i := 91) (by decide +kernel))) rfl
theorem wsel_B_isPlayerAt : (Jvm.Cond.selects "BeamDrawer" y_B_isPlayerAt y_B_isPlayerAt) ∈ TB := kTB (List.mem_append_left _ (by decide +kernel)) rfl
theorem mi_B_isPlayerAt : kM y_B_isPlayerAt b_B_isPlayerAt 7 (some .boolean) 2 ∧ Cond.instanceMethod y_B_isPlayerAt ∈ TB ∧ Cond.selects R_B y_B_isPlayerAt y_B_isPlayerAt ∈ TB := ⟨⟨wc_B_isPlayerAt, wi_B, by decide +kernel, by decide +kernel, by decide +kernel⟩, wm_B_isPlayerAt, wsel_B_isPlayerAt⟩
theorem ml_B_142 : (Jvm.Cond.methodLink "BeamDrawer" (142 : Nat) ({ cls := "BeamDrawer", name := "fieldColour", desc := "(II)I" } : Jvm.MethodName)) ∈ TB := kTB (List.mem_append_right _ (List.mem_of_getElem? (i := 139) (by decide +kernel))) rfl
theorem wc_B_fieldColour : (Jvm.Cond.code ({ cls := "BeamDrawer", name := "fieldColour", desc := "(II)I" } : Jvm.MethodName) prog_1_method_24_code (3 : Nat) (Option.some Jvm.ClassFile.FieldType.int)) ∈ TB := kTB (List.mem_append_right _ (List.mem_of_getElem? (i := 142) (by decide +kernel))) rfl
theorem wm_B_fieldColour : (Jvm.Cond.instanceMethod ({ cls := "BeamDrawer", name := "fieldColour", desc := "(II)I" } : Jvm.MethodName)) ∈ TB := kTB (List.mem_append_right _ (List.mem_of_getElem? (i := 141) (by decide +kernel))) rfl
theorem wsel_B_fieldColour : (Jvm.Cond.selects "BeamDrawer" y_B_fieldColour y_B_fieldColour) ∈ TB := kTB (List.mem_append_left _ (by decide +kernel)) rfl
theorem mi_B_fieldColour : kM y_B_fieldColour b_B_fieldColour 3 (some .int) 2 ∧ Cond.instanceMethod y_B_fieldColour ∈ TB ∧ Cond.selects R_B y_B_fieldColour y_B_fieldColour ∈ TB := ⟨⟨wc_B_fieldColour, wi_B, by decide +kernel, by decide +kernel, by decide +kernel⟩, wm_B_fieldColour, wsel_B_fieldColour⟩
theorem fl_B_22 : (Jvm.Cond.fieldLink "BeamDrawer" (22 : Nat) "BeamDrawer" "meetings" "[I") ∈ TB := kTB (List.mem_append_right _ (List.mem_of_getElem? (i := 46) (by decide +kernel))) rfl
theorem ml_B_145 : (Jvm.Cond.methodLink "BeamDrawer" (145 : Nat) ({ cls := "java/lang/Integer", name := "bitCount", desc := "(I)I" } : Jvm.MethodName)) ∈ TB := kTB (List.mem_append_right _ (List.mem_of_getElem? (i := 339) (by decide +kernel))) rfl
theorem wc_JI_bitCount : (Jvm.Cond.code ({ cls := "java/lang/Integer", name := "bitCount", desc := "(I)I" } : Jvm.MethodName) prog_7_method_49_code (1 : Nat) (Option.some Jvm.ClassFile.FieldType.int)) ∈ TB := kTB (List.mem_append_right _ (List.mem_of_getElem? (i := 341) (by decide +kernel))) rfl
theorem wi_JI : (Jvm.Cond.initialized "java/lang/Integer") ∈ TB := kTB (List.mem_append_right _ (List.mem_of_getElem? (i := 11) (by decide +kernel))) rfl
theorem wst_JI_bitCount : (Jvm.Cond.static ({ cls := "java/lang/Integer", name := "bitCount", desc := "(I)I" } : Jvm.MethodName)) ∈ TB := kTB (List.mem_append_right _ (List.mem_of_getElem? (i := 340) (by decide +kernel))) rfl
theorem ms_JI_bitCount : kM y_JI_bitCount b_JI_bitCount 1 (some .int) 1 ∧ Cond.static y_JI_bitCount ∈ TB := ⟨⟨wc_JI_bitCount, wi_JI, by decide +kernel, by decide +kernel, by decide +kernel⟩, wst_JI_bitCount⟩
theorem ml_JA_13 : (Jvm.Cond.methodLink "java/util/Arrays" (13 : Nat) ({ cls := "java/util/Arrays", name := "rangeCheck", desc := "(III)V" } : Jvm.MethodName)) ∈ TB := kTB (List.mem_append_right _ (List.mem_of_getElem? (i := 256) (by decide +kernel))) rfl
theorem wc_JA_rangeCheck : (Jvm.Cond.code ({ cls := "java/util/Arrays", name := "rangeCheck", desc := "(III)V" } : Jvm.MethodName) prog_11_method_30_code (3 : Nat) (Option.none : Option Jvm.ClassFile.FieldType)) ∈ TB := kTB (List.mem_append_right _ (List.mem_of_getElem? (i := 258) (by decide +kernel))) rfl
theorem wi_JA : (Jvm.Cond.initialized "java/util/Arrays") ∈ TB := kTB (List.mem_append_right _ (List.mem_of_getElem? (i := 10) (by decide +kernel))) rfl
theorem wst_JA_rangeCheck : (Jvm.Cond.static ({ cls := "java/util/Arrays", name := "rangeCheck", desc := "(III)V" } : Jvm.MethodName)) ∈ TB := kTB (List.mem_append_right _ (List.mem_of_getElem? (i := 257) (by decide +kernel))) rfl
theorem ms_JA_rangeCheck : kM y_JA_rangeCheck b_JA_rangeCheck 3 none 3 ∧ Cond.static y_JA_rangeCheck ∈ TB := ⟨⟨wc_JA_rangeCheck, wi_JA, by decide +kernel, by decide +kernel, by decide +kernel⟩, wst_JA_rangeCheck⟩
theorem fl_T_18 : (Jvm.Cond.fieldLink "BeamDrawer$Timer" (18 : Nat) "BeamDrawer$Timer" "value" "I") ∈ TB := kTB (List.mem_append_right _ (List.mem_of_getElem? (i := 26) (by decide +kernel))) rfl
theorem fl_T_21 : (Jvm.Cond.fieldLink "BeamDrawer$Timer" (21 : Nat) "BeamDrawer$Timer" "rung" "Z") ∈ TB := kTB (List.mem_append_right _ (List.mem_of_getElem? (i := 30) (by decide +kernel))) rfl
theorem fl_T_9 : (Jvm.Cond.fieldLink "BeamDrawer$Timer" (9 : Nat) "BeamDrawer$Timer" "interval" "I") ∈ TB := kTB (List.mem_append_right _ (List.mem_of_getElem? (i := 28) (by decide +kernel))) rfl
theorem fl_T_15 : (Jvm.Cond.fieldLink "BeamDrawer$Timer" (15 : Nat) "BeamDrawer$Timer" "clocksLeft" "I") ∈ TB := kTB (List.mem_append_right _ (List.mem_of_getElem? (i := 29) (by decide +kernel))) rfl
theorem fl_B_49 : (Jvm.Cond.fieldLink "BeamDrawer" (49 : Nat) "BeamDrawer" "clock" "I") ∈ TB := kTB (List.mem_append_right _ (List.mem_of_getElem? (i := 49) (by decide +kernel))) rfl
theorem fl_B_73 : (Jvm.Cond.fieldLink "BeamDrawer" (73 : Nat) "BeamDrawer" "line" "I") ∈ TB := kTB (List.mem_append_right _ (List.mem_of_getElem? (i := 50) (by decide +kernel))) rfl
theorem fl_B_19 : (Jvm.Cond.fieldLink "BeamDrawer" (19 : Nat) "BeamDrawer" "colours" "[I") ∈ TB := kTB (List.mem_append_right _ (List.mem_of_getElem? (i := 45) (by decide +kernel))) rfl
theorem ml_B_136 : (Jvm.Cond.methodLink "BeamDrawer" (136 : Nat) ({ cls := "BeamDrawer", name := "colourAt", desc := "(II)I" } : Jvm.MethodName)) ∈ TB := kTB (List.mem_append_right _ (List.mem_of_getElem? (i := 135) (by decide +kernel))) rfl
theorem wc_B_colourAt : (Jvm.Cond.code ({ cls := "BeamDrawer", name := "colourAt", desc := "(II)I" } : Jvm.MethodName) prog_1_method_23_code (4 : Nat) (Option.some Jvm.ClassFile.FieldType.int)) ∈ TB := kTB (List.mem_append_right _ (List.mem_of_getElem? (i := 138) (by decide +kernel))) rfl
theorem wm_B_colourAt : (Jvm.Cond.instanceMethod ({ cls := "BeamDrawer", name := "colourAt", desc := "(II)I" } : Jvm.MethodName)) ∈ TB := kTB (List.mem_append_right _ (List.mem_of_getElem? (i := 137) (by decide +kernel))) rfl
theorem wsel_B_colourAt : (Jvm.Cond.selects "BeamDrawer" y_B_colourAt y_B_colourAt) ∈ TB := kTB (List.mem_append_left _ (by decide +kernel)) rfl
theorem mi_B_colourAt : kM y_B_colourAt b_B_colourAt 4 (some .int) 2 ∧ Cond.instanceMethod y_B_colourAt ∈ TB ∧ Cond.selects R_B y_B_colourAt y_B_colourAt ∈ TB := ⟨⟨wc_B_colourAt, wi_B, by decide +kernel, by decide +kernel, by decide +kernel⟩, wm_B_colourAt, wsel_B_colourAt⟩
theorem ml_B_139 : (Jvm.Cond.methodLink "BeamDrawer" (139 : Nat) ({ cls := "BeamDrawer", name := "keepMeetings", desc := "(I)V" } : Jvm.MethodName)) ∈ TB := kTB (List.mem_append_right _ (List.mem_of_getElem? (i := 143) (by decide +kernel))) rfl
theorem wc_B_keepMeetings : (Jvm.Cond.code ({ cls := "BeamDrawer", name := "keepMeetings", desc := "(I)V" } : Jvm.MethodName) prog_1_method_25_code (4 : Nat) (Option.none : Option Jvm.ClassFile.FieldType)) ∈ TB := kTB (List.mem_append_right _ (List.mem_of_getElem? (i := 146) (by decide +kernel))) rfl
theorem wm_B_keepMeetings : (Jvm.Cond.instanceMethod ({ cls := "BeamDrawer", name := "keepMeetings", desc := "(I)V" } : Jvm.MethodName)) ∈ TB := kTB (List.mem_append_right _ (List.mem_of_getElem? (i := 145) (by decide +kernel))) rfl
theorem wsel_B_keepMeetings : (Jvm.Cond.selects "BeamDrawer" y_B_keepMeetings y_B_keepMeetings) ∈ TB := kTB (List.mem_append_left _ (by decide +kernel)) rfl
theorem mi_B_keepMeetings : kM y_B_keepMeetings b_B_keepMeetings 4 none 1 ∧ Cond.instanceMethod y_B_keepMeetings ∈ TB ∧ Cond.selects R_B y_B_keepMeetings y_B_keepMeetings ∈ TB := ⟨⟨wc_B_keepMeetings, wi_B, by decide +kernel, by decide +kernel, by decide +kernel⟩, wm_B_keepMeetings, wsel_B_keepMeetings⟩
theorem ml_B_60 : (Jvm.Cond.methodLink "BeamDrawer" (60 : Nat) ({ cls := "BeamDrawer", name := "isAt", desc := "(II)Z" } : Jvm.MethodName)) ∈ TB := kTB (List.mem_append_right _ (List.mem_of_getElem? (i := 85) (by decide +kernel))) rfl
theorem wc_B_isAt : (Jvm.Cond.code ({ cls := "BeamDrawer", name := "isAt", desc := "(II)Z" } : Jvm.MethodName) prog_1_method_27_code (3 : Nat) (Option.some Jvm.ClassFile.FieldType.boolean)) ∈ TB := kTB (List.mem_append_right _ (List.mem_of_getElem? (i := 88) (by decide +kernel))) rfl
theorem wm_B_isAt : (Jvm.Cond.instanceMethod ({ cls := "BeamDrawer", name := "isAt", desc := "(II)Z" } : Jvm.MethodName)) ∈ TB := kTB (List.mem_append_right _ (List.mem_of_getElem? (i := 87) (by decide +kernel))) rfl
theorem wsel_B_isAt : (Jvm.Cond.selects "BeamDrawer" y_B_isAt y_B_isAt) ∈ TB := kTB (List.mem_append_left _ (by decide +kernel)) rfl
theorem mi_B_isAt : kM y_B_isAt b_B_isAt 3 (some .boolean) 2 ∧ Cond.instanceMethod y_B_isAt ∈ TB ∧ Cond.selects R_B y_B_isAt y_B_isAt ∈ TB := ⟨⟨wc_B_isAt, wi_B, by decide +kernel, by decide +kernel, by decide +kernel⟩, wm_B_isAt, wsel_B_isAt⟩
theorem fl_B_28 : (Jvm.Cond.fieldLink "BeamDrawer" (28 : Nat) "BeamDrawer" "timer" "LBeamDrawer$Timer;") ∈ TB := kTB (List.mem_append_right _ (List.mem_of_getElem? (i := 47) (by decide +kernel))) rfl
theorem ml_B_130 : (Jvm.Cond.methodLinkNest "BeamDrawer" (130 : Nat) ({ cls := "BeamDrawer$Timer", name := "tick", desc := "()V" } : Jvm.MethodName) "BeamDrawer") ∈ TB := kTB (List.mem_append_right _ (List.mem_of_getElem? (i := 147) (by decide +kernel))) rfl
theorem wc_T_tick : (Jvm.Cond.code ({ cls := "BeamDrawer$Timer", name := "tick", desc := "()V" } : Jvm.MethodName) prog_2_method_3_code (1 : Nat) (Option.none : Option Jvm.ClassFile.FieldType)) ∈ TB := kTB (List.mem_append_right _ (List.mem_of_getElem? (i := 150) (by decide +kernel))) rfl
theorem wi_T : (Jvm.Cond.initialized "BeamDrawer$Timer") ∈ TB := kTB (List.mem_append_right _ (List.mem_of_getElem? (i := 2) (by decide +kernel))) rfl
theorem wm_T_tick : (Jvm.Cond.instanceMethod ({ cls := "BeamDrawer$Timer", name := "tick", desc := "()V" } : Jvm.MethodName)) ∈ TB := kTB (List.mem_append_right _ (List.mem_of_getElem? (i := 149) (by decide +kernel))) rfl
theorem wsel_T_tick : (Jvm.Cond.selects "BeamDrawer$Timer" y_T_tick y_T_tick) ∈ TB := kTB (List.mem_append_left _ (by decide +kernel)) rfl
theorem mi_T_tick : kM y_T_tick b_T_tick 1 none 0 ∧ Cond.instanceMethod y_T_tick ∈ TB ∧ Cond.selects R_T y_T_tick y_T_tick ∈ TB := ⟨⟨wc_T_tick, wi_T, by decide +kernel, by decide +kernel, by decide +kernel⟩, wm_T_tick, wsel_T_tick⟩
theorem ml_B_133 : (Jvm.Cond.methodLink "BeamDrawer" (133 : Nat) ({ cls := "BeamDrawer", name := "stepClock", desc := "()V" } : Jvm.MethodName)) ∈ TB := kTB (List.mem_append_right _ (List.mem_of_getElem? (i := 151) (by decide +kernel))) rfl
theorem wc_B_stepClock : (Jvm.Cond.code ({ cls := "BeamDrawer", name := "stepClock", desc := "()V" } : Jvm.MethodName) prog_1_method_21_code (1 : Nat) (Option.none : Option Jvm.ClassFile.FieldType)) ∈ TB := kTB (List.mem_append_right _ (List.mem_of_getElem? (i := 154) (by decide +kernel))) rfl
theorem wm_B_stepClock : (Jvm.Cond.instanceMethod ({ cls := "BeamDrawer", name := "stepClock", desc := "()V" } : Jvm.MethodName)) ∈ TB := kTB (List.mem_append_right _ (List.mem_of_getElem? (i := 153) (by decide +kernel))) rfl
theorem wsel_B_stepClock : (Jvm.Cond.selects "BeamDrawer" y_B_stepClock y_B_stepClock) ∈ TB := kTB (List.mem_append_left _ (by decide +kernel)) rfl
theorem mi_B_stepClock : kM y_B_stepClock b_B_stepClock 1 none 0 ∧ Cond.instanceMethod y_B_stepClock ∈ TB ∧ Cond.selects R_B y_B_stepClock y_B_stepClock ∈ TB := ⟨⟨wc_B_stepClock, wi_B, by decide +kernel, by decide +kernel, by decide +kernel⟩, wm_B_stepClock, wsel_B_stepClock⟩
theorem fl_B_84 : (Jvm.Cond.fieldLink "BeamDrawer" (84 : Nat) "BeamDrawer" "drawn" "I") ∈ TB := kTB (List.mem_append_right _ (List.mem_of_getElem? (i := 51) (by decide +kernel))) rfl
theorem ml_B_127 : (Jvm.Cond.methodLink "BeamDrawer" (127 : Nat) ({ cls := "BeamDrawer", name := "draw", desc := "(I)V" } : Jvm.MethodName)) ∈ TB := kTB (List.mem_append_right _ (List.mem_of_getElem? (i := 81) (by decide +kernel))) rfl
theorem wc_B_draw : (Jvm.Cond.code ({ cls := "BeamDrawer", name := "draw", desc := "(I)V" } : Jvm.MethodName) prog_1_method_22_code (4 : Nat) (Option.none : Option Jvm.ClassFile.FieldType)) ∈ TB := kTB (List.mem_append_right _ (List.mem_of_getElem? (i := 84) (by decide +kernel))) rfl
theorem wm_B_draw : (Jvm.Cond.instanceMethod ({ cls := "BeamDrawer", name := "draw", desc := "(I)V" } : Jvm.MethodName)) ∈ TB := kTB (List.mem_append_right _ (List.mem_of_getElem? (i := 83) (by decide +kernel))) rfl
theorem wsel_B_draw : (Jvm.Cond.selects "BeamDrawer" y_B_draw y_B_draw) ∈ TB := kTB (List.mem_append_left _ (by decide +kernel)) rfl
theorem mi_B_draw : kM y_B_draw b_B_draw 4 none 1 ∧ Cond.instanceMethod y_B_draw ∈ TB ∧ Cond.selects R_B y_B_draw y_B_draw ∈ TB := ⟨⟨wc_B_draw, wi_B, by decide +kernel, by decide +kernel, by decide +kernel⟩, wm_B_draw, wsel_B_draw⟩
theorem ml_B_118 : (Jvm.Cond.methodLink "BeamDrawer" (118 : Nat) ({ cls := "BeamDrawer", name := "motionOf", desc := "(I)I" } : Jvm.MethodName)) ∈ TB := kTB (List.mem_append_right _ (List.mem_of_getElem? (i := 249) (by decide +kernel))) rfl
theorem wc_B_motionOf : (Jvm.Cond.code ({ cls := "BeamDrawer", name := "motionOf", desc := "(I)I" } : Jvm.MethodName) prog_1_method_19_code (3 : Nat) (Option.some Jvm.ClassFile.FieldType.int)) ∈ TB := kTB (List.mem_append_right _ (List.mem_of_getElem? (i := 252) (by decide +kernel))) rfl
theorem wm_B_motionOf : (Jvm.Cond.instanceMethod ({ cls := "BeamDrawer", name := "motionOf", desc := "(I)I" } : Jvm.MethodName)) ∈ TB := kTB (List.mem_append_right _ (List.mem_of_getElem? (i := 251) (by decide +kernel))) rfl
theorem wsel_B_motionOf : (Jvm.Cond.selects "BeamDrawer" y_B_motionOf y_B_motionOf) ∈ TB := kTB (List.mem_append_left _ (by decide +kernel)) rfl
theorem mi_B_motionOf : kM y_B_motionOf b_B_motionOf 3 (some .int) 1 ∧ Cond.instanceMethod y_B_motionOf ∈ TB ∧ Cond.selects R_B y_B_motionOf y_B_motionOf ∈ TB := ⟨⟨wc_B_motionOf, wi_B, by decide +kernel, by decide +kernel, by decide +kernel⟩, wm_B_motionOf, wsel_B_motionOf⟩
theorem ml_B_103 : (Jvm.Cond.methodLink "BeamDrawer" (103 : Nat) ({ cls := "BeamDrawer", name := "moveAll", desc := "()V" } : Jvm.MethodName)) ∈ TB := kTB (List.mem_append_right _ (List.mem_of_getElem? (i := 245) (by decide +kernel))) rfl
theorem wc_B_moveAll : (Jvm.Cond.code ({ cls := "BeamDrawer", name := "moveAll", desc := "()V" } : Jvm.MethodName) prog_1_method_18_code (2 : Nat) (Option.none : Option Jvm.ClassFile.FieldType)) ∈ TB := kTB (List.mem_append_right _ (List.mem_of_getElem? (i := 248) (by decide +kernel))) rfl
theorem wm_B_moveAll : (Jvm.Cond.instanceMethod ({ cls := "BeamDrawer", name := "moveAll", desc := "()V" } : Jvm.MethodName)) ∈ TB := kTB (List.mem_append_right _ (List.mem_of_getElem? (i := 247) (by decide +kernel))) rfl
theorem wsel_B_moveAll : (Jvm.Cond.selects "BeamDrawer" y_B_moveAll y_B_moveAll) ∈ TB := kTB (List.mem_append_left _ (by decide +kernel)) rfl
theorem mi_B_moveAll : kM y_B_moveAll b_B_moveAll 2 none 0 ∧ Cond.instanceMethod y_B_moveAll ∈ TB ∧ Cond.selects R_B y_B_moveAll y_B_moveAll ∈ TB := ⟨⟨wc_B_moveAll, wi_B, by decide +kernel, by decide +kernel, by decide +kernel⟩, wm_B_moveAll, wsel_B_moveAll⟩
theorem ml_B_106 : (Jvm.Cond.methodLink "BeamDrawer" (106 : Nat) ({ cls := "java/util/Arrays", name := "fill", desc := "([IIII)V" } : Jvm.MethodName)) ∈ TB := kTB (List.mem_append_right _ (List.mem_of_getElem? (i := 253) (by decide +kernel))) rfl
theorem wc_JA_fill4 : (Jvm.Cond.code ({ cls := "java/util/Arrays", name := "fill", desc := "([IIII)V" } : Jvm.MethodName) prog_11_method_104_code (5 : Nat) (Option.none : Option Jvm.ClassFile.FieldType)) ∈ TB := kTB (List.mem_append_right _ (List.mem_of_getElem? (i := 255) (by decide +kernel))) rfl
theorem wst_JA_fill4 : (Jvm.Cond.static ({ cls := "java/util/Arrays", name := "fill", desc := "([IIII)V" } : Jvm.MethodName)) ∈ TB := kTB (List.mem_append_right _ (List.mem_of_getElem? (i := 254) (by decide +kernel))) rfl
theorem ms_JA_fill4 : kM y_JA_fill4 b_JA_fill4 5 none 4 ∧ Cond.static y_JA_fill4 ∈ TB := ⟨⟨wc_JA_fill4, wi_JA, by decide +kernel, by decide +kernel, by decide +kernel⟩, wst_JA_fill4⟩
theorem ml_B_112 : (Jvm.Cond.methodLink "BeamDrawer" (112 : Nat) ({ cls := "java/util/Arrays", name := "fill", desc := "([II)V" } : Jvm.MethodName)) ∈ TB := kTB (List.mem_append_right _ (List.mem_of_getElem? (i := 259) (by decide +kernel))) rfl
theorem wc_JA_fill2 : (Jvm.Cond.code ({ cls := "java/util/Arrays", name := "fill", desc := "([II)V" } : Jvm.MethodName) prog_11_method_103_code (4 : Nat) (Option.none : Option Jvm.ClassFile.FieldType)) ∈ TB := kTB (List.mem_append_right _ (List.mem_of_getElem? (i := 261) (by decide +kernel))) rfl
theorem wst_JA_fill2 : (Jvm.Cond.static ({ cls := "java/util/Arrays", name := "fill", desc := "([II)V" } : Jvm.MethodName)) ∈ TB := kTB (List.mem_append_right _ (List.mem_of_getElem? (i := 260) (by decide +kernel))) rfl
theorem ms_JA_fill2 : kM y_JA_fill2 b_JA_fill2 4 none 2 ∧ Cond.static y_JA_fill2 ∈ TB := ⟨⟨wc_JA_fill2, wi_JA, by decide +kernel, by decide +kernel, by decide +kernel⟩, wst_JA_fill2⟩
theorem ml_B_115 : (Jvm.Cond.methodLink "BeamDrawer" (115 : Nat) ({ cls := "BeamDrawer", name := "put", desc := "(I)V" } : Jvm.MethodName)) ∈ TB := kTB (List.mem_append_right _ (List.mem_of_getElem? (i := 262) (by decide +kernel))) rfl
theorem wc_B_put : (Jvm.Cond.code ({ cls := "BeamDrawer", name := "put", desc := "(I)V" } : Jvm.MethodName) prog_1_method_17_code (3 : Nat) (Option.none : Option Jvm.ClassFile.FieldType)) ∈ TB := kTB (List.mem_append_right _ (List.mem_of_getElem? (i := 265) (by decide +kernel))) rfl
theorem wm_B_put : (Jvm.Cond.instanceMethod ({ cls := "BeamDrawer", name := "put", desc := "(I)V" } : Jvm.MethodName)) ∈ TB := kTB (List.mem_append_right _ (List.mem_of_getElem? (i := 264) (by decide +kernel))) rfl
theorem wsel_B_put : (Jvm.Cond.selects "BeamDrawer" y_B_put y_B_put) ∈ TB := kTB (List.mem_append_left _ (by decide +kernel)) rfl
theorem mi_B_put : kM y_B_put b_B_put 3 none 1 ∧ Cond.instanceMethod y_B_put ∈ TB ∧ Cond.selects R_B y_B_put y_B_put ∈ TB := ⟨⟨wc_B_put, wi_B, by decide +kernel, by decide +kernel, by decide +kernel⟩, wm_B_put, wsel_B_put⟩
theorem ml_B_93 : (Jvm.Cond.methodLink "BeamDrawer" (93 : Nat) ({ cls := "BeamDrawer", name := "unlock", desc := "(I)V" } : Jvm.MethodName)) ∈ TB := kTB (List.mem_append_right _ (List.mem_of_getElem? (i := 270) (by decide +kernel))) rfl
theorem wc_B_unlock : (Jvm.Cond.code ({ cls := "BeamDrawer", name := "unlock", desc := "(I)V" } : Jvm.MethodName) prog_1_method_15_code (3 : Nat) (Option.none : Option Jvm.ClassFile.FieldType)) ∈ TB := kTB (List.mem_append_right _ (List.mem_of_getElem? (i := 273) (by decide +kernel))) rfl
theorem wm_B_unlock : (Jvm.Cond.instanceMethod ({ cls := "BeamDrawer", name := "unlock", desc := "(I)V" } : Jvm.MethodName)) ∈ TB := kTB (List.mem_append_right _ (List.mem_of_getElem? (i := 272) (by decide +kernel))) rfl
theorem wsel_B_unlock : (Jvm.Cond.selects "BeamDrawer" y_B_unlock y_B_unlock) ∈ TB := kTB (List.mem_append_left _ (by decide +kernel)) rfl
theorem mi_B_unlock : kM y_B_unlock b_B_unlock 3 none 1 ∧ Cond.instanceMethod y_B_unlock ∈ TB ∧ Cond.selects R_B y_B_unlock y_B_unlock ∈ TB := ⟨⟨wc_B_unlock, wi_B, by decide +kernel, by decide +kernel, by decide +kernel⟩, wm_B_unlock, wsel_B_unlock⟩
theorem ml_B_42 : (Jvm.Cond.methodLink "BeamDrawer" (42 : Nat) ({ cls := "BeamDrawer", name := "store", desc := "(II)V" } : Jvm.MethodName)) ∈ TB := kTB (List.mem_append_right _ (List.mem_of_getElem? (i := 266) (by decide +kernel))) rfl
theorem wc_B_store : (Jvm.Cond.code ({ cls := "BeamDrawer", name := "store", desc := "(II)V" } : Jvm.MethodName) prog_1_method_14_code (3 : Nat) (Option.none : Option Jvm.ClassFile.FieldType)) ∈ TB := kTB (List.mem_append_right _ (List.mem_of_getElem? (i := 269) (by decide +kernel))) rfl
theorem wm_B_store : (Jvm.Cond.instanceMethod ({ cls := "BeamDrawer", name := "store", desc := "(II)V" } : Jvm.MethodName)) ∈ TB := kTB (List.mem_append_right _ (List.mem_of_getElem? (i := 268) (by decide +kernel))) rfl
theorem wsel_B_store : (Jvm.Cond.selects "BeamDrawer" y_B_store y_B_store) ∈ TB := kTB (List.mem_append_left _ (by decide +kernel)) rfl
theorem mi_B_store : kM y_B_store b_B_store 3 none 2 ∧ Cond.instanceMethod y_B_store ∈ TB ∧ Cond.selects R_B y_B_store y_B_store ∈ TB := ⟨⟨wc_B_store, wi_B, by decide +kernel, by decide +kernel, by decide +kernel⟩, wm_B_store, wsel_B_store⟩
theorem ml_B_38 : (Jvm.Cond.methodLink "BeamDrawer" (38 : Nat) ({ cls := "BeamDrawer", name := "strobe", desc := "(I)V" } : Jvm.MethodName)) ∈ TB := kTB (List.mem_append_right _ (List.mem_of_getElem? (i := 241) (by decide +kernel))) rfl
theorem wc_B_strobe : (Jvm.Cond.code ({ cls := "BeamDrawer", name := "strobe", desc := "(I)V" } : Jvm.MethodName) prog_1_method_16_code (2 : Nat) (Option.none : Option Jvm.ClassFile.FieldType)) ∈ TB := kTB (List.mem_append_right _ (List.mem_of_getElem? (i := 244) (by decide +kernel))) rfl
theorem wm_B_strobe : (Jvm.Cond.instanceMethod ({ cls := "BeamDrawer", name := "strobe", desc := "(I)V" } : Jvm.MethodName)) ∈ TB := kTB (List.mem_append_right _ (List.mem_of_getElem? (i := 243) (by decide +kernel))) rfl
theorem wsel_B_strobe : (Jvm.Cond.selects "BeamDrawer" y_B_strobe y_B_strobe) ∈ TB := kTB (List.mem_append_left _ (by decide +kernel)) rfl
theorem mi_B_strobe : kM y_B_strobe b_B_strobe 2 none 1 ∧ Cond.instanceMethod y_B_strobe ∈ TB ∧ Cond.selects R_B y_B_strobe y_B_strobe ∈ TB := ⟨⟨wc_B_strobe, wi_B, by decide +kernel, by decide +kernel, by decide +kernel⟩, wm_B_strobe, wsel_B_strobe⟩
theorem ml_B_46 : (Jvm.Cond.methodLink "BeamDrawer" (46 : Nat) ({ cls := "BeamDrawer", name := "run", desc := "(I)V" } : Jvm.MethodName)) ∈ TB := kTB (List.mem_append_right _ (List.mem_of_getElem? (i := 77) (by decide +kernel))) rfl
theorem wc_B_run : (Jvm.Cond.code ({ cls := "BeamDrawer", name := "run", desc := "(I)V" } : Jvm.MethodName) prog_1_method_20_code (3 : Nat) (Option.none : Option Jvm.ClassFile.FieldType)) ∈ TB := kTB (List.mem_append_right _ (List.mem_of_getElem? (i := 80) (by decide +kernel))) rfl
theorem wm_B_run : (Jvm.Cond.instanceMethod ({ cls := "BeamDrawer", name := "run", desc := "(I)V" } : Jvm.MethodName)) ∈ TB := kTB (List.mem_append_right _ (List.mem_of_getElem? (i := 79) (by decide +kernel))) rfl
theorem wsel_B_run : (Jvm.Cond.selects "BeamDrawer" y_B_run y_B_run) ∈ TB := kTB (List.mem_append_left _ (by decide +kernel)) rfl
theorem mi_B_run : kM y_B_run b_B_run 3 none 1 ∧ Cond.instanceMethod y_B_run ∈ TB ∧ Cond.selects R_B y_B_run y_B_run ∈ TB := ⟨⟨wc_B_run, wi_B, by decide +kernel, by decide +kernel, by decide +kernel⟩, wm_B_run, wsel_B_run⟩
theorem ml_B_53 : (Jvm.Cond.methodLink "BeamDrawer" (53 : Nat) ({ cls := "BeamDrawer", name := "isPixel", desc := "(I)Z" } : Jvm.MethodName)) ∈ TB := kTB (List.mem_append_right _ (List.mem_of_getElem? (i := 288) (by decide +kernel))) rfl
theorem wc_B_isPixel : (Jvm.Cond.code ({ cls := "BeamDrawer", name := "isPixel", desc := "(I)Z" } : Jvm.MethodName) prog_1_method_11_code (1 : Nat) (Option.some Jvm.ClassFile.FieldType.boolean)) ∈ TB := kTB (List.mem_append_right _ (List.mem_of_getElem? (i := 290) (by decide +kernel))) rfl
theorem wst_B_isPixel : (Jvm.Cond.static ({ cls := "BeamDrawer", name := "isPixel", desc := "(I)Z" } : Jvm.MethodName)) ∈ TB := kTB (List.mem_append_right _ (List.mem_of_getElem? (i := 289) (by decide +kernel))) rfl
theorem ms_B_isPixel : kM y_B_isPixel b_B_isPixel 1 (some .boolean) 1 ∧ Cond.static y_B_isPixel ∈ TB := ⟨⟨wc_B_isPixel, wi_B, by decide +kernel, by decide +kernel, by decide +kernel⟩, wst_B_isPixel⟩
theorem ml_B_57 : (Jvm.Cond.methodLink "BeamDrawer" (57 : Nat) ({ cls := "BeamDrawer", name := "isObject", desc := "(I)Z" } : Jvm.MethodName)) ∈ TB := kTB (List.mem_append_right _ (List.mem_of_getElem? (i := 298) (by decide +kernel))) rfl
theorem wc_B_isObject : (Jvm.Cond.code ({ cls := "BeamDrawer", name := "isObject", desc := "(I)Z" } : Jvm.MethodName) prog_1_method_12_code (1 : Nat) (Option.some Jvm.ClassFile.FieldType.boolean)) ∈ TB := kTB (List.mem_append_right _ (List.mem_of_getElem? (i := 300) (by decide +kernel))) rfl
theorem wst_B_isObject : (Jvm.Cond.static ({ cls := "BeamDrawer", name := "isObject", desc := "(I)Z" } : Jvm.MethodName)) ∈ TB := kTB (List.mem_append_right _ (List.mem_of_getElem? (i := 299) (by decide +kernel))) rfl
theorem ms_B_isObject : kM y_B_isObject b_B_isObject 1 (some .boolean) 1 ∧ Cond.static y_B_isObject ∈ TB := ⟨⟨wc_B_isObject, wi_B, by decide +kernel, by decide +kernel, by decide +kernel⟩, wst_B_isObject⟩
theorem fl_B_64 : (Jvm.Cond.fieldLink "BeamDrawer" (64 : Nat) "BeamDrawer" "INTERVALS" "[I") ∈ TB := kTB (List.mem_append_right _ (List.mem_of_getElem? (i := 322) (by decide +kernel))) rfl
theorem fl_B_67 : (Jvm.Cond.fieldLinkNest "BeamDrawer" (67 : Nat) "BeamDrawer$Timer" "value" "I" "BeamDrawer") ∈ TB := kTB (List.mem_append_right _ (List.mem_of_getElem? (i := 27) (by decide +kernel))) rfl
theorem ml_B_70 : (Jvm.Cond.methodLinkNest "BeamDrawer" (70 : Nat) ({ cls := "BeamDrawer$Timer", name := "start", desc := "(II)V" } : Jvm.MethodName) "BeamDrawer") ∈ TB := kTB (List.mem_append_right _ (List.mem_of_getElem? (i := 324) (by decide +kernel))) rfl
theorem wc_T_start : (Jvm.Cond.code ({ cls := "BeamDrawer$Timer", name := "start", desc := "(II)V" } : Jvm.MethodName) prog_2_method_2_code (3 : Nat) (Option.none : Option Jvm.ClassFile.FieldType)) ∈ TB := kTB (List.mem_append_right _ (List.mem_of_getElem? (i := 327) (by decide +kernel))) rfl
theorem wm_T_start : (Jvm.Cond.instanceMethod ({ cls := "BeamDrawer$Timer", name := "start", desc := "(II)V" } : Jvm.MethodName)) ∈ TB := kTB (List.mem_append_right _ (List.mem_of_getElem? (i := 326) (by decide +kernel))) rfl
theorem wsel_T_start : (Jvm.Cond.selects "BeamDrawer$Timer" y_T_start y_T_start) ∈ TB := kTB (List.mem_append_left _ (by decide +kernel)) rfl
theorem mi_T_start : kM y_T_start b_T_start 3 none 2 ∧ Cond.instanceMethod y_T_start ∈ TB ∧ Cond.selects R_T y_T_start y_T_start ∈ TB := ⟨⟨wc_T_start, wi_T, by decide +kernel, by decide +kernel, by decide +kernel⟩, wm_T_start, wsel_T_start⟩
theorem fl_B_76 : (Jvm.Cond.fieldLinkNest "BeamDrawer" (76 : Nat) "BeamDrawer$Timer" "rung" "Z" "BeamDrawer") ∈ TB := kTB (List.mem_append_right _ (List.mem_of_getElem? (i := 31) (by decide +kernel))) rfl
theorem ml_B_80 : (Jvm.Cond.methodLink "BeamDrawer" (80 : Nat) ({ cls := "BeamDrawer", name := "countMeetings", desc := "()I" } : Jvm.MethodName)) ∈ TB := kTB (List.mem_append_right _ (List.mem_of_getElem? (i := 335) (by decide +kernel))) rfl
theorem wc_B_countMeetings : (Jvm.Cond.code ({ cls := "BeamDrawer", name := "countMeetings", desc := "()I" } : Jvm.MethodName) prog_1_method_26_code (6 : Nat) (Option.some Jvm.ClassFile.FieldType.int)) ∈ TB := kTB (List.mem_append_right _ (List.mem_of_getElem? (i := 338) (by decide +kernel))) rfl
theorem wm_B_countMeetings : (Jvm.Cond.instanceMethod ({ cls := "BeamDrawer", name := "countMeetings", desc := "()I" } : Jvm.MethodName)) ∈ TB := kTB (List.mem_append_right _ (List.mem_of_getElem? (i := 337) (by decide +kernel))) rfl
theorem wsel_B_countMeetings : (Jvm.Cond.selects "BeamDrawer" y_B_countMeetings y_B_countMeetings) ∈ TB := kTB (List.mem_append_left _ (by decide +kernel)) rfl
theorem mi_B_countMeetings : kM y_B_countMeetings b_B_countMeetings 6 (some .int) 0 ∧ Cond.instanceMethod y_B_countMeetings ∈ TB ∧ Cond.selects R_B y_B_countMeetings y_B_countMeetings ∈ TB := ⟨⟨wc_B_countMeetings, wi_B, by decide +kernel, by decide +kernel, by decide +kernel⟩, wm_B_countMeetings, wsel_B_countMeetings⟩
theorem fl_M_36 : (Jvm.Cond.fieldLink "BeamDrawerModel" (36 : Nat) "BeamDrawerModel" "thrown" "I") ∈ TB := kTB (List.mem_append_right _ (List.mem_of_getElem? (i := 351) (by decide +kernel))) rfl
theorem fl_M_7 : (Jvm.Cond.fieldLink "BeamDrawerModel" (7 : Nat) "BeamDrawerModel" "registers" "[I") ∈ TB := kTB (List.mem_append_right _ (List.mem_of_getElem? (i := 352) (by decide +kernel))) rfl
theorem ml_M_39 : (Jvm.Cond.methodLink "BeamDrawerModel" (39 : Nat) ({ cls := "BeamDrawerModel", name := "copiesOf", desc := "(I)I" } : Jvm.MethodName)) ∈ TB := kTB (List.mem_append_right _ (List.mem_of_getElem? (i := 440) (by decide +kernel))) rfl
theorem wc_M_copiesOf : (Jvm.Cond.code ({ cls := "BeamDrawerModel", name := "copiesOf", desc := "(I)I" } : Jvm.MethodName) prog_4_method_5_code (2 : Nat) (Option.some Jvm.ClassFile.FieldType.int)) ∈ TB := kTB (List.mem_append_right _ (List.mem_of_getElem? (i := 443) (by decide +kernel))) rfl
theorem wi_M : (Jvm.Cond.initialized "BeamDrawerModel") ∈ TB := kTB (List.mem_append_right _ (List.mem_of_getElem? (i := 3) (by decide +kernel))) rfl
theorem wm_M_copiesOf : (Jvm.Cond.instanceMethod ({ cls := "BeamDrawerModel", name := "copiesOf", desc := "(I)I" } : Jvm.MethodName)) ∈ TB := kTB (List.mem_append_right _ (List.mem_of_getElem? (i := 442) (by decide +kernel))) rfl
theorem wsel_M_copiesOf : (Jvm.Cond.selects "BeamDrawerModel" y_M_copiesOf y_M_copiesOf) ∈ TB := kTB (List.mem_append_left _ (by decide +kernel)) rfl
theorem mi_M_copiesOf : kM y_M_copiesOf b_M_copiesOf 2 (some .int) 1 ∧ Cond.instanceMethod y_M_copiesOf ∈ TB ∧ Cond.selects R_M y_M_copiesOf y_M_copiesOf ∈ TB := ⟨⟨wc_M_copiesOf, wi_M, by decide +kernel, by decide +kernel, by decide +kernel⟩, wm_M_copiesOf, wsel_M_copiesOf⟩
theorem ml_M_43 : (Jvm.Cond.methodLink "BeamDrawerModel" (43 : Nat) ({ cls := "BeamDrawerModel", name := "bit", desc := "(II)Z" } : Jvm.MethodName)) ∈ TB := kTB (List.mem_append_right _ (List.mem_of_getElem? (i := 432) (by decide +kernel))) rfl
theorem wc_M_bit : (Jvm.Cond.code ({ cls := "BeamDrawerModel", name := "bit", desc := "(II)Z" } : Jvm.MethodName) prog_4_method_4_code (3 : Nat) (Option.some Jvm.ClassFile.FieldType.boolean)) ∈ TB := kTB (List.mem_append_right _ (List.mem_of_getElem? (i := 435) (by decide +kernel))) rfl
theorem wm_M_bit : (Jvm.Cond.instanceMethod ({ cls := "BeamDrawerModel", name := "bit", desc := "(II)Z" } : Jvm.MethodName)) ∈ TB := kTB (List.mem_append_right _ (List.mem_of_getElem? (i := 434) (by decide +kernel))) rfl
theorem wsel_M_bit : (Jvm.Cond.selects "BeamDrawerModel" y_M_bit y_M_bit) ∈ TB := kTB (List.mem_append_left _ (by decide +kernel)) rfl
theorem mi_M_bit : kM y_M_bit b_M_bit 3 (some .boolean) 2 ∧ Cond.instanceMethod y_M_bit ∈ TB ∧ Cond.selects R_M y_M_bit y_M_bit ∈ TB := ⟨⟨wc_M_bit, wi_M, by decide +kernel, by decide +kernel, by decide +kernel⟩, wm_M_bit, wsel_M_bit⟩
theorem fl_M_13 : (Jvm.Cond.fieldLink "BeamDrawerModel" (13 : Nat) "BeamDrawerModel" "places" "[I") ∈ TB := kTB (List.mem_append_right _ (List.mem_of_getElem? (i := 353) (by decide +kernel))) rfl
theorem ml_M_47 : (Jvm.Cond.methodLink "BeamDrawerModel" (47 : Nat) ({ cls := "BeamDrawerModel", name := "wide", desc := "(I)I" } : Jvm.MethodName)) ∈ TB := kTB (List.mem_append_right _ (List.mem_of_getElem? (i := 436) (by decide +kernel))) rfl
theorem wc_M_wide : (Jvm.Cond.code ({ cls := "BeamDrawerModel", name := "wide", desc := "(I)I" } : Jvm.MethodName) prog_4_method_6_code (2 : Nat) (Option.some Jvm.ClassFile.FieldType.int)) ∈ TB := kTB (List.mem_append_right _ (List.mem_of_getElem? (i := 439) (by decide +kernel))) rfl
theorem wm_M_wide : (Jvm.Cond.instanceMethod ({ cls := "BeamDrawerModel", name := "wide", desc := "(I)I" } : Jvm.MethodName)) ∈ TB := kTB (List.mem_append_right _ (List.mem_of_getElem? (i := 438) (by decide +kernel))) rfl
theorem wsel_M_wide : (Jvm.Cond.selects "BeamDrawerModel" y_M_wide y_M_wide) ∈ TB := kTB (List.mem_append_left _ (by decide +kernel)) rfl
theorem mi_M_wide : kM y_M_wide b_M_wide 2 (some .int) 1 ∧ Cond.instanceMethod y_M_wide ∈ TB ∧ Cond.selects R_M y_M_wide y_M_wide ∈ TB := ⟨⟨wc_M_wide, wi_M, by decide +kernel, by decide +kernel, by decide +kernel⟩, wm_M_wide, wsel_M_wide⟩
theorem fl_M_50 : (Jvm.Cond.fieldLink "BeamDrawerModel" (50 : Nat) "BeamDrawerModel" "clock" "I") ∈ TB := kTB (List.mem_append_right _ (List.mem_of_getElem? (i := 361) (by decide +kernel))) rfl
theorem fl_M_22 : (Jvm.Cond.fieldLink "BeamDrawerModel" (22 : Nat) "BeamDrawerModel" "meetings" "[Z") ∈ TB := kTB (List.mem_append_right _ (List.mem_of_getElem? (i := 358) (by decide +kernel))) rfl
theorem ml_M_57 : (Jvm.Cond.methodLink "BeamDrawerModel" (57 : Nat) ({ cls := "BeamDrawerModel", name := "move", desc := "()V" } : Jvm.MethodName)) ∈ TB := kTB (List.mem_append_right _ (List.mem_of_getElem? (i := 424) (by decide +kernel))) rfl
theorem wc_M_move : (Jvm.Cond.code ({ cls := "BeamDrawerModel", name := "move", desc := "()V" } : Jvm.MethodName) prog_4_method_9_code (3 : Nat) (Option.none : Option Jvm.ClassFile.FieldType)) ∈ TB := kTB (List.mem_append_right _ (List.mem_of_getElem? (i := 427) (by decide +kernel))) rfl
theorem wm_M_move : (Jvm.Cond.instanceMethod ({ cls := "BeamDrawerModel", name := "move", desc := "()V" } : Jvm.MethodName)) ∈ TB := kTB (List.mem_append_right _ (List.mem_of_getElem? (i := 426) (by decide +kernel))) rfl
theorem wsel_M_move : (Jvm.Cond.selects "BeamDrawerModel" y_M_move y_M_move) ∈ TB := kTB (List.mem_append_left _ (by decide +kernel)) rfl
theorem mi_M_move : kM y_M_move b_M_move 3 none 0 ∧ Cond.instanceMethod y_M_move ∈ TB ∧ Cond.selects R_M y_M_move y_M_move ∈ TB := ⟨⟨wc_M_move, wi_M, by decide +kernel, by decide +kernel, by decide +kernel⟩, wm_M_move, wsel_M_move⟩
theorem ml_M_53 : (Jvm.Cond.methodLink "BeamDrawerModel" (53 : Nat) ({ cls := "BeamDrawerModel", name := "reset", desc := "(I)V" } : Jvm.MethodName)) ∈ TB := kTB (List.mem_append_right _ (List.mem_of_getElem? (i := 420) (by decide +kernel))) rfl
theorem wc_M_reset : (Jvm.Cond.code ({ cls := "BeamDrawerModel", name := "reset", desc := "(I)V" } : Jvm.MethodName) prog_4_method_8_code (3 : Nat) (Option.none : Option Jvm.ClassFile.FieldType)) ∈ TB := kTB (List.mem_append_right _ (List.mem_of_getElem? (i := 423) (by decide +kernel))) rfl
theorem wm_M_reset : (Jvm.Cond.instanceMethod ({ cls := "BeamDrawerModel", name := "reset", desc := "(I)V" } : Jvm.MethodName)) ∈ TB := kTB (List.mem_append_right _ (List.mem_of_getElem? (i := 422) (by decide +kernel))) rfl
theorem wsel_M_reset : (Jvm.Cond.selects "BeamDrawerModel" y_M_reset y_M_reset) ∈ TB := kTB (List.mem_append_left _ (by decide +kernel)) rfl
theorem mi_M_reset : kM y_M_reset b_M_reset 3 none 1 ∧ Cond.instanceMethod y_M_reset ∈ TB ∧ Cond.selects R_M y_M_reset y_M_reset ∈ TB := ⟨⟨wc_M_reset, wi_M, by decide +kernel, by decide +kernel, by decide +kernel⟩, wm_M_reset, wsel_M_reset⟩
theorem ml_M_60 : (Jvm.Cond.methodLink "BeamDrawerModel" (60 : Nat) ({ cls := "BeamDrawerModel", name := "goes", desc := "(ZZ)Z" } : Jvm.MethodName)) ∈ TB := kTB (List.mem_append_right _ (List.mem_of_getElem? (i := 412) (by decide +kernel))) rfl
theorem wc_M_goes : (Jvm.Cond.code ({ cls := "BeamDrawerModel", name := "goes", desc := "(ZZ)Z" } : Jvm.MethodName) prog_4_method_3_code (3 : Nat) (Option.some Jvm.ClassFile.FieldType.boolean)) ∈ TB := kTB (List.mem_append_right _ (List.mem_of_getElem? (i := 415) (by decide +kernel))) rfl
theorem wm_M_goes : (Jvm.Cond.instanceMethod ({ cls := "BeamDrawerModel", name := "goes", desc := "(ZZ)Z" } : Jvm.MethodName)) ∈ TB := kTB (List.mem_append_right _ (List.mem_of_getElem? (i := 414) (by decide +kernel))) rfl
theorem wsel_M_goes : (Jvm.Cond.selects "BeamDrawerModel" y_M_goes y_M_goes) ∈ TB := kTB (List.mem_append_left _ (by decide +kernel)) rfl
theorem mi_M_goes : kM y_M_goes b_M_goes 3 (some .boolean) 2 ∧ Cond.instanceMethod y_M_goes ∈ TB ∧ Cond.selects R_M y_M_goes y_M_goes ∈ TB := ⟨⟨wc_M_goes, wi_M, by decide +kernel, by decide +kernel, by decide +kernel⟩, wm_M_goes, wsel_M_goes⟩
theorem ml_M_74 : (Jvm.Cond.methodLink "BeamDrawerModel" (74 : Nat) ({ cls := "BeamDrawerModel", name := "lock", desc := "(II)V" } : Jvm.MethodName)) ∈ TB := kTB (List.mem_append_right _ (List.mem_of_getElem? (i := 428) (by decide +kernel))) rfl
theorem wc_M_lock : (Jvm.Cond.code ({ cls := "BeamDrawerModel", name := "lock", desc := "(II)V" } : Jvm.MethodName) prog_4_method_7_code (4 : Nat) (Option.none : Option Jvm.ClassFile.FieldType)) ∈ TB := kTB (List.mem_append_right _ (List.mem_of_getElem? (i := 431) (by decide +kernel))) rfl
theorem wm_M_lock : (Jvm.Cond.instanceMethod ({ cls := "BeamDrawerModel", name := "lock", desc := "(II)V" } : Jvm.MethodName)) ∈ TB := kTB (List.mem_append_right _ (List.mem_of_getElem? (i := 430) (by decide +kernel))) rfl
theorem wsel_M_lock : (Jvm.Cond.selects "BeamDrawerModel" y_M_lock y_M_lock) ∈ TB := kTB (List.mem_append_left _ (by decide +kernel)) rfl
theorem mi_M_lock : kM y_M_lock b_M_lock 4 none 2 ∧ Cond.instanceMethod y_M_lock ∈ TB ∧ Cond.selects R_M y_M_lock y_M_lock ∈ TB := ⟨⟨wc_M_lock, wi_M, by decide +kernel, by decide +kernel, by decide +kernel⟩, wm_M_lock, wsel_M_lock⟩
theorem fl_M_67 : (Jvm.Cond.fieldLink "BeamDrawerModel" (67 : Nat) "BeamDrawerModel" "ball" "Z") ∈ TB := kTB (List.mem_append_right _ (List.mem_of_getElem? (i := 356) (by decide +kernel))) rfl
theorem fl_M_16 : (Jvm.Cond.fieldLink "BeamDrawerModel" (16 : Nat) "BeamDrawerModel" "shapes" "[I") ∈ TB := kTB (List.mem_append_right _ (List.mem_of_getElem? (i := 354) (by decide +kernel))) rfl
theorem fl_M_19 : (Jvm.Cond.fieldLink "BeamDrawerModel" (19 : Nat) "BeamDrawerModel" "olds" "[I") ∈ TB := kTB (List.mem_append_right _ (List.mem_of_getElem? (i := 355) (by decide +kernel))) rfl
theorem fl_M_71 : (Jvm.Cond.fieldLink "BeamDrawerModel" (71 : Nat) "BeamDrawerModel" "oldBall" "Z") ∈ TB := kTB (List.mem_append_right _ (List.mem_of_getElem? (i := 357) (by decide +kernel))) rfl
theorem ml_M_64 : (Jvm.Cond.methodLink "BeamDrawerModel" (64 : Nat) ({ cls := "BeamDrawerModel", name := "special", desc := "(I)V" } : Jvm.MethodName)) ∈ TB := kTB (List.mem_append_right _ (List.mem_of_getElem? (i := 416) (by decide +kernel))) rfl
theorem wc_M_special : (Jvm.Cond.code ({ cls := "BeamDrawerModel", name := "special", desc := "(I)V" } : Jvm.MethodName) prog_4_method_10_code (3 : Nat) (Option.none : Option Jvm.ClassFile.FieldType)) ∈ TB := kTB (List.mem_append_right _ (List.mem_of_getElem? (i := 419) (by decide +kernel))) rfl
theorem wm_M_special : (Jvm.Cond.instanceMethod ({ cls := "BeamDrawerModel", name := "special", desc := "(I)V" } : Jvm.MethodName)) ∈ TB := kTB (List.mem_append_right _ (List.mem_of_getElem? (i := 418) (by decide +kernel))) rfl
theorem wsel_M_special : (Jvm.Cond.selects "BeamDrawerModel" y_M_special y_M_special) ∈ TB := kTB (List.mem_append_left _ (by decide +kernel)) rfl
theorem mi_M_special : kM y_M_special b_M_special 3 none 1 ∧ Cond.instanceMethod y_M_special ∈ TB ∧ Cond.selects R_M y_M_special y_M_special ∈ TB := ⟨⟨wc_M_special, wi_M, by decide +kernel, by decide +kernel, by decide +kernel⟩, wm_M_special, wsel_M_special⟩
theorem ml_M_78 : (Jvm.Cond.methodLink "BeamDrawerModel" (78 : Nat) ({ cls := "BeamDrawerModel", name := "behind", desc := "(II)I" } : Jvm.MethodName)) ∈ TB := kTB (List.mem_append_right _ (List.mem_of_getElem? (i := 464) (by decide +kernel))) rfl
theorem wc_M_behind : (Jvm.Cond.code ({ cls := "BeamDrawerModel", name := "behind", desc := "(II)I" } : Jvm.MethodName) prog_4_method_12_code (2 : Nat) (Option.some Jvm.ClassFile.FieldType.int)) ∈ TB := kTB (List.mem_append_right _ (List.mem_of_getElem? (i := 466) (by decide +kernel))) rfl
theorem wst_M_behind : (Jvm.Cond.static ({ cls := "BeamDrawerModel", name := "behind", desc := "(II)I" } : Jvm.MethodName)) ∈ TB := kTB (List.mem_append_right _ (List.mem_of_getElem? (i := 465) (by decide +kernel))) rfl
theorem ms_M_behind : kM y_M_behind b_M_behind 2 (some .int) 2 ∧ Cond.static y_M_behind ∈ TB := ⟨⟨wc_M_behind, wi_M, by decide +kernel, by decide +kernel, by decide +kernel⟩, wst_M_behind⟩
theorem ml_M_82 : (Jvm.Cond.methodLink "BeamDrawerModel" (82 : Nat) ({ cls := "BeamDrawerModel", name := "hasCopy", desc := "(II)Z" } : Jvm.MethodName)) ∈ TB := kTB (List.mem_append_right _ (List.mem_of_getElem? (i := 467) (by decide +kernel))) rfl
theorem wc_M_hasCopy : (Jvm.Cond.code ({ cls := "BeamDrawerModel", name := "hasCopy", desc := "(II)Z" } : Jvm.MethodName) prog_4_method_13_code (4 : Nat) (Option.some Jvm.ClassFile.FieldType.boolean)) ∈ TB := kTB (List.mem_append_right _ (List.mem_of_getElem? (i := 470) (by decide +kernel))) rfl
theorem wm_M_hasCopy : (Jvm.Cond.instanceMethod ({ cls := "BeamDrawerModel", name := "hasCopy", desc := "(II)Z" } : Jvm.MethodName)) ∈ TB := kTB (List.mem_append_right _ (List.mem_of_getElem? (i := 469) (by decide +kernel))) rfl
theorem wsel_M_hasCopy : (Jvm.Cond.selects "BeamDrawerModel" y_M_hasCopy y_M_hasCopy) ∈ TB := kTB (List.mem_append_left _ (by decide +kernel)) rfl
theorem mi_M_hasCopy : kM y_M_hasCopy b_M_hasCopy 4 (some .boolean) 2 ∧ Cond.instanceMethod y_M_hasCopy ∈ TB ∧ Cond.selects R_M y_M_hasCopy y_M_hasCopy ∈ TB := ⟨⟨wc_M_hasCopy, wi_M, by decide +kernel, by decide +kernel, by decide +kernel⟩, wm_M_hasCopy, wsel_M_hasCopy⟩
theorem ml_M_88 : (Jvm.Cond.methodLink "BeamDrawerModel" (88 : Nat) ({ cls := "BeamDrawerModel", name := "player", desc := "(II)Z" } : Jvm.MethodName)) ∈ TB := kTB (List.mem_append_right _ (List.mem_of_getElem? (i := 460) (by decide +kernel))) rfl
theorem wc_M_player : (Jvm.Cond.code ({ cls := "BeamDrawerModel", name := "player", desc := "(II)Z" } : Jvm.MethodName) prog_4_method_14_code (8 : Nat) (Option.some Jvm.ClassFile.FieldType.boolean)) ∈ TB := kTB (List.mem_append_right _ (List.mem_of_getElem? (i := 463) (by decide +kernel))) rfl
theorem wm_M_player : (Jvm.Cond.instanceMethod ({ cls := "BeamDrawerModel", name := "player", desc := "(II)Z" } : Jvm.MethodName)) ∈ TB := kTB (List.mem_append_right _ (List.mem_of_getElem? (i := 462) (by decide +kernel))) rfl
theorem wsel_M_player : (Jvm.Cond.selects "BeamDrawerModel" y_M_player y_M_player) ∈ TB := kTB (List.mem_append_left _ (by decide +kernel)) rfl
theorem mi_M_player : kM y_M_player b_M_player 8 (some .boolean) 2 ∧ Cond.instanceMethod y_M_player ∈ TB ∧ Cond.selects R_M y_M_player y_M_player ∈ TB := ⟨⟨wc_M_player, wi_M, by decide +kernel, by decide +kernel, by decide +kernel⟩, wm_M_player, wsel_M_player⟩
theorem ml_M_91 : (Jvm.Cond.methodLink "BeamDrawerModel" (91 : Nat) ({ cls := "BeamDrawerModel", name := "missile", desc := "(II)Z" } : Jvm.MethodName)) ∈ TB := kTB (List.mem_append_right _ (List.mem_of_getElem? (i := 471) (by decide +kernel))) rfl
theorem wc_M_missile : (Jvm.Cond.code ({ cls := "BeamDrawerModel", name := "missile", desc := "(II)Z" } : Jvm.MethodName) prog_4_method_16_code (7 : Nat) (Option.some Jvm.ClassFile.FieldType.boolean)) ∈ TB := kTB (List.mem_append_right _ (List.mem_of_getElem? (i := 474) (by decide +kernel))) rfl
theorem wm_M_missile : (Jvm.Cond.instanceMethod ({ cls := "BeamDrawerModel", name := "missile", desc := "(II)Z" } : Jvm.MethodName)) ∈ TB := kTB (List.mem_append_right _ (List.mem_of_getElem? (i := 473) (by decide +kernel))) rfl
theorem wsel_M_missile : (Jvm.Cond.selects "BeamDrawerModel" y_M_missile y_M_missile) ∈ TB := kTB (List.mem_append_left _ (by decide +kernel)) rfl
theorem mi_M_missile : kM y_M_missile b_M_missile 7 (some .boolean) 2 ∧ Cond.instanceMethod y_M_missile ∈ TB ∧ Cond.selects R_M y_M_missile y_M_missile ∈ TB := ⟨⟨wc_M_missile, wi_M, by decide +kernel, by decide +kernel, by decide +kernel⟩, wm_M_missile, wsel_M_missile⟩
theorem ml_M_85 : (Jvm.Cond.methodLink "BeamDrawerModel" (85 : Nat) ({ cls := "BeamDrawerModel", name := "size", desc := "(I)I" } : Jvm.MethodName)) ∈ TB := kTB (List.mem_append_right _ (List.mem_of_getElem? (i := 475) (by decide +kernel))) rfl
theorem wc_M_size : (Jvm.Cond.code ({ cls := "BeamDrawerModel", name := "size", desc := "(I)I" } : Jvm.MethodName) prog_4_method_15_code (1 : Nat) (Option.some Jvm.ClassFile.FieldType.int)) ∈ TB := kTB (List.mem_append_right _ (List.mem_of_getElem? (i := 477) (by decide +kernel))) rfl
theorem wst_M_size : (Jvm.Cond.static ({ cls := "BeamDrawerModel", name := "size", desc := "(I)I" } : Jvm.MethodName)) ∈ TB := kTB (List.mem_append_right _ (List.mem_of_getElem? (i := 476) (by decide +kernel))) rfl
theorem ms_M_size : kM y_M_size b_M_size 1 (some .int) 1 ∧ Cond.static y_M_size ∈ TB := ⟨⟨wc_M_size, wi_M, by decide +kernel, by decide +kernel, by decide +kernel⟩, wst_M_size⟩
theorem ml_M_94 : (Jvm.Cond.methodLink "BeamDrawerModel" (94 : Nat) ({ cls := "BeamDrawerModel", name := "playfield", desc := "(I)Z" } : Jvm.MethodName)) ∈ TB := kTB (List.mem_append_right _ (List.mem_of_getElem? (i := 478) (by decide +kernel))) rfl
theorem wc_M_playfield : (Jvm.Cond.code ({ cls := "BeamDrawerModel", name := "playfield", desc := "(I)Z" } : Jvm.MethodName) prog_4_method_17_code (3 : Nat) (Option.some Jvm.ClassFile.FieldType.boolean)) ∈ TB := kTB (List.mem_append_right _ (List.mem_of_getElem? (i := 481) (by decide +kernel))) rfl
theorem wm_M_playfield : (Jvm.Cond.instanceMethod ({ cls := "BeamDrawerModel", name := "playfield", desc := "(I)Z" } : Jvm.MethodName)) ∈ TB := kTB (List.mem_append_right _ (List.mem_of_getElem? (i := 480) (by decide +kernel))) rfl
theorem wsel_M_playfield : (Jvm.Cond.selects "BeamDrawerModel" y_M_playfield y_M_playfield) ∈ TB := kTB (List.mem_append_left _ (by decide +kernel)) rfl
theorem mi_M_playfield : kM y_M_playfield b_M_playfield 3 (some .boolean) 1 ∧ Cond.instanceMethod y_M_playfield ∈ TB ∧ Cond.selects R_M y_M_playfield y_M_playfield ∈ TB := ⟨⟨wc_M_playfield, wi_M, by decide +kernel, by decide +kernel, by decide +kernel⟩, wm_M_playfield, wsel_M_playfield⟩
theorem fl_M_29 : (Jvm.Cond.fieldLink "BeamDrawerModel" (29 : Nat) "BeamDrawerModel" "here" "[Z") ∈ TB := kTB (List.mem_append_right _ (List.mem_of_getElem? (i := 360) (by decide +kernel))) rfl
theorem fl_M_26 : (Jvm.Cond.fieldLink "BeamDrawerModel" (26 : Nat) "BeamDrawerModel" "pixels" "[I") ∈ TB := kTB (List.mem_append_right _ (List.mem_of_getElem? (i := 359) (by decide +kernel))) rfl
theorem ml_M_101 : (Jvm.Cond.methodLink "BeamDrawerModel" (101 : Nat) ({ cls := "BeamDrawerModel", name := "colour", desc := "(I)I" } : Jvm.MethodName)) ∈ TB := kTB (List.mem_append_right _ (List.mem_of_getElem? (i := 482) (by decide +kernel))) rfl
theorem wc_M_colour : (Jvm.Cond.code ({ cls := "BeamDrawerModel", name := "colour", desc := "(I)I" } : Jvm.MethodName) prog_4_method_19_code (4 : Nat) (Option.some Jvm.ClassFile.FieldType.int)) ∈ TB := kTB (List.mem_append_right _ (List.mem_of_getElem? (i := 485) (by decide +kernel))) rfl
theorem wm_M_colour : (Jvm.Cond.instanceMethod ({ cls := "BeamDrawerModel", name := "colour", desc := "(I)I" } : Jvm.MethodName)) ∈ TB := kTB (List.mem_append_right _ (List.mem_of_getElem? (i := 484) (by decide +kernel))) rfl
theorem wsel_M_colour : (Jvm.Cond.selects "BeamDrawerModel" y_M_colour y_M_colour) ∈ TB := kTB (List.mem_append_left _ (by decide +kernel)) rfl
theorem mi_M_colour : kM y_M_colour b_M_colour 4 (some .int) 1 ∧ Cond.instanceMethod y_M_colour ∈ TB ∧ Cond.selects R_M y_M_colour y_M_colour ∈ TB := ⟨⟨wc_M_colour, wi_M, by decide +kernel, by decide +kernel, by decide +kernel⟩, wm_M_colour, wsel_M_colour⟩
theorem fl_M_104 : (Jvm.Cond.fieldLink "BeamDrawerModel" (104 : Nat) "BeamDrawerModel" "drawn" "I") ∈ TB := kTB (List.mem_append_right _ (List.mem_of_getElem? (i := 363) (by decide +kernel))) rfl
theorem ml_M_98 : (Jvm.Cond.methodLink "BeamDrawerModel" (98 : Nat) ({ cls := "BeamDrawerModel", name := "isThere", desc := "(II)Z" } : Jvm.MethodName)) ∈ TB := kTB (List.mem_append_right _ (List.mem_of_getElem? (i := 456) (by decide +kernel))) rfl
theorem wc_M_isThere : (Jvm.Cond.code ({ cls := "BeamDrawerModel", name := "isThere", desc := "(II)Z" } : Jvm.MethodName) prog_4_method_18_code (3 : Nat) (Option.some Jvm.ClassFile.FieldType.boolean)) ∈ TB := kTB (List.mem_append_right _ (List.mem_of_getElem? (i := 459) (by decide +kernel))) rfl
theorem wm_M_isThere : (Jvm.Cond.instanceMethod ({ cls := "BeamDrawerModel", name := "isThere", desc := "(II)Z" } : Jvm.MethodName)) ∈ TB := kTB (List.mem_append_right _ (List.mem_of_getElem? (i := 458) (by decide +kernel))) rfl
theorem wsel_M_isThere : (Jvm.Cond.selects "BeamDrawerModel" y_M_isThere y_M_isThere) ∈ TB := kTB (List.mem_append_left _ (by decide +kernel)) rfl
theorem mi_M_isThere : kM y_M_isThere b_M_isThere 3 (some .boolean) 2 ∧ Cond.instanceMethod y_M_isThere ∈ TB ∧ Cond.selects R_M y_M_isThere y_M_isThere ∈ TB := ⟨⟨wc_M_isThere, wi_M, by decide +kernel, by decide +kernel, by decide +kernel⟩, wm_M_isThere, wsel_M_isThere⟩
theorem fl_M_107 : (Jvm.Cond.fieldLink "BeamDrawerModel" (107 : Nat) "BeamDrawerModel" "passed" "I") ∈ TB := kTB (List.mem_append_right _ (List.mem_of_getElem? (i := 366) (by decide +kernel))) rfl
theorem fl_M_32 : (Jvm.Cond.fieldLink "BeamDrawerModel" (32 : Nat) "BeamDrawerModel" "interval" "I") ∈ TB := kTB (List.mem_append_right _ (List.mem_of_getElem? (i := 365) (by decide +kernel))) rfl
theorem fl_M_110 : (Jvm.Cond.fieldLink "BeamDrawerModel" (110 : Nat) "BeamDrawerModel" "value" "I") ∈ TB := kTB (List.mem_append_right _ (List.mem_of_getElem? (i := 364) (by decide +kernel))) rfl
theorem fl_M_113 : (Jvm.Cond.fieldLink "BeamDrawerModel" (113 : Nat) "BeamDrawerModel" "rung" "Z") ∈ TB := kTB (List.mem_append_right _ (List.mem_of_getElem? (i := 367) (by decide +kernel))) rfl
theorem ml_M_119 : (Jvm.Cond.methodLink "BeamDrawerModel" (119 : Nat) ({ cls := "BeamDrawerModel", name := "timer", desc := "()V" } : Jvm.MethodName)) ∈ TB := kTB (List.mem_append_right _ (List.mem_of_getElem? (i := 486) (by decide +kernel))) rfl
theorem wc_M_timer : (Jvm.Cond.code ({ cls := "BeamDrawerModel", name := "timer", desc := "()V" } : Jvm.MethodName) prog_4_method_21_code (1 : Nat) (Option.none : Option Jvm.ClassFile.FieldType)) ∈ TB := kTB (List.mem_append_right _ (List.mem_of_getElem? (i := 489) (by decide +kernel))) rfl
theorem wm_M_timer : (Jvm.Cond.instanceMethod ({ cls := "BeamDrawerModel", name := "timer", desc := "()V" } : Jvm.MethodName)) ∈ TB := kTB (List.mem_append_right _ (List.mem_of_getElem? (i := 488) (by decide +kernel))) rfl
theorem wsel_M_timer : (Jvm.Cond.selects "BeamDrawerModel" y_M_timer y_M_timer) ∈ TB := kTB (List.mem_append_left _ (by decide +kernel)) rfl
theorem mi_M_timer : kM y_M_timer b_M_timer 1 none 0 ∧ Cond.instanceMethod y_M_timer ∈ TB ∧ Cond.selects R_M y_M_timer y_M_timer ∈ TB := ⟨⟨wc_M_timer, wi_M, by decide +kernel, by decide +kernel, by decide +kernel⟩, wm_M_timer, wsel_M_timer⟩
theorem fl_M_122 : (Jvm.Cond.fieldLink "BeamDrawerModel" (122 : Nat) "BeamDrawerModel" "line" "I") ∈ TB := kTB (List.mem_append_right _ (List.mem_of_getElem? (i := 362) (by decide +kernel))) rfl
theorem ml_M_116 : (Jvm.Cond.methodLink "BeamDrawerModel" (116 : Nat) ({ cls := "BeamDrawerModel", name := "draw", desc := "(I)V" } : Jvm.MethodName)) ∈ TB := kTB (List.mem_append_right _ (List.mem_of_getElem? (i := 452) (by decide +kernel))) rfl
theorem wc_M_draw : (Jvm.Cond.code ({ cls := "BeamDrawerModel", name := "draw", desc := "(I)V" } : Jvm.MethodName) prog_4_method_20_code (3 : Nat) (Option.none : Option Jvm.ClassFile.FieldType)) ∈ TB := kTB (List.mem_append_right _ (List.mem_of_getElem? (i := 455) (by decide +kernel))) rfl
theorem wm_M_draw : (Jvm.Cond.instanceMethod ({ cls := "BeamDrawerModel", name := "draw", desc := "(I)V" } : Jvm.MethodName)) ∈ TB := kTB (List.mem_append_right _ (List.mem_of_getElem? (i := 454) (by decide +kernel))) rfl
theorem wsel_M_draw : (Jvm.Cond.selects "BeamDrawerModel" y_M_draw y_M_draw) ∈ TB := kTB (List.mem_append_left _ (by decide +kernel)) rfl
theorem mi_M_draw : kM y_M_draw b_M_draw 3 none 1 ∧ Cond.instanceMethod y_M_draw ∈ TB ∧ Cond.selects R_M y_M_draw y_M_draw ∈ TB := ⟨⟨wc_M_draw, wi_M, by decide +kernel, by decide +kernel, by decide +kernel⟩, wm_M_draw, wsel_M_draw⟩
theorem ml_M_125 : (Jvm.Cond.methodLink "BeamDrawerModel" (125 : Nat) ({ cls := "BeamDrawerModel", name := "oneClock", desc := "()V" } : Jvm.MethodName)) ∈ TB := kTB (List.mem_append_right _ (List.mem_of_getElem? (i := 448) (by decide +kernel))) rfl
theorem wc_M_oneClock : (Jvm.Cond.code ({ cls := "BeamDrawerModel", name := "oneClock", desc := "()V" } : Jvm.MethodName) prog_4_method_22_code (1 : Nat) (Option.none : Option Jvm.ClassFile.FieldType)) ∈ TB := kTB (List.mem_append_right _ (List.mem_of_getElem? (i := 451) (by decide +kernel))) rfl
theorem wm_M_oneClock : (Jvm.Cond.instanceMethod ({ cls := "BeamDrawerModel", name := "oneClock", desc := "()V" } : Jvm.MethodName)) ∈ TB := kTB (List.mem_append_right _ (List.mem_of_getElem? (i := 450) (by decide +kernel))) rfl
theorem wsel_M_oneClock : (Jvm.Cond.selects "BeamDrawerModel" y_M_oneClock y_M_oneClock) ∈ TB := kTB (List.mem_append_left _ (by decide +kernel)) rfl
theorem mi_M_oneClock : kM y_M_oneClock b_M_oneClock 1 none 0 ∧ Cond.instanceMethod y_M_oneClock ∈ TB ∧ Cond.selects R_M y_M_oneClock y_M_oneClock ∈ TB := ⟨⟨wc_M_oneClock, wi_M, by decide +kernel, by decide +kernel, by decide +kernel⟩, wm_M_oneClock, wsel_M_oneClock⟩
theorem ml_M_128 : (Jvm.Cond.methodLink "BeamDrawerModel" (128 : Nat) ({ cls := "BeamDrawerModel", name := "isPixel", desc := "(I)Z" } : Jvm.MethodName)) ∈ TB := kTB (List.mem_append_right _ (List.mem_of_getElem? (i := 498) (by decide +kernel))) rfl
theorem wc_M_isPixel : (Jvm.Cond.code ({ cls := "BeamDrawerModel", name := "isPixel", desc := "(I)Z" } : Jvm.MethodName) prog_4_method_25_code (1 : Nat) (Option.some Jvm.ClassFile.FieldType.boolean)) ∈ TB := kTB (List.mem_append_right _ (List.mem_of_getElem? (i := 500) (by decide +kernel))) rfl
theorem wst_M_isPixel : (Jvm.Cond.static ({ cls := "BeamDrawerModel", name := "isPixel", desc := "(I)Z" } : Jvm.MethodName)) ∈ TB := kTB (List.mem_append_right _ (List.mem_of_getElem? (i := 499) (by decide +kernel))) rfl
theorem ms_M_isPixel : kM y_M_isPixel b_M_isPixel 1 (some .boolean) 1 ∧ Cond.static y_M_isPixel ∈ TB := ⟨⟨wc_M_isPixel, wi_M, by decide +kernel, by decide +kernel, by decide +kernel⟩, wst_M_isPixel⟩
end
section
abbrev classes : List vw_C := [(R_B, F_B, 10), (R_T, F_T, 4), (R_M, F_M, 17)]
abbrev kty (cA : Nat → Nat) : List (ClassId × FieldType) := [(cA 0, .int), (cA 1, .boolean), (cA 2, .long)]
/-- the drawer's cells: the object, registers, old shapes, places, colours, meetings, the timer. σ: 0 registers, 1 old shapes, 2 places, 3 colours, 4 meetings, 5 numbers (old ball, clock, line, drawn; value, interval, clocks left, rung) -/
abbrev bw (cA ad : Nat → Nat) (σ : Nat → Nat → Int32) : va_W := [(ad 0, .inr (0, [.ref (ad 1), .ref (ad 2), .ref (ad 3), .ref (ad 4), .ref (ad 5), .ref (ad 6), .int (σ 5 0), .int (σ 5 1), .int (σ 5 2), .int (σ 5 3)])), (ad 1, .inl (cA 0, 36, .inl (σ 0))), (ad 2, .inl (cA 0, 2, .inl (σ 1))), (ad 3, .inl (cA 0, 5, .inl (σ 2))), (ad 4, .inl (cA 0, 160, .inl (σ 3))), (ad 5, .inl (cA 0, 6, .inl (σ 4))), (ad 6, .inr (1, [.int (σ 5 4), .int (σ 5 5), .int (σ 5 6), .int (σ 5 7)]))]
/-- the reference's cells: the object, registers, places, shapes, olds, meetings, pixels, here. σ: 0 registers, 1 places, 2 shapes, 3 olds, 4 meetings, 5 pixels, 6 here, 7 numbers (thrown, ball, old ball, clock, line, drawn, value, interval, passed, rung) -/
abbrev mw (cA ad : Nat → Nat) (σ : Nat → Nat → Int32) : va_W := [(ad 0, .inr (2, [.int (σ 7 0), .ref (ad 1), .ref (ad 2), .ref (ad 3), .ref (ad 4), .int (σ 7 1), .int (σ 7 2), .ref (ad 5), .ref (ad 6), .ref (ad 7), .int (σ 7 3), .int (σ 7 4), .int (σ 7 5), .int (σ 7 6), .int (σ 7 7), .int (σ 7 8), .int (σ 7 9)])), (ad 1, .inl (cA 0, 28, .inl (σ 0))), (ad 2, .inl (cA 0, 5, .inl (σ 1))), (ad 3, .inl (cA 0, 2, .inl (σ 2))), (ad 4, .inl (cA 0, 2, .inl (σ 3))), (ad 5, .inl (cA 1, 36, .inl (σ 4))), (ad 6, .inl (cA 0, 160, .inl (σ 5))), (ad 7, .inl (cA 1, 6, .inl (σ 6)))]
def kQv (D : va_G) (ws' : va_W) (A : Nat → Prop) : Array Value → State → Outcome → State → Prop := fun _ st oc t => oc = .returned none ∧ va_P D classes ws' t.heap ∧ va_F A st t
def kQi (D : va_G) (ws' : va_W) (A : Nat → Prop) (r : Int32) : Array Value → State → Outcome → State → Prop := fun _ st oc t => oc = .returned (some (.int r)) ∧ va_P D classes ws' t.heap ∧ va_F A st t
section KCALL
variable {p : Program} {l : Launch} {e : Env} {R : Room} {s : State} {m : MethodId} {args : Array Value} {below : List Frame} {meth : Method} {c : Code} {H : Heap} {locs : List Loc} {cells slots : Nat} {Q : State → Prop}
variable {pc : Nat} {ls : Array Slot} {rest st0 : List Value} {a : Array Value} {A : Nat → Prop} {H0 : Heap} {D : va_G} {ws' : va_W}
theorem kcv (hr : va_Run p l e R s m args below meth c H locs cells slots 0 0 (F0 m pc ls st0) rest (kQv D ws' A a) A) (hS : va_S A H0 H locs)
    (kk : ∀ (H1 : Heap) (locs1 : List Loc), va_P D classes ws' H1 → va_S A H0 H1 locs1 → W p l e R s m args below meth c H1 locs1 cells slots Q (F0 m (pc + 3) ls rest)) : W p l e R s m args below meth c H locs cells slots Q (F0 m pc ls st0) := by
  intro T hT X
  obtain ⟨v, st₀, t, T', L, h0, X', hL, e1, e2, ⟨hv, hp, hz, hk⟩, st⟩ := hr T hT X
  cases hv
  rw [h0] at hz hk
  obtain ⟨t2, a1, b1⟩ := kk T'.heap (locs ++ L) (by rw [e1]; exact hp) ⟨Nat.le_trans hS.1 (by rw [e1]; exact hz), fun q h1 h2 => by rw [e1, hk q (Nat.lt_of_lt_of_le h1 hS.1) h2]; exact hS.2.1 q h1 h2, fun q hq => by
      rcases List.mem_append.mp hq with h | h
      · exact hS.2.2 q h
      · exact hL q h⟩ T' rfl X'
  exact ⟨t2, st t2 a1, b1⟩
theorem kci {r : Int32} (hr : va_Run p l e R s m args below meth c H locs cells slots 0 0 (F0 m pc ls st0) rest (kQi D ws' A r a) A) (hS : va_S A H0 H locs)
    (kk : ∀ (H1 : Heap) (locs1 : List Loc), va_P D classes ws' H1 → va_S A H0 H1 locs1 → W p l e R s m args below meth c H1 locs1 cells slots Q (F0 m (pc + 3) ls (.int r :: rest))) : W p l e R s m args below meth c H locs cells slots Q (F0 m pc ls st0) := by
  intro T hT X
  obtain ⟨v, st₀, t, T', L, h0, X', hL, e1, e2, ⟨hv, hp, hz, hk⟩, st⟩ := hr T hT X
  cases hv
  rw [h0] at hz hk
  obtain ⟨t2, a1, b1⟩ := kk T'.heap (locs ++ L) (by rw [e1]; exact hp) ⟨Nat.le_trans hS.1 (by rw [e1]; exact hz), fun q h1 h2 => by rw [e1, hk q (Nat.lt_of_lt_of_le h1 hS.1) h2]; exact hS.2.1 q h1 h2, fun q hq => by
      rcases List.mem_append.mp hq with h | h
      · exact hS.2.2 q h
      · exact hL q h⟩ T' rfl X'
  exact ⟨t2, st t2 a1, b1⟩
end KCALL
/-! the class's three tables -/
def tab0 (j : Nat) : Int32 := ([1, 3, 5, 7, 17, 1, 21, 1] : List Int32).getD j 0
def tab1 (j : Nat) : Int32 := ([0, 0, 0, 0, 0, 1, 0, 2] : List Int32).getD j 0
def tab2 (j : Nat) : Int32 := ([1, 8, 64, 1024] : List Int32).getD j 0
def kZ1 (n : String) (N : Nat) (f : Nat → Int32) (A : Nat → Prop) (t : Nat) (U : State) (H : Heap) : Prop := va_Z R_B n "[I" (.ref t) A U H ∧ va_T .int t N (fun j => .int (f j)) A U H
def kZ (A : Nat → Prop) (t : Nat → Nat) (U : State) : Prop := kZ1 "COPY_STARTS" 8 tab0 A (t 0) U U.heap ∧ kZ1 "STRETCH" 8 tab1 A (t 1) U U.heap ∧ kZ1 "INTERVALS" 4 tab2 A (t 2) U U.heap
theorem kZ_z0 {A : Nat → Prop} {t : Nat → Nat} {U : State} (h : kZ A t U) : va_Z R_B "COPY_STARTS" "[I" (.ref (t 0)) A U U.heap := h.1.1
theorem kZ_z1 {A : Nat → Prop} {t : Nat → Nat} {U : State} (h : kZ A t U) : va_Z R_B "STRETCH" "[I" (.ref (t 1)) A U U.heap := h.2.1.1
theorem kZ_z2 {A : Nat → Prop} {t : Nat → Nat} {U : State} (h : kZ A t U) : va_Z R_B "INTERVALS" "[I" (.ref (t 2)) A U U.heap := h.2.2.1
theorem kZ_t0 {A : Nat → Prop} {t : Nat → Nat} {U : State} (h : kZ A t U) : va_T .int (t 0) 8 (fun j => .int (tab0 j)) A U U.heap := h.1.2
theorem kZ_t1 {A : Nat → Prop} {t : Nat → Nat} {U : State} (h : kZ A t U) : va_T .int (t 1) 8 (fun j => .int (tab1 j)) A U U.heap := h.2.1.2
theorem kZ_t2 {A : Nat → Prop} {t : Nat → Nat} {U : State} (h : kZ A t U) : va_T .int (t 2) 4 (fun j => .int (tab2 j)) A U U.heap := h.2.2.2
theorem kZ1.at {n : String} {N t : Nat} {f : Nat → Int32} {A : Nat → Prop} {s U : State} {H0 H : Heap} (h : kZ1 n N f A t s H0) (hq : ∀ a : Nat, a < H0.size → ¬ A a → H[a]? = H0[a]?) (hvm : s.vm.Alike U.vm) : kZ1 n N f A t U H :=
  ⟨va_Z.moved hvm (h.1.kept hq), va_T.moved hvm (h.2.kept hq)⟩
theorem kZ.at {A : Nat → Prop} {t : Nat → Nat} {s U : State} {H : Heap} {locs : List Loc} (h : kZ A t s) (hS : va_S A s.heap H locs) (hU : U.heap = H) (hvm : s.vm.Alike U.vm) : kZ A t U := by
  subst hU
  exact ⟨h.1.at hS.2.1 hvm, h.2.1.at hS.2.1 hvm, h.2.2.at hS.2.1 hvm⟩
/-! what a method of the drawer finds -/
def bPre (D : va_G) (cA ad t : Nat → Nat) (σ : Nat → Nat → Int32) (U : State) : Prop := va_P D classes (bw cA ad σ) U.heap ∧ va_K D classes (kty cA) U ∧ kZ (kA 7 ad) t U
theorem bblind {D : va_G} {cA ad t : Nat → Nat} {σ : Nat → Nat → Int32} {av : List Value} : FrameBlind (va_Pc av (bPre D cA ad t σ)) := fun a U g mk q => by
  obtain ⟨q0, qP, qK, qZ⟩ := q
  exact ⟨q0, qP, va_K.moved (u := U) (U := U.calling g mk a) (Vm.Alike.refl U.vm) qK, kZ.at (U := U.calling g mk a) qZ (va_S.rf (A := kA 7 ad)) rfl (Vm.Alike.refl U.vm)⟩
section BPRE
variable {D : va_G} {cA ad t : Nat → Nat} {σ : Nat → Nat → Int32} {s : State} {H : Heap} {locs : List Loc} {As : List Value}
theorem bpreU (hK : va_K D classes (kty cA) s) (hP : va_P D classes (bw cA ad σ) H) (hZ : kZ (kA 7 ad) t s) (hS : va_S (kA 7 ad) s.heap H locs) : ∀ U : State, U.heap = H → s.WarmedH U.vm → bPre D cA ad t σ U :=
  fun U hU hW => ⟨by rw [hU]; exact hP, va_K.moved hW.alike hK, hZ.at hS hU hW.alike⟩
theorem bpreV (hK : va_K D classes (kty cA) s) (hP : va_P D classes (bw cA ad σ) H) (hZ : kZ (kA 7 ad) t s) (hS : va_S (kA 7 ad) s.heap H locs) : PreV s H R_B (ad 0) (va_Pc (.ref (ad 0) :: As) (bPre D cA ad t σ)) As :=
  ⟨bblind, va_recv (q0 := 0) (ci := 0) hK hP rfl rfl, fun U hU hW => ⟨rfl, bpreU hK hP hZ hS U hU hW⟩⟩
theorem bpreT (hK : va_K D classes (kty cA) s) (hP : va_P D classes (bw cA ad σ) H) (hZ : kZ (kA 7 ad) t s) (hS : va_S (kA 7 ad) s.heap H locs) : PreV s H R_T (ad 6) (va_Pc (.ref (ad 6) :: As) (bPre D cA ad t σ)) As :=
  ⟨bblind, va_recv (q0 := 6) (ci := 1) hK hP rfl rfl, fun U hU hW => ⟨rfl, bpreU hK hP hZ hS U hU hW⟩⟩
theorem bpreS (hK : va_K D classes (kty cA) s) (hP : va_P D classes (bw cA ad σ) H) (hZ : kZ (kA 7 ad) t s) (hS : va_S (kA 7 ad) s.heap H locs) : PreS s H (va_Pc As (bPre D cA ad t σ)) As :=
  ⟨bblind, fun U hU hW => ⟨rfl, bpreU hK hP hZ hS U hU hW⟩⟩
end BPRE
def mPre (D : va_G) (cA ad : Nat → Nat) (σ : Nat → Nat → Int32) (U : State) : Prop := va_P D classes (mw cA ad σ) U.heap ∧ va_K D classes (kty cA) U
theorem mblind {D : va_G} {cA ad : Nat → Nat} {σ : Nat → Nat → Int32} {av : List Value} : FrameBlind (va_Pc av (mPre D cA ad σ)) := fun a U g mk q => by
  obtain ⟨q0, qP, qK⟩ := q
  exact ⟨q0, qP, va_K.moved (u := U) (U := U.calling g mk a) (Vm.Alike.refl U.vm) qK⟩
section MPRE
variable {D : va_G} {cA ad : Nat → Nat} {σ : Nat → Nat → Int32} {s : State} {H : Heap} {As : List Value}
theorem mpreU (hK : va_K D classes (kty cA) s) (hP : va_P D classes (mw cA ad σ) H) : ∀ U : State, U.heap = H → s.WarmedH U.vm → mPre D cA ad σ U :=
  fun U hU hW => ⟨by rw [hU]; exact hP, va_K.moved hW.alike hK⟩
theorem mpreV (hK : va_K D classes (kty cA) s) (hP : va_P D classes (mw cA ad σ) H) : PreV s H R_M (ad 0) (va_Pc (.ref (ad 0) :: As) (mPre D cA ad σ)) As :=
  ⟨mblind, va_recv (q0 := 0) (ci := 2) hK hP rfl rfl, fun U hU hW => ⟨rfl, mpreU hK hP U hU hW⟩⟩
theorem mpreS (hK : va_K D classes (kty cA) s) (hP : va_P D classes (mw cA ad σ) H) : PreS s H (va_Pc As (mPre D cA ad σ)) As :=
  ⟨mblind, fun U hU hW => ⟨rfl, mpreU hK hP U hU hW⟩⟩
end MPRE
theorem kpreJ {s : State} {H : Heap} {As : List Value} : PreS s H (va_Pc As (fun _ => True)) As := ⟨fun _ _ _ _ q => q, fun _ _ _ => ⟨rfl, trivial⟩⟩
/-! indices -/
theorem kin7 (x : Int32) : vp_in (x &&& 7) 8 := pk_andIn x 3 (by decide) (by decide)
theorem kside2 {o : Int32} (h : vp_in o 6) (h2 : ¬ (2 : Int32) ≤ o) : o = 0 ∨ o = 1 := by
  obtain ⟨j, hj, rfl⟩ := vp_in_of h (by decide)
  have h3 : j < 2 := Nat.not_le.mp fun q => h2 (nI_le (a := 2) (b := j) q (by omega))
  rcases (show j = 0 ∨ j = 1 by omega) with rfl | rfl
  · exact Or.inl rfl
  · exact Or.inr rfl
theorem kside4 {o : Int32} (h : vp_in o 6) (h2 : (2 : Int32) ≤ o) (h4 : ¬ (4 : Int32) ≤ o) : o - 2 = 0 ∨ o - 2 = 1 := by
  obtain ⟨j, hj, rfl⟩ := vp_in_of h (by decide)
  have h3 : j < 4 := Nat.not_le.mp fun q => h4 (nI_le (a := 4) (b := j) q (by omega))
  have h5 : 2 ≤ j := Nat.not_lt.mp fun q => nI_ge (a := j) (b := 2) q (by omega) h2
  rcases (show j = 2 ∨ j = 3 by omega) with rfl | rfl
  · exact Or.inl rfl
  · exact Or.inr rfl
/-! numbers in range -/
theorem kle {a b : Int32} (h : ¬ a < b) : b ≤ a := by
  rw [Int32.le_iff_toInt_le]
  rw [Int32.lt_iff_toInt_lt] at h
  omega
theorem klt {a b : Int32} (h : ¬ a ≤ b) : b < a := by
  rw [Int32.lt_iff_toInt_lt]
  rw [Int32.le_iff_toInt_le] at h
  omega
theorem kR0 {r : Int32} {n : Nat} (hn : n < 2 ^ 31) (h1 : ¬ r < 0) (h2 : r < nI n) : ∃ j : Nat, j < n ∧ r = nI j := by
  obtain ⟨j, hj, rfl⟩ := nI_of h1
  exact ⟨j, (nI_ltI hj hn).mp h2, rfl⟩
theorem kRin {r : Int32} {n : Nat} (hn : n < 2 ^ 31) (h1 : ¬ r < 0) (h2 : r < nI n) : vp_in r n := by
  obtain ⟨j, hj, rfl⟩ := kR0 hn h1 h2
  exact vp_in_nI hj hn
theorem kinR {r : Int32} (h1 : ¬ r < 0) (h2 : r < (36 : Int32)) : vp_in r 36 := kRin (n := 36) (by decide) h1 h2
theorem kge {r : Int32} (_ : ¬ r < 0) (_ : r < (36 : Int32)) (h : ¬ r < (28 : Int32)) : (28 : Int32) ≤ r := kle h
theorem k28 {r : Int32} (h1 : vp_in r 36) (h2 : (28 : Int32) ≤ r) : ∃ j : Nat, j < 8 ∧ r = nI (28 + j) := by
  obtain ⟨j, hj, rfl⟩ := vp_in_of h1 (by decide)
  have h3 : 28 ≤ j := Nat.not_lt.mp fun q => nI_ge (a := j) (b := 28) q (by decide) h2
  exact ⟨j - 28, by omega, by rw [show 28 + (j - 28) = j by omega]⟩
theorem k28s (j : Nat) : nI (28 + j) - (28 : Int32) = nI j := by
  have h := pk_sub (a := 28 + j) (b := 28) (by omega)
  rw [show 28 + j - 28 = j by omega] at h
  exact h
theorem kin28 {r : Int32} (h1 : vp_in r 36) (h2 : (28 : Int32) ≤ r) (n3 : ¬ r = (33 : Int32)) (n4 : ¬ r = (34 : Int32)) (n5 : ¬ r = (35 : Int32)) : vp_in (r - 28) 5 := by
  obtain ⟨j, hj, rfl⟩ := k28 h1 h2
  rw [k28s]
  refine vp_in_nI ?_ (by decide)
  rcases (show j < 5 ∨ j = 5 ∨ j = 6 ∨ j = 7 by omega) with h | rfl | rfl | rfl
  · exact h
  · exact absurd rfl n3
  · exact absurd rfl n4
  · exact absurd rfl n5
theorem kin28m {r : Int32} (h1 : vp_in r 36) (h2 : (28 : Int32) ≤ r) (n3 : ¬ (33 : Int32) ≤ r) : vp_in (r - 28) 5 := by
  obtain ⟨j, hj, rfl⟩ := k28 h1 h2
  rw [k28s]
  exact vp_in_nI (Nat.not_le.mp fun q => n3 (nI_le (a := 33) (b := 28 + j) (by omega) (by omega))) (by decide)
theorem kin23 {i : Nat} (h : i < 5) : vp_in ((23 : Int32) + nI i) 36 := by
  show vp_in (nI 23 + nI i) 36
  rw [nI_add]
  exact vp_in_nI (by omega) (by decide)
theorem kin23m {i : Nat} (h : i < 5) : vp_in ((23 : Int32) + nI i) 28 := by
  show vp_in (nI 23 + nI i) 28
  rw [nI_add]
  exact vp_in_nI (by omega) (by decide)
theorem kdead6 {w : Int32} (h : vp_in w 6) (n0 : ¬ w = (0 : Int32)) (n1 : ¬ w = (1 : Int32)) (n2 : ¬ w = (2 : Int32)) (n3 : ¬ w = (3 : Int32)) (n4 : ¬ w = (4 : Int32)) (n5 : ¬ w = (5 : Int32)) : False := by
  obtain ⟨j, hj, rfl⟩ := vp_in_of h (by decide)
  rcases (show j = 0 ∨ j = 1 ∨ j = 2 ∨ j = 3 ∨ j = 4 ∨ j = 5 by omega) with rfl | rfl | rfl | rfl | rfl | rfl
  · exact n0 rfl
  · exact n1 rfl
  · exact n2 rfl
  · exact n3 rfl
  · exact n4 rfl
  · exact n5 rfl
theorem kdiv6 {i : Nat} (h : i < 36) : vp_in (nI i / (6 : Int32)) 6 := by
  have e : nI i / nI 6 = nI (i / 6) := pk_div (by omega) (by decide) (by decide)
  show vp_in (nI i / nI 6) 6
  rw [e]
  exact vp_in_nI (by omega) (by decide)
theorem krem6 {i : Nat} (h : i < 36) : vp_in (nI i - nI i / (6 : Int32) * (6 : Int32)) 6 := by
  have e : nI i - nI i / nI 6 * nI 6 = nI (i % 6) := pk_rem (by omega) (by decide) (by decide)
  show vp_in (nI i - nI i / nI 6 * nI 6) 6
  rw [e]
  exact vp_in_nI (by omega) (by decide)
theorem kwr28 {r : Int32} (h : ¬ r < 0 ∧ ¬ (35 : Int32) < r) (h2 : r ≤ (27 : Int32)) : vp_in r 28 := by
  obtain ⟨j, hj, rfl⟩ := nI_of h.1
  exact vp_in_nI (Nat.lt_succ_of_le ((nI_leI (a := j) (b := 27) hj (by decide)).mp h2)) (by decide)
theorem kwr36 {r : Int32} (h : ¬ r < 0 ∧ ¬ (35 : Int32) < r) : vp_in r 36 := by
  obtain ⟨j, hj, rfl⟩ := nI_of h.1
  exact vp_in_nI (Nat.lt_succ_of_le (Nat.not_lt.mp fun q => h.2 ((nI_ltI (a := 35) (b := j) (by decide) hj).mpr q))) (by decide)
theorem kwr27 {r : Int32} (h : ¬ r ≤ (27 : Int32)) : (28 : Int32) ≤ r := by
  rw [Int32.le_iff_toInt_le] at h ⊢
  have e1 : (27 : Int32).toInt = 27 := by decide
  have e2 : (28 : Int32).toInt = 28 := by decide
  omega
theorem kwr21 {r : Int32} (h : r = (21 : Int32)) : r - (21 : Int32) = 0 ∨ r - (21 : Int32) = 1 := Or.inl (by rw [h]; rfl)
theorem kwr22 {r : Int32} (h : r = (22 : Int32)) : r - (21 : Int32) = 0 ∨ r - (21 : Int32) = 1 := Or.inr (by rw [h]; rfl)
theorem kgo_place {o : Int32} (h1 : ¬ o < 0) (h2 : ¬ (5 : Int32) ≤ o) : vp_in o 5 := kRin (n := 5) (by decide) h1 (klt h2)
theorem kgo_place6 {o : Int32} (h1 : ¬ o < 0) (h2 : ¬ (6 : Int32) ≤ o) : vp_in o 6 := kRin (n := 6) (by decide) h1 (klt h2)
theorem kgo_met {a o : Int32} (h1 : ¬ a < 0) (h2 : ¬ (6 : Int32) ≤ a) (h3 : ¬ o < 0) (h4 : ¬ (6 : Int32) ≤ o) : vp_in ((6 : Int32) * a + o) 36 := by
  obtain ⟨i, hi, rfl⟩ := kR0 (n := 6) (by decide) h1 (klt h2)
  obtain ⟨j, hj, rfl⟩ := kR0 (n := 6) (by decide) h3 (klt h4)
  show vp_in (nI 6 * nI i + nI j) 36
  rw [pk_mul, nI_add]
  exact vp_in_nI (by omega) (by decide)
theorem k68 {x : Int32} (h : vp_in x 228) (h2 : ¬ x < (68 : Int32)) : vp_in (x - (68 : Int32)) 160 := by
  obtain ⟨j, hj, rfl⟩ := vp_in_of h (by decide)
  have h3 : 68 ≤ j := Nat.not_lt.mp fun q => h2 (nI_lt (a := j) (b := 68) q (by decide))
  have e : nI j - nI 68 = nI (j - 68) := pk_sub h3
  show vp_in (nI j - nI 68) 160
  rw [e]
  exact vp_in_nI (by omega) (by decide)
theorem k228 {x : Int32} (h : vp_in x 228) (h2 : ¬ x + (1 : Int32) = (228 : Int32)) : vp_in (x + (1 : Int32)) 228 := by
  obtain ⟨j, hj, rfl⟩ := vp_in_of h (by decide)
  rw [nI_1] at h2 ⊢
  refine vp_in_nI ?_ (by decide)
  rcases (show j + 1 < 228 ∨ j = 227 by omega) with h | rfl
  · exact h
  · exact absurd rfl h2
def kClk (σ : Nat → Nat → Int32) : Prop := vp_in (σ 5 1) 228
theorem kClk_x {σ : Nat → Nat → Int32} (hk : kClk σ) (h : ¬ (σ 5 1) < (68 : Int32)) : vp_in ((σ 5 1) - (68 : Int32)) 160 := k68 hk h
def mClk (σ : Nat → Nat → Int32) : Prop := vp_in (σ 7 3) 228
theorem mClk_x {σ : Nat → Nat → Int32} (hk : mClk σ) (h : ¬ (σ 7 3) < (68 : Int32)) : vp_in ((σ 7 3) - (68 : Int32)) 160 := k68 hk h
end
section
theorem kst {ws ws' : va_W} (h : ws = ws') {D : va_G} {H : Heap} (hP : va_P D classes ws H) : va_P D classes ws' H := h ▸ hP
theorem bw_s1 (cA ad : Nat → Nat) (σ : Nat → Nat → Int32) (j : Nat) (v : Int32) : List.set (bw cA ad σ) 1 (ad 1, .inl (cA 0, 36, .inl (upd (σ 0) j v))) = bw cA ad (kup σ 0 j v) := rfl
theorem bw_s2 (cA ad : Nat → Nat) (σ : Nat → Nat → Int32) (j : Nat) (v : Int32) : List.set (bw cA ad σ) 2 (ad 2, .inl (cA 0, 2, .inl (upd (σ 1) j v))) = bw cA ad (kup σ 1 j v) := rfl
theorem bw_s3 (cA ad : Nat → Nat) (σ : Nat → Nat → Int32) (j : Nat) (v : Int32) : List.set (bw cA ad σ) 3 (ad 3, .inl (cA 0, 5, .inl (upd (σ 2) j v))) = bw cA ad (kup σ 2 j v) := rfl
theorem bw_s4 (cA ad : Nat → Nat) (σ : Nat → Nat → Int32) (j : Nat) (v : Int32) : List.set (bw cA ad σ) 4 (ad 4, .inl (cA 0, 160, .inl (upd (σ 3) j v))) = bw cA ad (kup σ 3 j v) := rfl
theorem bw_s5 (cA ad : Nat → Nat) (σ : Nat → Nat → Int32) (j : Nat) (v : Int32) : List.set (bw cA ad σ) 5 (ad 5, .inl (cA 0, 6, .inl (upd (σ 4) j v))) = bw cA ad (kup σ 4 j v) := rfl
theorem bw_p0_6 (cA ad : Nat → Nat) (σ : Nat → Nat → Int32) (v : Int32) : List.set (bw cA ad σ) 0 (ad 0, .inr (0, List.set [.ref (ad 1), .ref (ad 2), .ref (ad 3), .ref (ad 4), .ref (ad 5), .ref (ad 6), .int (σ 5 0), .int (σ 5 1), .int (σ 5 2), .int (σ 5 3)] 6 (.int v))) = bw cA ad (kup σ 5 0 v) := rfl
theorem bw_p0_7 (cA ad : Nat → Nat) (σ : Nat → Nat → Int32) (v : Int32) : List.set (bw cA ad σ) 0 (ad 0, .inr (0, List.set [.ref (ad 1), .ref (ad 2), .ref (ad 3), .ref (ad 4), .ref (ad 5), .ref (ad 6), .int (σ 5 0), .int (σ 5 1), .int (σ 5 2), .int (σ 5 3)] 7 (.int v))) = bw cA ad (kup σ 5 1 v) := rfl
theorem bw_p0_8 (cA ad : Nat → Nat) (σ : Nat → Nat → Int32) (v : Int32) : List.set (bw cA ad σ) 0 (ad 0, .inr (0, List.set [.ref (ad 1), .ref (ad 2), .ref (ad 3), .ref (ad 4), .ref (ad 5), .ref (ad 6), .int (σ 5 0), .int (σ 5 1), .int (σ 5 2), .int (σ 5 3)] 8 (.int v))) = bw cA ad (kup σ 5 2 v) := rfl
theorem bw_p0_9 (cA ad : Nat → Nat) (σ : Nat → Nat → Int32) (v : Int32) : List.set (bw cA ad σ) 0 (ad 0, .inr (0, List.set [.ref (ad 1), .ref (ad 2), .ref (ad 3), .ref (ad 4), .ref (ad 5), .ref (ad 6), .int (σ 5 0), .int (σ 5 1), .int (σ 5 2), .int (σ 5 3)] 9 (.int v))) = bw cA ad (kup σ 5 3 v) := rfl
theorem bw_p6_0 (cA ad : Nat → Nat) (σ : Nat → Nat → Int32) (v : Int32) : List.set (bw cA ad σ) 6 (ad 6, .inr (1, List.set [.int (σ 5 4), .int (σ 5 5), .int (σ 5 6), .int (σ 5 7)] 0 (.int v))) = bw cA ad (kup σ 5 4 v) := rfl
theorem bw_p6_1 (cA ad : Nat → Nat) (σ : Nat → Nat → Int32) (v : Int32) : List.set (bw cA ad σ) 6 (ad 6, .inr (1, List.set [.int (σ 5 4), .int (σ 5 5), .int (σ 5 6), .int (σ 5 7)] 1 (.int v))) = bw cA ad (kup σ 5 5 v) := rfl
theorem bw_p6_2 (cA ad : Nat → Nat) (σ : Nat → Nat → Int32) (v : Int32) : List.set (bw cA ad σ) 6 (ad 6, .inr (1, List.set [.int (σ 5 4), .int (σ 5 5), .int (σ 5 6), .int (σ 5 7)] 2 (.int v))) = bw cA ad (kup σ 5 6 v) := rfl
theorem bw_p6_3 (cA ad : Nat → Nat) (σ : Nat → Nat → Int32) (v : Int32) : List.set (bw cA ad σ) 6 (ad 6, .inr (1, List.set [.int (σ 5 4), .int (σ 5 5), .int (σ 5 6), .int (σ 5 7)] 3 (.int v))) = bw cA ad (kup σ 5 7 v) := rfl
theorem mw_s1 (cA ad : Nat → Nat) (σ : Nat → Nat → Int32) (j : Nat) (v : Int32) : List.set (mw cA ad σ) 1 (ad 1, .inl (cA 0, 28, .inl (upd (σ 0) j v))) = mw cA ad (kup σ 0 j v) := rfl
theorem mw_s2 (cA ad : Nat → Nat) (σ : Nat → Nat → Int32) (j : Nat) (v : Int32) : List.set (mw cA ad σ) 2 (ad 2, .inl (cA 0, 5, .inl (upd (σ 1) j v))) = mw cA ad (kup σ 1 j v) := rfl
theorem mw_s3 (cA ad : Nat → Nat) (σ : Nat → Nat → Int32) (j : Nat) (v : Int32) : List.set (mw cA ad σ) 3 (ad 3, .inl (cA 0, 2, .inl (upd (σ 2) j v))) = mw cA ad (kup σ 2 j v) := rfl
theorem mw_s4 (cA ad : Nat → Nat) (σ : Nat → Nat → Int32) (j : Nat) (v : Int32) : List.set (mw cA ad σ) 4 (ad 4, .inl (cA 0, 2, .inl (upd (σ 3) j v))) = mw cA ad (kup σ 3 j v) := rfl
theorem mw_s5 (cA ad : Nat → Nat) (σ : Nat → Nat → Int32) (j : Nat) (v : Int32) : List.set (mw cA ad σ) 5 (ad 5, .inl (cA 1, 36, .inl (upd (σ 4) j v))) = mw cA ad (kup σ 4 j v) := rfl
theorem mw_s6 (cA ad : Nat → Nat) (σ : Nat → Nat → Int32) (j : Nat) (v : Int32) : List.set (mw cA ad σ) 6 (ad 6, .inl (cA 0, 160, .inl (upd (σ 5) j v))) = mw cA ad (kup σ 5 j v) := rfl
theorem mw_s7 (cA ad : Nat → Nat) (σ : Nat → Nat → Int32) (j : Nat) (v : Int32) : List.set (mw cA ad σ) 7 (ad 7, .inl (cA 1, 6, .inl (upd (σ 6) j v))) = mw cA ad (kup σ 6 j v) := rfl
theorem mw_p0_0 (cA ad : Nat → Nat) (σ : Nat → Nat → Int32) (v : Int32) : List.set (mw cA ad σ) 0 (ad 0, .inr (2, List.set [.int (σ 7 0), .ref (ad 1), .ref (ad 2), .ref (ad 3), .ref (ad 4), .int (σ 7 1), .int (σ 7 2), .ref (ad 5), .ref (ad 6), .ref (ad 7), .int (σ 7 3), .int (σ 7 4), .int (σ 7 5), .int (σ 7 6), .int (σ 7 7), .int (σ 7 8), .int (σ 7 9)] 0 (.int v))) = mw cA ad (kup σ 7 0 v) := rfl
theorem mw_p0_5 (cA ad : Nat → Nat) (σ : Nat → Nat → Int32) (v : Int32) : List.set (mw cA ad σ) 0 (ad 0, .inr (2, List.set [.int (σ 7 0), .ref (ad 1), .ref (ad 2), .ref (ad 3), .ref (ad 4), .int (σ 7 1), .int (σ 7 2), .ref (ad 5), .ref (ad 6), .ref (ad 7), .int (σ 7 3), .int (σ 7 4), .int (σ 7 5), .int (σ 7 6), .int (σ 7 7), .int (σ 7 8), .int (σ 7 9)] 5 (.int v))) = mw cA ad (kup σ 7 1 v) := rfl
theorem mw_p0_6 (cA ad : Nat → Nat) (σ : Nat → Nat → Int32) (v : Int32) : List.set (mw cA ad σ) 0 (ad 0, .inr (2, List.set [.int (σ 7 0), .ref (ad 1), .ref (ad 2), .ref (ad 3), .ref (ad 4), .int (σ 7 1), .int (σ 7 2), .ref (ad 5), .ref (ad 6), .ref (ad 7), .int (σ 7 3), .int (σ 7 4), .int (σ 7 5), .int (σ 7 6), .int (σ 7 7), .int (σ 7 8), .int (σ 7 9)] 6 (.int v))) = mw cA ad (kup σ 7 2 v) := rfl
theorem mw_p0_10 (cA ad : Nat → Nat) (σ : Nat → Nat → Int32) (v : Int32) : List.set (mw cA ad σ) 0 (ad 0, .inr (2, List.set [.int (σ 7 0), .ref (ad 1), .ref (ad 2), .ref (ad 3), .ref (ad 4), .int (σ 7 1), .int (σ 7 2), .ref (ad 5), .ref (ad 6), .ref (ad 7), .int (σ 7 3), .int (σ 7 4), .int (σ 7 5), .int (σ 7 6), .int (σ 7 7), .int (σ 7 8), .int (σ 7 9)] 10 (.int v))) = mw cA ad (kup σ 7 3 v) := rfl
theorem mw_p0_11 (cA ad : Nat → Nat) (σ : Nat → Nat → Int32) (v : Int32) : List.set (mw cA ad σ) 0 (ad 0, .inr (2, List.set [.int (σ 7 0), .ref (ad 1), .ref (ad 2), .ref (ad 3), .ref (ad 4), .int (σ 7 1), .int (σ 7 2), .ref (ad 5), .ref (ad 6), .ref (ad 7), .int (σ 7 3), .int (σ 7 4), .int (σ 7 5), .int (σ 7 6), .int (σ 7 7), .int (σ 7 8), .int (σ 7 9)] 11 (.int v))) = mw cA ad (kup σ 7 4 v) := rfl
theorem mw_p0_12 (cA ad : Nat → Nat) (σ : Nat → Nat → Int32) (v : Int32) : List.set (mw cA ad σ) 0 (ad 0, .inr (2, List.set [.int (σ 7 0), .ref (ad 1), .ref (ad 2), .ref (ad 3), .ref (ad 4), .int (σ 7 1), .int (σ 7 2), .ref (ad 5), .ref (ad 6), .ref (ad 7), .int (σ 7 3), .int (σ 7 4), .int (σ 7 5), .int (σ 7 6), .int (σ 7 7), .int (σ 7 8), .int (σ 7 9)] 12 (.int v))) = mw cA ad (kup σ 7 5 v) := rfl
theorem mw_p0_13 (cA ad : Nat → Nat) (σ : Nat → Nat → Int32) (v : Int32) : List.set (mw cA ad σ) 0 (ad 0, .inr (2, List.set [.int (σ 7 0), .ref (ad 1), .ref (ad 2), .ref (ad 3), .ref (ad 4), .int (σ 7 1), .int (σ 7 2), .ref (ad 5), .ref (ad 6), .ref (ad 7), .int (σ 7 3), .int (σ 7 4), .int (σ 7 5), .int (σ 7 6), .int (σ 7 7), .int (σ 7 8), .int (σ 7 9)] 13 (.int v))) = mw cA ad (kup σ 7 6 v) := rfl
theorem mw_p0_14 (cA ad : Nat → Nat) (σ : Nat → Nat → Int32) (v : Int32) : List.set (mw cA ad σ) 0 (ad 0, .inr (2, List.set [.int (σ 7 0), .ref (ad 1), .ref (ad 2), .ref (ad 3), .ref (ad 4), .int (σ 7 1), .int (σ 7 2), .ref (ad 5), .ref (ad 6), .ref (ad 7), .int (σ 7 3), .int (σ 7 4), .int (σ 7 5), .int (σ 7 6), .int (σ 7 7), .int (σ 7 8), .int (σ 7 9)] 14 (.int v))) = mw cA ad (kup σ 7 7 v) := rfl
theorem mw_p0_15 (cA ad : Nat → Nat) (σ : Nat → Nat → Int32) (v : Int32) : List.set (mw cA ad σ) 0 (ad 0, .inr (2, List.set [.int (σ 7 0), .ref (ad 1), .ref (ad 2), .ref (ad 3), .ref (ad 4), .int (σ 7 1), .int (σ 7 2), .ref (ad 5), .ref (ad 6), .ref (ad 7), .int (σ 7 3), .int (σ 7 4), .int (σ 7 5), .int (σ 7 6), .int (σ 7 7), .int (σ 7 8), .int (σ 7 9)] 15 (.int v))) = mw cA ad (kup σ 7 8 v) := rfl
theorem mw_p0_16 (cA ad : Nat → Nat) (σ : Nat → Nat → Int32) (v : Int32) : List.set (mw cA ad σ) 0 (ad 0, .inr (2, List.set [.int (σ 7 0), .ref (ad 1), .ref (ad 2), .ref (ad 3), .ref (ad 4), .int (σ 7 1), .int (σ 7 2), .ref (ad 5), .ref (ad 6), .ref (ad 7), .int (σ 7 3), .int (σ 7 4), .int (σ 7 5), .int (σ 7 6), .int (σ 7 7), .int (σ 7 8), .int (σ 7 9)] 16 (.int v))) = mw cA ad (kup σ 7 9 v) := rfl
end
section
def f_J_floorMod (x : Int32) (y : Int32) : Int32 := (if 0 ≤ (x ^^^ y) then (x - x / y * y) else (if (x - x / y * y) = 0 then (x - x / y * y) else ((x - x / y * y) + y)))

set_option maxRecDepth 100000 in
set_option maxHeartbeats 4000000 in
theorem c_J_floorMod (l : Launch) (x : Int32) (y : Int32) (hy : ¬ y = 0) : Met l y_JM_floorMod w_JM_floorMod ({ frames := 0, cells := 0, slots := 0, locals := 0 } : Room) (va_Pc [.int x, .int y] (fun _ => True)) (vp_Si (fun v => v = f_J_floorMod x y)) 0 0 (fun _ => False) := by
  refine va_MetF (cc := b_JM_floorMod) (maxL := 3) (ret := (some .int)) (by decide +kernel) rfl ?_
  intro p e s m args below meth c s₁ B hml hv
  obtain ⟨rfl, -⟩ := hv
  have hx := B.exec
  have hb := B.bytes
  have hr := B.returns
  have hlocks := B.notSynchronized
  have hT : ∀ w ∈ TB, w.before ([.int x, .int y] : List Value).toArray s = true := fun w h => atoms_spec (ws := w_JM_floorMod) B.pre w (List.mem_cons_of_mem _ h)
  have hown : s.vm.findClass R_JM = some m.cls := findClass_of_methodNamed B.named
  have hS : va_S (fun _ => False) s.heap s.heap [] := va_S.rf
  have hl := lv_entry ([.int x, .int y]) (n := 3) (Nat.le_of_ble_eq_true rfl)
  rw [lg_entry_eq]
  generalize (lg_sl ([.int x, .int y]) ++ List.replicate (3 - (lg_sl ([.int x, .int y])).length) Slot.unset).toArray = ls at hl ⊢
  have hl : lv_has ls 3 [(0, .int x), (1, .int y)] := hl
  refine lv_iload_n hx hb d_JM_floorMod_0 rfl (lv_at hl 0 rfl) ?_
  refine lv_iload_n hx hb d_JM_floorMod_1 rfl (lv_at hl 1 rfl) ?_
  refine lv_irem hx hb d_JM_floorMod_2 (by assumption) ?_
  refine lv_istore_n (lv' := [(2, .int (x - x / y * y)), (0, .int x), (1, .int y)]) hx hb d_JM_floorMod_3 rfl hl (by decide) rfl (fun ls hl => ?_)
  refine lv_iload_n hx hb d_JM_floorMod_4 rfl (lv_at hl 1 rfl) ?_
  refine lv_iload_n hx hb d_JM_floorMod_5 rfl (lv_at hl 2 rfl) ?_
  refine lv_ixor hx hb d_JM_floorMod_6 ?_
  refine lv_if_ge (tgt := 18) hx hb d_JM_floorMod_7 (by decide) (fun q1 => ?_) (fun q1 => ?_)
  · refine lv_iload_n hx hb d_JM_floorMod_18 rfl (lv_at hl 0 rfl) ?_
    have e9 : (x - x / y * y) = f_J_floorMod x y := by rw [f_J_floorMod, if_pos q1]
    exact W.iret (v := (x - x / y * y)) hx hb hr (fun t ht hW => ⟨_, rfl, e9, ht⟩) (fun _ h => absurd h List.not_mem_nil) d_JM_floorMod_19
  · refine lv_iload_n hx hb d_JM_floorMod_10 rfl (lv_at hl 0 rfl) ?_
    refine lv_if_eq (tgt := 18) hx hb d_JM_floorMod_11 (by decide) (fun q2 => ?_) (fun q2 => ?_)
    · refine lv_iload_n hx hb d_JM_floorMod_18 rfl (lv_at hl 0 rfl) ?_
      have e9 : (x - x / y * y) = f_J_floorMod x y := by rw [f_J_floorMod, if_neg q1, if_pos q2]
      exact W.iret (v := (x - x / y * y)) hx hb hr (fun t ht hW => ⟨_, rfl, e9, ht⟩) (fun _ h => absurd h List.not_mem_nil) d_JM_floorMod_19
    · refine lv_iload_n hx hb d_JM_floorMod_14 rfl (lv_at hl 0 rfl) ?_
      refine lv_iload_n hx hb d_JM_floorMod_15 rfl (lv_at hl 2 rfl) ?_
      refine lv_iadd hx hb d_JM_floorMod_16 ?_
      have e9 : ((x - x / y * y) + y) = f_J_floorMod x y := by rw [f_J_floorMod, if_neg q1, if_neg q2]
      exact W.iret (v := ((x - x / y * y) + y)) hx hb hr (fun t ht hW => ⟨_, rfl, e9, ht⟩) (fun _ h => absurd h List.not_mem_nil) d_JM_floorMod_17

def f_J_bitCount (x : Int32) : Int32 := ((((((((x - ((((x).toUInt32 >>> (((1 : Int32)).toUInt32 &&& Int32.toUInt32 31)).toInt32) &&& (1431655765 : Int32))) &&& (858993459 : Int32)) + (((((x - ((((x).toUInt32 >>> (((1 : Int32)).toUInt32 &&& Int32.toUInt32 31)).toInt32) &&& (1431655765 : Int32)))).toUInt32 >>> (((2 : Int32)).toUInt32 &&& Int32.toUInt32 31)).toInt32) &&& (858993459 : Int32))) + ((((((x - ((((x).toUInt32 >>> (((1 : Int32)).toUInt32 &&& Int32.toUInt32 31)).toInt32) &&& (1431655765 : Int32))) &&& (858993459 : Int32)) + (((((x - ((((x).toUInt32 >>> (((1 : Int32)).toUInt32 &&& Int32.toUInt32 31)).toInt32) &&& (1431655765 : Int32)))).toUInt32 >>> (((2 : Int32)).toUInt32 &&& Int32.toUInt32 31)).toInt32) &&& (858993459 : Int32)))).toUInt32 >>> (((4 : Int32)).toUInt32 &&& Int32.toUInt32 31)).toInt32)) &&& (252645135 : Int32)) + ((((((((x - ((((x).toUInt32 >>> (((1 : Int32)).toUInt32 &&& Int32.toUInt32 31)).toInt32) &&& (1431655765 : Int32))) &&& (858993459 : Int32)) + (((((x - ((((x).toUInt32 >>> (((1 : Int32)).toUInt32 &&& Int32.toUInt32 31)).toInt32) &&& (1431655765 : Int32)))).toUInt32 >>> (((2 : Int32)).toUInt32 &&& Int32.toUInt32 31)).toInt32) &&& (858993459 : Int32))) + ((((((x - ((((x).toUInt32 >>> (((1 : Int32)).toUInt32 &&& Int32.toUInt32 31)).toInt32) &&& (1431655765 : Int32))) &&& (858993459 : Int32)) + (((((x - ((((x).toUInt32 >>> (((1 : Int32)).toUInt32 &&& Int32.toUInt32 31)).toInt32) &&& (1431655765 : Int32)))).toUInt32 >>> (((2 : Int32)).toUInt32 &&& Int32.toUInt32 31)).toInt32) &&& (858993459 : Int32)))).toUInt32 >>> (((4 : Int32)).toUInt32 &&& Int32.toUInt32 31)).toInt32)) &&& (252645135 : Int32))).toUInt32 >>> (((8 : Int32)).toUInt32 &&& Int32.toUInt32 31)).toInt32)) + (((((((((x - ((((x).toUInt32 >>> (((1 : Int32)).toUInt32 &&& Int32.toUInt32 31)).toInt32) &&& (1431655765 : Int32))) &&& (858993459 : Int32)) + (((((x - ((((x).toUInt32 >>> (((1 : Int32)).toUInt32 &&& Int32.toUInt32 31)).toInt32) &&& (1431655765 : Int32)))).toUInt32 >>> (((2 : Int32)).toUInt32 &&& Int32.toUInt32 31)).toInt32) &&& (858993459 : Int32))) + ((((((x - ((((x).toUInt32 >>> (((1 : Int32)).toUInt32 &&& Int32.toUInt32 31)).toInt32) &&& (1431655765 : Int32))) &&& (858993459 : Int32)) + (((((x - ((((x).toUInt32 >>> (((1 : Int32)).toUInt32 &&& Int32.toUInt32 31)).toInt32) &&& (1431655765 : Int32)))).toUInt32 >>> (((2 : Int32)).toUInt32 &&& Int32.toUInt32 31)).toInt32) &&& (858993459 : Int32)))).toUInt32 >>> (((4 : Int32)).toUInt32 &&& Int32.toUInt32 31)).toInt32)) &&& (252645135 : Int32)) + ((((((((x - ((((x).toUInt32 >>> (((1 : Int32)).toUInt32 &&& Int32.toUInt32 31)).toInt32) &&& (1431655765 : Int32))) &&& (858993459 : Int32)) + (((((x - ((((x).toUInt32 >>> (((1 : Int32)).toUInt32 &&& Int32.toUInt32 31)).toInt32) &&& (1431655765 : Int32)))).toUInt32 >>> (((2 : Int32)).toUInt32 &&& Int32.toUInt32 31)).toInt32) &&& (858993459 : Int32))) + ((((((x - ((((x).toUInt32 >>> (((1 : Int32)).toUInt32 &&& Int32.toUInt32 31)).toInt32) &&& (1431655765 : Int32))) &&& (858993459 : Int32)) + (((((x - ((((x).toUInt32 >>> (((1 : Int32)).toUInt32 &&& Int32.toUInt32 31)).toInt32) &&& (1431655765 : Int32)))).toUInt32 >>> (((2 : Int32)).toUInt32 &&& Int32.toUInt32 31)).toInt32) &&& (858993459 : Int32)))).toUInt32 >>> (((4 : Int32)).toUInt32 &&& Int32.toUInt32 31)).toInt32)) &&& (252645135 : Int32))).toUInt32 >>> (((8 : Int32)).toUInt32 &&& Int32.toUInt32 31)).toInt32))).toUInt32 >>> (((16 : Int32)).toUInt32 &&& Int32.toUInt32 31)).toInt32)) &&& (63 : Int32))

set_option maxRecDepth 100000 in
set_option maxHeartbeats 4000000 in
theorem c_J_bitCount (l : Launch) (x : Int32) : Met l y_JI_bitCount w_JI_bitCount ({ frames := 0, cells := 0, slots := 0, locals := 0 } : Room) (va_Pc [.int x] (fun _ => True)) (vp_Si (fun v => v = f_J_bitCount x)) 0 0 (fun _ => False) := by
  refine va_MetF (cc := b_JI_bitCount) (maxL := 1) (ret := (some .int)) (by decide +kernel) rfl ?_
  intro p e s m args below meth c s₁ B hml hv
  obtain ⟨rfl, -⟩ := hv
  have hx := B.exec
  have hb := B.bytes
  have hr := B.returns
  have hlocks := B.notSynchronized
  have hT : ∀ w ∈ TB, w.before ([.int x] : List Value).toArray s = true := fun w h => atoms_spec (ws := w_JI_bitCount) B.pre w (List.mem_cons_of_mem _ h)
  have hown : s.vm.findClass R_JI = some m.cls := findClass_of_methodNamed B.named
  have hS : va_S (fun _ => False) s.heap s.heap [] := va_S.rf
  have hl := lv_entry ([.int x]) (n := 1) (Nat.le_of_ble_eq_true rfl)
  rw [lg_entry_eq]
  generalize (lg_sl ([.int x]) ++ List.replicate (1 - (lg_sl ([.int x])).length) Slot.unset).toArray = ls at hl ⊢
  have hl : lv_has ls 1 [(0, .int x)] := hl
  refine lv_iload_n hx hb d_JI_bitCount_0 rfl (lv_at hl 0 rfl) ?_
  refine lv_iload_n hx hb d_JI_bitCount_1 rfl (lv_at hl 0 rfl) ?_
  refine lv_iconst (v := (1 : Int32)) hx hb d_JI_bitCount_2 (by decide) ?_
  refine lv_iushr (v := ((x).toUInt32 >>> (((1 : Int32)).toUInt32 &&& Int32.toUInt32 31)).toInt32) hx hb d_JI_bitCount_3 rfl ?_
  refine lv_ldcw (v := (1431655765 : Int32)) hx hb hown (hT _ kc_JI_265) d_JI_bitCount_4 ?_
  refine lv_iand hx hb d_JI_bitCount_7 ?_
  refine lv_isub hx hb d_JI_bitCount_8 ?_
  refine lv_istore_n (lv' := [(0, .int (x - ((((x).toUInt32 >>> (((1 : Int32)).toUInt32 &&& Int32.toUInt32 31)).toInt32) &&& (1431655765 : Int32))))]) hx hb d_JI_bitCount_9 rfl hl (by decide) rfl (fun ls hl => ?_)
  refine lv_iload_n hx hb d_JI_bitCount_10 rfl (lv_at hl 0 rfl) ?_
  refine lv_ldcw (v := (858993459 : Int32)) hx hb hown (hT _ kc_JI_266) d_JI_bitCount_11 ?_
  refine lv_iand hx hb d_JI_bitCount_14 ?_
  refine lv_iload_n hx hb d_JI_bitCount_15 rfl (lv_at hl 0 rfl) ?_
  refine lv_iconst (v := (2 : Int32)) hx hb d_JI_bitCount_16 (by decide) ?_
  refine lv_iushr (v := (((x - ((((x).toUInt32 >>> (((1 : Int32)).toUInt32 &&& Int32.toUInt32 31)).toInt32) &&& (1431655765 : Int32)))).toUInt32 >>> (((2 : Int32)).toUInt32 &&& Int32.toUInt32 31)).toInt32) hx hb d_JI_bitCount_17 rfl ?_
  refine lv_ldcw (v := (858993459 : Int32)) hx hb hown (hT _ kc_JI_266) d_JI_bitCount_18 ?_
  refine lv_iand hx hb d_JI_bitCount_21 ?_
  refine lv_iadd hx hb d_JI_bitCount_22 ?_
  refine lv_istore_n (lv' := [(0, .int (((x - ((((x).toUInt32 >>> (((1 : Int32)).toUInt32 &&& Int32.toUInt32 31)).toInt32) &&& (1431655765 : Int32))) &&& (858993459 : Int32)) + (((((x - ((((x).toUInt32 >>> (((1 : Int32)).toUInt32 &&& Int32.toUInt32 31)).toInt32) &&& (1431655765 : Int32)))).toUInt32 >>> (((2 : Int32)).toUInt32 &&& Int32.toUInt32 31)).toInt32) &&& (858993459 : Int32))))]) hx hb d_JI_bitCount_23 rfl hl (by decide) rfl (fun ls hl => ?_)
  refine lv_iload_n hx hb d_JI_bitCount_24 rfl (lv_at hl 0 rfl) ?_
  refine lv_iload_n hx hb d_JI_bitCount_25 rfl (lv_at hl 0 rfl) ?_
  refine lv_iconst (v := (4 : Int32)) hx hb d_JI_bitCount_26 (by decide) ?_
  refine lv_iushr (v := (((((x - ((((x).toUInt32 >>> (((1 : Int32)).toUInt32 &&& Int32.toUInt32 31)).toInt32) &&& (1431655765 : Int32))) &&& (858993459 : Int32)) + (((((x - ((((x).toUInt32 >>> (((1 : Int32)).toUInt32 &&& Int32.toUInt32 31)).toInt32) &&& (1431655765 : Int32)))).toUInt32 >>> (((2 : Int32)).toUInt32 &&& Int32.toUInt32 31)).toInt32) &&& (858993459 : Int32)))).toUInt32 >>> (((4 : Int32)).toUInt32 &&& Int32.toUInt32 31)).toInt32) hx hb d_JI_bitCount_27 rfl ?_
  refine lv_iadd hx hb d_JI_bitCount_28 ?_
  refine lv_ldcw (v := (252645135 : Int32)) hx hb hown (hT _ kc_JI_267) d_JI_bitCount_29 ?_
  refine lv_iand hx hb d_JI_bitCount_32 ?_
  refine lv_istore_n (lv' := [(0, .int (((((x - ((((x).toUInt32 >>> (((1 : Int32)).toUInt32 &&& Int32.toUInt32 31)).toInt32) &&& (1431655765 : Int32))) &&& (858993459 : Int32)) + (((((x - ((((x).toUInt32 >>> (((1 : Int32)).toUInt32 &&& Int32.toUInt32 31)).toInt32) &&& (1431655765 : Int32)))).toUInt32 >>> (((2 : Int32)).toUInt32 &&& Int32.toUInt32 31)).toInt32) &&& (858993459 : Int32))) + ((((((x - ((((x).toUInt32 >>> (((1 : Int32)).toUInt32 &&& Int32.toUInt32 31)).toInt32) &&& (1431655765 : Int32))) &&& (858993459 : Int32)) + (((((x - ((((x).toUInt32 >>> (((1 : Int32)).toUInt32 &&& Int32.toUInt32 31)).toInt32) &&& (1431655765 : Int32)))).toUInt32 >>> (((2 : Int32)).toUInt32 &&& Int32.toUInt32 31)).toInt32) &&& (858993459 : Int32)))).toUInt32 >>> (((4 : Int32)).toUInt32 &&& Int32.toUInt32 31)).toInt32)) &&& (252645135 : Int32)))]) hx hb d_JI_bitCount_33 rfl hl (by decide) rfl (fun ls hl => ?_)
  refine lv_iload_n hx hb d_JI_bitCount_34 rfl (lv_at hl 0 rfl) ?_
  refine lv_iload_n hx hb d_JI_bitCount_35 rfl (lv_at hl 0 rfl) ?_
  refine lv_bipush (v := (8 : Int32)) hx hb d_JI_bitCount_36 (by decide) ?_
  refine lv_iushr (v := (((((((x - ((((x).toUInt32 >>> (((1 : Int32)).toUInt32 &&& Int32.toUInt32 31)).toInt32) &&& (1431655765 : Int32))) &&& (858993459 : Int32)) + (((((x - ((((x).toUInt32 >>> (((1 : Int32)).toUInt32 &&& Int32.toUInt32 31)).toInt32) &&& (1431655765 : Int32)))).toUInt32 >>> (((2 : Int32)).toUInt32 &&& Int32.toUInt32 31)).toInt32) &&& (858993459 : Int32))) + ((((((x - ((((x).toUInt32 >>> (((1 : Int32)).toUInt32 &&& Int32.toUInt32 31)).toInt32) &&& (1431655765 : Int32))) &&& (858993459 : Int32)) + (((((x - ((((x).toUInt32 >>> (((1 : Int32)).toUInt32 &&& Int32.toUInt32 31)).toInt32) &&& (1431655765 : Int32)))).toUInt32 >>> (((2 : Int32)).toUInt32 &&& Int32.toUInt32 31)).toInt32) &&& (858993459 : Int32)))).toUInt32 >>> (((4 : Int32)).toUInt32 &&& Int32.toUInt32 31)).toInt32)) &&& (252645135 : Int32))).toUInt32 >>> (((8 : Int32)).toUInt32 &&& Int32.toUInt32 31)).toInt32) hx hb d_JI_bitCount_38 rfl ?_
  refine lv_iadd hx hb d_JI_bitCount_39 ?_
  refine lv_istore_n (lv' := [(0, .int ((((((x - ((((x).toUInt32 >>> (((1 : Int32)).toUInt32 &&& Int32.toUInt32 31)).toInt32) &&& (1431655765 : Int32))) &&& (858993459 : Int32)) + (((((x - ((((x).toUInt32 >>> (((1 : Int32)).toUInt32 &&& Int32.toUInt32 31)).toInt32) &&& (1431655765 : Int32)))).toUInt32 >>> (((2 : Int32)).toUInt32 &&& Int32.toUInt32 31)).toInt32) &&& (858993459 : Int32))) + ((((((x - ((((x).toUInt32 >>> (((1 : Int32)).toUInt32 &&& Int32.toUInt32 31)).toInt32) &&& (1431655765 : Int32))) &&& (858993459 : Int32)) + (((((x - ((((x).toUInt32 >>> (((1 : Int32)).toUInt32 &&& Int32.toUInt32 31)).toInt32) &&& (1431655765 : Int32)))).toUInt32 >>> (((2 : Int32)).toUInt32 &&& Int32.toUInt32 31)).toInt32) &&& (858993459 : Int32)))).toUInt32 >>> (((4 : Int32)).toUInt32 &&& Int32.toUInt32 31)).toInt32)) &&& (252645135 : Int32)) + ((((((((x - ((((x).toUInt32 >>> (((1 : Int32)).toUInt32 &&& Int32.toUInt32 31)).toInt32) &&& (1431655765 : Int32))) &&& (858993459 : Int32)) + (((((x - ((((x).toUInt32 >>> (((1 : Int32)).toUInt32 &&& Int32.toUInt32 31)).toInt32) &&& (1431655765 : Int32)))).toUInt32 >>> (((2 : Int32)).toUInt32 &&& Int32.toUInt32 31)).toInt32) &&& (858993459 : Int32))) + ((((((x - ((((x).toUInt32 >>> (((1 : Int32)).toUInt32 &&& Int32.toUInt32 31)).toInt32) &&& (1431655765 : Int32))) &&& (858993459 : Int32)) + (((((x - ((((x).toUInt32 >>> (((1 : Int32)).toUInt32 &&& Int32.toUInt32 31)).toInt32) &&& (1431655765 : Int32)))).toUInt32 >>> (((2 : Int32)).toUInt32 &&& Int32.toUInt32 31)).toInt32) &&& (858993459 : Int32)))).toUInt32 >>> (((4 : Int32)).toUInt32 &&& Int32.toUInt32 31)).toInt32)) &&& (252645135 : Int32))).toUInt32 >>> (((8 : Int32)).toUInt32 &&& Int32.toUInt32 31)).toInt32)))]) hx hb d_JI_bitCount_40 rfl hl (by decide) rfl (fun ls hl => ?_)
  refine lv_iload_n hx hb d_JI_bitCount_41 rfl (lv_at hl 0 rfl) ?_
  refine lv_iload_n hx hb d_JI_bitCount_42 rfl (lv_at hl 0 rfl) ?_
  refine lv_bipush (v := (16 : Int32)) hx hb d_JI_bitCount_43 (by decide) ?_
  refine lv_iushr (v := ((((((((x - ((((x).toUInt32 >>> (((1 : Int32)).toUInt32 &&& Int32.toUInt32 31)).toInt32) &&& (1431655765 : Int32))) &&& (858993459 : Int32)) + (((((x - ((((x).toUInt32 >>> (((1 : Int32)).toUInt32 &&& Int32.toUInt32 31)).toInt32) &&& (1431655765 : Int32)))).toUInt32 >>> (((2 : Int32)).toUInt32 &&& Int32.toUInt32 31)).toInt32) &&& (858993459 : Int32))) + ((((((x - ((((x).toUInt32 >>> (((1 : Int32)).toUInt32 &&& Int32.toUInt32 31)).toInt32) &&& (1431655765 : Int32))) &&& (858993459 : Int32)) + (((((x - ((((x).toUInt32 >>> (((1 : Int32)).toUInt32 &&& Int32.toUInt32 31)).toInt32) &&& (1431655765 : Int32)))).toUInt32 >>> (((2 : Int32)).toUInt32 &&& Int32.toUInt32 31)).toInt32) &&& (858993459 : Int32)))).toUInt32 >>> (((4 : Int32)).toUInt32 &&& Int32.toUInt32 31)).toInt32)) &&& (252645135 : Int32)) + ((((((((x - ((((x).toUInt32 >>> (((1 : Int32)).toUInt32 &&& Int32.toUInt32 31)).toInt32) &&& (1431655765 : Int32))) &&& (858993459 : Int32)) + (((((x - ((((x).toUInt32 >>> (((1 : Int32)).toUInt32 &&& Int32.toUInt32 31)).toInt32) &&& (1431655765 : Int32)))).toUInt32 >>> (((2 : Int32)).toUInt32 &&& Int32.toUInt32 31)).toInt32) &&& (858993459 : Int32))) + ((((((x - ((((x).toUInt32 >>> (((1 : Int32)).toUInt32 &&& Int32.toUInt32 31)).toInt32) &&& (1431655765 : Int32))) &&& (858993459 : Int32)) + (((((x - ((((x).toUInt32 >>> (((1 : Int32)).toUInt32 &&& Int32.toUInt32 31)).toInt32) &&& (1431655765 : Int32)))).toUInt32 >>> (((2 : Int32)).toUInt32 &&& Int32.toUInt32 31)).toInt32) &&& (858993459 : Int32)))).toUInt32 >>> (((4 : Int32)).toUInt32 &&& Int32.toUInt32 31)).toInt32)) &&& (252645135 : Int32))).toUInt32 >>> (((8 : Int32)).toUInt32 &&& Int32.toUInt32 31)).toInt32))).toUInt32 >>> (((16 : Int32)).toUInt32 &&& Int32.toUInt32 31)).toInt32) hx hb d_JI_bitCount_45 rfl ?_
  refine lv_iadd hx hb d_JI_bitCount_46 ?_
  refine lv_istore_n (lv' := [(0, .int (((((((x - ((((x).toUInt32 >>> (((1 : Int32)).toUInt32 &&& Int32.toUInt32 31)).toInt32) &&& (1431655765 : Int32))) &&& (858993459 : Int32)) + (((((x - ((((x).toUInt32 >>> (((1 : Int32)).toUInt32 &&& Int32.toUInt32 31)).toInt32) &&& (1431655765 : Int32)))).toUInt32 >>> (((2 : Int32)).toUInt32 &&& Int32.toUInt32 31)).toInt32) &&& (858993459 : Int32))) + ((((((x - ((((x).toUInt32 >>> (((1 : Int32)).toUInt32 &&& Int32.toUInt32 31)).toInt32) &&& (1431655765 : Int32))) &&& (858993459 : Int32)) + (((((x - ((((x).toUInt32 >>> (((1 : Int32)).toUInt32 &&& Int32.toUInt32 31)).toInt32) &&& (1431655765 : Int32)))).toUInt32 >>> (((2 : Int32)).toUInt32 &&& Int32.toUInt32 31)).toInt32) &&& (858993459 : Int32)))).toUInt32 >>> (((4 : Int32)).toUInt32 &&& Int32.toUInt32 31)).toInt32)) &&& (252645135 : Int32)) + ((((((((x - ((((x).toUInt32 >>> (((1 : Int32)).toUInt32 &&& Int32.toUInt32 31)).toInt32) &&& (1431655765 : Int32))) &&& (858993459 : Int32)) + (((((x - ((((x).toUInt32 >>> (((1 : Int32)).toUInt32 &&& Int32.toUInt32 31)).toInt32) &&& (1431655765 : Int32)))).toUInt32 >>> (((2 : Int32)).toUInt32 &&& Int32.toUInt32 31)).toInt32) &&& (858993459 : Int32))) + ((((((x - ((((x).toUInt32 >>> (((1 : Int32)).toUInt32 &&& Int32.toUInt32 31)).toInt32) &&& (1431655765 : Int32))) &&& (858993459 : Int32)) + (((((x - ((((x).toUInt32 >>> (((1 : Int32)).toUInt32 &&& Int32.toUInt32 31)).toInt32) &&& (1431655765 : Int32)))).toUInt32 >>> (((2 : Int32)).toUInt32 &&& Int32.toUInt32 31)).toInt32) &&& (858993459 : Int32)))).toUInt32 >>> (((4 : Int32)).toUInt32 &&& Int32.toUInt32 31)).toInt32)) &&& (252645135 : Int32))).toUInt32 >>> (((8 : Int32)).toUInt32 &&& Int32.toUInt32 31)).toInt32)) + (((((((((x - ((((x).toUInt32 >>> (((1 : Int32)).toUInt32 &&& Int32.toUInt32 31)).toInt32) &&& (1431655765 : Int32))) &&& (858993459 : Int32)) + (((((x - ((((x).toUInt32 >>> (((1 : Int32)).toUInt32 &&& Int32.toUInt32 31)).toInt32) &&& (1431655765 : Int32)))).toUInt32 >>> (((2 : Int32)).toUInt32 &&& Int32.toUInt32 31)).toInt32) &&& (858993459 : Int32))) + ((((((x - ((((x).toUInt32 >>> (((1 : Int32)).toUInt32 &&& Int32.toUInt32 31)).toInt32) &&& (1431655765 : Int32))) &&& (858993459 : Int32)) + (((((x - ((((x).toUInt32 >>> (((1 : Int32)).toUInt32 &&& Int32.toUInt32 31)).toInt32) &&& (1431655765 : Int32)))).toUInt32 >>> (((2 : Int32)).toUInt32 &&& Int32.toUInt32 31)).toInt32) &&& (858993459 : Int32)))).toUInt32 >>> (((4 : Int32)).toUInt32 &&& Int32.toUInt32 31)).toInt32)) &&& (252645135 : Int32)) + ((((((((x - ((((x).toUInt32 >>> (((1 : Int32)).toUInt32 &&& Int32.toUInt32 31)).toInt32) &&& (1431655765 : Int32))) &&& (858993459 : Int32)) + (((((x - ((((x).toUInt32 >>> (((1 : Int32)).toUInt32 &&& Int32.toUInt32 31)).toInt32) &&& (1431655765 : Int32)))).toUInt32 >>> (((2 : Int32)).toUInt32 &&& Int32.toUInt32 31)).toInt32) &&& (858993459 : Int32))) + ((((((x - ((((x).toUInt32 >>> (((1 : Int32)).toUInt32 &&& Int32.toUInt32 31)).toInt32) &&& (1431655765 : Int32))) &&& (858993459 : Int32)) + (((((x - ((((x).toUInt32 >>> (((1 : Int32)).toUInt32 &&& Int32.toUInt32 31)).toInt32) &&& (1431655765 : Int32)))).toUInt32 >>> (((2 : Int32)).toUInt32 &&& Int32.toUInt32 31)).toInt32) &&& (858993459 : Int32)))).toUInt32 >>> (((4 : Int32)).toUInt32 &&& Int32.toUInt32 31)).toInt32)) &&& (252645135 : Int32))).toUInt32 >>> (((8 : Int32)).toUInt32 &&& Int32.toUInt32 31)).toInt32))).toUInt32 >>> (((16 : Int32)).toUInt32 &&& Int32.toUInt32 31)).toInt32)))]) hx hb d_JI_bitCount_47 rfl hl (by decide) rfl (fun ls hl => ?_)
  refine lv_iload_n hx hb d_JI_bitCount_48 rfl (lv_at hl 0 rfl) ?_
  refine lv_bipush (v := (63 : Int32)) hx hb d_JI_bitCount_49 (by decide) ?_
  refine lv_iand hx hb d_JI_bitCount_51 ?_
  have e9 : ((((((((x - ((((x).toUInt32 >>> (((1 : Int32)).toUInt32 &&& Int32.toUInt32 31)).toInt32) &&& (1431655765 : Int32))) &&& (858993459 : Int32)) + (((((x - ((((x).toUInt32 >>> (((1 : Int32)).toUInt32 &&& Int32.toUInt32 31)).toInt32) &&& (1431655765 : Int32)))).toUInt32 >>> (((2 : Int32)).toUInt32 &&& Int32.toUInt32 31)).toInt32) &&& (858993459 : Int32))) + ((((((x - ((((x).toUInt32 >>> (((1 : Int32)).toUInt32 &&& Int32.toUInt32 31)).toInt32) &&& (1431655765 : Int32))) &&& (858993459 : Int32)) + (((((x - ((((x).toUInt32 >>> (((1 : Int32)).toUInt32 &&& Int32.toUInt32 31)).toInt32) &&& (1431655765 : Int32)))).toUInt32 >>> (((2 : Int32)).toUInt32 &&& Int32.toUInt32 31)).toInt32) &&& (858993459 : Int32)))).toUInt32 >>> (((4 : Int32)).toUInt32 &&& Int32.toUInt32 31)).toInt32)) &&& (252645135 : Int32)) + ((((((((x - ((((x).toUInt32 >>> (((1 : Int32)).toUInt32 &&& Int32.toUInt32 31)).toInt32) &&& (1431655765 : Int32))) &&& (858993459 : Int32)) + (((((x - ((((x).toUInt32 >>> (((1 : Int32)).toUInt32 &&& Int32.toUInt32 31)).toInt32) &&& (1431655765 : Int32)))).toUInt32 >>> (((2 : Int32)).toUInt32 &&& Int32.toUInt32 31)).toInt32) &&& (858993459 : Int32))) + ((((((x - ((((x).toUInt32 >>> (((1 : Int32)).toUInt32 &&& Int32.toUInt32 31)).toInt32) &&& (1431655765 : Int32))) &&& (858993459 : Int32)) + (((((x - ((((x).toUInt32 >>> (((1 : Int32)).toUInt32 &&& Int32.toUInt32 31)).toInt32) &&& (1431655765 : Int32)))).toUInt32 >>> (((2 : Int32)).toUInt32 &&& Int32.toUInt32 31)).toInt32) &&& (858993459 : Int32)))).toUInt32 >>> (((4 : Int32)).toUInt32 &&& Int32.toUInt32 31)).toInt32)) &&& (252645135 : Int32))).toUInt32 >>> (((8 : Int32)).toUInt32 &&& Int32.toUInt32 31)).toInt32)) + (((((((((x - ((((x).toUInt32 >>> (((1 : Int32)).toUInt32 &&& Int32.toUInt32 31)).toInt32) &&& (1431655765 : Int32))) &&& (858993459 : Int32)) + (((((x - ((((x).toUInt32 >>> (((1 : Int32)).toUInt32 &&& Int32.toUInt32 31)).toInt32) &&& (1431655765 : Int32)))).toUInt32 >>> (((2 : Int32)).toUInt32 &&& Int32.toUInt32 31)).toInt32) &&& (858993459 : Int32))) + ((((((x - ((((x).toUInt32 >>> (((1 : Int32)).toUInt32 &&& Int32.toUInt32 31)).toInt32) &&& (1431655765 : Int32))) &&& (858993459 : Int32)) + (((((x - ((((x).toUInt32 >>> (((1 : Int32)).toUInt32 &&& Int32.toUInt32 31)).toInt32) &&& (1431655765 : Int32)))).toUInt32 >>> (((2 : Int32)).toUInt32 &&& Int32.toUInt32 31)).toInt32) &&& (858993459 : Int32)))).toUInt32 >>> (((4 : Int32)).toUInt32 &&& Int32.toUInt32 31)).toInt32)) &&& (252645135 : Int32)) + ((((((((x - ((((x).toUInt32 >>> (((1 : Int32)).toUInt32 &&& Int32.toUInt32 31)).toInt32) &&& (1431655765 : Int32))) &&& (858993459 : Int32)) + (((((x - ((((x).toUInt32 >>> (((1 : Int32)).toUInt32 &&& Int32.toUInt32 31)).toInt32) &&& (1431655765 : Int32)))).toUInt32 >>> (((2 : Int32)).toUInt32 &&& Int32.toUInt32 31)).toInt32) &&& (858993459 : Int32))) + ((((((x - ((((x).toUInt32 >>> (((1 : Int32)).toUInt32 &&& Int32.toUInt32 31)).toInt32) &&& (1431655765 : Int32))) &&& (858993459 : Int32)) + (((((x - ((((x).toUInt32 >>> (((1 : Int32)).toUInt32 &&& Int32.toUInt32 31)).toInt32) &&& (1431655765 : Int32)))).toUInt32 >>> (((2 : Int32)).toUInt32 &&& Int32.toUInt32 31)).toInt32) &&& (858993459 : Int32)))).toUInt32 >>> (((4 : Int32)).toUInt32 &&& Int32.toUInt32 31)).toInt32)) &&& (252645135 : Int32))).toUInt32 >>> (((8 : Int32)).toUInt32 &&& Int32.toUInt32 31)).toInt32))).toUInt32 >>> (((16 : Int32)).toUInt32 &&& Int32.toUInt32 31)).toInt32)) &&& (63 : Int32)) = f_J_bitCount x := by rw [f_J_bitCount]
  exact W.iret (v := ((((((((x - ((((x).toUInt32 >>> (((1 : Int32)).toUInt32 &&& Int32.toUInt32 31)).toInt32) &&& (1431655765 : Int32))) &&& (858993459 : Int32)) + (((((x - ((((x).toUInt32 >>> (((1 : Int32)).toUInt32 &&& Int32.toUInt32 31)).toInt32) &&& (1431655765 : Int32)))).toUInt32 >>> (((2 : Int32)).toUInt32 &&& Int32.toUInt32 31)).toInt32) &&& (858993459 : Int32))) + ((((((x - ((((x).toUInt32 >>> (((1 : Int32)).toUInt32 &&& Int32.toUInt32 31)).toInt32) &&& (1431655765 : Int32))) &&& (858993459 : Int32)) + (((((x - ((((x).toUInt32 >>> (((1 : Int32)).toUInt32 &&& Int32.toUInt32 31)).toInt32) &&& (1431655765 : Int32)))).toUInt32 >>> (((2 : Int32)).toUInt32 &&& Int32.toUInt32 31)).toInt32) &&& (858993459 : Int32)))).toUInt32 >>> (((4 : Int32)).toUInt32 &&& Int32.toUInt32 31)).toInt32)) &&& (252645135 : Int32)) + ((((((((x - ((((x).toUInt32 >>> (((1 : Int32)).toUInt32 &&& Int32.toUInt32 31)).toInt32) &&& (1431655765 : Int32))) &&& (858993459 : Int32)) + (((((x - ((((x).toUInt32 >>> (((1 : Int32)).toUInt32 &&& Int32.toUInt32 31)).toInt32) &&& (1431655765 : Int32)))).toUInt32 >>> (((2 : Int32)).toUInt32 &&& Int32.toUInt32 31)).toInt32) &&& (858993459 : Int32))) + ((((((x - ((((x).toUInt32 >>> (((1 : Int32)).toUInt32 &&& Int32.toUInt32 31)).toInt32) &&& (1431655765 : Int32))) &&& (858993459 : Int32)) + (((((x - ((((x).toUInt32 >>> (((1 : Int32)).toUInt32 &&& Int32.toUInt32 31)).toInt32) &&& (1431655765 : Int32)))).toUInt32 >>> (((2 : Int32)).toUInt32 &&& Int32.toUInt32 31)).toInt32) &&& (858993459 : Int32)))).toUInt32 >>> (((4 : Int32)).toUInt32 &&& Int32.toUInt32 31)).toInt32)) &&& (252645135 : Int32))).toUInt32 >>> (((8 : Int32)).toUInt32 &&& Int32.toUInt32 31)).toInt32)) + (((((((((x - ((((x).toUInt32 >>> (((1 : Int32)).toUInt32 &&& Int32.toUInt32 31)).toInt32) &&& (1431655765 : Int32))) &&& (858993459 : Int32)) + (((((x - ((((x).toUInt32 >>> (((1 : Int32)).toUInt32 &&& Int32.toUInt32 31)).toInt32) &&& (1431655765 : Int32)))).toUInt32 >>> (((2 : Int32)).toUInt32 &&& Int32.toUInt32 31)).toInt32) &&& (858993459 : Int32))) + ((((((x - ((((x).toUInt32 >>> (((1 : Int32)).toUInt32 &&& Int32.toUInt32 31)).toInt32) &&& (1431655765 : Int32))) &&& (858993459 : Int32)) + (((((x - ((((x).toUInt32 >>> (((1 : Int32)).toUInt32 &&& Int32.toUInt32 31)).toInt32) &&& (1431655765 : Int32)))).toUInt32 >>> (((2 : Int32)).toUInt32 &&& Int32.toUInt32 31)).toInt32) &&& (858993459 : Int32)))).toUInt32 >>> (((4 : Int32)).toUInt32 &&& Int32.toUInt32 31)).toInt32)) &&& (252645135 : Int32)) + ((((((((x - ((((x).toUInt32 >>> (((1 : Int32)).toUInt32 &&& Int32.toUInt32 31)).toInt32) &&& (1431655765 : Int32))) &&& (858993459 : Int32)) + (((((x - ((((x).toUInt32 >>> (((1 : Int32)).toUInt32 &&& Int32.toUInt32 31)).toInt32) &&& (1431655765 : Int32)))).toUInt32 >>> (((2 : Int32)).toUInt32 &&& Int32.toUInt32 31)).toInt32) &&& (858993459 : Int32))) + ((((((x - ((((x).toUInt32 >>> (((1 : Int32)).toUInt32 &&& Int32.toUInt32 31)).toInt32) &&& (1431655765 : Int32))) &&& (858993459 : Int32)) + (((((x - ((((x).toUInt32 >>> (((1 : Int32)).toUInt32 &&& Int32.toUInt32 31)).toInt32) &&& (1431655765 : Int32)))).toUInt32 >>> (((2 : Int32)).toUInt32 &&& Int32.toUInt32 31)).toInt32) &&& (858993459 : Int32)))).toUInt32 >>> (((4 : Int32)).toUInt32 &&& Int32.toUInt32 31)).toInt32)) &&& (252645135 : Int32))).toUInt32 >>> (((8 : Int32)).toUInt32 &&& Int32.toUInt32 31)).toInt32))).toUInt32 >>> (((16 : Int32)).toUInt32 &&& Int32.toUInt32 31)).toInt32)) &&& (63 : Int32))) hx hb hr (fun t ht hW => ⟨_, rfl, e9, ht⟩) (fun _ h => absurd h List.not_mem_nil) d_JI_bitCount_52
end
section
def f_B_isPixel (x : Int32) : Int32 := (if x < 0 then (0 : Int32) else (if (160 : Int32) ≤ x then (0 : Int32) else (1 : Int32)))

theorem z_B_isPixel (x : Int32) : f_B_isPixel x = 0 ∨ f_B_isPixel x = 1 := by
  rw [f_B_isPixel]
  repeat' split
  all_goals first | with_reducible exact Or.inl rfl | with_reducible exact Or.inr rfl

set_option maxRecDepth 100000 in
set_option maxHeartbeats 4000000 in
theorem c_B_isPixel (l : Launch) (D : va_G) (cA ad t : Nat → Nat) (hap : kap 7 ad) (σ : Nat → Nat → Int32) (x : Int32) : Met l y_B_isPixel w_B_isPixel ({ frames := 0, cells := 0, slots := 0, locals := 0 } : Room) (va_Pc [.int x] (bPre D cA ad t σ)) (vp_Si (fun v => v = f_B_isPixel x)) 0 0 (fun _ => False) := by
  refine Met.ofW (cc := b_B_isPixel) (maxL := 1) (ret := (some .boolean)) (by decide) rfl ?_
  intro p e s m args below meth c s₁ B hml hv
  obtain ⟨rfl, hv⟩ := hv
  obtain ⟨hP, hK, hZ⟩ := hv
  have hx := B.exec
  have hb := B.bytes
  have hr := B.returns
  have hlocks := B.notSynchronized
  have hT : ∀ w ∈ TB, w.before ([.int x] : List Value).toArray s = true := fun w h => atoms_spec (ws := w_B_isPixel) B.pre w (List.mem_cons_of_mem _ h)
  have hown : s.vm.findClass R_B = some m.cls := findClass_of_methodNamed B.named
  have hS : va_S (kA 7 ad) s.heap s.heap [] := va_S.rf
  have hl := lv_entry ([.int x]) (n := 1) (Nat.le_of_ble_eq_true rfl)
  rw [lg_entry_eq]
  generalize (lg_sl ([.int x]) ++ List.replicate (1 - (lg_sl ([.int x])).length) Slot.unset).toArray = ls at hl ⊢
  have hl : lv_has ls 1 [(0, .int x)] := hl
  refine lv_iload_n hx hb d_B_isPixel_0 rfl (lv_at hl 0 rfl) ?_
  refine lv_if_lt (tgt := 15) hx hb d_B_isPixel_1 (by decide) (fun q1 => ?_) (fun q1 => ?_)
  · refine lv_iconst (v := (0 : Int32)) hx hb d_B_isPixel_15 (by decide) ?_
    have e9 : (0 : Int32) = f_B_isPixel x := by rw [f_B_isPixel, if_pos q1]
    exact W.zret (v := (0 : Int32)) hx hb hr (by decide) (fun t ht hW => ⟨_, rfl, e9, ht⟩) (fun _ h => absurd h List.not_mem_nil) d_B_isPixel_16
  · refine lv_iload_n hx hb d_B_isPixel_4 rfl (lv_at hl 0 rfl) ?_
    refine lv_sipush (v := (160 : Int32)) hx hb d_B_isPixel_5 (by decide) ?_
    refine lv_icmp_ge (tgt := 15) hx hb d_B_isPixel_8 (by decide) (fun q2 => ?_) (fun q2 => ?_)
    · refine lv_iconst (v := (0 : Int32)) hx hb d_B_isPixel_15 (by decide) ?_
      have e9 : (0 : Int32) = f_B_isPixel x := by rw [f_B_isPixel, if_neg q1, if_pos q2]
      exact W.zret (v := (0 : Int32)) hx hb hr (by decide) (fun t ht hW => ⟨_, rfl, e9, ht⟩) (fun _ h => absurd h List.not_mem_nil) d_B_isPixel_16
    · refine lv_iconst (v := (1 : Int32)) hx hb d_B_isPixel_11 (by decide) ?_
      refine lv_goto (tgt := 16) hx hb d_B_isPixel_12 (by decide) ?_
      have e9 : (1 : Int32) = f_B_isPixel x := by rw [f_B_isPixel, if_neg q1, if_neg q2]
      exact W.zret (v := (1 : Int32)) hx hb hr (by decide) (fun t ht hW => ⟨_, rfl, e9, ht⟩) (fun _ h => absurd h List.not_mem_nil) d_B_isPixel_16

def f_B_isObject (o : Int32) : Int32 := (if o < 0 then (0 : Int32) else (if (6 : Int32) ≤ o then (0 : Int32) else (1 : Int32)))

theorem z_B_isObject (o : Int32) : f_B_isObject o = 0 ∨ f_B_isObject o = 1 := by
  rw [f_B_isObject]
  repeat' split
  all_goals first | with_reducible exact Or.inl rfl | with_reducible exact Or.inr rfl

set_option maxRecDepth 100000 in
set_option maxHeartbeats 4000000 in
theorem c_B_isObject (l : Launch) (D : va_G) (cA ad t : Nat → Nat) (hap : kap 7 ad) (σ : Nat → Nat → Int32) (o : Int32) : Met l y_B_isObject w_B_isObject ({ frames := 0, cells := 0, slots := 0, locals := 0 } : Room) (va_Pc [.int o] (bPre D cA ad t σ)) (vp_Si (fun v => v = f_B_isObject o)) 0 0 (fun _ => False) := by
  refine Met.ofW (cc := b_B_isObject) (maxL := 1) (ret := (some .boolean)) (by decide) rfl ?_
  intro p e s m args below meth c s₁ B hml hv
  obtain ⟨rfl, hv⟩ := hv
  obtain ⟨hP, hK, hZ⟩ := hv
  have hx := B.exec
  have hb := B.bytes
  have hr := B.returns
  have hlocks := B.notSynchronized
  have hT : ∀ w ∈ TB, w.before ([.int o] : List Value).toArray s = true := fun w h => atoms_spec (ws := w_B_isObject) B.pre w (List.mem_cons_of_mem _ h)
  have hown : s.vm.findClass R_B = some m.cls := findClass_of_methodNamed B.named
  have hS : va_S (kA 7 ad) s.heap s.heap [] := va_S.rf
  have hl := lv_entry ([.int o]) (n := 1) (Nat.le_of_ble_eq_true rfl)
  rw [lg_entry_eq]
  generalize (lg_sl ([.int o]) ++ List.replicate (1 - (lg_sl ([.int o])).length) Slot.unset).toArray = ls at hl ⊢
  have hl : lv_has ls 1 [(0, .int o)] := hl
  refine lv_iload_n hx hb d_B_isObject_0 rfl (lv_at hl 0 rfl) ?_
  refine lv_if_lt (tgt := 14) hx hb d_B_isObject_1 (by decide) (fun q1 => ?_) (fun q1 => ?_)
  · refine lv_iconst (v := (0 : Int32)) hx hb d_B_isObject_14 (by decide) ?_
    have e9 : (0 : Int32) = f_B_isObject o := by rw [f_B_isObject, if_pos q1]
    exact W.zret (v := (0 : Int32)) hx hb hr (by decide) (fun t ht hW => ⟨_, rfl, e9, ht⟩) (fun _ h => absurd h List.not_mem_nil) d_B_isObject_15
  · refine lv_iload_n hx hb d_B_isObject_4 rfl (lv_at hl 0 rfl) ?_
    refine lv_bipush (v := (6 : Int32)) hx hb d_B_isObject_5 (by decide) ?_
    refine lv_icmp_ge (tgt := 14) hx hb d_B_isObject_7 (by decide) (fun q2 => ?_) (fun q2 => ?_)
    · refine lv_iconst (v := (0 : Int32)) hx hb d_B_isObject_14 (by decide) ?_
      have e9 : (0 : Int32) = f_B_isObject o := by rw [f_B_isObject, if_neg q1, if_pos q2]
      exact W.zret (v := (0 : Int32)) hx hb hr (by decide) (fun t ht hW => ⟨_, rfl, e9, ht⟩) (fun _ h => absurd h List.not_mem_nil) d_B_isObject_15
    · refine lv_iconst (v := (1 : Int32)) hx hb d_B_isObject_10 (by decide) ?_
      refine lv_goto (tgt := 15) hx hb d_B_isObject_11 (by decide) ?_
      have e9 : (1 : Int32) = f_B_isObject o := by rw [f_B_isObject, if_neg q1, if_neg q2]
      exact W.zret (v := (1 : Int32)) hx hb hr (by decide) (fun t ht hW => ⟨_, rfl, e9, ht⟩) (fun _ h => absurd h List.not_mem_nil) d_B_isObject_15

def f_B_hasBit (σ : Nat → Nat → Int32) (r : Int32) (k : Int32) : Int32 := (if ((σ 0 (r).toNatClampNeg) &&& k) = 0 then (0 : Int32) else (1 : Int32))

theorem z_B_hasBit (σ : Nat → Nat → Int32) (r : Int32) (k : Int32) : f_B_hasBit σ r k = 0 ∨ f_B_hasBit σ r k = 1 := by
  rw [f_B_hasBit]
  repeat' split
  all_goals first | with_reducible exact Or.inl rfl | with_reducible exact Or.inr rfl

set_option maxRecDepth 100000 in
set_option maxHeartbeats 4000000 in
theorem c_B_hasBit (l : Launch) (D : va_G) (cA ad t : Nat → Nat) (hap : kap 7 ad) (σ : Nat → Nat → Int32) (r : Int32) (k : Int32) (h1 : vp_in r 36) : Met l y_B_hasBit w_B_hasBit ({ frames := 0, cells := 0, slots := 0, locals := 0 } : Room) (va_Pc [.ref (ad 0), .int r, .int k] (bPre D cA ad t σ)) (vp_Si (fun v => v = f_B_hasBit σ r k)) 0 0 (fun _ => False) := by
  refine Met.ofW (cc := b_B_hasBit) (maxL := 3) (ret := (some .boolean)) (by decide) rfl ?_
  intro p e s m args below meth c s₁ B hml hv
  obtain ⟨rfl, hv⟩ := hv
  obtain ⟨hP, hK, hZ⟩ := hv
  have hx := B.exec
  have hb := B.bytes
  have hr := B.returns
  have hlocks := B.notSynchronized
  have hT : ∀ w ∈ TB, w.before ([.ref (ad 0), .int r, .int k] : List Value).toArray s = true := fun w h => atoms_spec (ws := w_B_hasBit) B.pre w (List.mem_cons_of_mem _ h)
  have hown : s.vm.findClass R_B = some m.cls := findClass_of_methodNamed B.named
  have hS : va_S (kA 7 ad) s.heap s.heap [] := va_S.rf
  have hl := lv_entry ([.ref (ad 0), .int r, .int k]) (n := 3) (Nat.le_of_ble_eq_true rfl)
  rw [lg_entry_eq]
  generalize (lg_sl ([.ref (ad 0), .int r, .int k]) ++ List.replicate (3 - (lg_sl ([.ref (ad 0), .int r, .int k])).length) Slot.unset).toArray = ls at hl ⊢
  have hl : lv_has ls 3 [(0, .ref (ad 0)), (1, .int r), (2, .int k)] := hl
  refine lv_aload_n hx hb d_B_hasBit_0 rfl (lv_at hl 0 rfl) ?_
  refine va_get (D := D) (ci := 0) (v := .ref (ad 1)) (C := R_B) (T := F_B) (N := 10) hx hb hT in_B hown hK hP 0 rfl rfl 0 (by decide) (hT _ fl_B_9) (fun _ h9 => h9) rfl d_B_hasBit_1 ?_
  refine lv_iload_n hx hb d_B_hasBit_4 rfl (lv_at hl 1 rfl) ?_
  refine va_iald hx hb hK hP 1 0 rfl rfl (by first | assumption | exact kin (by decide)) d_B_hasBit_5 ?_
  refine lv_iload_n hx hb d_B_hasBit_6 rfl (lv_at hl 2 rfl) ?_
  refine lv_iand hx hb d_B_hasBit_7 ?_
  refine lv_if_eq (tgt := 15) hx hb d_B_hasBit_8 (by decide) (fun q1 => ?_) (fun q1 => ?_)
  · refine lv_iconst (v := (0 : Int32)) hx hb d_B_hasBit_15 (by decide) ?_
    have e9 : (0 : Int32) = f_B_hasBit σ r k := by rw [f_B_hasBit, if_pos q1]
    exact W.zret (v := (0 : Int32)) hx hb hr (by decide) (fun t ht hW => ⟨_, rfl, e9, ht⟩) (fun _ h => absurd h List.not_mem_nil) d_B_hasBit_16
  · refine lv_iconst (v := (1 : Int32)) hx hb d_B_hasBit_11 (by decide) ?_
    refine lv_goto (tgt := 16) hx hb d_B_hasBit_12 (by decide) ?_
    have e9 : (1 : Int32) = f_B_hasBit σ r k := by rw [f_B_hasBit, if_neg q1]
    exact W.zret (v := (1 : Int32)) hx hb hr (by decide) (fun t ht hW => ⟨_, rfl, e9, ht⟩) (fun _ h => absurd h List.not_mem_nil) d_B_hasBit_16

def f_B_copiesOf (σ : Nat → Nat → Int32) (side : Int32) : Int32 := ((σ 0 (((17 : Int32) + side)).toNatClampNeg) &&& (7 : Int32))

set_option maxRecDepth 100000 in
set_option maxHeartbeats 4000000 in
theorem c_B_copiesOf (l : Launch) (D : va_G) (cA ad t : Nat → Nat) (hap : kap 7 ad) (σ : Nat → Nat → Int32) (side : Int32) (hs : side = 0 ∨ side = 1) : Met l y_B_copiesOf w_B_copiesOf ({ frames := 0, cells := 0, slots := 0, locals := 0 } : Room) (va_Pc [.ref (ad 0), .int side] (bPre D cA ad t σ)) (vp_Si (fun v => v = f_B_copiesOf σ side)) 0 0 (fun _ => False) := by
  refine Met.ofW (cc := b_B_copiesOf) (maxL := 2) (ret := (some .int)) (by decide) rfl ?_
  intro p e s m args below meth c s₁ B hml hv
  obtain ⟨rfl, hv⟩ := hv
  obtain ⟨hP, hK, hZ⟩ := hv
  have hx := B.exec
  have hb := B.bytes
  have hr := B.returns
  have hlocks := B.notSynchronized
  have hT : ∀ w ∈ TB, w.before ([.ref (ad 0), .int side] : List Value).toArray s = true := fun w h => atoms_spec (ws := w_B_copiesOf) B.pre w (List.mem_cons_of_mem _ h)
  have hown : s.vm.findClass R_B = some m.cls := findClass_of_methodNamed B.named
  have hS : va_S (kA 7 ad) s.heap s.heap [] := va_S.rf
  have hl := lv_entry ([.ref (ad 0), .int side]) (n := 2) (Nat.le_of_ble_eq_true rfl)
  rw [lg_entry_eq]
  generalize (lg_sl ([.ref (ad 0), .int side]) ++ List.replicate (2 - (lg_sl ([.ref (ad 0), .int side])).length) Slot.unset).toArray = ls at hl ⊢
  have hl : lv_has ls 2 [(0, .ref (ad 0)), (1, .int side)] := hl
  refine lv_aload_n hx hb d_B_copiesOf_0 rfl (lv_at hl 0 rfl) ?_
  refine va_get (D := D) (ci := 0) (v := .ref (ad 1)) (C := R_B) (T := F_B) (N := 10) hx hb hT in_B hown hK hP 0 rfl rfl 0 (by decide) (hT _ fl_B_9) (fun _ h9 => h9) rfl d_B_copiesOf_1 ?_
  refine lv_bipush (v := (17 : Int32)) hx hb d_B_copiesOf_4 (by decide) ?_
  refine lv_iload_n hx hb d_B_copiesOf_6 rfl (lv_at hl 1 rfl) ?_
  refine lv_iadd hx hb d_B_copiesOf_7 ?_
  refine va_iald hx hb hK hP 1 0 rfl rfl (by first | assumption | exact kin (by decide) | ((rcases hs with rfl | rfl <;> exact kin (by decide)))) d_B_copiesOf_8 ?_
  refine lv_bipush (v := (7 : Int32)) hx hb d_B_copiesOf_9 (by decide) ?_
  refine lv_iand hx hb d_B_copiesOf_11 ?_
  have e9 : ((σ 0 (((17 : Int32) + side)).toNatClampNeg) &&& (7 : Int32)) = f_B_copiesOf σ side := by rw [f_B_copiesOf]
  exact W.iret (v := ((σ 0 (((17 : Int32) + side)).toNatClampNeg) &&& (7 : Int32))) hx hb hr (fun t ht hW => ⟨_, rfl, e9, ht⟩) (fun _ h => absurd h List.not_mem_nil) d_B_copiesOf_12

def f_B_widthIn (σ : Nat → Nat → Int32) (r : Int32) : Int32 := ((1 : Int32) <<< ((((σ 0 (r).toNatClampNeg) >>> ((4 : Int32) &&& 31)) &&& (3 : Int32)) &&& 31))

set_option maxRecDepth 100000 in
set_option maxHeartbeats 4000000 in
theorem c_B_widthIn (l : Launch) (D : va_G) (cA ad t : Nat → Nat) (hap : kap 7 ad) (σ : Nat → Nat → Int32) (r : Int32) (h1 : vp_in r 36) : Met l y_B_widthIn w_B_widthIn ({ frames := 0, cells := 0, slots := 0, locals := 0 } : Room) (va_Pc [.ref (ad 0), .int r] (bPre D cA ad t σ)) (vp_Si (fun v => v = f_B_widthIn σ r)) 0 0 (fun _ => False) := by
  refine Met.ofW (cc := b_B_widthIn) (maxL := 2) (ret := (some .int)) (by decide) rfl ?_
  intro p e s m args below meth c s₁ B hml hv
  obtain ⟨rfl, hv⟩ := hv
  obtain ⟨hP, hK, hZ⟩ := hv
  have hx := B.exec
  have hb := B.bytes
  have hr := B.returns
  have hlocks := B.notSynchronized
  have hT : ∀ w ∈ TB, w.before ([.ref (ad 0), .int r] : List Value).toArray s = true := fun w h => atoms_spec (ws := w_B_widthIn) B.pre w (List.mem_cons_of_mem _ h)
  have hown : s.vm.findClass R_B = some m.cls := findClass_of_methodNamed B.named
  have hS : va_S (kA 7 ad) s.heap s.heap [] := va_S.rf
  have hl := lv_entry ([.ref (ad 0), .int r]) (n := 2) (Nat.le_of_ble_eq_true rfl)
  rw [lg_entry_eq]
  generalize (lg_sl ([.ref (ad 0), .int r]) ++ List.replicate (2 - (lg_sl ([.ref (ad 0), .int r])).length) Slot.unset).toArray = ls at hl ⊢
  have hl : lv_has ls 2 [(0, .ref (ad 0)), (1, .int r)] := hl
  refine lv_iconst (v := (1 : Int32)) hx hb d_B_widthIn_0 (by decide) ?_
  refine lv_aload_n hx hb d_B_widthIn_1 rfl (lv_at hl 0 rfl) ?_
  refine va_get (D := D) (ci := 0) (v := .ref (ad 1)) (C := R_B) (T := F_B) (N := 10) hx hb hT in_B hown hK hP 0 rfl rfl 0 (by decide) (hT _ fl_B_9) (fun _ h9 => h9) rfl d_B_widthIn_2 ?_
  refine lv_iload_n hx hb d_B_widthIn_5 rfl (lv_at hl 1 rfl) ?_
  refine va_iald hx hb hK hP 1 0 rfl rfl (by first | assumption | exact kin (by decide)) d_B_widthIn_6 ?_
  refine lv_iconst (v := (4 : Int32)) hx hb d_B_widthIn_7 (by decide) ?_
  refine lv_ishr hx hb d_B_widthIn_8 ?_
  refine lv_iconst (v := (3 : Int32)) hx hb d_B_widthIn_9 (by decide) ?_
  refine lv_iand hx hb d_B_widthIn_10 ?_
  refine lv_ishl hx hb d_B_widthIn_11 ?_
  have e9 : ((1 : Int32) <<< ((((σ 0 (r).toNatClampNeg) >>> ((4 : Int32) &&& 31)) &&& (3 : Int32)) &&& 31)) = f_B_widthIn σ r := by rw [f_B_widthIn]
  exact W.iret (v := ((1 : Int32) <<< ((((σ 0 (r).toNatClampNeg) >>> ((4 : Int32) &&& 31)) &&& (3 : Int32)) &&& 31))) hx hb hr (fun t ht hW => ⟨_, rfl, e9, ht⟩) (fun _ h => absurd h List.not_mem_nil) d_B_widthIn_12
end
section
def f_B_behindPlace (σ : Nat → Nat → Int32) (o : Int32) (x : Int32) : Int32 := (f_J_floorMod (x - (σ 2 (o).toNatClampNeg)) (160 : Int32))

set_option maxRecDepth 100000 in
set_option maxHeartbeats 4000000 in
theorem c_B_behindPlace (l : Launch) (D : va_G) (cA ad t : Nat → Nat) (hap : kap 7 ad) (σ : Nat → Nat → Int32) (o : Int32) (x : Int32) (h1 : vp_in o 5) : Met l y_B_behindPlace w_B_behindPlace ({ frames := 1, cells := 0, slots := 0, locals := 22 } : Room) (va_Pc [.ref (ad 0), .int o, .int x] (bPre D cA ad t σ)) (vp_Si (fun v => v = f_B_behindPlace σ o x)) 0 0 (fun _ => False) := by
  refine Met.ofW (cc := b_B_behindPlace) (maxL := 3) (ret := (some .int)) (by decide) rfl ?_
  intro p e s m args below meth c s₁ B hml hv
  obtain ⟨rfl, hv⟩ := hv
  obtain ⟨hP, hK, hZ⟩ := hv
  have hx := B.exec
  have hb := B.bytes
  have hr := B.returns
  have hlocks := B.notSynchronized
  have hT : ∀ w ∈ TB, w.before ([.ref (ad 0), .int o, .int x] : List Value).toArray s = true := fun w h => atoms_spec (ws := w_B_behindPlace) B.pre w (List.mem_cons_of_mem _ h)
  have hown : s.vm.findClass R_B = some m.cls := findClass_of_methodNamed B.named
  have hS : va_S (kA 7 ad) s.heap s.heap [] := va_S.rf
  have hl := lv_entry ([.ref (ad 0), .int o, .int x]) (n := 3) (Nat.le_of_ble_eq_true rfl)
  rw [lg_entry_eq]
  generalize (lg_sl ([.ref (ad 0), .int o, .int x]) ++ List.replicate (3 - (lg_sl ([.ref (ad 0), .int o, .int x])).length) Slot.unset).toArray = ls at hl ⊢
  have hl : lv_has ls 3 [(0, .ref (ad 0)), (1, .int o), (2, .int x)] := hl
  refine lv_iload_n hx hb d_B_behindPlace_0 rfl (lv_at hl 2 rfl) ?_
  refine lv_aload_n hx hb d_B_behindPlace_1 rfl (lv_at hl 0 rfl) ?_
  refine va_get (D := D) (ci := 0) (v := .ref (ad 3)) (C := R_B) (T := F_B) (N := 10) hx hb hT in_B hown hK hP 0 rfl rfl 2 (by decide) (hT _ fl_B_16) (fun _ h9 => h9) rfl d_B_behindPlace_2 ?_
  refine lv_iload_n hx hb d_B_behindPlace_5 rfl (lv_at hl 1 rfl) ?_
  refine va_iald hx hb hK hP 3 0 rfl rfl (by first | assumption | exact kin (by decide) | decide) d_B_behindPlace_6 ?_
  refine lv_isub hx hb d_B_behindPlace_7 ?_
  refine lv_sipush (v := (160 : Int32)) hx hb d_B_behindPlace_8 (by decide) ?_
  refine vp_callSi (va_Run.run (va_runS (As := [.int (x - (σ 2 (o).toNatClampNeg)), .int (160 : Int32)]) (rest := []) ⟨hx, hb, hml, hown, hT⟩ (c_J_floorMod l (x - (σ 2 (o).toNatClampNeg)) (160 : Int32) (by first | assumption | exact kin (by decide) | decide)) (kCS 2 hT ml_B_121 ms_JM_floorMod ⟨Nat.le_of_ble_eq_true rfl, Nat.le_of_ble_eq_true rfl⟩) (kpreJ) rfl rfl hl.1 rfl (lv_room (Nat.le_of_ble_eq_true rfl)) d_B_behindPlace_11 ⟨Nat.le_of_ble_eq_true rfl, Nat.le_of_ble_eq_true rfl⟩)) (fun r9 e9 => ?_)
  subst e9
  have e9 : (f_J_floorMod (x - (σ 2 (o).toNatClampNeg)) (160 : Int32)) = f_B_behindPlace σ o x := by rw [f_B_behindPlace]
  exact W.iret (v := (f_J_floorMod (x - (σ 2 (o).toNatClampNeg)) (160 : Int32))) hx hb hr (fun t ht hW => ⟨_, rfl, e9, ht⟩) (fun _ h => absurd h List.not_mem_nil) d_B_behindPlace_14

def f_B_behindCopy (cp : Int32) (bh : Int32) : Int32 := (if (tab1 (cp).toNatClampNeg) ≤ 0 then (if (((tab0 (cp).toNatClampNeg) >>> ((bh / (16 : Int32)) &&& 31)) &&& (1 : Int32)) = 0 then (160 : Int32) else (bh - bh / (16 : Int32) * (16 : Int32))) else bh)

set_option maxRecDepth 100000 in
set_option maxHeartbeats 4000000 in
theorem c_B_behindCopy (l : Launch) (D : va_G) (cA ad t : Nat → Nat) (hap : kap 7 ad) (σ : Nat → Nat → Int32) (cp : Int32) (bh : Int32) (h1 : vp_in cp 8) : Met l y_B_behindCopy w_B_behindCopy ({ frames := 0, cells := 0, slots := 0, locals := 0 } : Room) (va_Pc [.int cp, .int bh] (bPre D cA ad t σ)) (vp_Si (fun v => v = f_B_behindCopy cp bh)) 0 0 (fun _ => False) := by
  refine Met.ofW (cc := b_B_behindCopy) (maxL := 3) (ret := (some .int)) (by decide) rfl ?_
  intro p e s m args below meth c s₁ B hml hv
  obtain ⟨rfl, hv⟩ := hv
  obtain ⟨hP, hK, hZ⟩ := hv
  have hx := B.exec
  have hb := B.bytes
  have hr := B.returns
  have hlocks := B.notSynchronized
  have hT : ∀ w ∈ TB, w.before ([.int cp, .int bh] : List Value).toArray s = true := fun w h => atoms_spec (ws := w_B_behindCopy) B.pre w (List.mem_cons_of_mem _ h)
  have hown : s.vm.findClass R_B = some m.cls := findClass_of_methodNamed B.named
  have hS : va_S (kA 7 ad) s.heap s.heap [] := va_S.rf
  have hl := lv_entry ([.int cp, .int bh]) (n := 3) (Nat.le_of_ble_eq_true rfl)
  rw [lg_entry_eq]
  generalize (lg_sl ([.int cp, .int bh]) ++ List.replicate (3 - (lg_sl ([.int cp, .int bh])).length) Slot.unset).toArray = ls at hl ⊢
  have hl : lv_has ls 3 [(0, .int cp), (1, .int bh)] := hl
  refine va_gets hx hb (kZ_z1 hZ) hS hown (hT _ fl_B_96) (fun _ h9 => h9) d_B_behindCopy_0 ?_
  refine lv_iload_n hx hb d_B_behindCopy_3 rfl (lv_at hl 0 rfl) ?_
  refine va_ti (v := .int (tab1 (cp).toNatClampNeg)) hx hb (kZ_t1 hZ) hS (by first | assumption | exact kin (by decide)) rfl d_B_behindCopy_4 ?_
  refine lv_if_le (tgt := 10) hx hb d_B_behindCopy_5 (by decide) (fun q1 => ?_) (fun q1 => ?_)
  · refine va_gets hx hb (kZ_z0 hZ) hS hown (hT _ fl_B_174) (fun _ h9 => h9) d_B_behindCopy_10 ?_
    refine lv_iload_n hx hb d_B_behindCopy_13 rfl (lv_at hl 0 rfl) ?_
    refine va_ti (v := .int (tab0 (cp).toNatClampNeg)) hx hb (kZ_t0 hZ) hS (by first | assumption | exact kin (by decide)) rfl d_B_behindCopy_14 ?_
    refine lv_iload_n hx hb d_B_behindCopy_15 rfl (lv_at hl 1 rfl) ?_
    refine lv_bipush (v := (16 : Int32)) hx hb d_B_behindCopy_16 (by decide) ?_
    refine lv_idiv hx hb d_B_behindCopy_18 (by decide) ?_
    refine lv_ishr hx hb d_B_behindCopy_19 ?_
    refine lv_iconst (v := (1 : Int32)) hx hb d_B_behindCopy_20 (by decide) ?_
    refine lv_iand hx hb d_B_behindCopy_21 ?_
    refine lv_if_eq (tgt := 29) hx hb d_B_behindCopy_22 (by decide) (fun q2 => ?_) (fun q2 => ?_)
    · refine lv_iconst (v := (0 : Int32)) hx hb d_B_behindCopy_29 (by decide) ?_
      refine lv_istore_n (lv' := [(2, .int (0 : Int32)), (0, .int cp), (1, .int bh)]) hx hb d_B_behindCopy_30 rfl hl (by decide) rfl (fun ls hl => ?_)
      refine lv_iload_n hx hb d_B_behindCopy_31 rfl (lv_at hl 0 rfl) ?_
      refine lv_if_eq (tgt := 42) hx hb d_B_behindCopy_32 (by decide) (fun _ => ?_) (fun h9 => absurd (by decide) h9)
      refine lv_sipush (v := (160 : Int32)) hx hb d_B_behindCopy_42 (by decide) ?_
      have e9 : (160 : Int32) = f_B_behindCopy cp bh := by rw [f_B_behindCopy, if_pos q1, if_pos q2]
      exact W.iret (v := (160 : Int32)) hx hb hr (fun t ht hW => ⟨_, rfl, e9, ht⟩) (fun _ h => absurd h List.not_mem_nil) d_B_behindCopy_45
    · refine lv_iconst (v := (1 : Int32)) hx hb d_B_behindCopy_25 (by decide) ?_
      refine lv_goto (tgt := 30) hx hb d_B_behindCopy_26 (by decide) ?_
      refine lv_istore_n (lv' := [(2, .int (1 : Int32)), (0, .int cp), (1, .int bh)]) hx hb d_B_behindCopy_30 rfl hl (by decide) rfl (fun ls hl => ?_)
      refine lv_iload_n hx hb d_B_behindCopy_31 rfl (lv_at hl 0 rfl) ?_
      refine lv_if_eq (tgt := 42) hx hb d_B_behindCopy_32 (by decide) (fun h9 => absurd h9 (by decide)) (fun _ => ?_)
      refine lv_iload_n hx hb d_B_behindCopy_35 rfl (lv_at hl 2 rfl) ?_
      refine lv_bipush (v := (16 : Int32)) hx hb d_B_behindCopy_36 (by decide) ?_
      refine lv_irem hx hb d_B_behindCopy_38 (by decide) ?_
      refine lv_goto (tgt := 45) hx hb d_B_behindCopy_39 (by decide) ?_
      have e9 : (bh - bh / (16 : Int32) * (16 : Int32)) = f_B_behindCopy cp bh := by rw [f_B_behindCopy, if_pos q1, if_neg q2]
      exact W.iret (v := (bh - bh / (16 : Int32) * (16 : Int32))) hx hb hr (fun t ht hW => ⟨_, rfl, e9, ht⟩) (fun _ h => absurd h List.not_mem_nil) d_B_behindCopy_45
  · refine lv_iload_n hx hb d_B_behindCopy_8 rfl (lv_at hl 1 rfl) ?_
    have e9 : bh = f_B_behindCopy cp bh := by rw [f_B_behindCopy, if_neg q1]
    exact W.iret (v := bh) hx hb hr (fun t ht hW => ⟨_, rfl, e9, ht⟩) (fun _ h => absurd h List.not_mem_nil) d_B_behindCopy_9

def f_B_motionOf (σ : Nat → Nat → Int32) (o : Int32) : Int32 := (if (8 : Int32) ≤ ((σ 0 (((23 : Int32) + o)).toNatClampNeg) >>> ((4 : Int32) &&& 31)) then (((σ 0 (((23 : Int32) + o)).toNatClampNeg) >>> ((4 : Int32) &&& 31)) - (16 : Int32)) else ((σ 0 (((23 : Int32) + o)).toNatClampNeg) >>> ((4 : Int32) &&& 31)))

set_option maxRecDepth 100000 in
set_option maxHeartbeats 4000000 in
theorem c_B_motionOf (l : Launch) (D : va_G) (cA ad t : Nat → Nat) (hap : kap 7 ad) (σ : Nat → Nat → Int32) (o : Int32) (h1 : vp_in (23 + o) 36) : Met l y_B_motionOf w_B_motionOf ({ frames := 0, cells := 0, slots := 0, locals := 0 } : Room) (va_Pc [.ref (ad 0), .int o] (bPre D cA ad t σ)) (vp_Si (fun v => v = f_B_motionOf σ o)) 0 0 (fun _ => False) := by
  refine Met.ofW (cc := b_B_motionOf) (maxL := 3) (ret := (some .int)) (by decide) rfl ?_
  intro p e s m args below meth c s₁ B hml hv
  obtain ⟨rfl, hv⟩ := hv
  obtain ⟨hP, hK, hZ⟩ := hv
  have hx := B.exec
  have hb := B.bytes
  have hr := B.returns
  have hlocks := B.notSynchronized
  have hT : ∀ w ∈ TB, w.before ([.ref (ad 0), .int o] : List Value).toArray s = true := fun w h => atoms_spec (ws := w_B_motionOf) B.pre w (List.mem_cons_of_mem _ h)
  have hown : s.vm.findClass R_B = some m.cls := findClass_of_methodNamed B.named
  have hS : va_S (kA 7 ad) s.heap s.heap [] := va_S.rf
  have hl := lv_entry ([.ref (ad 0), .int o]) (n := 3) (Nat.le_of_ble_eq_true rfl)
  rw [lg_entry_eq]
  generalize (lg_sl ([.ref (ad 0), .int o]) ++ List.replicate (3 - (lg_sl ([.ref (ad 0), .int o])).length) Slot.unset).toArray = ls at hl ⊢
  have hl : lv_has ls 3 [(0, .ref (ad 0)), (1, .int o)] := hl
  refine lv_aload_n hx hb d_B_motionOf_0 rfl (lv_at hl 0 rfl) ?_
  refine va_get (D := D) (ci := 0) (v := .ref (ad 1)) (C := R_B) (T := F_B) (N := 10) hx hb hT in_B hown hK hP 0 rfl rfl 0 (by decide) (hT _ fl_B_9) (fun _ h9 => h9) rfl d_B_motionOf_1 ?_
  refine lv_bipush (v := (23 : Int32)) hx hb d_B_motionOf_4 (by decide) ?_
  refine lv_iload_n hx hb d_B_motionOf_6 rfl (lv_at hl 1 rfl) ?_
  refine lv_iadd hx hb d_B_motionOf_7 ?_
  refine va_iald hx hb hK hP 1 0 rfl rfl (by first | assumption | exact kin (by decide)) d_B_motionOf_8 ?_
  refine lv_iconst (v := (4 : Int32)) hx hb d_B_motionOf_9 (by decide) ?_
  refine lv_ishr hx hb d_B_motionOf_10 ?_
  refine lv_istore_n (lv' := [(2, .int ((σ 0 (((23 : Int32) + o)).toNatClampNeg) >>> ((4 : Int32) &&& 31))), (0, .ref (ad 0)), (1, .int o)]) hx hb d_B_motionOf_11 rfl hl (by decide) rfl (fun ls hl => ?_)
  refine lv_iload_n hx hb d_B_motionOf_12 rfl (lv_at hl 0 rfl) ?_
  refine lv_bipush (v := (8 : Int32)) hx hb d_B_motionOf_13 (by decide) ?_
  refine lv_icmp_ge (tgt := 22) hx hb d_B_motionOf_15 (by decide) (fun q1 => ?_) (fun q1 => ?_)
  · refine lv_iload_n hx hb d_B_motionOf_22 rfl (lv_at hl 0 rfl) ?_
    refine lv_bipush (v := (16 : Int32)) hx hb d_B_motionOf_23 (by decide) ?_
    refine lv_isub hx hb d_B_motionOf_25 ?_
    have e9 : (((σ 0 (((23 : Int32) + o)).toNatClampNeg) >>> ((4 : Int32) &&& 31)) - (16 : Int32)) = f_B_motionOf σ o := by rw [f_B_motionOf, if_pos q1]
    exact W.iret (v := (((σ 0 (((23 : Int32) + o)).toNatClampNeg) >>> ((4 : Int32) &&& 31)) - (16 : Int32))) hx hb hr (fun t ht hW => ⟨_, rfl, e9, ht⟩) (fun _ h => absurd h List.not_mem_nil) d_B_motionOf_26
  · refine lv_iload_n hx hb d_B_motionOf_18 rfl (lv_at hl 0 rfl) ?_
    refine lv_goto (tgt := 26) hx hb d_B_motionOf_19 (by decide) ?_
    have e9 : ((σ 0 (((23 : Int32) + o)).toNatClampNeg) >>> ((4 : Int32) &&& 31)) = f_B_motionOf σ o := by rw [f_B_motionOf, if_neg q1]
    exact W.iret (v := ((σ 0 (((23 : Int32) + o)).toNatClampNeg) >>> ((4 : Int32) &&& 31))) hx hb hr (fun t ht hW => ⟨_, rfl, e9, ht⟩) (fun _ h => absurd h List.not_mem_nil) d_B_motionOf_26

def f_B_hasFieldBit (σ : Nat → Nat → Int32) (q : Int32) : Int32 := (if (4 : Int32) ≤ q then (if (12 : Int32) ≤ q then (f_B_hasBit σ (7 : Int32) ((1 : Int32) <<< ((q - (12 : Int32)) &&& 31))) else (f_B_hasBit σ (6 : Int32) ((128 : Int32) >>> ((q - (4 : Int32)) &&& 31)))) else (f_B_hasBit σ (5 : Int32) ((16 : Int32) <<< (q &&& 31))))

theorem z_B_hasFieldBit (σ : Nat → Nat → Int32) (q : Int32) : f_B_hasFieldBit σ q = 0 ∨ f_B_hasFieldBit σ q = 1 := by
  rw [f_B_hasFieldBit]
  repeat' split
  all_goals first | with_reducible exact Or.inl rfl | with_reducible exact Or.inr rfl | with_reducible exact z_B_hasBit ..

set_option maxRecDepth 100000 in
set_option maxHeartbeats 4000000 in
theorem c_B_hasFieldBit (l : Launch) (D : va_G) (cA ad t : Nat → Nat) (hap : kap 7 ad) (σ : Nat → Nat → Int32) (q : Int32) : Met l y_B_hasFieldBit w_B_hasFieldBit ({ frames := 1, cells := 0, slots := 0, locals := 22 } : Room) (va_Pc [.ref (ad 0), .int q] (bPre D cA ad t σ)) (vp_Si (fun v => v = f_B_hasFieldBit σ q)) 0 0 (fun _ => False) := by
  refine Met.ofW (cc := b_B_hasFieldBit) (maxL := 2) (ret := (some .boolean)) (by decide) rfl ?_
  intro p e s m args below meth c s₁ B hml hv
  obtain ⟨rfl, hv⟩ := hv
  obtain ⟨hP, hK, hZ⟩ := hv
  have hx := B.exec
  have hb := B.bytes
  have hr := B.returns
  have hlocks := B.notSynchronized
  have hT : ∀ w ∈ TB, w.before ([.ref (ad 0), .int q] : List Value).toArray s = true := fun w h => atoms_spec (ws := w_B_hasFieldBit) B.pre w (List.mem_cons_of_mem _ h)
  have hown : s.vm.findClass R_B = some m.cls := findClass_of_methodNamed B.named
  have hS : va_S (kA 7 ad) s.heap s.heap [] := va_S.rf
  have hl := lv_entry ([.ref (ad 0), .int q]) (n := 2) (Nat.le_of_ble_eq_true rfl)
  rw [lg_entry_eq]
  generalize (lg_sl ([.ref (ad 0), .int q]) ++ List.replicate (2 - (lg_sl ([.ref (ad 0), .int q])).length) Slot.unset).toArray = ls at hl ⊢
  have hl : lv_has ls 2 [(0, .ref (ad 0)), (1, .int q)] := hl
  refine lv_iload_n hx hb d_B_hasFieldBit_0 rfl (lv_at hl 1 rfl) ?_
  refine lv_iconst (v := (4 : Int32)) hx hb d_B_hasFieldBit_1 (by decide) ?_
  refine lv_icmp_ge (tgt := 15) hx hb d_B_hasFieldBit_2 (by decide) (fun q1 => ?_) (fun q1 => ?_)
  · refine lv_iload_n hx hb d_B_hasFieldBit_15 rfl (lv_at hl 1 rfl) ?_
    refine lv_bipush (v := (12 : Int32)) hx hb d_B_hasFieldBit_16 (by decide) ?_
    refine lv_icmp_ge (tgt := 35) hx hb d_B_hasFieldBit_18 (by decide) (fun q2 => ?_) (fun q2 => ?_)
    · refine lv_aload_n hx hb d_B_hasFieldBit_35 rfl (lv_at hl 0 rfl) ?_
      refine lv_bipush (v := (7 : Int32)) hx hb d_B_hasFieldBit_36 (by decide) ?_
      refine lv_iconst (v := (1 : Int32)) hx hb d_B_hasFieldBit_38 (by decide) ?_
      refine lv_iload_n hx hb d_B_hasFieldBit_39 rfl (lv_at hl 1 rfl) ?_
      refine lv_bipush (v := (12 : Int32)) hx hb d_B_hasFieldBit_40 (by decide) ?_
      refine lv_isub hx hb d_B_hasFieldBit_42 ?_
      refine lv_ishl hx hb d_B_hasFieldBit_43 ?_
      refine vp_callSi (va_Run.run (va_runV (As := [.int (7 : Int32), .int ((1 : Int32) <<< ((q - (12 : Int32)) &&& 31))]) (rest := []) ⟨hx, hb, hml, hown, hT⟩ (c_B_hasBit l D cA ad t hap σ (7 : Int32) ((1 : Int32) <<< ((q - (12 : Int32)) &&& 31)) (by first | assumption | exact kin (by decide))) (kCV 2 hT ml_B_90 mi_B_hasBit ⟨Nat.le_of_ble_eq_true rfl, Nat.le_of_ble_eq_true rfl⟩) (bpreV hK hP hZ hS) rfl rfl hl.1 rfl (lv_room (Nat.le_of_ble_eq_true rfl)) d_B_hasFieldBit_44 ⟨Nat.le_of_ble_eq_true rfl, Nat.le_of_ble_eq_true rfl⟩)) (fun r9 e9 => ?_)
      subst e9
      have e9 : (f_B_hasBit σ (7 : Int32) ((1 : Int32) <<< ((q - (12 : Int32)) &&& 31))) = f_B_hasFieldBit σ q := by rw [f_B_hasFieldBit, if_pos q1, if_pos q2]
      exact W.zret (v := (f_B_hasBit σ (7 : Int32) ((1 : Int32) <<< ((q - (12 : Int32)) &&& 31)))) hx hb hr (kz_nar (z_B_hasBit ..)) (fun t ht hW => ⟨_, rfl, e9, ht⟩) (fun _ h => absurd h List.not_mem_nil) d_B_hasFieldBit_47
    · refine lv_aload_n hx hb d_B_hasFieldBit_21 rfl (lv_at hl 0 rfl) ?_
      refine lv_bipush (v := (6 : Int32)) hx hb d_B_hasFieldBit_22 (by decide) ?_
      refine lv_sipush (v := (128 : Int32)) hx hb d_B_hasFieldBit_24 (by decide) ?_
      refine lv_iload_n hx hb d_B_hasFieldBit_27 rfl (lv_at hl 1 rfl) ?_
      refine lv_iconst (v := (4 : Int32)) hx hb d_B_hasFieldBit_28 (by decide) ?_
      refine lv_isub hx hb d_B_hasFieldBit_29 ?_
      refine lv_ishr hx hb d_B_hasFieldBit_30 ?_
      refine vp_callSi (va_Run.run (va_runV (As := [.int (6 : Int32), .int ((128 : Int32) >>> ((q - (4 : Int32)) &&& 31))]) (rest := []) ⟨hx, hb, hml, hown, hT⟩ (c_B_hasBit l D cA ad t hap σ (6 : Int32) ((128 : Int32) >>> ((q - (4 : Int32)) &&& 31)) (by first | assumption | exact kin (by decide))) (kCV 2 hT ml_B_90 mi_B_hasBit ⟨Nat.le_of_ble_eq_true rfl, Nat.le_of_ble_eq_true rfl⟩) (bpreV hK hP hZ hS) rfl rfl hl.1 rfl (lv_room (Nat.le_of_ble_eq_true rfl)) d_B_hasFieldBit_31 ⟨Nat.le_of_ble_eq_true rfl, Nat.le_of_ble_eq_true rfl⟩)) (fun r9 e9 => ?_)
      subst e9
      have e9 : (f_B_hasBit σ (6 : Int32) ((128 : Int32) >>> ((q - (4 : Int32)) &&& 31))) = f_B_hasFieldBit σ q := by rw [f_B_hasFieldBit, if_pos q1, if_neg q2]
      exact W.zret (v := (f_B_hasBit σ (6 : Int32) ((128 : Int32) >>> ((q - (4 : Int32)) &&& 31)))) hx hb hr (kz_nar (z_B_hasBit ..)) (fun t ht hW => ⟨_, rfl, e9, ht⟩) (fun _ h => absurd h List.not_mem_nil) d_B_hasFieldBit_34
  · refine lv_aload_n hx hb d_B_hasFieldBit_5 rfl (lv_at hl 0 rfl) ?_
    refine lv_iconst (v := (5 : Int32)) hx hb d_B_hasFieldBit_6 (by decide) ?_
    refine lv_bipush (v := (16 : Int32)) hx hb d_B_hasFieldBit_7 (by decide) ?_
    refine lv_iload_n hx hb d_B_hasFieldBit_9 rfl (lv_at hl 1 rfl) ?_
    refine lv_ishl hx hb d_B_hasFieldBit_10 ?_
    refine vp_callSi (va_Run.run (va_runV (As := [.int (5 : Int32), .int ((16 : Int32) <<< (q &&& 31))]) (rest := []) ⟨hx, hb, hml, hown, hT⟩ (c_B_hasBit l D cA ad t hap σ (5 : Int32) ((16 : Int32) <<< (q &&& 31)) (by first | assumption | exact kin (by decide))) (kCV 2 hT ml_B_90 mi_B_hasBit ⟨Nat.le_of_ble_eq_true rfl, Nat.le_of_ble_eq_true rfl⟩) (bpreV hK hP hZ hS) rfl rfl hl.1 rfl (lv_room (Nat.le_of_ble_eq_true rfl)) d_B_hasFieldBit_11 ⟨Nat.le_of_ble_eq_true rfl, Nat.le_of_ble_eq_true rfl⟩)) (fun r9 e9 => ?_)
    subst e9
    have e9 : (f_B_hasBit σ (5 : Int32) ((16 : Int32) <<< (q &&& 31))) = f_B_hasFieldBit σ q := by rw [f_B_hasFieldBit, if_neg q1]
    exact W.zret (v := (f_B_hasBit σ (5 : Int32) ((16 : Int32) <<< (q &&& 31)))) hx hb hr (kz_nar (z_B_hasBit ..)) (fun t ht hW => ⟨_, rfl, e9, ht⟩) (fun _ h => absurd h List.not_mem_nil) d_B_hasFieldBit_14

def f_B_isFieldAt (σ : Nat → Nat → Int32) (x : Int32) : Int32 := (if (80 : Int32) ≤ x then (if (f_B_hasBit σ (8 : Int32) (1 : Int32)) = 0 then (f_B_hasFieldBit σ ((x - (80 : Int32)) / (4 : Int32))) else (f_B_hasFieldBit σ ((19 : Int32) - ((x - (80 : Int32)) / (4 : Int32))))) else (f_B_hasFieldBit σ (x / (4 : Int32))))

theorem z_B_isFieldAt (σ : Nat → Nat → Int32) (x : Int32) : f_B_isFieldAt σ x = 0 ∨ f_B_isFieldAt σ x = 1 := by
  rw [f_B_isFieldAt]
  repeat' split
  all_goals first | with_reducible exact Or.inl rfl | with_reducible exact Or.inr rfl | with_reducible exact z_B_hasFieldBit ..

set_option maxRecDepth 100000 in
set_option maxHeartbeats 4000000 in
theorem c_B_isFieldAt (l : Launch) (D : va_G) (cA ad t : Nat → Nat) (hap : kap 7 ad) (σ : Nat → Nat → Int32) (x : Int32) : Met l y_B_isFieldAt w_B_isFieldAt ({ frames := 2, cells := 0, slots := 0, locals := 43 } : Room) (va_Pc [.ref (ad 0), .int x] (bPre D cA ad t σ)) (vp_Si (fun v => v = f_B_isFieldAt σ x)) 0 0 (fun _ => False) := by
  refine Met.ofW (cc := b_B_isFieldAt) (maxL := 3) (ret := (some .boolean)) (by decide) rfl ?_
  intro p e s m args below meth c s₁ B hml hv
  obtain ⟨rfl, hv⟩ := hv
  obtain ⟨hP, hK, hZ⟩ := hv
  have hx := B.exec
  have hb := B.bytes
  have hr := B.returns
  have hlocks := B.notSynchronized
  have hT : ∀ w ∈ TB, w.before ([.ref (ad 0), .int x] : List Value).toArray s = true := fun w h => atoms_spec (ws := w_B_isFieldAt) B.pre w (List.mem_cons_of_mem _ h)
  have hown : s.vm.findClass R_B = some m.cls := findClass_of_methodNamed B.named
  have hS : va_S (kA 7 ad) s.heap s.heap [] := va_S.rf
  have hl := lv_entry ([.ref (ad 0), .int x]) (n := 3) (Nat.le_of_ble_eq_true rfl)
  rw [lg_entry_eq]
  generalize (lg_sl ([.ref (ad 0), .int x]) ++ List.replicate (3 - (lg_sl ([.ref (ad 0), .int x])).length) Slot.unset).toArray = ls at hl ⊢
  have hl : lv_has ls 3 [(0, .ref (ad 0)), (1, .int x)] := hl
  refine lv_iload_n hx hb d_B_isFieldAt_0 rfl (lv_at hl 1 rfl) ?_
  refine lv_bipush (v := (80 : Int32)) hx hb d_B_isFieldAt_1 (by decide) ?_
  refine lv_icmp_ge (tgt := 14) hx hb d_B_isFieldAt_3 (by decide) (fun q1 => ?_) (fun q1 => ?_)
  · refine lv_iload_n hx hb d_B_isFieldAt_14 rfl (lv_at hl 1 rfl) ?_
    refine lv_bipush (v := (80 : Int32)) hx hb d_B_isFieldAt_15 (by decide) ?_
    refine lv_isub hx hb d_B_isFieldAt_17 ?_
    refine lv_iconst (v := (4 : Int32)) hx hb d_B_isFieldAt_18 (by decide) ?_
    refine lv_idiv hx hb d_B_isFieldAt_19 (by decide) ?_
    refine lv_istore_n (lv' := [(2, .int ((x - (80 : Int32)) / (4 : Int32))), (0, .ref (ad 0)), (1, .int x)]) hx hb d_B_isFieldAt_20 rfl hl (by decide) rfl (fun ls hl => ?_)
    refine lv_aload_n hx hb d_B_isFieldAt_21 rfl (lv_at hl 1 rfl) ?_
    refine lv_aload_n hx hb d_B_isFieldAt_22 rfl (lv_at hl 1 rfl) ?_
    refine lv_bipush (v := (8 : Int32)) hx hb d_B_isFieldAt_23 (by decide) ?_
    refine lv_iconst (v := (1 : Int32)) hx hb d_B_isFieldAt_25 (by decide) ?_
    refine vp_callSi (va_Run.run (va_runV (As := [.int (8 : Int32), .int (1 : Int32)]) (rest := [.ref (ad 0)]) ⟨hx, hb, hml, hown, hT⟩ (c_B_hasBit l D cA ad t hap σ (8 : Int32) (1 : Int32) (by first | assumption | exact kin (by decide))) (kCV 2 hT ml_B_90 mi_B_hasBit ⟨Nat.le_of_ble_eq_true rfl, Nat.le_of_ble_eq_true rfl⟩) (bpreV hK hP hZ hS) rfl rfl hl.1 rfl (lv_room (Nat.le_of_ble_eq_true rfl)) d_B_isFieldAt_26 ⟨Nat.le_of_ble_eq_true rfl, Nat.le_of_ble_eq_true rfl⟩)) (fun r9 e9 => ?_)
    subst e9
    refine lv_if_eq (tgt := 39) hx hb d_B_isFieldAt_29 (by decide) (fun q2 => ?_) (fun q2 => ?_)
    · refine lv_iload_n hx hb d_B_isFieldAt_39 rfl (lv_at hl 0 rfl) ?_
      refine vp_callSi (va_Run.run (va_runV (As := [.int ((x - (80 : Int32)) / (4 : Int32))]) (rest := []) ⟨hx, hb, hml, hown, hT⟩ (c_B_hasFieldBit l D cA ad t hap σ ((x - (80 : Int32)) / (4 : Int32))) (kCV 1 hT ml_B_171 mi_B_hasFieldBit ⟨Nat.le_of_ble_eq_true rfl, Nat.le_of_ble_eq_true rfl⟩) (bpreV hK hP hZ hS) rfl rfl hl.1 rfl (lv_room (Nat.le_of_ble_eq_true rfl)) d_B_isFieldAt_40 ⟨Nat.le_of_ble_eq_true rfl, Nat.le_of_ble_eq_true rfl⟩)) (fun r9 e9 => ?_)
      subst e9
      have e9 : (f_B_hasFieldBit σ ((x - (80 : Int32)) / (4 : Int32))) = f_B_isFieldAt σ x := by rw [f_B_isFieldAt, if_pos q1, if_pos q2]
      exact W.zret (v := (f_B_hasFieldBit σ ((x - (80 : Int32)) / (4 : Int32)))) hx hb hr (kz_nar (z_B_hasFieldBit ..)) (fun t ht hW => ⟨_, rfl, e9, ht⟩) (fun _ h => absurd h List.not_mem_nil) d_B_isFieldAt_43
    · refine lv_bipush (v := (19 : Int32)) hx hb d_B_isFieldAt_32 (by decide) ?_
      refine lv_iload_n hx hb d_B_isFieldAt_34 rfl (lv_at hl 0 rfl) ?_
      refine lv_isub hx hb d_B_isFieldAt_35 ?_
      refine lv_goto (tgt := 40) hx hb d_B_isFieldAt_36 (by decide) ?_
      refine vp_callSi (va_Run.run (va_runV (As := [.int ((19 : Int32) - ((x - (80 : Int32)) / (4 : Int32)))]) (rest := []) ⟨hx, hb, hml, hown, hT⟩ (c_B_hasFieldBit l D cA ad t hap σ ((19 : Int32) - ((x - (80 : Int32)) / (4 : Int32)))) (kCV 1 hT ml_B_171 mi_B_hasFieldBit ⟨Nat.le_of_ble_eq_true rfl, Nat.le_of_ble_eq_true rfl⟩) (bpreV hK hP hZ hS) rfl rfl hl.1 rfl (lv_room (Nat.le_of_ble_eq_true rfl)) d_B_isFieldAt_40 ⟨Nat.le_of_ble_eq_true rfl, Nat.le_of_ble_eq_true rfl⟩)) (fun r9 e9 => ?_)
      subst e9
      have e9 : (f_B_hasFieldBit σ ((19 : Int32) - ((x - (80 : Int32)) / (4 : Int32)))) = f_B_isFieldAt σ x := by rw [f_B_isFieldAt, if_pos q1, if_neg q2]
      exact W.zret (v := (f_B_hasFieldBit σ ((19 : Int32) - ((x - (80 : Int32)) / (4 : Int32))))) hx hb hr (kz_nar (z_B_hasFieldBit ..)) (fun t ht hW => ⟨_, rfl, e9, ht⟩) (fun _ h => absurd h List.not_mem_nil) d_B_isFieldAt_43
  · refine lv_aload_n hx hb d_B_isFieldAt_6 rfl (lv_at hl 0 rfl) ?_
    refine lv_iload_n hx hb d_B_isFieldAt_7 rfl (lv_at hl 1 rfl) ?_
    refine lv_iconst (v := (4 : Int32)) hx hb d_B_isFieldAt_8 (by decide) ?_
    refine lv_idiv hx hb d_B_isFieldAt_9 (by decide) ?_
    refine vp_callSi (va_Run.run (va_runV (As := [.int (x / (4 : Int32))]) (rest := []) ⟨hx, hb, hml, hown, hT⟩ (c_B_hasFieldBit l D cA ad t hap σ (x / (4 : Int32))) (kCV 1 hT ml_B_171 mi_B_hasFieldBit ⟨Nat.le_of_ble_eq_true rfl, Nat.le_of_ble_eq_true rfl⟩) (bpreV hK hP hZ hS) rfl rfl hl.1 rfl (lv_room (Nat.le_of_ble_eq_true rfl)) d_B_isFieldAt_10 ⟨Nat.le_of_ble_eq_true rfl, Nat.le_of_ble_eq_true rfl⟩)) (fun r9 e9 => ?_)
    subst e9
    have e9 : (f_B_hasFieldBit σ (x / (4 : Int32))) = f_B_isFieldAt σ x := by rw [f_B_isFieldAt, if_neg q1]
    exact W.zret (v := (f_B_hasFieldBit σ (x / (4 : Int32)))) hx hb hr (kz_nar (z_B_hasFieldBit ..)) (fun t ht hW => ⟨_, rfl, e9, ht⟩) (fun _ h => absurd h List.not_mem_nil) d_B_isFieldAt_13

def f_B_isBallAt (σ : Nat → Nat → Int32) (x : Int32) : Int32 := (if (f_B_hasBit σ (14 : Int32) (1 : Int32)) = 0 then (if ((σ 0 ((13 : Int32)).toNatClampNeg) &&& (2 : Int32)) = 0 then (0 : Int32) else (if (f_B_widthIn σ (8 : Int32)) ≤ (f_B_behindPlace σ (4 : Int32) x) then (0 : Int32) else (1 : Int32))) else (if ((σ 5 0) &&& (2 : Int32)) = 0 then (0 : Int32) else (if (f_B_widthIn σ (8 : Int32)) ≤ (f_B_behindPlace σ (4 : Int32) x) then (0 : Int32) else (1 : Int32))))

theorem z_B_isBallAt (σ : Nat → Nat → Int32) (x : Int32) : f_B_isBallAt σ x = 0 ∨ f_B_isBallAt σ x = 1 := by
  rw [f_B_isBallAt]
  repeat' split
  all_goals first | with_reducible exact Or.inl rfl | with_reducible exact Or.inr rfl

set_option maxRecDepth 100000 in
set_option maxHeartbeats 4000000 in
theorem c_B_isBallAt (l : Launch) (D : va_G) (cA ad t : Nat → Nat) (hap : kap 7 ad) (σ : Nat → Nat → Int32) (x : Int32) : Met l y_B_isBallAt w_B_isBallAt ({ frames := 2, cells := 0, slots := 0, locals := 44 } : Room) (va_Pc [.ref (ad 0), .int x] (bPre D cA ad t σ)) (vp_Si (fun v => v = f_B_isBallAt σ x)) 0 0 (fun _ => False) := by
  refine Met.ofW (cc := b_B_isBallAt) (maxL := 3) (ret := (some .boolean)) (by decide) rfl ?_
  intro p e s m args below meth c s₁ B hml hv
  obtain ⟨rfl, hv⟩ := hv
  obtain ⟨hP, hK, hZ⟩ := hv
  have hx := B.exec
  have hb := B.bytes
  have hr := B.returns
  have hlocks := B.notSynchronized
  have hT : ∀ w ∈ TB, w.before ([.ref (ad 0), .int x] : List Value).toArray s = true := fun w h => atoms_spec (ws := w_B_isBallAt) B.pre w (List.mem_cons_of_mem _ h)
  have hown : s.vm.findClass R_B = some m.cls := findClass_of_methodNamed B.named
  have hS : va_S (kA 7 ad) s.heap s.heap [] := va_S.rf
  have hl := lv_entry ([.ref (ad 0), .int x]) (n := 3) (Nat.le_of_ble_eq_true rfl)
  rw [lg_entry_eq]
  generalize (lg_sl ([.ref (ad 0), .int x]) ++ List.replicate (3 - (lg_sl ([.ref (ad 0), .int x])).length) Slot.unset).toArray = ls at hl ⊢
  have hl : lv_has ls 3 [(0, .ref (ad 0)), (1, .int x)] := hl
  refine lv_aload_n hx hb d_B_isBallAt_0 rfl (lv_at hl 0 rfl) ?_
  refine lv_bipush (v := (14 : Int32)) hx hb d_B_isBallAt_1 (by decide) ?_
  refine lv_iconst (v := (1 : Int32)) hx hb d_B_isBallAt_3 (by decide) ?_
  refine vp_callSi (va_Run.run (va_runV (As := [.int (14 : Int32), .int (1 : Int32)]) (rest := []) ⟨hx, hb, hml, hown, hT⟩ (c_B_hasBit l D cA ad t hap σ (14 : Int32) (1 : Int32) (by first | assumption | exact kin (by decide))) (kCV 2 hT ml_B_90 mi_B_hasBit ⟨Nat.le_of_ble_eq_true rfl, Nat.le_of_ble_eq_true rfl⟩) (bpreV hK hP hZ hS) rfl rfl hl.1 rfl (lv_room (Nat.le_of_ble_eq_true rfl)) d_B_isBallAt_4 ⟨Nat.le_of_ble_eq_true rfl, Nat.le_of_ble_eq_true rfl⟩)) (fun r9 e9 => ?_)
  subst e9
  refine lv_if_eq (tgt := 17) hx hb d_B_isBallAt_7 (by decide) (fun q1 => ?_) (fun q1 => ?_)
  · refine lv_aload_n hx hb d_B_isBallAt_17 rfl (lv_at hl 0 rfl) ?_
    refine va_get (D := D) (ci := 0) (v := .ref (ad 1)) (C := R_B) (T := F_B) (N := 10) hx hb hT in_B hown hK hP 0 rfl rfl 0 (by decide) (hT _ fl_B_9) (fun _ h9 => h9) rfl d_B_isBallAt_18 ?_
    refine lv_bipush (v := (13 : Int32)) hx hb d_B_isBallAt_21 (by decide) ?_
    refine va_iald hx hb hK hP 1 0 rfl rfl (by first | assumption | exact kin (by decide)) d_B_isBallAt_23 ?_
    refine lv_istore_n (lv' := [(2, .int (σ 0 ((13 : Int32)).toNatClampNeg)), (0, .ref (ad 0)), (1, .int x)]) hx hb d_B_isBallAt_24 rfl hl (by decide) rfl (fun ls hl => ?_)
    refine lv_iload_n hx hb d_B_isBallAt_25 rfl (lv_at hl 0 rfl) ?_
    refine lv_iconst (v := (2 : Int32)) hx hb d_B_isBallAt_26 (by decide) ?_
    refine lv_iand hx hb d_B_isBallAt_27 ?_
    refine lv_if_eq (tgt := 50) hx hb d_B_isBallAt_28 (by decide) (fun q2 => ?_) (fun q2 => ?_)
    · refine lv_iconst (v := (0 : Int32)) hx hb d_B_isBallAt_50 (by decide) ?_
      have e9 : (0 : Int32) = f_B_isBallAt σ x := by rw [f_B_isBallAt, if_pos q1, if_pos q2]
      exact W.zret (v := (0 : Int32)) hx hb hr (by decide) (fun t ht hW => ⟨_, rfl, e9, ht⟩) (fun _ h => absurd h List.not_mem_nil) d_B_isBallAt_51
    · refine lv_aload_n hx hb d_B_isBallAt_31 rfl (lv_at hl 1 rfl) ?_
      refine lv_iconst (v := (4 : Int32)) hx hb d_B_isBallAt_32 (by decide) ?_
      refine lv_iload_n hx hb d_B_isBallAt_33 rfl (lv_at hl 2 rfl) ?_
      refine vp_callSi (va_Run.run (va_runV (As := [.int (4 : Int32), .int x]) (rest := []) ⟨hx, hb, hml, hown, hT⟩ (c_B_behindPlace l D cA ad t hap σ (4 : Int32) x (by first | assumption | exact kin (by decide))) (kCV 2 hT ml_B_162 mi_B_behindPlace ⟨Nat.le_of_ble_eq_true rfl, Nat.le_of_ble_eq_true rfl⟩) (bpreV hK hP hZ hS) rfl rfl hl.1 rfl (lv_room (Nat.le_of_ble_eq_true rfl)) d_B_isBallAt_34 ⟨Nat.le_of_ble_eq_true rfl, Nat.le_of_ble_eq_true rfl⟩)) (fun r9 e9 => ?_)
      subst e9
      refine lv_aload_n hx hb d_B_isBallAt_37 rfl (lv_at hl 1 rfl) ?_
      refine lv_bipush (v := (8 : Int32)) hx hb d_B_isBallAt_38 (by decide) ?_
      refine vp_callSi (va_Run.run (va_runV (As := [.int (8 : Int32)]) (rest := [.int (f_B_behindPlace σ (4 : Int32) x)]) ⟨hx, hb, hml, hown, hT⟩ (c_B_widthIn l D cA ad t hap σ (8 : Int32) (by first | assumption | exact kin (by decide))) (kCV 1 hT ml_B_168 mi_B_widthIn ⟨Nat.le_of_ble_eq_true rfl, Nat.le_of_ble_eq_true rfl⟩) (bpreV hK hP hZ hS) rfl rfl hl.1 rfl (lv_room (Nat.le_of_ble_eq_true rfl)) d_B_isBallAt_40 ⟨Nat.le_of_ble_eq_true rfl, Nat.le_of_ble_eq_true rfl⟩)) (fun r9 e9 => ?_)
      subst e9
      refine lv_icmp_ge (tgt := 50) hx hb d_B_isBallAt_43 (by decide) (fun q3 => ?_) (fun q3 => ?_)
      · refine lv_iconst (v := (0 : Int32)) hx hb d_B_isBallAt_50 (by decide) ?_
        have e9 : (0 : Int32) = f_B_isBallAt σ x := by rw [f_B_isBallAt, if_pos q1, if_neg q2, if_pos q3]
        exact W.zret (v := (0 : Int32)) hx hb hr (by decide) (fun t ht hW => ⟨_, rfl, e9, ht⟩) (fun _ h => absurd h List.not_mem_nil) d_B_isBallAt_51
      · refine lv_iconst (v := (1 : Int32)) hx hb d_B_isBallAt_46 (by decide) ?_
        refine lv_goto (tgt := 51) hx hb d_B_isBallAt_47 (by decide) ?_
        have e9 : (1 : Int32) = f_B_isBallAt σ x := by rw [f_B_isBallAt, if_pos q1, if_neg q2, if_neg q3]
        exact W.zret (v := (1 : Int32)) hx hb hr (by decide) (fun t ht hW => ⟨_, rfl, e9, ht⟩) (fun _ h => absurd h List.not_mem_nil) d_B_isBallAt_51
  · refine lv_aload_n hx hb d_B_isBallAt_10 rfl (lv_at hl 0 rfl) ?_
    refine va_get (D := D) (ci := 0) (v := .int (σ 5 0)) (C := R_B) (T := F_B) (N := 10) hx hb hT in_B hown hK hP 0 rfl rfl 6 (by decide) (hT _ fl_B_87) (fun _ h9 => h9) rfl d_B_isBallAt_11 ?_
    refine lv_goto (tgt := 24) hx hb d_B_isBallAt_14 (by decide) ?_
    refine lv_istore_n (lv' := [(2, .int (σ 5 0)), (0, .ref (ad 0)), (1, .int x)]) hx hb d_B_isBallAt_24 rfl hl (by decide) rfl (fun ls hl => ?_)
    refine lv_iload_n hx hb d_B_isBallAt_25 rfl (lv_at hl 0 rfl) ?_
    refine lv_iconst (v := (2 : Int32)) hx hb d_B_isBallAt_26 (by decide) ?_
    refine lv_iand hx hb d_B_isBallAt_27 ?_
    refine lv_if_eq (tgt := 50) hx hb d_B_isBallAt_28 (by decide) (fun q4 => ?_) (fun q4 => ?_)
    · refine lv_iconst (v := (0 : Int32)) hx hb d_B_isBallAt_50 (by decide) ?_
      have e9 : (0 : Int32) = f_B_isBallAt σ x := by rw [f_B_isBallAt, if_neg q1, if_pos q4]
      exact W.zret (v := (0 : Int32)) hx hb hr (by decide) (fun t ht hW => ⟨_, rfl, e9, ht⟩) (fun _ h => absurd h List.not_mem_nil) d_B_isBallAt_51
    · refine lv_aload_n hx hb d_B_isBallAt_31 rfl (lv_at hl 1 rfl) ?_
      refine lv_iconst (v := (4 : Int32)) hx hb d_B_isBallAt_32 (by decide) ?_
      refine lv_iload_n hx hb d_B_isBallAt_33 rfl (lv_at hl 2 rfl) ?_
      refine vp_callSi (va_Run.run (va_runV (As := [.int (4 : Int32), .int x]) (rest := []) ⟨hx, hb, hml, hown, hT⟩ (c_B_behindPlace l D cA ad t hap σ (4 : Int32) x (by first | assumption | exact kin (by decide))) (kCV 2 hT ml_B_162 mi_B_behindPlace ⟨Nat.le_of_ble_eq_true rfl, Nat.le_of_ble_eq_true rfl⟩) (bpreV hK hP hZ hS) rfl rfl hl.1 rfl (lv_room (Nat.le_of_ble_eq_true rfl)) d_B_isBallAt_34 ⟨Nat.le_of_ble_eq_true rfl, Nat.le_of_ble_eq_true rfl⟩)) (fun r9 e9 => ?_)
      subst e9
      refine lv_aload_n hx hb d_B_isBallAt_37 rfl (lv_at hl 1 rfl) ?_
      refine lv_bipush (v := (8 : Int32)) hx hb d_B_isBallAt_38 (by decide) ?_
      refine vp_callSi (va_Run.run (va_runV (As := [.int (8 : Int32)]) (rest := [.int (f_B_behindPlace σ (4 : Int32) x)]) ⟨hx, hb, hml, hown, hT⟩ (c_B_widthIn l D cA ad t hap σ (8 : Int32) (by first | assumption | exact kin (by decide))) (kCV 1 hT ml_B_168 mi_B_widthIn ⟨Nat.le_of_ble_eq_true rfl, Nat.le_of_ble_eq_true rfl⟩) (bpreV hK hP hZ hS) rfl rfl hl.1 rfl (lv_room (Nat.le_of_ble_eq_true rfl)) d_B_isBallAt_40 ⟨Nat.le_of_ble_eq_true rfl, Nat.le_of_ble_eq_true rfl⟩)) (fun r9 e9 => ?_)
      subst e9
      refine lv_icmp_ge (tgt := 50) hx hb d_B_isBallAt_43 (by decide) (fun q5 => ?_) (fun q5 => ?_)
      · refine lv_iconst (v := (0 : Int32)) hx hb d_B_isBallAt_50 (by decide) ?_
        have e9 : (0 : Int32) = f_B_isBallAt σ x := by rw [f_B_isBallAt, if_neg q1, if_neg q4, if_pos q5]
        exact W.zret (v := (0 : Int32)) hx hb hr (by decide) (fun t ht hW => ⟨_, rfl, e9, ht⟩) (fun _ h => absurd h List.not_mem_nil) d_B_isBallAt_51
      · refine lv_iconst (v := (1 : Int32)) hx hb d_B_isBallAt_46 (by decide) ?_
        refine lv_goto (tgt := 51) hx hb d_B_isBallAt_47 (by decide) ?_
        have e9 : (1 : Int32) = f_B_isBallAt σ x := by rw [f_B_isBallAt, if_neg q1, if_neg q4, if_neg q5]
        exact W.zret (v := (1 : Int32)) hx hb hr (by decide) (fun t ht hW => ⟨_, rfl, e9, ht⟩) (fun _ h => absurd h List.not_mem_nil) d_B_isBallAt_51
end
section
def f_B_isMissileAt (σ : Nat → Nat → Int32) (side : Int32) (x : Int32) : Int32 := (if (f_B_hasBit σ ((19 : Int32) + side) (2 : Int32)) = 0 then (0 : Int32) else (if (f_B_hasBit σ ((21 : Int32) + side) (2 : Int32)) = 0 then (if (f_B_widthIn σ ((17 : Int32) + side)) ≤ (f_B_behindCopy (f_B_copiesOf σ side) (f_B_behindPlace σ ((2 : Int32) + side) x)) then (0 : Int32) else (1 : Int32)) else (0 : Int32)))

theorem z_B_isMissileAt (σ : Nat → Nat → Int32) (side : Int32) (x : Int32) : f_B_isMissileAt σ side x = 0 ∨ f_B_isMissileAt σ side x = 1 := by
  rw [f_B_isMissileAt]
  repeat' split
  all_goals first | with_reducible exact Or.inl rfl | with_reducible exact Or.inr rfl

set_option maxRecDepth 100000 in
set_option maxHeartbeats 4000000 in
theorem c_B_isMissileAt (l : Launch) (D : va_G) (cA ad t : Nat → Nat) (hap : kap 7 ad) (σ : Nat → Nat → Int32) (side : Int32) (x : Int32) (hs : side = 0 ∨ side = 1) : Met l y_B_isMissileAt w_B_isMissileAt ({ frames := 2, cells := 0, slots := 0, locals := 44 } : Room) (va_Pc [.ref (ad 0), .int side, .int x] (bPre D cA ad t σ)) (vp_Si (fun v => v = f_B_isMissileAt σ side x)) 0 0 (fun _ => False) := by
  refine Met.ofW (cc := b_B_isMissileAt) (maxL := 3) (ret := (some .boolean)) (by decide) rfl ?_
  intro p e s m args below meth c s₁ B hml hv
  obtain ⟨rfl, hv⟩ := hv
  obtain ⟨hP, hK, hZ⟩ := hv
  have hx := B.exec
  have hb := B.bytes
  have hr := B.returns
  have hlocks := B.notSynchronized
  have hT : ∀ w ∈ TB, w.before ([.ref (ad 0), .int side, .int x] : List Value).toArray s = true := fun w h => atoms_spec (ws := w_B_isMissileAt) B.pre w (List.mem_cons_of_mem _ h)
  have hown : s.vm.findClass R_B = some m.cls := findClass_of_methodNamed B.named
  have hS : va_S (kA 7 ad) s.heap s.heap [] := va_S.rf
  have hl := lv_entry ([.ref (ad 0), .int side, .int x]) (n := 3) (Nat.le_of_ble_eq_true rfl)
  rw [lg_entry_eq]
  generalize (lg_sl ([.ref (ad 0), .int side, .int x]) ++ List.replicate (3 - (lg_sl ([.ref (ad 0), .int side, .int x])).length) Slot.unset).toArray = ls at hl ⊢
  have hl : lv_has ls 3 [(0, .ref (ad 0)), (1, .int side), (2, .int x)] := hl
  refine lv_aload_n hx hb d_B_isMissileAt_0 rfl (lv_at hl 0 rfl) ?_
  refine lv_bipush (v := (19 : Int32)) hx hb d_B_isMissileAt_1 (by decide) ?_
  refine lv_iload_n hx hb d_B_isMissileAt_3 rfl (lv_at hl 1 rfl) ?_
  refine lv_iadd hx hb d_B_isMissileAt_4 ?_
  refine lv_iconst (v := (2 : Int32)) hx hb d_B_isMissileAt_5 (by decide) ?_
  refine vp_callSi (va_Run.run (va_runV (As := [.int ((19 : Int32) + side), .int (2 : Int32)]) (rest := []) ⟨hx, hb, hml, hown, hT⟩ (c_B_hasBit l D cA ad t hap σ ((19 : Int32) + side) (2 : Int32) (by first | assumption | exact kin (by decide) | ((rcases hs with rfl | rfl <;> exact kin (by decide))) | exact kin7 _)) (kCV 2 hT ml_B_90 mi_B_hasBit ⟨Nat.le_of_ble_eq_true rfl, Nat.le_of_ble_eq_true rfl⟩) (bpreV hK hP hZ hS) rfl rfl hl.1 rfl (lv_room (Nat.le_of_ble_eq_true rfl)) d_B_isMissileAt_6 ⟨Nat.le_of_ble_eq_true rfl, Nat.le_of_ble_eq_true rfl⟩)) (fun r9 e9 => ?_)
  subst e9
  refine lv_if_eq (tgt := 24) hx hb d_B_isMissileAt_9 (by decide) (fun q1 => ?_) (fun q1 => ?_)
  · refine lv_iconst (v := (0 : Int32)) hx hb d_B_isMissileAt_24 (by decide) ?_
    have e9 : (0 : Int32) = f_B_isMissileAt σ side x := by rw [f_B_isMissileAt, if_pos q1]
    exact W.zret (v := (0 : Int32)) hx hb hr (by decide) (fun t ht hW => ⟨_, rfl, e9, ht⟩) (fun _ h => absurd h List.not_mem_nil) d_B_isMissileAt_25
  · refine lv_aload_n hx hb d_B_isMissileAt_12 rfl (lv_at hl 0 rfl) ?_
    refine lv_bipush (v := (21 : Int32)) hx hb d_B_isMissileAt_13 (by decide) ?_
    refine lv_iload_n hx hb d_B_isMissileAt_15 rfl (lv_at hl 1 rfl) ?_
    refine lv_iadd hx hb d_B_isMissileAt_16 ?_
    refine lv_iconst (v := (2 : Int32)) hx hb d_B_isMissileAt_17 (by decide) ?_
    refine vp_callSi (va_Run.run (va_runV (As := [.int ((21 : Int32) + side), .int (2 : Int32)]) (rest := []) ⟨hx, hb, hml, hown, hT⟩ (c_B_hasBit l D cA ad t hap σ ((21 : Int32) + side) (2 : Int32) (by first | assumption | exact kin (by decide) | ((rcases hs with rfl | rfl <;> exact kin (by decide))) | exact kin7 _)) (kCV 2 hT ml_B_90 mi_B_hasBit ⟨Nat.le_of_ble_eq_true rfl, Nat.le_of_ble_eq_true rfl⟩) (bpreV hK hP hZ hS) rfl rfl hl.1 rfl (lv_room (Nat.le_of_ble_eq_true rfl)) d_B_isMissileAt_18 ⟨Nat.le_of_ble_eq_true rfl, Nat.le_of_ble_eq_true rfl⟩)) (fun r9 e9 => ?_)
    subst e9
    refine lv_if_eq (tgt := 26) hx hb d_B_isMissileAt_21 (by decide) (fun q2 => ?_) (fun q2 => ?_)
    · refine lv_aload_n hx hb d_B_isMissileAt_26 rfl (lv_at hl 0 rfl) ?_
      refine lv_iload_n hx hb d_B_isMissileAt_27 rfl (lv_at hl 1 rfl) ?_
      refine vp_callSi (va_Run.run (va_runV (As := [.int side]) (rest := []) ⟨hx, hb, hml, hown, hT⟩ (c_B_copiesOf l D cA ad t hap σ side (by first | assumption | exact kin (by decide) | ((rcases hs with rfl | rfl <;> exact kin (by decide))) | exact kin7 _)) (kCV 1 hT ml_B_99 mi_B_copiesOf ⟨Nat.le_of_ble_eq_true rfl, Nat.le_of_ble_eq_true rfl⟩) (bpreV hK hP hZ hS) rfl rfl hl.1 rfl (lv_room (Nat.le_of_ble_eq_true rfl)) d_B_isMissileAt_28 ⟨Nat.le_of_ble_eq_true rfl, Nat.le_of_ble_eq_true rfl⟩)) (fun r9 e9 => ?_)
      subst e9
      refine lv_aload_n hx hb d_B_isMissileAt_31 rfl (lv_at hl 0 rfl) ?_
      refine lv_iconst (v := (2 : Int32)) hx hb d_B_isMissileAt_32 (by decide) ?_
      refine lv_iload_n hx hb d_B_isMissileAt_33 rfl (lv_at hl 1 rfl) ?_
      refine lv_iadd hx hb d_B_isMissileAt_34 ?_
      refine lv_iload_n hx hb d_B_isMissileAt_35 rfl (lv_at hl 2 rfl) ?_
      refine vp_callSi (va_Run.run (va_runV (As := [.int ((2 : Int32) + side), .int x]) (rest := [.int (f_B_copiesOf σ side)]) ⟨hx, hb, hml, hown, hT⟩ (c_B_behindPlace l D cA ad t hap σ ((2 : Int32) + side) x (by first | assumption | exact kin (by decide) | ((rcases hs with rfl | rfl <;> exact kin (by decide))) | exact kin7 _)) (kCV 2 hT ml_B_162 mi_B_behindPlace ⟨Nat.le_of_ble_eq_true rfl, Nat.le_of_ble_eq_true rfl⟩) (bpreV hK hP hZ hS) rfl rfl hl.1 rfl (lv_room (Nat.le_of_ble_eq_true rfl)) d_B_isMissileAt_36 ⟨Nat.le_of_ble_eq_true rfl, Nat.le_of_ble_eq_true rfl⟩)) (fun r9 e9 => ?_)
      subst e9
      refine vp_callSi (va_Run.run (va_runS (As := [.int (f_B_copiesOf σ side), .int (f_B_behindPlace σ ((2 : Int32) + side) x)]) (rest := []) ⟨hx, hb, hml, hown, hT⟩ (c_B_behindCopy l D cA ad t hap σ (f_B_copiesOf σ side) (f_B_behindPlace σ ((2 : Int32) + side) x) (by first | assumption | exact kin (by decide) | ((rcases hs with rfl | rfl <;> exact kin (by decide))) | exact kin7 _)) (kCS 2 hT ml_B_165 ms_B_behindCopy ⟨Nat.le_of_ble_eq_true rfl, Nat.le_of_ble_eq_true rfl⟩) (bpreS hK hP hZ hS) rfl rfl hl.1 rfl (lv_room (Nat.le_of_ble_eq_true rfl)) d_B_isMissileAt_39 ⟨Nat.le_of_ble_eq_true rfl, Nat.le_of_ble_eq_true rfl⟩)) (fun r9 e9 => ?_)
      subst e9
      refine lv_aload_n hx hb d_B_isMissileAt_42 rfl (lv_at hl 0 rfl) ?_
      refine lv_bipush (v := (17 : Int32)) hx hb d_B_isMissileAt_43 (by decide) ?_
      refine lv_iload_n hx hb d_B_isMissileAt_45 rfl (lv_at hl 1 rfl) ?_
      refine lv_iadd hx hb d_B_isMissileAt_46 ?_
      refine vp_callSi (va_Run.run (va_runV (As := [.int ((17 : Int32) + side)]) (rest := [.int (f_B_behindCopy (f_B_copiesOf σ side) (f_B_behindPlace σ ((2 : Int32) + side) x))]) ⟨hx, hb, hml, hown, hT⟩ (c_B_widthIn l D cA ad t hap σ ((17 : Int32) + side) (by first | assumption | exact kin (by decide) | ((rcases hs with rfl | rfl <;> exact kin (by decide))) | exact kin7 _)) (kCV 1 hT ml_B_168 mi_B_widthIn ⟨Nat.le_of_ble_eq_true rfl, Nat.le_of_ble_eq_true rfl⟩) (bpreV hK hP hZ hS) rfl rfl hl.1 rfl (lv_room (Nat.le_of_ble_eq_true rfl)) d_B_isMissileAt_47 ⟨Nat.le_of_ble_eq_true rfl, Nat.le_of_ble_eq_true rfl⟩)) (fun r9 e9 => ?_)
      subst e9
      refine lv_icmp_ge (tgt := 57) hx hb d_B_isMissileAt_50 (by decide) (fun q3 => ?_) (fun q3 => ?_)
      · refine lv_iconst (v := (0 : Int32)) hx hb d_B_isMissileAt_57 (by decide) ?_
        have e9 : (0 : Int32) = f_B_isMissileAt σ side x := by rw [f_B_isMissileAt, if_neg q1, if_pos q2, if_pos q3]
        exact W.zret (v := (0 : Int32)) hx hb hr (by decide) (fun t ht hW => ⟨_, rfl, e9, ht⟩) (fun _ h => absurd h List.not_mem_nil) d_B_isMissileAt_58
      · refine lv_iconst (v := (1 : Int32)) hx hb d_B_isMissileAt_53 (by decide) ?_
        refine lv_goto (tgt := 58) hx hb d_B_isMissileAt_54 (by decide) ?_
        have e9 : (1 : Int32) = f_B_isMissileAt σ side x := by rw [f_B_isMissileAt, if_neg q1, if_pos q2, if_neg q3]
        exact W.zret (v := (1 : Int32)) hx hb hr (by decide) (fun t ht hW => ⟨_, rfl, e9, ht⟩) (fun _ h => absurd h List.not_mem_nil) d_B_isMissileAt_58
    · refine lv_iconst (v := (0 : Int32)) hx hb d_B_isMissileAt_24 (by decide) ?_
      have e9 : (0 : Int32) = f_B_isMissileAt σ side x := by rw [f_B_isMissileAt, if_neg q1, if_neg q2]
      exact W.zret (v := (0 : Int32)) hx hb hr (by decide) (fun t ht hW => ⟨_, rfl, e9, ht⟩) (fun _ h => absurd h List.not_mem_nil) d_B_isMissileAt_25

def f_B_isPlayerAt (σ : Nat → Nat → Int32) (side : Int32) (x : Int32) : Int32 := (if (f_B_hasBit σ ((11 : Int32) + side) (1 : Int32)) = 0 then (if ((f_B_behindCopy (f_B_copiesOf σ side) (f_B_behindPlace σ side x)) >>> ((tab1 ((f_B_copiesOf σ side)).toNatClampNeg) &&& 31)) ≤ (7 : Int32) then (if (f_B_hasBit σ ((15 : Int32) + side) (8 : Int32)) = 0 then (if (((σ 0 (((9 : Int32) + side)).toNatClampNeg) >>> (((7 : Int32) - ((f_B_behindCopy (f_B_copiesOf σ side) (f_B_behindPlace σ side x)) >>> ((tab1 ((f_B_copiesOf σ side)).toNatClampNeg) &&& 31))) &&& 31)) &&& (1 : Int32)) = 0 then (0 : Int32) else (1 : Int32)) else (if (((σ 0 (((9 : Int32) + side)).toNatClampNeg) >>> (((f_B_behindCopy (f_B_copiesOf σ side) (f_B_behindPlace σ side x)) >>> ((tab1 ((f_B_copiesOf σ side)).toNatClampNeg) &&& 31)) &&& 31)) &&& (1 : Int32)) = 0 then (0 : Int32) else (1 : Int32))) else (0 : Int32)) else (if ((f_B_behindCopy (f_B_copiesOf σ side) (f_B_behindPlace σ side x)) >>> ((tab1 ((f_B_copiesOf σ side)).toNatClampNeg) &&& 31)) ≤ (7 : Int32) then (if (f_B_hasBit σ ((15 : Int32) + side) (8 : Int32)) = 0 then (if (((σ 1 (side).toNatClampNeg) >>> (((7 : Int32) - ((f_B_behindCopy (f_B_copiesOf σ side) (f_B_behindPlace σ side x)) >>> ((tab1 ((f_B_copiesOf σ side)).toNatClampNeg) &&& 31))) &&& 31)) &&& (1 : Int32)) = 0 then (0 : Int32) else (1 : Int32)) else (if (((σ 1 (side).toNatClampNeg) >>> (((f_B_behindCopy (f_B_copiesOf σ side) (f_B_behindPlace σ side x)) >>> ((tab1 ((f_B_copiesOf σ side)).toNatClampNeg) &&& 31)) &&& 31)) &&& (1 : Int32)) = 0 then (0 : Int32) else (1 : Int32))) else (0 : Int32)))

theorem z_B_isPlayerAt (σ : Nat → Nat → Int32) (side : Int32) (x : Int32) : f_B_isPlayerAt σ side x = 0 ∨ f_B_isPlayerAt σ side x = 1 := by
  rw [f_B_isPlayerAt]
  repeat' split
  all_goals first | with_reducible exact Or.inl rfl | with_reducible exact Or.inr rfl

set_option maxRecDepth 100000 in
set_option maxHeartbeats 4000000 in
theorem c_B_isPlayerAt (l : Launch) (D : va_G) (cA ad t : Nat → Nat) (hap : kap 7 ad) (σ : Nat → Nat → Int32) (side : Int32) (x : Int32) (hs : side = 0 ∨ side = 1) : Met l y_B_isPlayerAt w_B_isPlayerAt ({ frames := 2, cells := 0, slots := 0, locals := 44 } : Room) (va_Pc [.ref (ad 0), .int side, .int x] (bPre D cA ad t σ)) (vp_Si (fun v => v = f_B_isPlayerAt σ side x)) 0 0 (fun _ => False) := by
  refine Met.ofW (cc := b_B_isPlayerAt) (maxL := 7) (ret := (some .boolean)) (by decide) rfl ?_
  intro p e s m args below meth c s₁ B hml hv
  obtain ⟨rfl, hv⟩ := hv
  obtain ⟨hP, hK, hZ⟩ := hv
  have hx := B.exec
  have hb := B.bytes
  have hr := B.returns
  have hlocks := B.notSynchronized
  have hT : ∀ w ∈ TB, w.before ([.ref (ad 0), .int side, .int x] : List Value).toArray s = true := fun w h => atoms_spec (ws := w_B_isPlayerAt) B.pre w (List.mem_cons_of_mem _ h)
  have hown : s.vm.findClass R_B = some m.cls := findClass_of_methodNamed B.named
  have hS : va_S (kA 7 ad) s.heap s.heap [] := va_S.rf
  have hl := lv_entry ([.ref (ad 0), .int side, .int x]) (n := 7) (Nat.le_of_ble_eq_true rfl)
  rw [lg_entry_eq]
  generalize (lg_sl ([.ref (ad 0), .int side, .int x]) ++ List.replicate (7 - (lg_sl ([.ref (ad 0), .int side, .int x])).length) Slot.unset).toArray = ls at hl ⊢
  have hl : lv_has ls 7 [(0, .ref (ad 0)), (1, .int side), (2, .int x)] := hl
  refine lv_aload_n hx hb d_B_isPlayerAt_0 rfl (lv_at hl 0 rfl) ?_
  refine lv_bipush (v := (11 : Int32)) hx hb d_B_isPlayerAt_1 (by decide) ?_
  refine lv_iload_n hx hb d_B_isPlayerAt_3 rfl (lv_at hl 1 rfl) ?_
  refine lv_iadd hx hb d_B_isPlayerAt_4 ?_
  refine lv_iconst (v := (1 : Int32)) hx hb d_B_isPlayerAt_5 (by decide) ?_
  refine vp_callSi (va_Run.run (va_runV (As := [.int ((11 : Int32) + side), .int (1 : Int32)]) (rest := []) ⟨hx, hb, hml, hown, hT⟩ (c_B_hasBit l D cA ad t hap σ ((11 : Int32) + side) (1 : Int32) (by first | assumption | exact kin (by decide) | ((rcases hs with rfl | rfl <;> exact kin (by decide))) | exact kin7 _)) (kCV 2 hT ml_B_90 mi_B_hasBit ⟨Nat.le_of_ble_eq_true rfl, Nat.le_of_ble_eq_true rfl⟩) (bpreV hK hP hZ hS) rfl rfl hl.1 rfl (lv_room (Nat.le_of_ble_eq_true rfl)) d_B_isPlayerAt_6 ⟨Nat.le_of_ble_eq_true rfl, Nat.le_of_ble_eq_true rfl⟩)) (fun r9 e9 => ?_)
  subst e9
  refine lv_if_eq (tgt := 21) hx hb d_B_isPlayerAt_9 (by decide) (fun q1 => ?_) (fun q1 => ?_)
  · refine lv_aload_n hx hb d_B_isPlayerAt_21 rfl (lv_at hl 0 rfl) ?_
    refine va_get (D := D) (ci := 0) (v := .ref (ad 1)) (C := R_B) (T := F_B) (N := 10) hx hb hT in_B hown hK hP 0 rfl rfl 0 (by decide) (hT _ fl_B_9) (fun _ h9 => h9) rfl d_B_isPlayerAt_22 ?_
    refine lv_bipush (v := (9 : Int32)) hx hb d_B_isPlayerAt_25 (by decide) ?_
    refine lv_iload_n hx hb d_B_isPlayerAt_27 rfl (lv_at hl 1 rfl) ?_
    refine lv_iadd hx hb d_B_isPlayerAt_28 ?_
    refine va_iald hx hb hK hP 1 0 rfl rfl (by first | assumption | exact kin (by decide) | ((rcases hs with rfl | rfl <;> exact kin (by decide))) | exact kin7 _) d_B_isPlayerAt_29 ?_
    refine lv_istore_n (lv' := [(3, .int (σ 0 (((9 : Int32) + side)).toNatClampNeg)), (0, .ref (ad 0)), (1, .int side), (2, .int x)]) hx hb d_B_isPlayerAt_30 rfl hl (by decide) rfl (fun ls hl => ?_)
    refine lv_aload_n hx hb d_B_isPlayerAt_31 rfl (lv_at hl 1 rfl) ?_
    refine lv_iload_n hx hb d_B_isPlayerAt_32 rfl (lv_at hl 2 rfl) ?_
    refine vp_callSi (va_Run.run (va_runV (As := [.int side]) (rest := []) ⟨hx, hb, hml, hown, hT⟩ (c_B_copiesOf l D cA ad t hap σ side (by first | assumption | exact kin (by decide) | ((rcases hs with rfl | rfl <;> exact kin (by decide))) | exact kin7 _)) (kCV 1 hT ml_B_99 mi_B_copiesOf ⟨Nat.le_of_ble_eq_true rfl, Nat.le_of_ble_eq_true rfl⟩) (bpreV hK hP hZ hS) rfl rfl hl.1 rfl (lv_room (Nat.le_of_ble_eq_true rfl)) d_B_isPlayerAt_33 ⟨Nat.le_of_ble_eq_true rfl, Nat.le_of_ble_eq_true rfl⟩)) (fun r9 e9 => ?_)
    subst e9
    refine lv_istore (lv' := [(4, .int (f_B_copiesOf σ side)), (3, .int (σ 0 (((9 : Int32) + side)).toNatClampNeg)), (0, .ref (ad 0)), (1, .int side), (2, .int x)]) hx hb d_B_isPlayerAt_36 hl (by decide) rfl (fun ls hl => ?_)
    refine lv_iload hx hb d_B_isPlayerAt_38 (lv_at hl 0 rfl) ?_
    refine lv_aload_n hx hb d_B_isPlayerAt_40 rfl (lv_at hl 2 rfl) ?_
    refine lv_iload_n hx hb d_B_isPlayerAt_41 rfl (lv_at hl 3 rfl) ?_
    refine lv_iload_n hx hb d_B_isPlayerAt_42 rfl (lv_at hl 4 rfl) ?_
    refine vp_callSi (va_Run.run (va_runV (As := [.int side, .int x]) (rest := [.int (f_B_copiesOf σ side)]) ⟨hx, hb, hml, hown, hT⟩ (c_B_behindPlace l D cA ad t hap σ side x (by first | assumption | exact kin (by decide) | ((rcases hs with rfl | rfl <;> exact kin (by decide))) | exact kin7 _)) (kCV 2 hT ml_B_162 mi_B_behindPlace ⟨Nat.le_of_ble_eq_true rfl, Nat.le_of_ble_eq_true rfl⟩) (bpreV hK hP hZ hS) rfl rfl hl.1 rfl (lv_room (Nat.le_of_ble_eq_true rfl)) d_B_isPlayerAt_43 ⟨Nat.le_of_ble_eq_true rfl, Nat.le_of_ble_eq_true rfl⟩)) (fun r9 e9 => ?_)
    subst e9
    refine vp_callSi (va_Run.run (va_runS (As := [.int (f_B_copiesOf σ side), .int (f_B_behindPlace σ side x)]) (rest := []) ⟨hx, hb, hml, hown, hT⟩ (c_B_behindCopy l D cA ad t hap σ (f_B_copiesOf σ side) (f_B_behindPlace σ side x) (by first | assumption | exact kin (by decide) | ((rcases hs with rfl | rfl <;> exact kin (by decide))) | exact kin7 _)) (kCS 2 hT ml_B_165 ms_B_behindCopy ⟨Nat.le_of_ble_eq_true rfl, Nat.le_of_ble_eq_true rfl⟩) (bpreS hK hP hZ hS) rfl rfl hl.1 rfl (lv_room (Nat.le_of_ble_eq_true rfl)) d_B_isPlayerAt_46 ⟨Nat.le_of_ble_eq_true rfl, Nat.le_of_ble_eq_true rfl⟩)) (fun r9 e9 => ?_)
    subst e9
    refine va_gets hx hb (kZ_z1 hZ) hS hown (hT _ fl_B_96) (fun _ h9 => h9) d_B_isPlayerAt_49 ?_
    refine lv_iload hx hb d_B_isPlayerAt_52 (lv_at hl 0 rfl) ?_
    refine va_ti (v := .int (tab1 ((f_B_copiesOf σ side)).toNatClampNeg)) hx hb (kZ_t1 hZ) hS (by first | assumption | exact kin (by decide) | ((rcases hs with rfl | rfl <;> exact kin (by decide))) | exact kin7 _) rfl d_B_isPlayerAt_54 ?_
    refine lv_ishr hx hb d_B_isPlayerAt_55 ?_
    refine lv_istore (lv' := [(5, .int ((f_B_behindCopy (f_B_copiesOf σ side) (f_B_behindPlace σ side x)) >>> ((tab1 ((f_B_copiesOf σ side)).toNatClampNeg) &&& 31))), (4, .int (f_B_copiesOf σ side)), (3, .int (σ 0 (((9 : Int32) + side)).toNatClampNeg)), (0, .ref (ad 0)), (1, .int side), (2, .int x)]) hx hb d_B_isPlayerAt_56 hl (by decide) rfl (fun ls hl => ?_)
    refine lv_iload hx hb d_B_isPlayerAt_58 (lv_at hl 0 rfl) ?_
    refine lv_bipush (v := (7 : Int32)) hx hb d_B_isPlayerAt_60 (by decide) ?_
    refine lv_icmp_le (tgt := 67) hx hb d_B_isPlayerAt_62 (by decide) (fun q2 => ?_) (fun q2 => ?_)
    · refine lv_aload_n hx hb d_B_isPlayerAt_67 rfl (lv_at hl 3 rfl) ?_
      refine lv_bipush (v := (15 : Int32)) hx hb d_B_isPlayerAt_68 (by decide) ?_
      refine lv_iload_n hx hb d_B_isPlayerAt_70 rfl (lv_at hl 4 rfl) ?_
      refine lv_iadd hx hb d_B_isPlayerAt_71 ?_
      refine lv_bipush (v := (8 : Int32)) hx hb d_B_isPlayerAt_72 (by decide) ?_
      refine vp_callSi (va_Run.run (va_runV (As := [.int ((15 : Int32) + side), .int (8 : Int32)]) (rest := []) ⟨hx, hb, hml, hown, hT⟩ (c_B_hasBit l D cA ad t hap σ ((15 : Int32) + side) (8 : Int32) (by first | assumption | exact kin (by decide) | ((rcases hs with rfl | rfl <;> exact kin (by decide))) | exact kin7 _)) (kCV 2 hT ml_B_90 mi_B_hasBit ⟨Nat.le_of_ble_eq_true rfl, Nat.le_of_ble_eq_true rfl⟩) (bpreV hK hP hZ hS) rfl rfl hl.1 rfl (lv_room (Nat.le_of_ble_eq_true rfl)) d_B_isPlayerAt_74 ⟨Nat.le_of_ble_eq_true rfl, Nat.le_of_ble_eq_true rfl⟩)) (fun r9 e9 => ?_)
      subst e9
      refine lv_if_eq (tgt := 85) hx hb d_B_isPlayerAt_77 (by decide) (fun q3 => ?_) (fun q3 => ?_)
      · refine lv_bipush (v := (7 : Int32)) hx hb d_B_isPlayerAt_85 (by decide) ?_
        refine lv_iload hx hb d_B_isPlayerAt_87 (lv_at hl 0 rfl) ?_
        refine lv_isub hx hb d_B_isPlayerAt_89 ?_
        refine lv_istore (lv' := [(6, .int ((7 : Int32) - ((f_B_behindCopy (f_B_copiesOf σ side) (f_B_behindPlace σ side x)) >>> ((tab1 ((f_B_copiesOf σ side)).toNatClampNeg) &&& 31)))), (5, .int ((f_B_behindCopy (f_B_copiesOf σ side) (f_B_behindPlace σ side x)) >>> ((tab1 ((f_B_copiesOf σ side)).toNatClampNeg) &&& 31))), (4, .int (f_B_copiesOf σ side)), (3, .int (σ 0 (((9 : Int32) + side)).toNatClampNeg)), (0, .ref (ad 0)), (1, .int side), (2, .int x)]) hx hb d_B_isPlayerAt_90 hl (by decide) rfl (fun ls hl => ?_)
        refine lv_iload_n hx hb d_B_isPlayerAt_92 rfl (lv_at hl 3 rfl) ?_
        refine lv_iload hx hb d_B_isPlayerAt_93 (lv_at hl 0 rfl) ?_
        refine lv_ishr hx hb d_B_isPlayerAt_95 ?_
        refine lv_iconst (v := (1 : Int32)) hx hb d_B_isPlayerAt_96 (by decide) ?_
        refine lv_iand hx hb d_B_isPlayerAt_97 ?_
        refine lv_if_eq (tgt := 105) hx hb d_B_isPlayerAt_98 (by decide) (fun q4 => ?_) (fun q4 => ?_)
        · refine lv_iconst (v := (0 : Int32)) hx hb d_B_isPlayerAt_105 (by decide) ?_
          have e9 : (0 : Int32) = f_B_isPlayerAt σ side x := by rw [f_B_isPlayerAt, if_pos q1, if_pos q2, if_pos q3, if_pos q4]
          exact W.zret (v := (0 : Int32)) hx hb hr (by decide) (fun t ht hW => ⟨_, rfl, e9, ht⟩) (fun _ h => absurd h List.not_mem_nil) d_B_isPlayerAt_106
        · refine lv_iconst (v := (1 : Int32)) hx hb d_B_isPlayerAt_101 (by decide) ?_
          refine lv_goto (tgt := 106) hx hb d_B_isPlayerAt_102 (by decide) ?_
          have e9 : (1 : Int32) = f_B_isPlayerAt σ side x := by rw [f_B_isPlayerAt, if_pos q1, if_pos q2, if_pos q3, if_neg q4]
          exact W.zret (v := (1 : Int32)) hx hb hr (by decide) (fun t ht hW => ⟨_, rfl, e9, ht⟩) (fun _ h => absurd h List.not_mem_nil) d_B_isPlayerAt_106
      · refine lv_iload hx hb d_B_isPlayerAt_80 (lv_at hl 0 rfl) ?_
        refine lv_goto (tgt := 90) hx hb d_B_isPlayerAt_82 (by decide) ?_
        refine lv_istore (lv' := [(6, .int ((f_B_behindCopy (f_B_copiesOf σ side) (f_B_behindPlace σ side x)) >>> ((tab1 ((f_B_copiesOf σ side)).toNatClampNeg) &&& 31))), (5, .int ((f_B_behindCopy (f_B_copiesOf σ side) (f_B_behindPlace σ side x)) >>> ((tab1 ((f_B_copiesOf σ side)).toNatClampNeg) &&& 31))), (4, .int (f_B_copiesOf σ side)), (3, .int (σ 0 (((9 : Int32) + side)).toNatClampNeg)), (0, .ref (ad 0)), (1, .int side), (2, .int x)]) hx hb d_B_isPlayerAt_90 hl (by decide) rfl (fun ls hl => ?_)
        refine lv_iload_n hx hb d_B_isPlayerAt_92 rfl (lv_at hl 3 rfl) ?_
        refine lv_iload hx hb d_B_isPlayerAt_93 (lv_at hl 0 rfl) ?_
        refine lv_ishr hx hb d_B_isPlayerAt_95 ?_
        refine lv_iconst (v := (1 : Int32)) hx hb d_B_isPlayerAt_96 (by decide) ?_
        refine lv_iand hx hb d_B_isPlayerAt_97 ?_
        refine lv_if_eq (tgt := 105) hx hb d_B_isPlayerAt_98 (by decide) (fun q5 => ?_) (fun q5 => ?_)
        · refine lv_iconst (v := (0 : Int32)) hx hb d_B_isPlayerAt_105 (by decide) ?_
          have e9 : (0 : Int32) = f_B_isPlayerAt σ side x := by rw [f_B_isPlayerAt, if_pos q1, if_pos q2, if_neg q3, if_pos q5]
          exact W.zret (v := (0 : Int32)) hx hb hr (by decide) (fun t ht hW => ⟨_, rfl, e9, ht⟩) (fun _ h => absurd h List.not_mem_nil) d_B_isPlayerAt_106
        · refine lv_iconst (v := (1 : Int32)) hx hb d_B_isPlayerAt_101 (by decide) ?_
          refine lv_goto (tgt := 106) hx hb d_B_isPlayerAt_102 (by decide) ?_
          have e9 : (1 : Int32) = f_B_isPlayerAt σ side x := by rw [f_B_isPlayerAt, if_pos q1, if_pos q2, if_neg q3, if_neg q5]
          exact W.zret (v := (1 : Int32)) hx hb hr (by decide) (fun t ht hW => ⟨_, rfl, e9, ht⟩) (fun _ h => absurd h List.not_mem_nil) d_B_isPlayerAt_106
    · refine lv_iconst (v := (0 : Int32)) hx hb d_B_isPlayerAt_65 (by decide) ?_
      have e9 : (0 : Int32) = f_B_isPlayerAt σ side x := by rw [f_B_isPlayerAt, if_pos q1, if_neg q2]
      exact W.zret (v := (0 : Int32)) hx hb hr (by decide) (fun t ht hW => ⟨_, rfl, e9, ht⟩) (fun _ h => absurd h List.not_mem_nil) d_B_isPlayerAt_66
  · refine lv_aload_n hx hb d_B_isPlayerAt_12 rfl (lv_at hl 0 rfl) ?_
    refine va_get (D := D) (ci := 0) (v := .ref (ad 2)) (C := R_B) (T := F_B) (N := 10) hx hb hT in_B hown hK hP 0 rfl rfl 1 (by decide) (hT _ fl_B_13) (fun _ h9 => h9) rfl d_B_isPlayerAt_13 ?_
    refine lv_iload_n hx hb d_B_isPlayerAt_16 rfl (lv_at hl 1 rfl) ?_
    refine va_iald hx hb hK hP 2 0 rfl rfl (by first | assumption | exact kin (by decide) | ((rcases hs with rfl | rfl <;> exact kin (by decide))) | exact kin7 _) d_B_isPlayerAt_17 ?_
    refine lv_goto (tgt := 30) hx hb d_B_isPlayerAt_18 (by decide) ?_
    refine lv_istore_n (lv' := [(3, .int (σ 1 (side).toNatClampNeg)), (0, .ref (ad 0)), (1, .int side), (2, .int x)]) hx hb d_B_isPlayerAt_30 rfl hl (by decide) rfl (fun ls hl => ?_)
    refine lv_aload_n hx hb d_B_isPlayerAt_31 rfl (lv_at hl 1 rfl) ?_
    refine lv_iload_n hx hb d_B_isPlayerAt_32 rfl (lv_at hl 2 rfl) ?_
    refine vp_callSi (va_Run.run (va_runV (As := [.int side]) (rest := []) ⟨hx, hb, hml, hown, hT⟩ (c_B_copiesOf l D cA ad t hap σ side (by first | assumption | exact kin (by decide) | ((rcases hs with rfl | rfl <;> exact kin (by decide))) | exact kin7 _)) (kCV 1 hT ml_B_99 mi_B_copiesOf ⟨Nat.le_of_ble_eq_true rfl, Nat.le_of_ble_eq_true rfl⟩) (bpreV hK hP hZ hS) rfl rfl hl.1 rfl (lv_room (Nat.le_of_ble_eq_true rfl)) d_B_isPlayerAt_33 ⟨Nat.le_of_ble_eq_true rfl, Nat.le_of_ble_eq_true rfl⟩)) (fun r9 e9 => ?_)
    subst e9
    refine lv_istore (lv' := [(4, .int (f_B_copiesOf σ side)), (3, .int (σ 1 (side).toNatClampNeg)), (0, .ref (ad 0)), (1, .int side), (2, .int x)]) hx hb d_B_isPlayerAt_36 hl (by decide) rfl (fun ls hl => ?_)
    refine lv_iload hx hb d_B_isPlayerAt_38 (lv_at hl 0 rfl) ?_
    refine lv_aload_n hx hb d_B_isPlayerAt_40 rfl (lv_at hl 2 rfl) ?_
    refine lv_iload_n hx hb d_B_isPlayerAt_41 rfl (lv_at hl 3 rfl) ?_
    refine lv_iload_n hx hb d_B_isPlayerAt_42 rfl (lv_at hl 4 rfl) ?_
    refine vp_callSi (va_Run.run (va_runV (As := [.int side, .int x]) (rest := [.int (f_B_copiesOf σ side)]) ⟨hx, hb, hml, hown, hT⟩ (c_B_behindPlace l D cA ad t hap σ side x (by first | assumption | exact kin (by decide) | ((rcases hs with rfl | rfl <;> exact kin (by decide))) | exact kin7 _)) (kCV 2 hT ml_B_162 mi_B_behindPlace ⟨Nat.le_of_ble_eq_true rfl, Nat.le_of_ble_eq_true rfl⟩) (bpreV hK hP hZ hS) rfl rfl hl.1 rfl (lv_room (Nat.le_of_ble_eq_true rfl)) d_B_isPlayerAt_43 ⟨Nat.le_of_ble_eq_true rfl, Nat.le_of_ble_eq_true rfl⟩)) (fun r9 e9 => ?_)
    subst e9
    refine vp_callSi (va_Run.run (va_runS (As := [.int (f_B_copiesOf σ side), .int (f_B_behindPlace σ side x)]) (rest := []) ⟨hx, hb, hml, hown, hT⟩ (c_B_behindCopy l D cA ad t hap σ (f_B_copiesOf σ side) (f_B_behindPlace σ side x) (by first | assumption | exact kin (by decide) | ((rcases hs with rfl | rfl <;> exact kin (by decide))) | exact kin7 _)) (kCS 2 hT ml_B_165 ms_B_behindCopy ⟨Nat.le_of_ble_eq_true rfl, Nat.le_of_ble_eq_true rfl⟩) (bpreS hK hP hZ hS) rfl rfl hl.1 rfl (lv_room (Nat.le_of_ble_eq_true rfl)) d_B_isPlayerAt_46 ⟨Nat.le_of_ble_eq_true rfl, Nat.le_of_ble_eq_true rfl⟩)) (fun r9 e9 => ?_)
    subst e9
    refine va_gets hx hb (kZ_z1 hZ) hS hown (hT _ fl_B_96) (fun _ h9 => h9) d_B_isPlayerAt_49 ?_
    refine lv_iload hx hb d_B_isPlayerAt_52 (lv_at hl 0 rfl) ?_
    refine va_ti (v := .int (tab1 ((f_B_copiesOf σ side)).toNatClampNeg)) hx hb (kZ_t1 hZ) hS (by first | assumption | exact kin (by decide) | ((rcases hs with rfl | rfl <;> exact kin (by decide))) | exact kin7 _) rfl d_B_isPlayerAt_54 ?_
    refine lv_ishr hx hb d_B_isPlayerAt_55 ?_
    refine lv_istore (lv' := [(5, .int ((f_B_behindCopy (f_B_copiesOf σ side) (f_B_behindPlace σ side x)) >>> ((tab1 ((f_B_copiesOf σ side)).toNatClampNeg) &&& 31))), (4, .int (f_B_copiesOf σ side)), (3, .int (σ 1 (side).toNatClampNeg)), (0, .ref (ad 0)), (1, .int side), (2, .int x)]) hx hb d_B_isPlayerAt_56 hl (by decide) rfl (fun ls hl => ?_)
    refine lv_iload hx hb d_B_isPlayerAt_58 (lv_at hl 0 rfl) ?_
    refine lv_bipush (v := (7 : Int32)) hx hb d_B_isPlayerAt_60 (by decide) ?_
    refine lv_icmp_le (tgt := 67) hx hb d_B_isPlayerAt_62 (by decide) (fun q6 => ?_) (fun q6 => ?_)
    · refine lv_aload_n hx hb d_B_isPlayerAt_67 rfl (lv_at hl 3 rfl) ?_
      refine lv_bipush (v := (15 : Int32)) hx hb d_B_isPlayerAt_68 (by decide) ?_
      refine lv_iload_n hx hb d_B_isPlayerAt_70 rfl (lv_at hl 4 rfl) ?_
      refine lv_iadd hx hb d_B_isPlayerAt_71 ?_
      refine lv_bipush (v := (8 : Int32)) hx hb d_B_isPlayerAt_72 (by decide) ?_
      refine vp_callSi (va_Run.run (va_runV (As := [.int ((15 : Int32) + side), .int (8 : Int32)]) (rest := []) ⟨hx, hb, hml, hown, hT⟩ (c_B_hasBit l D cA ad t hap σ ((15 : Int32) + side) (8 : Int32) (by first | assumption | exact kin (by decide) | ((rcases hs with rfl | rfl <;> exact kin (by decide))) | exact kin7 _)) (kCV 2 hT ml_B_90 mi_B_hasBit ⟨Nat.le_of_ble_eq_true rfl, Nat.le_of_ble_eq_true rfl⟩) (bpreV hK hP hZ hS) rfl rfl hl.1 rfl (lv_room (Nat.le_of_ble_eq_true rfl)) d_B_isPlayerAt_74 ⟨Nat.le_of_ble_eq_true rfl, Nat.le_of_ble_eq_true rfl⟩)) (fun r9 e9 => ?_)
      subst e9
      refine lv_if_eq (tgt := 85) hx hb d_B_isPlayerAt_77 (by decide) (fun q7 => ?_) (fun q7 => ?_)
      · refine lv_bipush (v := (7 : Int32)) hx hb d_B_isPlayerAt_85 (by decide) ?_
        refine lv_iload hx hb d_B_isPlayerAt_87 (lv_at hl 0 rfl) ?_
        refine lv_isub hx hb d_B_isPlayerAt_89 ?_
        refine lv_istore (lv' := [(6, .int ((7 : Int32) - ((f_B_behindCopy (f_B_copiesOf σ side) (f_B_behindPlace σ side x)) >>> ((tab1 ((f_B_copiesOf σ side)).toNatClampNeg) &&& 31)))), (5, .int ((f_B_behindCopy (f_B_copiesOf σ side) (f_B_behindPlace σ side x)) >>> ((tab1 ((f_B_copiesOf σ side)).toNatClampNeg) &&& 31))), (4, .int (f_B_copiesOf σ side)), (3, .int (σ 1 (side).toNatClampNeg)), (0, .ref (ad 0)), (1, .int side), (2, .int x)]) hx hb d_B_isPlayerAt_90 hl (by decide) rfl (fun ls hl => ?_)
        refine lv_iload_n hx hb d_B_isPlayerAt_92 rfl (lv_at hl 3 rfl) ?_
        refine lv_iload hx hb d_B_isPlayerAt_93 (lv_at hl 0 rfl) ?_
        refine lv_ishr hx hb d_B_isPlayerAt_95 ?_
        refine lv_iconst (v := (1 : Int32)) hx hb d_B_isPlayerAt_96 (by decide) ?_
        refine lv_iand hx hb d_B_isPlayerAt_97 ?_
        refine lv_if_eq (tgt := 105) hx hb d_B_isPlayerAt_98 (by decide) (fun q8 => ?_) (fun q8 => ?_)
        · refine lv_iconst (v := (0 : Int32)) hx hb d_B_isPlayerAt_105 (by decide) ?_
          have e9 : (0 : Int32) = f_B_isPlayerAt σ side x := by rw [f_B_isPlayerAt, if_neg q1, if_pos q6, if_pos q7, if_pos q8]
          exact W.zret (v := (0 : Int32)) hx hb hr (by decide) (fun t ht hW => ⟨_, rfl, e9, ht⟩) (fun _ h => absurd h List.not_mem_nil) d_B_isPlayerAt_106
        · refine lv_iconst (v := (1 : Int32)) hx hb d_B_isPlayerAt_101 (by decide) ?_
          refine lv_goto (tgt := 106) hx hb d_B_isPlayerAt_102 (by decide) ?_
          have e9 : (1 : Int32) = f_B_isPlayerAt σ side x := by rw [f_B_isPlayerAt, if_neg q1, if_pos q6, if_pos q7, if_neg q8]
          exact W.zret (v := (1 : Int32)) hx hb hr (by decide) (fun t ht hW => ⟨_, rfl, e9, ht⟩) (fun _ h => absurd h List.not_mem_nil) d_B_isPlayerAt_106
      · refine lv_iload hx hb d_B_isPlayerAt_80 (lv_at hl 0 rfl) ?_
        refine lv_goto (tgt := 90) hx hb d_B_isPlayerAt_82 (by decide) ?_
        refine lv_istore (lv' := [(6, .int ((f_B_behindCopy (f_B_copiesOf σ side) (f_B_behindPlace σ side x)) >>> ((tab1 ((f_B_copiesOf σ side)).toNatClampNeg) &&& 31))), (5, .int ((f_B_behindCopy (f_B_copiesOf σ side) (f_B_behindPlace σ side x)) >>> ((tab1 ((f_B_copiesOf σ side)).toNatClampNeg) &&& 31))), (4, .int (f_B_copiesOf σ side)), (3, .int (σ 1 (side).toNatClampNeg)), (0, .ref (ad 0)), (1, .int side), (2, .int x)]) hx hb d_B_isPlayerAt_90 hl (by decide) rfl (fun ls hl => ?_)
        refine lv_iload_n hx hb d_B_isPlayerAt_92 rfl (lv_at hl 3 rfl) ?_
        refine lv_iload hx hb d_B_isPlayerAt_93 (lv_at hl 0 rfl) ?_
        refine lv_ishr hx hb d_B_isPlayerAt_95 ?_
        refine lv_iconst (v := (1 : Int32)) hx hb d_B_isPlayerAt_96 (by decide) ?_
        refine lv_iand hx hb d_B_isPlayerAt_97 ?_
        refine lv_if_eq (tgt := 105) hx hb d_B_isPlayerAt_98 (by decide) (fun q9 => ?_) (fun q9 => ?_)
        · refine lv_iconst (v := (0 : Int32)) hx hb d_B_isPlayerAt_105 (by decide) ?_
          have e9 : (0 : Int32) = f_B_isPlayerAt σ side x := by rw [f_B_isPlayerAt, if_neg q1, if_pos q6, if_neg q7, if_pos q9]
          exact W.zret (v := (0 : Int32)) hx hb hr (by decide) (fun t ht hW => ⟨_, rfl, e9, ht⟩) (fun _ h => absurd h List.not_mem_nil) d_B_isPlayerAt_106
        · refine lv_iconst (v := (1 : Int32)) hx hb d_B_isPlayerAt_101 (by decide) ?_
          refine lv_goto (tgt := 106) hx hb d_B_isPlayerAt_102 (by decide) ?_
          have e9 : (1 : Int32) = f_B_isPlayerAt σ side x := by rw [f_B_isPlayerAt, if_neg q1, if_pos q6, if_neg q7, if_neg q9]
          exact W.zret (v := (1 : Int32)) hx hb hr (by decide) (fun t ht hW => ⟨_, rfl, e9, ht⟩) (fun _ h => absurd h List.not_mem_nil) d_B_isPlayerAt_106
    · refine lv_iconst (v := (0 : Int32)) hx hb d_B_isPlayerAt_65 (by decide) ?_
      have e9 : (0 : Int32) = f_B_isPlayerAt σ side x := by rw [f_B_isPlayerAt, if_neg q1, if_neg q6]
      exact W.zret (v := (0 : Int32)) hx hb hr (by decide) (fun t ht hW => ⟨_, rfl, e9, ht⟩) (fun _ h => absurd h List.not_mem_nil) d_B_isPlayerAt_66

def f_B_isAt (σ : Nat → Nat → Int32) (o : Int32) (x : Int32) : Int32 := (if (2 : Int32) ≤ o then (if (4 : Int32) ≤ o then (if (5 : Int32) ≤ o then (f_B_isFieldAt σ x) else (f_B_isBallAt σ x)) else (f_B_isMissileAt σ (o - (2 : Int32)) x)) else (f_B_isPlayerAt σ o x))

theorem z_B_isAt (σ : Nat → Nat → Int32) (o : Int32) (x : Int32) : f_B_isAt σ o x = 0 ∨ f_B_isAt σ o x = 1 := by
  rw [f_B_isAt]
  repeat' split
  all_goals first | with_reducible exact Or.inl rfl | with_reducible exact Or.inr rfl | with_reducible exact z_B_isBallAt .. | with_reducible exact z_B_isFieldAt .. | with_reducible exact z_B_isMissileAt .. | with_reducible exact z_B_isPlayerAt ..

set_option maxRecDepth 100000 in
set_option maxHeartbeats 4000000 in
theorem c_B_isAt (l : Launch) (D : va_G) (cA ad t : Nat → Nat) (hap : kap 7 ad) (σ : Nat → Nat → Int32) (o : Int32) (x : Int32) (h1 : vp_in o 6) : Met l y_B_isAt w_B_isAt ({ frames := 3, cells := 0, slots := 0, locals := 70 } : Room) (va_Pc [.ref (ad 0), .int o, .int x] (bPre D cA ad t σ)) (vp_Si (fun v => v = f_B_isAt σ o x)) 0 0 (fun _ => False) := by
  refine Met.ofW (cc := b_B_isAt) (maxL := 3) (ret := (some .boolean)) (by decide) rfl ?_
  intro p e s m args below meth c s₁ B hml hv
  obtain ⟨rfl, hv⟩ := hv
  obtain ⟨hP, hK, hZ⟩ := hv
  have hx := B.exec
  have hb := B.bytes
  have hr := B.returns
  have hlocks := B.notSynchronized
  have hT : ∀ w ∈ TB, w.before ([.ref (ad 0), .int o, .int x] : List Value).toArray s = true := fun w h => atoms_spec (ws := w_B_isAt) B.pre w (List.mem_cons_of_mem _ h)
  have hown : s.vm.findClass R_B = some m.cls := findClass_of_methodNamed B.named
  have hS : va_S (kA 7 ad) s.heap s.heap [] := va_S.rf
  have hl := lv_entry ([.ref (ad 0), .int o, .int x]) (n := 3) (Nat.le_of_ble_eq_true rfl)
  rw [lg_entry_eq]
  generalize (lg_sl ([.ref (ad 0), .int o, .int x]) ++ List.replicate (3 - (lg_sl ([.ref (ad 0), .int o, .int x])).length) Slot.unset).toArray = ls at hl ⊢
  have hl : lv_has ls 3 [(0, .ref (ad 0)), (1, .int o), (2, .int x)] := hl
  refine lv_iload_n hx hb d_B_isAt_0 rfl (lv_at hl 1 rfl) ?_
  refine lv_iconst (v := (2 : Int32)) hx hb d_B_isAt_1 (by decide) ?_
  refine lv_icmp_ge (tgt := 12) hx hb d_B_isAt_2 (by decide) (fun q1 => ?_) (fun q1 => ?_)
  · refine lv_iload_n hx hb d_B_isAt_12 rfl (lv_at hl 1 rfl) ?_
    refine lv_iconst (v := (4 : Int32)) hx hb d_B_isAt_13 (by decide) ?_
    refine lv_icmp_ge (tgt := 26) hx hb d_B_isAt_14 (by decide) (fun q2 => ?_) (fun q2 => ?_)
    · refine lv_iload_n hx hb d_B_isAt_26 rfl (lv_at hl 1 rfl) ?_
      refine lv_iconst (v := (5 : Int32)) hx hb d_B_isAt_27 (by decide) ?_
      refine lv_icmp_ge (tgt := 39) hx hb d_B_isAt_28 (by decide) (fun q3 => ?_) (fun q3 => ?_)
      · refine lv_aload_n hx hb d_B_isAt_39 rfl (lv_at hl 0 rfl) ?_
        refine lv_iload_n hx hb d_B_isAt_40 rfl (lv_at hl 2 rfl) ?_
        refine vp_callSi (va_Run.run (va_runV (As := [.int x]) (rest := []) ⟨hx, hb, hml, hown, hT⟩ (c_B_isFieldAt l D cA ad t hap σ x) (kCV 1 hT ml_B_159 mi_B_isFieldAt ⟨Nat.le_of_ble_eq_true rfl, Nat.le_of_ble_eq_true rfl⟩) (bpreV hK hP hZ hS) rfl rfl hl.1 rfl (lv_room (Nat.le_of_ble_eq_true rfl)) d_B_isAt_41 ⟨Nat.le_of_ble_eq_true rfl, Nat.le_of_ble_eq_true rfl⟩)) (fun r9 e9 => ?_)
        subst e9
        have e9 : (f_B_isFieldAt σ x) = f_B_isAt σ o x := by rw [f_B_isAt, if_pos q1, if_pos q2, if_pos q3]
        exact W.zret (v := (f_B_isFieldAt σ x)) hx hb hr (kz_nar (z_B_isFieldAt ..)) (fun t ht hW => ⟨_, rfl, e9, ht⟩) (fun _ h => absurd h List.not_mem_nil) d_B_isAt_44
      · refine lv_aload_n hx hb d_B_isAt_31 rfl (lv_at hl 0 rfl) ?_
        refine lv_iload_n hx hb d_B_isAt_32 rfl (lv_at hl 2 rfl) ?_
        refine vp_callSi (va_Run.run (va_runV (As := [.int x]) (rest := []) ⟨hx, hb, hml, hown, hT⟩ (c_B_isBallAt l D cA ad t hap σ x) (kCV 1 hT ml_B_156 mi_B_isBallAt ⟨Nat.le_of_ble_eq_true rfl, Nat.le_of_ble_eq_true rfl⟩) (bpreV hK hP hZ hS) rfl rfl hl.1 rfl (lv_room (Nat.le_of_ble_eq_true rfl)) d_B_isAt_33 ⟨Nat.le_of_ble_eq_true rfl, Nat.le_of_ble_eq_true rfl⟩)) (fun r9 e9 => ?_)
        subst e9
        refine lv_goto (tgt := 44) hx hb d_B_isAt_36 (by decide) ?_
        have e9 : (f_B_isBallAt σ x) = f_B_isAt σ o x := by rw [f_B_isAt, if_pos q1, if_pos q2, if_neg q3]
        exact W.zret (v := (f_B_isBallAt σ x)) hx hb hr (kz_nar (z_B_isBallAt ..)) (fun t ht hW => ⟨_, rfl, e9, ht⟩) (fun _ h => absurd h List.not_mem_nil) d_B_isAt_44
    · refine lv_aload_n hx hb d_B_isAt_17 rfl (lv_at hl 0 rfl) ?_
      refine lv_iload_n hx hb d_B_isAt_18 rfl (lv_at hl 1 rfl) ?_
      refine lv_iconst (v := (2 : Int32)) hx hb d_B_isAt_19 (by decide) ?_
      refine lv_isub hx hb d_B_isAt_20 ?_
      refine lv_iload_n hx hb d_B_isAt_21 rfl (lv_at hl 2 rfl) ?_
      refine vp_callSi (va_Run.run (va_runV (As := [.int (o - (2 : Int32)), .int x]) (rest := []) ⟨hx, hb, hml, hown, hT⟩ (c_B_isMissileAt l D cA ad t hap σ (o - (2 : Int32)) x (by first | assumption | exact kin (by decide) | exact kside2 h1 (by assumption) | exact kside4 h1 (by assumption) (by assumption))) (kCV 2 hT ml_B_153 mi_B_isMissileAt ⟨Nat.le_of_ble_eq_true rfl, Nat.le_of_ble_eq_true rfl⟩) (bpreV hK hP hZ hS) rfl rfl hl.1 rfl (lv_room (Nat.le_of_ble_eq_true rfl)) d_B_isAt_22 ⟨Nat.le_of_ble_eq_true rfl, Nat.le_of_ble_eq_true rfl⟩)) (fun r9 e9 => ?_)
      subst e9
      have e9 : (f_B_isMissileAt σ (o - (2 : Int32)) x) = f_B_isAt σ o x := by rw [f_B_isAt, if_pos q1, if_neg q2]
      exact W.zret (v := (f_B_isMissileAt σ (o - (2 : Int32)) x)) hx hb hr (kz_nar (z_B_isMissileAt ..)) (fun t ht hW => ⟨_, rfl, e9, ht⟩) (fun _ h => absurd h List.not_mem_nil) d_B_isAt_25
  · refine lv_aload_n hx hb d_B_isAt_5 rfl (lv_at hl 0 rfl) ?_
    refine lv_iload_n hx hb d_B_isAt_6 rfl (lv_at hl 1 rfl) ?_
    refine lv_iload_n hx hb d_B_isAt_7 rfl (lv_at hl 2 rfl) ?_
    refine vp_callSi (va_Run.run (va_runV (As := [.int o, .int x]) (rest := []) ⟨hx, hb, hml, hown, hT⟩ (c_B_isPlayerAt l D cA ad t hap σ o x (by first | assumption | exact kin (by decide) | exact kside2 h1 (by assumption) | exact kside4 h1 (by assumption) (by assumption))) (kCV 2 hT ml_B_150 mi_B_isPlayerAt ⟨Nat.le_of_ble_eq_true rfl, Nat.le_of_ble_eq_true rfl⟩) (bpreV hK hP hZ hS) rfl rfl hl.1 rfl (lv_room (Nat.le_of_ble_eq_true rfl)) d_B_isAt_8 ⟨Nat.le_of_ble_eq_true rfl, Nat.le_of_ble_eq_true rfl⟩)) (fun r9 e9 => ?_)
    subst e9
    have e9 : (f_B_isPlayerAt σ o x) = f_B_isAt σ o x := by rw [f_B_isAt, if_neg q1]
    exact W.zret (v := (f_B_isPlayerAt σ o x)) hx hb hr (kz_nar (z_B_isPlayerAt ..)) (fun t ht hW => ⟨_, rfl, e9, ht⟩) (fun _ h => absurd h List.not_mem_nil) d_B_isAt_11
end
section
def f_B_fieldColour (σ : Nat → Nat → Int32) (x : Int32) (he : Int32) : Int32 := (if (he &&& (32 : Int32)) = 0 then (σ 0 ((1 : Int32)).toNatClampNeg) else (if (f_B_hasBit σ (8 : Int32) (2 : Int32)) = 0 then (σ 0 ((1 : Int32)).toNatClampNeg) else (if (80 : Int32) ≤ x then (σ 0 ((3 : Int32)).toNatClampNeg) else (σ 0 ((2 : Int32)).toNatClampNeg))))

set_option maxRecDepth 100000 in
set_option maxHeartbeats 4000000 in
theorem c_B_fieldColour (l : Launch) (D : va_G) (cA ad t : Nat → Nat) (hap : kap 7 ad) (σ : Nat → Nat → Int32) (x : Int32) (he : Int32) : Met l y_B_fieldColour w_B_fieldColour ({ frames := 1, cells := 0, slots := 0, locals := 22 } : Room) (va_Pc [.ref (ad 0), .int x, .int he] (bPre D cA ad t σ)) (vp_Si (fun v => v = f_B_fieldColour σ x he)) 0 0 (fun _ => False) := by
  refine Met.ofW (cc := b_B_fieldColour) (maxL := 3) (ret := (some .int)) (by decide) rfl ?_
  intro p e s m args below meth c s₁ B hml hv
  obtain ⟨rfl, hv⟩ := hv
  obtain ⟨hP, hK, hZ⟩ := hv
  have hx := B.exec
  have hb := B.bytes
  have hr := B.returns
  have hlocks := B.notSynchronized
  have hT : ∀ w ∈ TB, w.before ([.ref (ad 0), .int x, .int he] : List Value).toArray s = true := fun w h => atoms_spec (ws := w_B_fieldColour) B.pre w (List.mem_cons_of_mem _ h)
  have hown : s.vm.findClass R_B = some m.cls := findClass_of_methodNamed B.named
  have hS : va_S (kA 7 ad) s.heap s.heap [] := va_S.rf
  have hl := lv_entry ([.ref (ad 0), .int x, .int he]) (n := 3) (Nat.le_of_ble_eq_true rfl)
  rw [lg_entry_eq]
  generalize (lg_sl ([.ref (ad 0), .int x, .int he]) ++ List.replicate (3 - (lg_sl ([.ref (ad 0), .int x, .int he])).length) Slot.unset).toArray = ls at hl ⊢
  have hl : lv_has ls 3 [(0, .ref (ad 0)), (1, .int x), (2, .int he)] := hl
  refine lv_iload_n hx hb d_B_fieldColour_0 rfl (lv_at hl 2 rfl) ?_
  refine lv_bipush (v := (32 : Int32)) hx hb d_B_fieldColour_1 (by decide) ?_
  refine lv_iand hx hb d_B_fieldColour_3 ?_
  refine lv_if_eq (tgt := 17) hx hb d_B_fieldColour_4 (by decide) (fun q1 => ?_) (fun q1 => ?_)
  · refine lv_aload_n hx hb d_B_fieldColour_17 rfl (lv_at hl 0 rfl) ?_
    refine va_get (D := D) (ci := 0) (v := .ref (ad 1)) (C := R_B) (T := F_B) (N := 10) hx hb hT in_B hown hK hP 0 rfl rfl 0 (by decide) (hT _ fl_B_9) (fun _ h9 => h9) rfl d_B_fieldColour_18 ?_
    refine lv_iconst (v := (1 : Int32)) hx hb d_B_fieldColour_21 (by decide) ?_
    refine va_iald hx hb hK hP 1 0 rfl rfl (by first | assumption | exact kin (by decide)) d_B_fieldColour_22 ?_
    have e9 : (σ 0 ((1 : Int32)).toNatClampNeg) = f_B_fieldColour σ x he := by rw [f_B_fieldColour, if_pos q1]
    exact W.iret (v := (σ 0 ((1 : Int32)).toNatClampNeg)) hx hb hr (fun t ht hW => ⟨_, rfl, e9, ht⟩) (fun _ h => absurd h List.not_mem_nil) d_B_fieldColour_23
  · refine lv_aload_n hx hb d_B_fieldColour_7 rfl (lv_at hl 0 rfl) ?_
    refine lv_bipush (v := (8 : Int32)) hx hb d_B_fieldColour_8 (by decide) ?_
    refine lv_iconst (v := (2 : Int32)) hx hb d_B_fieldColour_10 (by decide) ?_
    refine vp_callSi (va_Run.run (va_runV (As := [.int (8 : Int32), .int (2 : Int32)]) (rest := []) ⟨hx, hb, hml, hown, hT⟩ (c_B_hasBit l D cA ad t hap σ (8 : Int32) (2 : Int32) (by first | assumption | exact kin (by decide))) (kCV 2 hT ml_B_90 mi_B_hasBit ⟨Nat.le_of_ble_eq_true rfl, Nat.le_of_ble_eq_true rfl⟩) (bpreV hK hP hZ hS) rfl rfl hl.1 rfl (lv_room (Nat.le_of_ble_eq_true rfl)) d_B_fieldColour_11 ⟨Nat.le_of_ble_eq_true rfl, Nat.le_of_ble_eq_true rfl⟩)) (fun r9 e9 => ?_)
    subst e9
    refine lv_if_ne (tgt := 24) hx hb d_B_fieldColour_14 (by decide) (fun q2 => ?_) (fun q2 => ?_)
    · refine lv_aload_n hx hb d_B_fieldColour_24 rfl (lv_at hl 0 rfl) ?_
      refine va_get (D := D) (ci := 0) (v := .ref (ad 1)) (C := R_B) (T := F_B) (N := 10) hx hb hT in_B hown hK hP 0 rfl rfl 0 (by decide) (hT _ fl_B_9) (fun _ h9 => h9) rfl d_B_fieldColour_25 ?_
      refine lv_iload_n hx hb d_B_fieldColour_28 rfl (lv_at hl 1 rfl) ?_
      refine lv_bipush (v := (80 : Int32)) hx hb d_B_fieldColour_29 (by decide) ?_
      refine lv_icmp_ge (tgt := 38) hx hb d_B_fieldColour_31 (by decide) (fun q3 => ?_) (fun q3 => ?_)
      · refine lv_iconst (v := (3 : Int32)) hx hb d_B_fieldColour_38 (by decide) ?_
        refine va_iald hx hb hK hP 1 0 rfl rfl (by first | assumption | exact kin (by decide)) d_B_fieldColour_39 ?_
        have e9 : (σ 0 ((3 : Int32)).toNatClampNeg) = f_B_fieldColour σ x he := by rw [f_B_fieldColour, if_neg q1, if_neg q2, if_pos q3]
        exact W.iret (v := (σ 0 ((3 : Int32)).toNatClampNeg)) hx hb hr (fun t ht hW => ⟨_, rfl, e9, ht⟩) (fun _ h => absurd h List.not_mem_nil) d_B_fieldColour_40
      · refine lv_iconst (v := (2 : Int32)) hx hb d_B_fieldColour_34 (by decide) ?_
        refine lv_goto (tgt := 39) hx hb d_B_fieldColour_35 (by decide) ?_
        refine va_iald hx hb hK hP 1 0 rfl rfl (by first | assumption | exact kin (by decide)) d_B_fieldColour_39 ?_
        have e9 : (σ 0 ((2 : Int32)).toNatClampNeg) = f_B_fieldColour σ x he := by rw [f_B_fieldColour, if_neg q1, if_neg q2, if_neg q3]
        exact W.iret (v := (σ 0 ((2 : Int32)).toNatClampNeg)) hx hb hr (fun t ht hW => ⟨_, rfl, e9, ht⟩) (fun _ h => absurd h List.not_mem_nil) d_B_fieldColour_40
    · refine lv_aload_n hx hb d_B_fieldColour_17 rfl (lv_at hl 0 rfl) ?_
      refine va_get (D := D) (ci := 0) (v := .ref (ad 1)) (C := R_B) (T := F_B) (N := 10) hx hb hT in_B hown hK hP 0 rfl rfl 0 (by decide) (hT _ fl_B_9) (fun _ h9 => h9) rfl d_B_fieldColour_18 ?_
      refine lv_iconst (v := (1 : Int32)) hx hb d_B_fieldColour_21 (by decide) ?_
      refine va_iald hx hb hK hP 1 0 rfl rfl (by first | assumption | exact kin (by decide)) d_B_fieldColour_22 ?_
      have e9 : (σ 0 ((1 : Int32)).toNatClampNeg) = f_B_fieldColour σ x he := by rw [f_B_fieldColour, if_neg q1, if_pos q2]
      exact W.iret (v := (σ 0 ((1 : Int32)).toNatClampNeg)) hx hb hr (fun t ht hW => ⟨_, rfl, e9, ht⟩) (fun _ h => absurd h List.not_mem_nil) d_B_fieldColour_23

def f_B_colourAt (σ : Nat → Nat → Int32) (x : Int32) (he : Int32) : Int32 := (if (f_B_hasBit σ (4 : Int32) (1 : Int32)) = 0 then (if (he &&& (48 : Int32)) = 0 then (if (he &&& (5 : Int32)) = 0 then (if (he &&& (10 : Int32)) = 0 then (σ 0 ((0 : Int32)).toNatClampNeg) else (σ 0 ((3 : Int32)).toNatClampNeg)) else (σ 0 ((2 : Int32)).toNatClampNeg)) else (if (f_B_hasBit σ (8 : Int32) (4 : Int32)) = 0 then (if (he &&& (5 : Int32)) = 0 then (if (he &&& (10 : Int32)) = 0 then (f_B_fieldColour σ x he) else (σ 0 ((3 : Int32)).toNatClampNeg)) else (σ 0 ((2 : Int32)).toNatClampNeg)) else (f_B_fieldColour σ x he))) else (0 : Int32))

set_option maxRecDepth 100000 in
set_option maxHeartbeats 4000000 in
theorem c_B_colourAt (l : Launch) (D : va_G) (cA ad t : Nat → Nat) (hap : kap 7 ad) (σ : Nat → Nat → Int32) (x : Int32) (he : Int32) : Met l y_B_colourAt w_B_colourAt ({ frames := 2, cells := 0, slots := 0, locals := 44 } : Room) (va_Pc [.ref (ad 0), .int x, .int he] (bPre D cA ad t σ)) (vp_Si (fun v => v = f_B_colourAt σ x he)) 0 0 (fun _ => False) := by
  refine Met.ofW (cc := b_B_colourAt) (maxL := 4) (ret := (some .int)) (by decide) rfl ?_
  intro p e s m args below meth c s₁ B hml hv
  obtain ⟨rfl, hv⟩ := hv
  obtain ⟨hP, hK, hZ⟩ := hv
  have hx := B.exec
  have hb := B.bytes
  have hr := B.returns
  have hlocks := B.notSynchronized
  have hT : ∀ w ∈ TB, w.before ([.ref (ad 0), .int x, .int he] : List Value).toArray s = true := fun w h => atoms_spec (ws := w_B_colourAt) B.pre w (List.mem_cons_of_mem _ h)
  have hown : s.vm.findClass R_B = some m.cls := findClass_of_methodNamed B.named
  have hS : va_S (kA 7 ad) s.heap s.heap [] := va_S.rf
  have hl := lv_entry ([.ref (ad 0), .int x, .int he]) (n := 4) (Nat.le_of_ble_eq_true rfl)
  rw [lg_entry_eq]
  generalize (lg_sl ([.ref (ad 0), .int x, .int he]) ++ List.replicate (4 - (lg_sl ([.ref (ad 0), .int x, .int he])).length) Slot.unset).toArray = ls at hl ⊢
  have hl : lv_has ls 4 [(0, .ref (ad 0)), (1, .int x), (2, .int he)] := hl
  refine lv_aload_n hx hb d_B_colourAt_0 rfl (lv_at hl 0 rfl) ?_
  refine lv_iconst (v := (4 : Int32)) hx hb d_B_colourAt_1 (by decide) ?_
  refine lv_iconst (v := (1 : Int32)) hx hb d_B_colourAt_2 (by decide) ?_
  refine vp_callSi (va_Run.run (va_runV (As := [.int (4 : Int32), .int (1 : Int32)]) (rest := []) ⟨hx, hb, hml, hown, hT⟩ (c_B_hasBit l D cA ad t hap σ (4 : Int32) (1 : Int32) (by first | assumption | exact kin (by decide))) (kCV 2 hT ml_B_90 mi_B_hasBit ⟨Nat.le_of_ble_eq_true rfl, Nat.le_of_ble_eq_true rfl⟩) (bpreV hK hP hZ hS) rfl rfl hl.1 rfl (lv_room (Nat.le_of_ble_eq_true rfl)) d_B_colourAt_3 ⟨Nat.le_of_ble_eq_true rfl, Nat.le_of_ble_eq_true rfl⟩)) (fun r9 e9 => ?_)
  subst e9
  refine lv_if_eq (tgt := 11) hx hb d_B_colourAt_6 (by decide) (fun q1 => ?_) (fun q1 => ?_)
  · refine lv_iload_n hx hb d_B_colourAt_11 rfl (lv_at hl 2 rfl) ?_
    refine lv_bipush (v := (48 : Int32)) hx hb d_B_colourAt_12 (by decide) ?_
    refine lv_iand hx hb d_B_colourAt_14 ?_
    refine lv_if_eq (tgt := 22) hx hb d_B_colourAt_15 (by decide) (fun q2 => ?_) (fun q2 => ?_)
    · refine lv_iconst (v := (0 : Int32)) hx hb d_B_colourAt_22 (by decide) ?_
      refine lv_istore_n (lv' := [(3, .int (0 : Int32)), (0, .ref (ad 0)), (1, .int x), (2, .int he)]) hx hb d_B_colourAt_23 rfl hl (by decide) rfl (fun ls hl => ?_)
      refine lv_iload_n hx hb d_B_colourAt_24 rfl (lv_at hl 0 rfl) ?_
      refine lv_if_eq (tgt := 45) hx hb d_B_colourAt_25 (by decide) (fun _ => ?_) (fun h9 => absurd (by decide) h9)
      refine lv_iload_n hx hb d_B_colourAt_45 rfl (lv_at hl 3 rfl) ?_
      refine lv_iconst (v := (5 : Int32)) hx hb d_B_colourAt_46 (by decide) ?_
      refine lv_iand hx hb d_B_colourAt_47 ?_
      refine lv_if_eq (tgt := 58) hx hb d_B_colourAt_48 (by decide) (fun q3 => ?_) (fun q3 => ?_)
      · refine lv_iload_n hx hb d_B_colourAt_58 rfl (lv_at hl 3 rfl) ?_
        refine lv_bipush (v := (10 : Int32)) hx hb d_B_colourAt_59 (by decide) ?_
        refine lv_iand hx hb d_B_colourAt_61 ?_
        refine lv_if_eq (tgt := 72) hx hb d_B_colourAt_62 (by decide) (fun q4 => ?_) (fun q4 => ?_)
        · refine lv_iload_n hx hb d_B_colourAt_72 rfl (lv_at hl 0 rfl) ?_
          refine lv_if_eq (tgt := 85) hx hb d_B_colourAt_73 (by decide) (fun _ => ?_) (fun h9 => absurd (by decide) h9)
          refine lv_aload_n hx hb d_B_colourAt_85 rfl (lv_at hl 1 rfl) ?_
          refine va_get (D := D) (ci := 0) (v := .ref (ad 1)) (C := R_B) (T := F_B) (N := 10) hx hb hT in_B hown hK hP 0 rfl rfl 0 (by decide) (hT _ fl_B_9) (fun _ h9 => h9) rfl d_B_colourAt_86 ?_
          refine lv_iconst (v := (0 : Int32)) hx hb d_B_colourAt_89 (by decide) ?_
          refine va_iald hx hb hK hP 1 0 rfl rfl (by first | assumption | exact kin (by decide)) d_B_colourAt_90 ?_
          have e9 : (σ 0 ((0 : Int32)).toNatClampNeg) = f_B_colourAt σ x he := by rw [f_B_colourAt, if_pos q1, if_pos q2, if_pos q3, if_pos q4]
          exact W.iret (v := (σ 0 ((0 : Int32)).toNatClampNeg)) hx hb hr (fun t ht hW => ⟨_, rfl, e9, ht⟩) (fun _ h => absurd h List.not_mem_nil) d_B_colourAt_91
        · refine lv_aload_n hx hb d_B_colourAt_65 rfl (lv_at hl 1 rfl) ?_
          refine va_get (D := D) (ci := 0) (v := .ref (ad 1)) (C := R_B) (T := F_B) (N := 10) hx hb hT in_B hown hK hP 0 rfl rfl 0 (by decide) (hT _ fl_B_9) (fun _ h9 => h9) rfl d_B_colourAt_66 ?_
          refine lv_iconst (v := (3 : Int32)) hx hb d_B_colourAt_69 (by decide) ?_
          refine va_iald hx hb hK hP 1 0 rfl rfl (by first | assumption | exact kin (by decide)) d_B_colourAt_70 ?_
          have e9 : (σ 0 ((3 : Int32)).toNatClampNeg) = f_B_colourAt σ x he := by rw [f_B_colourAt, if_pos q1, if_pos q2, if_pos q3, if_neg q4]
          exact W.iret (v := (σ 0 ((3 : Int32)).toNatClampNeg)) hx hb hr (fun t ht hW => ⟨_, rfl, e9, ht⟩) (fun _ h => absurd h List.not_mem_nil) d_B_colourAt_71
      · refine lv_aload_n hx hb d_B_colourAt_51 rfl (lv_at hl 1 rfl) ?_
        refine va_get (D := D) (ci := 0) (v := .ref (ad 1)) (C := R_B) (T := F_B) (N := 10) hx hb hT in_B hown hK hP 0 rfl rfl 0 (by decide) (hT _ fl_B_9) (fun _ h9 => h9) rfl d_B_colourAt_52 ?_
        refine lv_iconst (v := (2 : Int32)) hx hb d_B_colourAt_55 (by decide) ?_
        refine va_iald hx hb hK hP 1 0 rfl rfl (by first | assumption | exact kin (by decide)) d_B_colourAt_56 ?_
        have e9 : (σ 0 ((2 : Int32)).toNatClampNeg) = f_B_colourAt σ x he := by rw [f_B_colourAt, if_pos q1, if_pos q2, if_neg q3]
        exact W.iret (v := (σ 0 ((2 : Int32)).toNatClampNeg)) hx hb hr (fun t ht hW => ⟨_, rfl, e9, ht⟩) (fun _ h => absurd h List.not_mem_nil) d_B_colourAt_57
    · refine lv_iconst (v := (1 : Int32)) hx hb d_B_colourAt_18 (by decide) ?_
      refine lv_goto (tgt := 23) hx hb d_B_colourAt_19 (by decide) ?_
      refine lv_istore_n (lv' := [(3, .int (1 : Int32)), (0, .ref (ad 0)), (1, .int x), (2, .int he)]) hx hb d_B_colourAt_23 rfl hl (by decide) rfl (fun ls hl => ?_)
      refine lv_iload_n hx hb d_B_colourAt_24 rfl (lv_at hl 0 rfl) ?_
      refine lv_if_eq (tgt := 45) hx hb d_B_colourAt_25 (by decide) (fun h9 => absurd h9 (by decide)) (fun _ => ?_)
      refine lv_aload_n hx hb d_B_colourAt_28 rfl (lv_at hl 1 rfl) ?_
      refine lv_bipush (v := (8 : Int32)) hx hb d_B_colourAt_29 (by decide) ?_
      refine lv_iconst (v := (4 : Int32)) hx hb d_B_colourAt_31 (by decide) ?_
      refine vp_callSi (va_Run.run (va_runV (As := [.int (8 : Int32), .int (4 : Int32)]) (rest := []) ⟨hx, hb, hml, hown, hT⟩ (c_B_hasBit l D cA ad t hap σ (8 : Int32) (4 : Int32) (by first | assumption | exact kin (by decide))) (kCV 2 hT ml_B_90 mi_B_hasBit ⟨Nat.le_of_ble_eq_true rfl, Nat.le_of_ble_eq_true rfl⟩) (bpreV hK hP hZ hS) rfl rfl hl.1 rfl (lv_room (Nat.le_of_ble_eq_true rfl)) d_B_colourAt_32 ⟨Nat.le_of_ble_eq_true rfl, Nat.le_of_ble_eq_true rfl⟩)) (fun r9 e9 => ?_)
      subst e9
      refine lv_if_eq (tgt := 45) hx hb d_B_colourAt_35 (by decide) (fun q5 => ?_) (fun q5 => ?_)
      · refine lv_iload_n hx hb d_B_colourAt_45 rfl (lv_at hl 3 rfl) ?_
        refine lv_iconst (v := (5 : Int32)) hx hb d_B_colourAt_46 (by decide) ?_
        refine lv_iand hx hb d_B_colourAt_47 ?_
        refine lv_if_eq (tgt := 58) hx hb d_B_colourAt_48 (by decide) (fun q6 => ?_) (fun q6 => ?_)
        · refine lv_iload_n hx hb d_B_colourAt_58 rfl (lv_at hl 3 rfl) ?_
          refine lv_bipush (v := (10 : Int32)) hx hb d_B_colourAt_59 (by decide) ?_
          refine lv_iand hx hb d_B_colourAt_61 ?_
          refine lv_if_eq (tgt := 72) hx hb d_B_colourAt_62 (by decide) (fun q7 => ?_) (fun q7 => ?_)
          · refine lv_iload_n hx hb d_B_colourAt_72 rfl (lv_at hl 0 rfl) ?_
            refine lv_if_eq (tgt := 85) hx hb d_B_colourAt_73 (by decide) (fun h9 => absurd h9 (by decide)) (fun _ => ?_)
            refine lv_aload_n hx hb d_B_colourAt_76 rfl (lv_at hl 1 rfl) ?_
            refine lv_iload_n hx hb d_B_colourAt_77 rfl (lv_at hl 2 rfl) ?_
            refine lv_iload_n hx hb d_B_colourAt_78 rfl (lv_at hl 3 rfl) ?_
            refine vp_callSi (va_Run.run (va_runV (As := [.int x, .int he]) (rest := []) ⟨hx, hb, hml, hown, hT⟩ (c_B_fieldColour l D cA ad t hap σ x he) (kCV 2 hT ml_B_142 mi_B_fieldColour ⟨Nat.le_of_ble_eq_true rfl, Nat.le_of_ble_eq_true rfl⟩) (bpreV hK hP hZ hS) rfl rfl hl.1 rfl (lv_room (Nat.le_of_ble_eq_true rfl)) d_B_colourAt_79 ⟨Nat.le_of_ble_eq_true rfl, Nat.le_of_ble_eq_true rfl⟩)) (fun r9 e9 => ?_)
            subst e9
            refine lv_goto (tgt := 91) hx hb d_B_colourAt_82 (by decide) ?_
            have e9 : (f_B_fieldColour σ x he) = f_B_colourAt σ x he := by rw [f_B_colourAt, if_pos q1, if_neg q2, if_pos q5, if_pos q6, if_pos q7]
            exact W.iret (v := (f_B_fieldColour σ x he)) hx hb hr (fun t ht hW => ⟨_, rfl, e9, ht⟩) (fun _ h => absurd h List.not_mem_nil) d_B_colourAt_91
          · refine lv_aload_n hx hb d_B_colourAt_65 rfl (lv_at hl 1 rfl) ?_
            refine va_get (D := D) (ci := 0) (v := .ref (ad 1)) (C := R_B) (T := F_B) (N := 10) hx hb hT in_B hown hK hP 0 rfl rfl 0 (by decide) (hT _ fl_B_9) (fun _ h9 => h9) rfl d_B_colourAt_66 ?_
            refine lv_iconst (v := (3 : Int32)) hx hb d_B_colourAt_69 (by decide) ?_
            refine va_iald hx hb hK hP 1 0 rfl rfl (by first | assumption | exact kin (by decide)) d_B_colourAt_70 ?_
            have e9 : (σ 0 ((3 : Int32)).toNatClampNeg) = f_B_colourAt σ x he := by rw [f_B_colourAt, if_pos q1, if_neg q2, if_pos q5, if_pos q6, if_neg q7]
            exact W.iret (v := (σ 0 ((3 : Int32)).toNatClampNeg)) hx hb hr (fun t ht hW => ⟨_, rfl, e9, ht⟩) (fun _ h => absurd h List.not_mem_nil) d_B_colourAt_71
        · refine lv_aload_n hx hb d_B_colourAt_51 rfl (lv_at hl 1 rfl) ?_
          refine va_get (D := D) (ci := 0) (v := .ref (ad 1)) (C := R_B) (T := F_B) (N := 10) hx hb hT in_B hown hK hP 0 rfl rfl 0 (by decide) (hT _ fl_B_9) (fun _ h9 => h9) rfl d_B_colourAt_52 ?_
          refine lv_iconst (v := (2 : Int32)) hx hb d_B_colourAt_55 (by decide) ?_
          refine va_iald hx hb hK hP 1 0 rfl rfl (by first | assumption | exact kin (by decide)) d_B_colourAt_56 ?_
          have e9 : (σ 0 ((2 : Int32)).toNatClampNeg) = f_B_colourAt σ x he := by rw [f_B_colourAt, if_pos q1, if_neg q2, if_pos q5, if_neg q6]
          exact W.iret (v := (σ 0 ((2 : Int32)).toNatClampNeg)) hx hb hr (fun t ht hW => ⟨_, rfl, e9, ht⟩) (fun _ h => absurd h List.not_mem_nil) d_B_colourAt_57
      · refine lv_aload_n hx hb d_B_colourAt_38 rfl (lv_at hl 1 rfl) ?_
        refine lv_iload_n hx hb d_B_colourAt_39 rfl (lv_at hl 2 rfl) ?_
        refine lv_iload_n hx hb d_B_colourAt_40 rfl (lv_at hl 3 rfl) ?_
        refine vp_callSi (va_Run.run (va_runV (As := [.int x, .int he]) (rest := []) ⟨hx, hb, hml, hown, hT⟩ (c_B_fieldColour l D cA ad t hap σ x he) (kCV 2 hT ml_B_142 mi_B_fieldColour ⟨Nat.le_of_ble_eq_true rfl, Nat.le_of_ble_eq_true rfl⟩) (bpreV hK hP hZ hS) rfl rfl hl.1 rfl (lv_room (Nat.le_of_ble_eq_true rfl)) d_B_colourAt_41 ⟨Nat.le_of_ble_eq_true rfl, Nat.le_of_ble_eq_true rfl⟩)) (fun r9 e9 => ?_)
        subst e9
        have e9 : (f_B_fieldColour σ x he) = f_B_colourAt σ x he := by rw [f_B_colourAt, if_pos q1, if_neg q2, if_neg q5]
        exact W.iret (v := (f_B_fieldColour σ x he)) hx hb hr (fun t ht hW => ⟨_, rfl, e9, ht⟩) (fun _ h => absurd h List.not_mem_nil) d_B_colourAt_44
  · refine lv_iconst (v := (0 : Int32)) hx hb d_B_colourAt_9 (by decide) ?_
    have e9 : (0 : Int32) = f_B_colourAt σ x he := by rw [f_B_colourAt, if_neg q1]
    exact W.iret (v := (0 : Int32)) hx hb hr (fun t ht hW => ⟨_, rfl, e9, ht⟩) (fun _ h => absurd h List.not_mem_nil) d_B_colourAt_10

def f_B_countMeetings_lp13 (σ : Nat → Nat → Int32) : Nat → Int32 → Int32 → Int32
  | 0, i, acc => (acc / (2 : Int32))
  | n + 1, i, acc => (f_B_countMeetings_lp13 σ n (i + 1) (acc + (f_J_bitCount (σ 4 (i).toNatClampNeg))))
theorem f_B_countMeetings_lp13_z (σ : Nat → Nat → Int32) (i : Int32) (acc : Int32) : f_B_countMeetings_lp13 σ 0 i acc = (acc / (2 : Int32)) := rfl
theorem f_B_countMeetings_lp13_s (σ : Nat → Nat → Int32) (n : Nat) (i : Int32) (acc : Int32) : f_B_countMeetings_lp13 σ (n + 1) i acc = (f_B_countMeetings_lp13 σ n (i + 1) (acc + (f_J_bitCount (σ 4 (i).toNatClampNeg)))) := rfl

def f_B_countMeetings (σ : Nat → Nat → Int32) : Int32 := (f_B_countMeetings_lp13 σ 6 (0 : Int32) (0 : Int32))

set_option maxRecDepth 100000 in
set_option maxHeartbeats 4000000 in
theorem c_B_countMeetings (l : Launch) (D : va_G) (cA ad t : Nat → Nat) (hap : kap 7 ad) (σ : Nat → Nat → Int32) : Met l y_B_countMeetings w_B_countMeetings ({ frames := 1, cells := 0, slots := 0, locals := 20 } : Room) (va_Pc [.ref (ad 0)] (bPre D cA ad t σ)) (vp_Si (fun v => v = f_B_countMeetings σ)) 0 0 (fun _ => False) := by
  refine Met.ofW (cc := b_B_countMeetings) (maxL := 6) (ret := (some .int)) (by decide) rfl ?_
  intro p e s m args below meth c s₁ B hml hv
  obtain ⟨rfl, hv⟩ := hv
  obtain ⟨hP, hK, hZ⟩ := hv
  have hx := B.exec
  have hb := B.bytes
  have hr := B.returns
  have hlocks := B.notSynchronized
  have hT : ∀ w ∈ TB, w.before ([.ref (ad 0)] : List Value).toArray s = true := fun w h => atoms_spec (ws := w_B_countMeetings) B.pre w (List.mem_cons_of_mem _ h)
  have hown : s.vm.findClass R_B = some m.cls := findClass_of_methodNamed B.named
  have hS : va_S (kA 7 ad) s.heap s.heap [] := va_S.rf
  have hl := lv_entry ([.ref (ad 0)]) (n := 6) (Nat.le_of_ble_eq_true rfl)
  rw [lg_entry_eq]
  generalize (lg_sl ([.ref (ad 0)]) ++ List.replicate (6 - (lg_sl ([.ref (ad 0)])).length) Slot.unset).toArray = ls at hl ⊢
  have hl : lv_has ls 6 [(0, .ref (ad 0))] := hl
  have loop13 : ∀ (n i : Nat) (acc : Int32) (ls : Array Slot), i + n = 6 → lv_has ls 6 [(4, .int (nI i)), (3, .int (6 : Int32)), (2, .ref (ad 5)), (1, .int acc), (0, .ref (ad 0))] → f_B_countMeetings_lp13 σ n (nI i) acc = f_B_countMeetings σ → W p l e (headSpec w_B_countMeetings ({ frames := 1, cells := 0, slots := 0, locals := 20 } : Room)).room s m ([.ref (ad 0)] : List Value).toArray below meth c s.heap [] 0 0 (MQ below (vp_Si (fun v => v = f_B_countMeetings σ)) ([.ref (ad 0)] : List Value).toArray s 0 0 (fun _ => False)) (F0 m 13 ls []) := by
    intro n
    induction n with
    | zero =>
      intro i acc ls hi hl hg
      refine lv_iload hx hb d_B_countMeetings_13 (lv_at hl 0 rfl) ?_
      refine lv_iload_n hx hb d_B_countMeetings_15 rfl (lv_at hl 1 rfl) ?_
      refine lv_icmp_ge (tgt := 39) hx hb d_B_countMeetings_16 (by decide) (fun _ => ?_) (fun h9 => absurd (nI_le (a := 6) (b := i) (by omega) (by omega)) h9)
      refine lv_iload_n hx hb d_B_countMeetings_39 rfl (lv_at hl 3 rfl) ?_
      refine lv_iconst (v := (2 : Int32)) hx hb d_B_countMeetings_40 (by decide) ?_
      refine lv_idiv hx hb d_B_countMeetings_41 (by decide) ?_
      have e9 : (acc / (2 : Int32)) = f_B_countMeetings σ := by rw [← hg, f_B_countMeetings_lp13_z]
      exact W.iret (v := (acc / (2 : Int32))) hx hb hr (fun t ht hW => ⟨_, rfl, e9, ht⟩) (fun _ h => absurd h List.not_mem_nil) d_B_countMeetings_42
    | succ n ih =>
      intro i acc ls hi hl hg
      refine lv_iload hx hb d_B_countMeetings_13 (lv_at hl 0 rfl) ?_
      refine lv_iload_n hx hb d_B_countMeetings_15 rfl (lv_at hl 1 rfl) ?_
      refine lv_icmp_ge (tgt := 39) hx hb d_B_countMeetings_16 (by decide) (fun h9 => absurd h9 (nI_ge (a := i) (b := 6) (by omega) (by decide))) (fun _ => ?_)
      refine lv_aload_n hx hb d_B_countMeetings_19 rfl (lv_at hl 2 rfl) ?_
      refine lv_iload hx hb d_B_countMeetings_20 (lv_at hl 0 rfl) ?_
      refine va_iald hx hb hK hP 5 0 rfl rfl (by first | assumption | exact kin (by decide) | exact vp_in_nI (by omega) (by decide)) d_B_countMeetings_22 ?_
      refine lv_istore (lv' := [(5, .int (σ 4 ((nI i)).toNatClampNeg)), (4, .int (nI i)), (3, .int (6 : Int32)), (2, .ref (ad 5)), (1, .int acc), (0, .ref (ad 0))]) hx hb d_B_countMeetings_23 hl (by decide) rfl (fun ls hl => ?_)
      refine lv_iload_n hx hb d_B_countMeetings_25 rfl (lv_at hl 4 rfl) ?_
      refine lv_iload hx hb d_B_countMeetings_26 (lv_at hl 0 rfl) ?_
      refine vp_callSi (va_Run.run (va_runS (As := [.int (σ 4 ((nI i)).toNatClampNeg)]) (rest := [.int acc]) ⟨hx, hb, hml, hown, hT⟩ (c_J_bitCount l (σ 4 ((nI i)).toNatClampNeg)) (kCS 1 hT ml_B_145 ms_JI_bitCount ⟨Nat.le_of_ble_eq_true rfl, Nat.le_of_ble_eq_true rfl⟩) (kpreJ) rfl rfl hl.1 rfl (lv_room (Nat.le_of_ble_eq_true rfl)) d_B_countMeetings_28 ⟨Nat.le_of_ble_eq_true rfl, Nat.le_of_ble_eq_true rfl⟩)) (fun r9 e9 => ?_)
      subst e9
      refine lv_iadd hx hb d_B_countMeetings_31 ?_
      refine lv_istore_n (lv' := [(1, .int (acc + (f_J_bitCount (σ 4 ((nI i)).toNatClampNeg)))), (5, .int (σ 4 ((nI i)).toNatClampNeg)), (4, .int (nI i)), (3, .int (6 : Int32)), (2, .ref (ad 5)), (0, .ref (ad 0))]) hx hb d_B_countMeetings_32 rfl hl (by decide) rfl (fun ls hl => ?_)
      refine lv_iinc (v := (nI (i + 1))) (lv' := [(4, .int (nI (i + 1))), (1, .int (acc + (f_J_bitCount (σ 4 ((nI i)).toNatClampNeg)))), (5, .int (σ 4 ((nI i)).toNatClampNeg)), (3, .int (6 : Int32)), (2, .ref (ad 5)), (0, .ref (ad 0))]) hx hb d_B_countMeetings_33 hl (k := 2) rfl (by rw [nI_succ]; rfl) (by decide) rfl (fun ls hl => ?_)
      refine lv_goto (tgt := 13) hx hb d_B_countMeetings_36 (by decide) ?_
      exact ih (i + 1) (acc + (f_J_bitCount (σ 4 ((nI i)).toNatClampNeg))) ls (by omega) (lv_sub hl [0, 3, 4, 1, 5] rfl) (by rw [← hg, f_B_countMeetings_lp13_s, nI_succ])
  refine lv_iconst (v := (0 : Int32)) hx hb d_B_countMeetings_0 (by decide) ?_
  refine lv_istore_n (lv' := [(1, .int (0 : Int32)), (0, .ref (ad 0))]) hx hb d_B_countMeetings_1 rfl hl (by decide) rfl (fun ls hl => ?_)
  refine lv_aload_n hx hb d_B_countMeetings_2 rfl (lv_at hl 1 rfl) ?_
  refine va_get (D := D) (ci := 0) (v := .ref (ad 5)) (C := R_B) (T := F_B) (N := 10) hx hb hT in_B hown hK hP 0 rfl rfl 4 (by decide) (hT _ fl_B_22) (fun _ h9 => h9) rfl d_B_countMeetings_3 ?_
  refine lv_astore_n (lv' := [(2, .ref (ad 5)), (1, .int (0 : Int32)), (0, .ref (ad 0))]) hx hb d_B_countMeetings_6 rfl hl (by decide) rfl (fun ls hl => ?_)
  refine lv_aload_n hx hb d_B_countMeetings_7 rfl (lv_at hl 0 rfl) ?_
  refine va_alen (v := (6 : Int32)) hx hb hK hP 5 0 rfl rfl rfl d_B_countMeetings_8 ?_
  refine lv_istore_n (lv' := [(3, .int (6 : Int32)), (2, .ref (ad 5)), (1, .int (0 : Int32)), (0, .ref (ad 0))]) hx hb d_B_countMeetings_9 rfl hl (by decide) rfl (fun ls hl => ?_)
  refine lv_iconst (v := (0 : Int32)) hx hb d_B_countMeetings_10 (by decide) ?_
  refine lv_istore (lv' := [(4, .int (0 : Int32)), (3, .int (6 : Int32)), (2, .ref (ad 5)), (1, .int (0 : Int32)), (0, .ref (ad 0))]) hx hb d_B_countMeetings_11 hl (by decide) rfl (fun ls hl => ?_)
  exact loop13 6 0 (0 : Int32) ls rfl (lv_sub hl [0, 1, 2, 3, 4] rfl) (by rw [f_B_countMeetings]; rfl)
end
section
def f_J_rangeCheck : Int32 := (0 : Int32)

set_option maxRecDepth 100000 in
set_option maxHeartbeats 4000000 in
theorem c_J_rangeCheck (l : Launch) : Met l y_JA_rangeCheck w_JA_rangeCheck ({ frames := 0, cells := 0, slots := 0, locals := 0 } : Room) (va_Pc [.int (36 : Int32), .int (23 : Int32), .int (28 : Int32)] (fun _ => True)) (va_Sv (fun _ => True)) 0 0 (fun _ => False) := by
  refine va_MetF (cc := b_JA_rangeCheck) (maxL := 3) (ret := none) (by decide +kernel) rfl ?_
  intro p e s m args below meth c s₁ B hml hv
  obtain ⟨rfl, -⟩ := hv
  have hx := B.exec
  have hb := B.bytes
  have hr := B.returns
  have hlocks := B.notSynchronized
  have hT : ∀ w ∈ TB, w.before ([.int (36 : Int32), .int (23 : Int32), .int (28 : Int32)] : List Value).toArray s = true := fun w h => atoms_spec (ws := w_JA_rangeCheck) B.pre w (List.mem_cons_of_mem _ h)
  have hown : s.vm.findClass R_JA = some m.cls := findClass_of_methodNamed B.named
  have hS : va_S (fun _ => False) s.heap s.heap [] := va_S.rf
  have hl := lv_entry ([.int (36 : Int32), .int (23 : Int32), .int (28 : Int32)]) (n := 3) (Nat.le_of_ble_eq_true rfl)
  rw [lg_entry_eq]
  generalize (lg_sl ([.int (36 : Int32), .int (23 : Int32), .int (28 : Int32)]) ++ List.replicate (3 - (lg_sl ([.int (36 : Int32), .int (23 : Int32), .int (28 : Int32)])).length) Slot.unset).toArray = ls at hl ⊢
  have hl : lv_has ls 3 [(0, .int (36 : Int32)), (1, .int (23 : Int32)), (2, .int (28 : Int32))] := hl
  refine lv_iload_n hx hb d_JA_rangeCheck_0 rfl (lv_at hl 1 rfl) ?_
  refine lv_iload_n hx hb d_JA_rangeCheck_1 rfl (lv_at hl 2 rfl) ?_
  refine lv_icmp_le (tgt := 46) hx hb d_JA_rangeCheck_2 (by decide) (fun _ => ?_) (fun h9 => absurd (by decide) h9)
  refine lv_iload_n hx hb d_JA_rangeCheck_46 rfl (lv_at hl 1 rfl) ?_
  refine lv_if_ge (tgt := 59) hx hb d_JA_rangeCheck_47 (by decide) (fun _ => ?_) (fun h9 => absurd (by decide) h9)
  refine lv_iload_n hx hb d_JA_rangeCheck_59 rfl (lv_at hl 2 rfl) ?_
  refine lv_iload_n hx hb d_JA_rangeCheck_60 rfl (lv_at hl 0 rfl) ?_
  refine lv_icmp_le (tgt := 73) hx hb d_JA_rangeCheck_61 (by decide) (fun _ => ?_) (fun h9 => absurd (by decide) h9)
  exact W.vret hx hb hr (fun t ht hW => ⟨rfl, trivial, ht⟩) (fun _ h => absurd h List.not_mem_nil) d_JA_rangeCheck_73

def f_J_fill4_lp10 (σ : Nat → Nat → Int32) : Nat → Int32 → (Nat → Nat → Int32) → (Nat → Nat → Int32)
  | 0, i, σ1 => σ1
  | n + 1, i, σ1 => (f_J_fill4_lp10 σ n (i + 1) (kup σ1 0 (i).toNatClampNeg (0 : Int32)))
theorem f_J_fill4_lp10_z (σ : Nat → Nat → Int32) (i : Int32) (σ1 : Nat → Nat → Int32) : f_J_fill4_lp10 σ 0 i σ1 = σ1 := rfl
theorem f_J_fill4_lp10_s (σ : Nat → Nat → Int32) (n : Nat) (i : Int32) (σ1 : Nat → Nat → Int32) : f_J_fill4_lp10 σ (n + 1) i σ1 = (f_J_fill4_lp10 σ n (i + 1) (kup σ1 0 (i).toNatClampNeg (0 : Int32))) := rfl

def f_J_fill4 (σ : Nat → Nat → Int32) : (Nat → Nat → Int32) := (f_J_fill4_lp10 σ 5 (23 : Int32) σ)

set_option maxRecDepth 100000 in
set_option maxHeartbeats 4000000 in
theorem c_J_fill4 (l : Launch) (D : va_G) (cA ad t : Nat → Nat) (hap : kap 7 ad) (σ : Nat → Nat → Int32) : Met l y_JA_fill4 w_JA_fill4 ({ frames := 1, cells := 0, slots := 0, locals := 22 } : Room) (va_Pc [.ref (ad 1), .int (23 : Int32), .int (28 : Int32), .int (0 : Int32)] (bPre D cA ad t σ)) (kQv D (bw cA ad (f_J_fill4 σ)) (kA 7 ad)) 0 0 (kA 7 ad) := by
  refine va_MetF (cc := b_JA_fill4) (maxL := 5) (ret := none) (by decide +kernel) rfl ?_
  intro p e s m args below meth c s₁ B hml hv
  obtain ⟨rfl, hv⟩ := hv
  obtain ⟨hP, hK, hZ⟩ := hv
  have hx := B.exec
  have hb := B.bytes
  have hr := B.returns
  have hlocks := B.notSynchronized
  have hT : ∀ w ∈ TB, w.before ([.ref (ad 1), .int (23 : Int32), .int (28 : Int32), .int (0 : Int32)] : List Value).toArray s = true := fun w h => atoms_spec (ws := w_JA_fill4) B.pre w (List.mem_cons_of_mem _ h)
  have hown : s.vm.findClass R_JA = some m.cls := findClass_of_methodNamed B.named
  have hS : va_S (kA 7 ad) s.heap s.heap [] := va_S.rf
  have hD : ∀ σ, va_D (kA 7 ad) (bw cA ad σ) := fun σ => kD hap rfl
  have hl := lv_entry ([.ref (ad 1), .int (23 : Int32), .int (28 : Int32), .int (0 : Int32)]) (n := 5) (Nat.le_of_ble_eq_true rfl)
  rw [lg_entry_eq]
  generalize (lg_sl ([.ref (ad 1), .int (23 : Int32), .int (28 : Int32), .int (0 : Int32)]) ++ List.replicate (5 - (lg_sl ([.ref (ad 1), .int (23 : Int32), .int (28 : Int32), .int (0 : Int32)])).length) Slot.unset).toArray = ls at hl ⊢
  have hl : lv_has ls 5 [(0, .ref (ad 1)), (1, .int (23 : Int32)), (2, .int (28 : Int32)), (3, .int (0 : Int32))] := hl
  have loop10 : ∀ (n i : Nat) (σ1 : Nat → Nat → Int32) (H : Heap) (locs : List Loc) (ls : Array Slot), i + n = 28 → lv_has ls 5 [(4, .int (nI i)), (0, .ref (ad 1)), (1, .int (23 : Int32)), (2, .int (28 : Int32)), (3, .int (0 : Int32))] → va_P D classes (bw cA ad σ1) H → va_S (kA 7 ad) s.heap H locs → f_J_fill4_lp10 σ n (nI i) σ1 = f_J_fill4 σ → W p l e (headSpec w_JA_fill4 ({ frames := 1, cells := 0, slots := 0, locals := 22 } : Room)).room s m ([.ref (ad 1), .int (23 : Int32), .int (28 : Int32), .int (0 : Int32)] : List Value).toArray below meth c H locs 0 0 (MQ below (kQv D (bw cA ad (f_J_fill4 σ)) (kA 7 ad)) ([.ref (ad 1), .int (23 : Int32), .int (28 : Int32), .int (0 : Int32)] : List Value).toArray s 0 0 (kA 7 ad)) (F0 m 10 ls []) := by
    intro n
    induction n with
    | zero =>
      intro i σ1 H locs ls hi hl hP hS hg
      refine lv_iload hx hb d_JA_fill4_10 (lv_at hl 0 rfl) ?_
      refine lv_iload_n hx hb d_JA_fill4_12 rfl (lv_at hl 3 rfl) ?_
      refine lv_icmp_ge (tgt := 27) hx hb d_JA_fill4_13 (by decide) (fun _ => ?_) (fun h9 => absurd (nI_le (a := 28) (b := i) (by omega) (by omega)) h9)
      have e9 : σ1 = f_J_fill4 σ := by rw [← hg, f_J_fill4_lp10_z]
      exact W.vret hx hb hr (fun t ht hW => ⟨rfl, by rw [ht, ← e9]; exact hP, hS.F ht⟩) hS.2.2 d_JA_fill4_27
    | succ n ih =>
      intro i σ1 H locs ls hi hl hP hS hg
      refine lv_iload hx hb d_JA_fill4_10 (lv_at hl 0 rfl) ?_
      refine lv_iload_n hx hb d_JA_fill4_12 rfl (lv_at hl 3 rfl) ?_
      refine lv_icmp_ge (tgt := 27) hx hb d_JA_fill4_13 (by decide) (fun h9 => absurd h9 (nI_ge (a := i) (b := 28) (by omega) (by decide))) (fun _ => ?_)
      refine lv_aload_n hx hb d_JA_fill4_16 rfl (lv_at hl 1 rfl) ?_
      refine lv_iload hx hb d_JA_fill4_17 (lv_at hl 0 rfl) ?_
      refine lv_iload_n hx hb d_JA_fill4_19 rfl (lv_at hl 4 rfl) ?_
      refine va_iast (A := (kA 7 ad)) hx hb hK hP (hD _) hS 1 0 rfl rfl (by first | assumption | exact kin (by decide) | exact vp_in_nI (by omega) (by decide)) d_JA_fill4_20 (fun H locs hP _ hS => ?_)
      have hP := kst (bw_s1 cA ad σ1 ((nI i)).toNatClampNeg (0 : Int32)) hP
      refine lv_iinc (v := (nI (i + 1))) (lv' := [(4, .int (nI (i + 1))), (0, .ref (ad 1)), (1, .int (23 : Int32)), (2, .int (28 : Int32)), (3, .int (0 : Int32))]) hx hb d_JA_fill4_21 hl (k := 0) rfl (by rw [nI_succ]; rfl) (by decide) rfl (fun ls hl => ?_)
      refine lv_goto (tgt := 10) hx hb d_JA_fill4_24 (by decide) ?_
      exact ih (i + 1) (kup σ1 0 ((nI i)).toNatClampNeg (0 : Int32)) H locs ls (by omega) (lv_sub hl [0, 1, 2, 3, 4] rfl) hP hS (by rw [← hg, f_J_fill4_lp10_s, nI_succ])
  refine lv_aload_n hx hb d_JA_fill4_0 rfl (lv_at hl 0 rfl) ?_
  refine va_alen (v := (36 : Int32)) hx hb hK hP 1 0 rfl rfl rfl d_JA_fill4_1 ?_
  refine lv_iload_n hx hb d_JA_fill4_2 rfl (lv_at hl 1 rfl) ?_
  refine lv_iload_n hx hb d_JA_fill4_3 rfl (lv_at hl 2 rfl) ?_
  refine va_csv (va_Run.run (va_runS (As := [.int (36 : Int32), .int (23 : Int32), .int (28 : Int32)]) (rest := []) ⟨hx, hb, hml, hown, hT⟩ (c_J_rangeCheck l) (kCS 3 hT ml_JA_13 ms_JA_rangeCheck ⟨Nat.le_of_ble_eq_true rfl, Nat.le_of_ble_eq_true rfl⟩) (kpreJ) rfl rfl hl.1 rfl (lv_room (Nat.le_of_ble_eq_true rfl)) d_JA_fill4_4 ⟨Nat.le_of_ble_eq_true rfl, Nat.le_of_ble_eq_true rfl⟩)) (fun _ => ?_)
  refine lv_iload_n hx hb d_JA_fill4_7 rfl (lv_at hl 1 rfl) ?_
  refine lv_istore (lv' := [(4, .int (23 : Int32)), (0, .ref (ad 1)), (1, .int (23 : Int32)), (2, .int (28 : Int32)), (3, .int (0 : Int32))]) hx hb d_JA_fill4_8 hl (by decide) rfl (fun ls hl => ?_)
  exact loop10 5 23 σ s.heap [] ls rfl (lv_sub hl [0, 1, 2, 3, 4] rfl) hP hS (by rw [f_J_fill4]; rfl)

def f_J_fill2_lp5 (σ : Nat → Nat → Int32) : Nat → Int32 → (Nat → Nat → Int32) → (Nat → Nat → Int32)
  | 0, i, σ1 => σ1
  | n + 1, i, σ1 => (f_J_fill2_lp5 σ n (i + 1) (kup σ1 4 (i).toNatClampNeg (0 : Int32)))
theorem f_J_fill2_lp5_z (σ : Nat → Nat → Int32) (i : Int32) (σ1 : Nat → Nat → Int32) : f_J_fill2_lp5 σ 0 i σ1 = σ1 := rfl
theorem f_J_fill2_lp5_s (σ : Nat → Nat → Int32) (n : Nat) (i : Int32) (σ1 : Nat → Nat → Int32) : f_J_fill2_lp5 σ (n + 1) i σ1 = (f_J_fill2_lp5 σ n (i + 1) (kup σ1 4 (i).toNatClampNeg (0 : Int32))) := rfl

def f_J_fill2 (σ : Nat → Nat → Int32) : (Nat → Nat → Int32) := (f_J_fill2_lp5 σ 6 (0 : Int32) σ)

set_option maxRecDepth 100000 in
set_option maxHeartbeats 4000000 in
theorem c_J_fill2 (l : Launch) (D : va_G) (cA ad t : Nat → Nat) (hap : kap 7 ad) (σ : Nat → Nat → Int32) : Met l y_JA_fill2 w_JA_fill2 ({ frames := 0, cells := 0, slots := 0, locals := 0 } : Room) (va_Pc [.ref (ad 5), .int (0 : Int32)] (bPre D cA ad t σ)) (kQv D (bw cA ad (f_J_fill2 σ)) (kA 7 ad)) 0 0 (kA 7 ad) := by
  refine va_MetF (cc := b_JA_fill2) (maxL := 4) (ret := none) (by decide +kernel) rfl ?_
  intro p e s m args below meth c s₁ B hml hv
  obtain ⟨rfl, hv⟩ := hv
  obtain ⟨hP, hK, hZ⟩ := hv
  have hx := B.exec
  have hb := B.bytes
  have hr := B.returns
  have hlocks := B.notSynchronized
  have hT : ∀ w ∈ TB, w.before ([.ref (ad 5), .int (0 : Int32)] : List Value).toArray s = true := fun w h => atoms_spec (ws := w_JA_fill2) B.pre w (List.mem_cons_of_mem _ h)
  have hown : s.vm.findClass R_JA = some m.cls := findClass_of_methodNamed B.named
  have hS : va_S (kA 7 ad) s.heap s.heap [] := va_S.rf
  have hD : ∀ σ, va_D (kA 7 ad) (bw cA ad σ) := fun σ => kD hap rfl
  have hl := lv_entry ([.ref (ad 5), .int (0 : Int32)]) (n := 4) (Nat.le_of_ble_eq_true rfl)
  rw [lg_entry_eq]
  generalize (lg_sl ([.ref (ad 5), .int (0 : Int32)]) ++ List.replicate (4 - (lg_sl ([.ref (ad 5), .int (0 : Int32)])).length) Slot.unset).toArray = ls at hl ⊢
  have hl : lv_has ls 4 [(0, .ref (ad 5)), (1, .int (0 : Int32))] := hl
  have loop5 : ∀ (n i : Nat) (σ1 : Nat → Nat → Int32) (H : Heap) (locs : List Loc) (ls : Array Slot), i + n = 6 → lv_has ls 4 [(3, .int (6 : Int32)), (2, .int (nI i)), (0, .ref (ad 5)), (1, .int (0 : Int32))] → va_P D classes (bw cA ad σ1) H → va_S (kA 7 ad) s.heap H locs → f_J_fill2_lp5 σ n (nI i) σ1 = f_J_fill2 σ → W p l e (headSpec w_JA_fill2 ({ frames := 0, cells := 0, slots := 0, locals := 0 } : Room)).room s m ([.ref (ad 5), .int (0 : Int32)] : List Value).toArray below meth c H locs 0 0 (MQ below (kQv D (bw cA ad (f_J_fill2 σ)) (kA 7 ad)) ([.ref (ad 5), .int (0 : Int32)] : List Value).toArray s 0 0 (kA 7 ad)) (F0 m 5 ls []) := by
    intro n
    induction n with
    | zero =>
      intro i σ1 H locs ls hi hl hP hS hg
      refine lv_iload_n hx hb d_JA_fill2_5 rfl (lv_at hl 1 rfl) ?_
      refine lv_iload_n hx hb d_JA_fill2_6 rfl (lv_at hl 0 rfl) ?_
      refine lv_icmp_ge (tgt := 20) hx hb d_JA_fill2_7 (by decide) (fun _ => ?_) (fun h9 => absurd (nI_le (a := 6) (b := i) (by omega) (by omega)) h9)
      have e9 : σ1 = f_J_fill2 σ := by rw [← hg, f_J_fill2_lp5_z]
      exact W.vret hx hb hr (fun t ht hW => ⟨rfl, by rw [ht, ← e9]; exact hP, hS.F ht⟩) hS.2.2 d_JA_fill2_20
    | succ n ih =>
      intro i σ1 H locs ls hi hl hP hS hg
      refine lv_iload_n hx hb d_JA_fill2_5 rfl (lv_at hl 1 rfl) ?_
      refine lv_iload_n hx hb d_JA_fill2_6 rfl (lv_at hl 0 rfl) ?_
      refine lv_icmp_ge (tgt := 20) hx hb d_JA_fill2_7 (by decide) (fun h9 => absurd h9 (nI_ge (a := i) (b := 6) (by omega) (by decide))) (fun _ => ?_)
      refine lv_aload_n hx hb d_JA_fill2_10 rfl (lv_at hl 2 rfl) ?_
      refine lv_iload_n hx hb d_JA_fill2_11 rfl (lv_at hl 1 rfl) ?_
      refine lv_iload_n hx hb d_JA_fill2_12 rfl (lv_at hl 3 rfl) ?_
      refine va_iast (A := (kA 7 ad)) hx hb hK hP (hD _) hS 5 0 rfl rfl (by first | assumption | exact kin (by decide) | exact vp_in_nI (by omega) (by decide)) d_JA_fill2_13 (fun H locs hP _ hS => ?_)
      have hP := kst (bw_s5 cA ad σ1 ((nI i)).toNatClampNeg (0 : Int32)) hP
      refine lv_iinc (v := (nI (i + 1))) (lv' := [(2, .int (nI (i + 1))), (3, .int (6 : Int32)), (0, .ref (ad 5)), (1, .int (0 : Int32))]) hx hb d_JA_fill2_14 hl (k := 1) rfl (by rw [nI_succ]; rfl) (by decide) rfl (fun ls hl => ?_)
      refine lv_goto (tgt := 5) hx hb d_JA_fill2_17 (by decide) ?_
      exact ih (i + 1) (kup σ1 4 ((nI i)).toNatClampNeg (0 : Int32)) H locs ls (by omega) (lv_sub hl [1, 0, 2, 3] rfl) hP hS (by rw [← hg, f_J_fill2_lp5_s, nI_succ])
  refine lv_iconst (v := (0 : Int32)) hx hb d_JA_fill2_0 (by decide) ?_
  refine lv_istore_n (lv' := [(2, .int (0 : Int32)), (0, .ref (ad 5)), (1, .int (0 : Int32))]) hx hb d_JA_fill2_1 rfl hl (by decide) rfl (fun ls hl => ?_)
  refine lv_aload_n hx hb d_JA_fill2_2 rfl (lv_at hl 1 rfl) ?_
  refine va_alen (v := (6 : Int32)) hx hb hK hP 5 0 rfl rfl rfl d_JA_fill2_3 ?_
  refine lv_istore_n (lv' := [(3, .int (6 : Int32)), (2, .int (0 : Int32)), (0, .ref (ad 5)), (1, .int (0 : Int32))]) hx hb d_JA_fill2_4 rfl hl (by decide) rfl (fun ls hl => ?_)
  exact loop5 6 0 σ s.heap [] ls rfl (lv_sub hl [0, 1, 2, 3] rfl) hP hS (by rw [f_J_fill2]; rfl)

def f_T_start (σ : Nat → Nat → Int32) (cy : Int32) (v : Int32) : (Nat → Nat → Int32) := (kup (kup (kup (kup σ 5 4 v) 5 7 (0 : Int32)) 5 5 cy) 5 6 (cy * (3 : Int32)))

set_option maxRecDepth 100000 in
set_option maxHeartbeats 4000000 in
theorem c_T_start (l : Launch) (D : va_G) (cA ad t : Nat → Nat) (hap : kap 7 ad) (σ : Nat → Nat → Int32) (cy : Int32) (v : Int32) : Met l y_T_start w_T_start ({ frames := 0, cells := 0, slots := 0, locals := 0 } : Room) (va_Pc [.ref (ad 6), .int cy, .int v] (bPre D cA ad t σ)) (kQv D (bw cA ad (f_T_start σ cy v)) (kA 7 ad)) 0 0 (kA 7 ad) := by
  refine Met.ofW (cc := b_T_start) (maxL := 3) (ret := none) (by decide) rfl ?_
  intro p e s m args below meth c s₁ B hml hv
  obtain ⟨rfl, hv⟩ := hv
  obtain ⟨hP, hK, hZ⟩ := hv
  have hx := B.exec
  have hb := B.bytes
  have hr := B.returns
  have hlocks := B.notSynchronized
  have hT : ∀ w ∈ TB, w.before ([.ref (ad 6), .int cy, .int v] : List Value).toArray s = true := fun w h => atoms_spec (ws := w_T_start) B.pre w (List.mem_cons_of_mem _ h)
  have hown : s.vm.findClass R_T = some m.cls := findClass_of_methodNamed B.named
  have hS : va_S (kA 7 ad) s.heap s.heap [] := va_S.rf
  have hD : ∀ σ, va_D (kA 7 ad) (bw cA ad σ) := fun σ => kD hap rfl
  have hl := lv_entry ([.ref (ad 6), .int cy, .int v]) (n := 3) (Nat.le_of_ble_eq_true rfl)
  rw [lg_entry_eq]
  generalize (lg_sl ([.ref (ad 6), .int cy, .int v]) ++ List.replicate (3 - (lg_sl ([.ref (ad 6), .int cy, .int v])).length) Slot.unset).toArray = ls at hl ⊢
  have hl : lv_has ls 3 [(0, .ref (ad 6)), (1, .int cy), (2, .int v)] := hl
  refine lv_aload_n hx hb d_T_start_0 rfl (lv_at hl 0 rfl) ?_
  refine lv_iload_n hx hb d_T_start_1 rfl (lv_at hl 2 rfl) ?_
  refine va_put (A := (kA 7 ad)) (D := D) (ci := 1) (v := .int v) (ty := .int) (C := R_T) (T := F_T) (N := 4) hx hb hT in_T ft_T ft_T_ok n_T hown hK hP (hD _) hS 6 rfl rfl 0 (by decide) (hT _ fl_T_18) (fun _ h9 => h9) rfl (by decide +kernel) rfl rfl (Nat.le_of_ble_eq_true rfl) d_T_start_2 (fun H locs hP _ hS => ?_)
  have hP := kst (bw_p6_0 cA ad σ v) hP
  refine lv_aload_n hx hb d_T_start_5 rfl (lv_at hl 0 rfl) ?_
  refine lv_iconst (v := (0 : Int32)) hx hb d_T_start_6 (by decide) ?_
  refine va_put (A := (kA 7 ad)) (D := D) (ci := 1) (v := .int (0 : Int32)) (ty := .boolean) (C := R_T) (T := F_T) (N := 4) hx hb hT in_T ft_T ft_T_ok n_T hown hK hP (hD _) hS 6 rfl rfl 3 (by decide) (hT _ fl_T_21) (fun _ h9 => h9) rfl (by decide +kernel) (by decide) (by decide) (Nat.le_of_ble_eq_true rfl) d_T_start_7 (fun H locs hP _ hS => ?_)
  have hP := kst (bw_p6_3 cA ad (kup σ 5 4 v) (0 : Int32)) hP
  refine lv_aload_n hx hb d_T_start_10 rfl (lv_at hl 0 rfl) ?_
  refine lv_iload_n hx hb d_T_start_11 rfl (lv_at hl 1 rfl) ?_
  refine va_put (A := (kA 7 ad)) (D := D) (ci := 1) (v := .int cy) (ty := .int) (C := R_T) (T := F_T) (N := 4) hx hb hT in_T ft_T ft_T_ok n_T hown hK hP (hD _) hS 6 rfl rfl 1 (by decide) (hT _ fl_T_9) (fun _ h9 => h9) rfl (by decide +kernel) rfl rfl (Nat.le_of_ble_eq_true rfl) d_T_start_12 (fun H locs hP _ hS => ?_)
  have hP := kst (bw_p6_1 cA ad (kup (kup σ 5 4 v) 5 7 (0 : Int32)) cy) hP
  refine lv_aload_n hx hb d_T_start_15 rfl (lv_at hl 0 rfl) ?_
  refine lv_iload_n hx hb d_T_start_16 rfl (lv_at hl 1 rfl) ?_
  refine lv_iconst (v := (3 : Int32)) hx hb d_T_start_17 (by decide) ?_
  refine lv_imul hx hb d_T_start_18 ?_
  refine va_put (A := (kA 7 ad)) (D := D) (ci := 1) (v := .int (cy * (3 : Int32))) (ty := .int) (C := R_T) (T := F_T) (N := 4) hx hb hT in_T ft_T ft_T_ok n_T hown hK hP (hD _) hS 6 rfl rfl 2 (by decide) (hT _ fl_T_15) (fun _ h9 => h9) rfl (by decide +kernel) rfl rfl (Nat.le_of_ble_eq_true rfl) d_T_start_19 (fun H locs hP _ hS => ?_)
  have hP := kst (bw_p6_2 cA ad (kup (kup (kup σ 5 4 v) 5 7 (0 : Int32)) 5 5 cy) (cy * (3 : Int32))) hP
  have e9 : (kup (kup (kup (kup σ 5 4 v) 5 7 (0 : Int32)) 5 5 cy) 5 6 (cy * (3 : Int32))) = f_T_start σ cy v := by rw [f_T_start]
  exact W.vret hx hb hr (fun t ht hW => ⟨rfl, by rw [ht, ← e9]; exact hP, hS.F ht⟩) hS.2.2 d_T_start_22

def f_T_tick (σ : Nat → Nat → Int32) : (Nat → Nat → Int32) := (if ((σ 5 6) - (1 : Int32)) ≤ 0 then (if 0 ≤ (((kup σ 5 6 ((σ 5 6) - (1 : Int32))) 5 4) - (1 : Int32)) then (kup (kup (kup σ 5 6 ((σ 5 6) - (1 : Int32))) 5 4 (((kup σ 5 6 ((σ 5 6) - (1 : Int32))) 5 4) - (1 : Int32))) 5 6 (((kup (kup σ 5 6 ((σ 5 6) - (1 : Int32))) 5 4 (((kup σ 5 6 ((σ 5 6) - (1 : Int32))) 5 4) - (1 : Int32))) 5 5) * (3 : Int32))) else (kup (kup (kup (kup (kup (kup σ 5 6 ((σ 5 6) - (1 : Int32))) 5 4 (((kup σ 5 6 ((σ 5 6) - (1 : Int32))) 5 4) - (1 : Int32))) 5 4 (255 : Int32)) 5 7 (1 : Int32)) 5 5 (1 : Int32)) 5 6 ((1 : Int32) * (3 : Int32)))) else (kup σ 5 6 ((σ 5 6) - (1 : Int32))))

set_option maxRecDepth 100000 in
set_option maxHeartbeats 4000000 in
theorem c_T_tick (l : Launch) (D : va_G) (cA ad t : Nat → Nat) (hap : kap 7 ad) (σ : Nat → Nat → Int32) : Met l y_T_tick w_T_tick ({ frames := 0, cells := 0, slots := 0, locals := 0 } : Room) (va_Pc [.ref (ad 6)] (bPre D cA ad t σ)) (kQv D (bw cA ad (f_T_tick σ)) (kA 7 ad)) 0 0 (kA 7 ad) := by
  refine Met.ofW (cc := b_T_tick) (maxL := 1) (ret := none) (by decide) rfl ?_
  intro p e s m args below meth c s₁ B hml hv
  obtain ⟨rfl, hv⟩ := hv
  obtain ⟨hP, hK, hZ⟩ := hv
  have hx := B.exec
  have hb := B.bytes
  have hr := B.returns
  have hlocks := B.notSynchronized
  have hT : ∀ w ∈ TB, w.before ([.ref (ad 6)] : List Value).toArray s = true := fun w h => atoms_spec (ws := w_T_tick) B.pre w (List.mem_cons_of_mem _ h)
  have hown : s.vm.findClass R_T = some m.cls := findClass_of_methodNamed B.named
  have hS : va_S (kA 7 ad) s.heap s.heap [] := va_S.rf
  have hD : ∀ σ, va_D (kA 7 ad) (bw cA ad σ) := fun σ => kD hap rfl
  have hl := lv_entry ([.ref (ad 6)]) (n := 1) (Nat.le_of_ble_eq_true rfl)
  rw [lg_entry_eq]
  generalize (lg_sl ([.ref (ad 6)]) ++ List.replicate (1 - (lg_sl ([.ref (ad 6)])).length) Slot.unset).toArray = ls at hl ⊢
  have hl : lv_has ls 1 [(0, .ref (ad 6))] := hl
  refine lv_aload_n hx hb d_T_tick_0 rfl (lv_at hl 0 rfl) ?_
  refine lv_dup hx hb d_T_tick_1 rfl ?_
  refine va_get (D := D) (ci := 1) (v := .int (σ 5 6)) (C := R_T) (T := F_T) (N := 4) hx hb hT in_T hown hK hP 6 rfl rfl 2 (by decide) (hT _ fl_T_15) (fun _ h9 => h9) rfl d_T_tick_2 ?_
  refine lv_iconst (v := (1 : Int32)) hx hb d_T_tick_5 (by decide) ?_
  refine lv_isub hx hb d_T_tick_6 ?_
  refine va_put (A := (kA 7 ad)) (D := D) (ci := 1) (v := .int ((σ 5 6) - (1 : Int32))) (ty := .int) (C := R_T) (T := F_T) (N := 4) hx hb hT in_T ft_T ft_T_ok n_T hown hK hP (hD _) hS 6 rfl rfl 2 (by decide) (hT _ fl_T_15) (fun _ h9 => h9) rfl (by decide +kernel) rfl rfl (Nat.le_of_ble_eq_true rfl) d_T_tick_7 (fun H locs hP _ hS => ?_)
  have hP := kst (bw_p6_2 cA ad σ ((σ 5 6) - (1 : Int32))) hP
  refine lv_aload_n hx hb d_T_tick_10 rfl (lv_at hl 0 rfl) ?_
  refine va_get (D := D) (ci := 1) (v := .int ((σ 5 6) - (1 : Int32))) (C := R_T) (T := F_T) (N := 4) hx hb hT in_T hown hK hP 6 rfl rfl 2 (by decide) (hT _ fl_T_15) (fun _ h9 => h9) rfl d_T_tick_11 ?_
  refine lv_if_le (tgt := 18) hx hb d_T_tick_14 (by decide) (fun q1 => ?_) (fun q1 => ?_)
  · refine lv_aload_n hx hb d_T_tick_18 rfl (lv_at hl 0 rfl) ?_
    refine lv_dup hx hb d_T_tick_19 rfl ?_
    refine va_get (D := D) (ci := 1) (v := .int ((kup σ 5 6 ((σ 5 6) - (1 : Int32))) 5 4)) (C := R_T) (T := F_T) (N := 4) hx hb hT in_T hown hK hP 6 rfl rfl 0 (by decide) (hT _ fl_T_18) (fun _ h9 => h9) rfl d_T_tick_20 ?_
    refine lv_iconst (v := (1 : Int32)) hx hb d_T_tick_23 (by decide) ?_
    refine lv_isub hx hb d_T_tick_24 ?_
    refine va_put (A := (kA 7 ad)) (D := D) (ci := 1) (v := .int (((kup σ 5 6 ((σ 5 6) - (1 : Int32))) 5 4) - (1 : Int32))) (ty := .int) (C := R_T) (T := F_T) (N := 4) hx hb hT in_T ft_T ft_T_ok n_T hown hK hP (hD _) hS 6 rfl rfl 0 (by decide) (hT _ fl_T_18) (fun _ h9 => h9) rfl (by decide +kernel) rfl rfl (Nat.le_of_ble_eq_true rfl) d_T_tick_25 (fun H locs hP _ hS => ?_)
    have hP := kst (bw_p6_0 cA ad (kup σ 5 6 ((σ 5 6) - (1 : Int32))) (((kup σ 5 6 ((σ 5 6) - (1 : Int32))) 5 4) - (1 : Int32))) hP
    refine lv_aload_n hx hb d_T_tick_28 rfl (lv_at hl 0 rfl) ?_
    refine va_get (D := D) (ci := 1) (v := .int (((kup σ 5 6 ((σ 5 6) - (1 : Int32))) 5 4) - (1 : Int32))) (C := R_T) (T := F_T) (N := 4) hx hb hT in_T hown hK hP 6 rfl rfl 0 (by decide) (hT _ fl_T_18) (fun _ h9 => h9) rfl d_T_tick_29 ?_
    refine lv_if_ge (tgt := 52) hx hb d_T_tick_32 (by decide) (fun q2 => ?_) (fun q2 => ?_)
    · refine lv_aload_n hx hb d_T_tick_52 rfl (lv_at hl 0 rfl) ?_
      refine lv_aload_n hx hb d_T_tick_53 rfl (lv_at hl 0 rfl) ?_
      refine va_get (D := D) (ci := 1) (v := .int ((kup (kup σ 5 6 ((σ 5 6) - (1 : Int32))) 5 4 (((kup σ 5 6 ((σ 5 6) - (1 : Int32))) 5 4) - (1 : Int32))) 5 5)) (C := R_T) (T := F_T) (N := 4) hx hb hT in_T hown hK hP 6 rfl rfl 1 (by decide) (hT _ fl_T_9) (fun _ h9 => h9) rfl d_T_tick_54 ?_
      refine lv_iconst (v := (3 : Int32)) hx hb d_T_tick_57 (by decide) ?_
      refine lv_imul hx hb d_T_tick_58 ?_
      refine va_put (A := (kA 7 ad)) (D := D) (ci := 1) (v := .int (((kup (kup σ 5 6 ((σ 5 6) - (1 : Int32))) 5 4 (((kup σ 5 6 ((σ 5 6) - (1 : Int32))) 5 4) - (1 : Int32))) 5 5) * (3 : Int32))) (ty := .int) (C := R_T) (T := F_T) (N := 4) hx hb hT in_T ft_T ft_T_ok n_T hown hK hP (hD _) hS 6 rfl rfl 2 (by decide) (hT _ fl_T_15) (fun _ h9 => h9) rfl (by decide +kernel) rfl rfl (Nat.le_of_ble_eq_true rfl) d_T_tick_59 (fun H locs hP _ hS => ?_)
      have hP := kst (bw_p6_2 cA ad (kup (kup σ 5 6 ((σ 5 6) - (1 : Int32))) 5 4 (((kup σ 5 6 ((σ 5 6) - (1 : Int32))) 5 4) - (1 : Int32))) (((kup (kup σ 5 6 ((σ 5 6) - (1 : Int32))) 5 4 (((kup σ 5 6 ((σ 5 6) - (1 : Int32))) 5 4) - (1 : Int32))) 5 5) * (3 : Int32))) hP
      have e9 : (kup (kup (kup σ 5 6 ((σ 5 6) - (1 : Int32))) 5 4 (((kup σ 5 6 ((σ 5 6) - (1 : Int32))) 5 4) - (1 : Int32))) 5 6 (((kup (kup σ 5 6 ((σ 5 6) - (1 : Int32))) 5 4 (((kup σ 5 6 ((σ 5 6) - (1 : Int32))) 5 4) - (1 : Int32))) 5 5) * (3 : Int32))) = f_T_tick σ := by rw [f_T_tick, if_pos q1, if_pos q2]
      exact W.vret hx hb hr (fun t ht hW => ⟨rfl, by rw [ht, ← e9]; exact hP, hS.F ht⟩) hS.2.2 d_T_tick_62
    · refine lv_aload_n hx hb d_T_tick_35 rfl (lv_at hl 0 rfl) ?_
      refine lv_sipush (v := (255 : Int32)) hx hb d_T_tick_36 (by decide) ?_
      refine va_put (A := (kA 7 ad)) (D := D) (ci := 1) (v := .int (255 : Int32)) (ty := .int) (C := R_T) (T := F_T) (N := 4) hx hb hT in_T ft_T ft_T_ok n_T hown hK hP (hD _) hS 6 rfl rfl 0 (by decide) (hT _ fl_T_18) (fun _ h9 => h9) rfl (by decide +kernel) rfl rfl (Nat.le_of_ble_eq_true rfl) d_T_tick_39 (fun H locs hP _ hS => ?_)
      have hP := kst (bw_p6_0 cA ad (kup (kup σ 5 6 ((σ 5 6) - (1 : Int32))) 5 4 (((kup σ 5 6 ((σ 5 6) - (1 : Int32))) 5 4) - (1 : Int32))) (255 : Int32)) hP
      refine lv_aload_n hx hb d_T_tick_42 rfl (lv_at hl 0 rfl) ?_
      refine lv_iconst (v := (1 : Int32)) hx hb d_T_tick_43 (by decide) ?_
      refine va_put (A := (kA 7 ad)) (D := D) (ci := 1) (v := .int (1 : Int32)) (ty := .boolean) (C := R_T) (T := F_T) (N := 4) hx hb hT in_T ft_T ft_T_ok n_T hown hK hP (hD _) hS 6 rfl rfl 3 (by decide) (hT _ fl_T_21) (fun _ h9 => h9) rfl (by decide +kernel) (by decide) (by decide) (Nat.le_of_ble_eq_true rfl) d_T_tick_44 (fun H locs hP _ hS => ?_)
      have hP := kst (bw_p6_3 cA ad (kup (kup (kup σ 5 6 ((σ 5 6) - (1 : Int32))) 5 4 (((kup σ 5 6 ((σ 5 6) - (1 : Int32))) 5 4) - (1 : Int32))) 5 4 (255 : Int32)) (1 : Int32)) hP
      refine lv_aload_n hx hb d_T_tick_47 rfl (lv_at hl 0 rfl) ?_
      refine lv_iconst (v := (1 : Int32)) hx hb d_T_tick_48 (by decide) ?_
      refine va_put (A := (kA 7 ad)) (D := D) (ci := 1) (v := .int (1 : Int32)) (ty := .int) (C := R_T) (T := F_T) (N := 4) hx hb hT in_T ft_T ft_T_ok n_T hown hK hP (hD _) hS 6 rfl rfl 1 (by decide) (hT _ fl_T_9) (fun _ h9 => h9) rfl (by decide +kernel) rfl rfl (Nat.le_of_ble_eq_true rfl) d_T_tick_49 (fun H locs hP _ hS => ?_)
      have hP := kst (bw_p6_1 cA ad (kup (kup (kup (kup σ 5 6 ((σ 5 6) - (1 : Int32))) 5 4 (((kup σ 5 6 ((σ 5 6) - (1 : Int32))) 5 4) - (1 : Int32))) 5 4 (255 : Int32)) 5 7 (1 : Int32)) (1 : Int32)) hP
      refine lv_aload_n hx hb d_T_tick_52 rfl (lv_at hl 0 rfl) ?_
      refine lv_aload_n hx hb d_T_tick_53 rfl (lv_at hl 0 rfl) ?_
      refine va_get (D := D) (ci := 1) (v := .int (1 : Int32)) (C := R_T) (T := F_T) (N := 4) hx hb hT in_T hown hK hP 6 rfl rfl 1 (by decide) (hT _ fl_T_9) (fun _ h9 => h9) rfl d_T_tick_54 ?_
      refine lv_iconst (v := (3 : Int32)) hx hb d_T_tick_57 (by decide) ?_
      refine lv_imul hx hb d_T_tick_58 ?_
      refine va_put (A := (kA 7 ad)) (D := D) (ci := 1) (v := .int ((1 : Int32) * (3 : Int32))) (ty := .int) (C := R_T) (T := F_T) (N := 4) hx hb hT in_T ft_T ft_T_ok n_T hown hK hP (hD _) hS 6 rfl rfl 2 (by decide) (hT _ fl_T_15) (fun _ h9 => h9) rfl (by decide +kernel) rfl rfl (Nat.le_of_ble_eq_true rfl) d_T_tick_59 (fun H locs hP _ hS => ?_)
      have hP := kst (bw_p6_2 cA ad (kup (kup (kup (kup (kup σ 5 6 ((σ 5 6) - (1 : Int32))) 5 4 (((kup σ 5 6 ((σ 5 6) - (1 : Int32))) 5 4) - (1 : Int32))) 5 4 (255 : Int32)) 5 7 (1 : Int32)) 5 5 (1 : Int32)) ((1 : Int32) * (3 : Int32))) hP
      have e9 : (kup (kup (kup (kup (kup (kup σ 5 6 ((σ 5 6) - (1 : Int32))) 5 4 (((kup σ 5 6 ((σ 5 6) - (1 : Int32))) 5 4) - (1 : Int32))) 5 4 (255 : Int32)) 5 7 (1 : Int32)) 5 5 (1 : Int32)) 5 6 ((1 : Int32) * (3 : Int32))) = f_T_tick σ := by rw [f_T_tick, if_pos q1, if_neg q2]
      exact W.vret hx hb hr (fun t ht hW => ⟨rfl, by rw [ht, ← e9]; exact hP, hS.F ht⟩) hS.2.2 d_T_tick_62
  · have e9 : (kup σ 5 6 ((σ 5 6) - (1 : Int32))) = f_T_tick σ := by rw [f_T_tick, if_neg q1]
    exact W.vret hx hb hr (fun t ht hW => ⟨rfl, by rw [ht, ← e9]; exact hP, hS.F ht⟩) hS.2.2 d_T_tick_17

def f_B_stepClock (σ : Nat → Nat → Int32) : (Nat → Nat → Int32) := (if ((σ 5 1) + (1 : Int32)) = (228 : Int32) then (kup (kup (kup σ 5 1 ((σ 5 1) + (1 : Int32))) 5 1 (0 : Int32)) 5 2 (((kup (kup σ 5 1 ((σ 5 1) + (1 : Int32))) 5 1 (0 : Int32)) 5 2) + (1 : Int32))) else (kup σ 5 1 ((σ 5 1) + (1 : Int32))))

set_option maxRecDepth 100000 in
set_option maxHeartbeats 4000000 in
theorem c_B_stepClock (l : Launch) (D : va_G) (cA ad t : Nat → Nat) (hap : kap 7 ad) (σ : Nat → Nat → Int32) : Met l y_B_stepClock w_B_stepClock ({ frames := 0, cells := 0, slots := 0, locals := 0 } : Room) (va_Pc [.ref (ad 0)] (bPre D cA ad t σ)) (kQv D (bw cA ad (f_B_stepClock σ)) (kA 7 ad)) 0 0 (kA 7 ad) := by
  refine Met.ofW (cc := b_B_stepClock) (maxL := 1) (ret := none) (by decide) rfl ?_
  intro p e s m args below meth c s₁ B hml hv
  obtain ⟨rfl, hv⟩ := hv
  obtain ⟨hP, hK, hZ⟩ := hv
  have hx := B.exec
  have hb := B.bytes
  have hr := B.returns
  have hlocks := B.notSynchronized
  have hT : ∀ w ∈ TB, w.before ([.ref (ad 0)] : List Value).toArray s = true := fun w h => atoms_spec (ws := w_B_stepClock) B.pre w (List.mem_cons_of_mem _ h)
  have hown : s.vm.findClass R_B = some m.cls := findClass_of_methodNamed B.named
  have hS : va_S (kA 7 ad) s.heap s.heap [] := va_S.rf
  have hD : ∀ σ, va_D (kA 7 ad) (bw cA ad σ) := fun σ => kD hap rfl
  have hl := lv_entry ([.ref (ad 0)]) (n := 1) (Nat.le_of_ble_eq_true rfl)
  rw [lg_entry_eq]
  generalize (lg_sl ([.ref (ad 0)]) ++ List.replicate (1 - (lg_sl ([.ref (ad 0)])).length) Slot.unset).toArray = ls at hl ⊢
  have hl : lv_has ls 1 [(0, .ref (ad 0))] := hl
  refine lv_aload_n hx hb d_B_stepClock_0 rfl (lv_at hl 0 rfl) ?_
  refine lv_dup hx hb d_B_stepClock_1 rfl ?_
  refine va_get (D := D) (ci := 0) (v := .int (σ 5 1)) (C := R_B) (T := F_B) (N := 10) hx hb hT in_B hown hK hP 0 rfl rfl 7 (by decide) (hT _ fl_B_49) (fun _ h9 => h9) rfl d_B_stepClock_2 ?_
  refine lv_iconst (v := (1 : Int32)) hx hb d_B_stepClock_5 (by decide) ?_
  refine lv_iadd hx hb d_B_stepClock_6 ?_
  refine va_put (A := (kA 7 ad)) (D := D) (ci := 0) (v := .int ((σ 5 1) + (1 : Int32))) (ty := .int) (C := R_B) (T := F_B) (N := 10) hx hb hT in_B ft_B ft_B_ok n_B hown hK hP (hD _) hS 0 rfl rfl 7 (by decide) (hT _ fl_B_49) (fun _ h9 => h9) rfl (by decide +kernel) rfl rfl (Nat.le_of_ble_eq_true rfl) d_B_stepClock_7 (fun H locs hP _ hS => ?_)
  have hP := kst (bw_p0_7 cA ad σ ((σ 5 1) + (1 : Int32))) hP
  refine lv_aload_n hx hb d_B_stepClock_10 rfl (lv_at hl 0 rfl) ?_
  refine va_get (D := D) (ci := 0) (v := .int ((σ 5 1) + (1 : Int32))) (C := R_B) (T := F_B) (N := 10) hx hb hT in_B hown hK hP 0 rfl rfl 7 (by decide) (hT _ fl_B_49) (fun _ h9 => h9) rfl d_B_stepClock_11 ?_
  refine lv_sipush (v := (228 : Int32)) hx hb d_B_stepClock_14 (by decide) ?_
  refine lv_icmp_ne (tgt := 35) hx hb d_B_stepClock_17 (by decide) (fun q1 => ?_) (fun q1 => ?_)
  · have e9 : (kup σ 5 1 ((σ 5 1) + (1 : Int32))) = f_B_stepClock σ := by rw [f_B_stepClock, if_neg q1]
    exact W.vret hx hb hr (fun t ht hW => ⟨rfl, by rw [ht, ← e9]; exact hP, hS.F ht⟩) hS.2.2 d_B_stepClock_35
  · refine lv_aload_n hx hb d_B_stepClock_20 rfl (lv_at hl 0 rfl) ?_
    refine lv_iconst (v := (0 : Int32)) hx hb d_B_stepClock_21 (by decide) ?_
    refine va_put (A := (kA 7 ad)) (D := D) (ci := 0) (v := .int (0 : Int32)) (ty := .int) (C := R_B) (T := F_B) (N := 10) hx hb hT in_B ft_B ft_B_ok n_B hown hK hP (hD _) hS 0 rfl rfl 7 (by decide) (hT _ fl_B_49) (fun _ h9 => h9) rfl (by decide +kernel) rfl rfl (Nat.le_of_ble_eq_true rfl) d_B_stepClock_22 (fun H locs hP _ hS => ?_)
    have hP := kst (bw_p0_7 cA ad (kup σ 5 1 ((σ 5 1) + (1 : Int32))) (0 : Int32)) hP
    refine lv_aload_n hx hb d_B_stepClock_25 rfl (lv_at hl 0 rfl) ?_
    refine lv_dup hx hb d_B_stepClock_26 rfl ?_
    refine va_get (D := D) (ci := 0) (v := .int ((kup (kup σ 5 1 ((σ 5 1) + (1 : Int32))) 5 1 (0 : Int32)) 5 2)) (C := R_B) (T := F_B) (N := 10) hx hb hT in_B hown hK hP 0 rfl rfl 8 (by decide) (hT _ fl_B_73) (fun _ h9 => h9) rfl d_B_stepClock_27 ?_
    refine lv_iconst (v := (1 : Int32)) hx hb d_B_stepClock_30 (by decide) ?_
    refine lv_iadd hx hb d_B_stepClock_31 ?_
    refine va_put (A := (kA 7 ad)) (D := D) (ci := 0) (v := .int (((kup (kup σ 5 1 ((σ 5 1) + (1 : Int32))) 5 1 (0 : Int32)) 5 2) + (1 : Int32))) (ty := .int) (C := R_B) (T := F_B) (N := 10) hx hb hT in_B ft_B ft_B_ok n_B hown hK hP (hD _) hS 0 rfl rfl 8 (by decide) (hT _ fl_B_73) (fun _ h9 => h9) rfl (by decide +kernel) rfl rfl (Nat.le_of_ble_eq_true rfl) d_B_stepClock_32 (fun H locs hP _ hS => ?_)
    have hP := kst (bw_p0_8 cA ad (kup (kup σ 5 1 ((σ 5 1) + (1 : Int32))) 5 1 (0 : Int32)) (((kup (kup σ 5 1 ((σ 5 1) + (1 : Int32))) 5 1 (0 : Int32)) 5 2) + (1 : Int32))) hP
    have e9 : (kup (kup (kup σ 5 1 ((σ 5 1) + (1 : Int32))) 5 1 (0 : Int32)) 5 2 (((kup (kup σ 5 1 ((σ 5 1) + (1 : Int32))) 5 1 (0 : Int32)) 5 2) + (1 : Int32))) = f_B_stepClock σ := by rw [f_B_stepClock, if_pos q1]
    exact W.vret hx hb hr (fun t ht hW => ⟨rfl, by rw [ht, ← e9]; exact hP, hS.F ht⟩) hS.2.2 d_B_stepClock_35
end
section
def f_B_keepMeetings_lp2 (σ : Nat → Nat → Int32) (he : Int32) : Nat → Int32 → (Nat → Nat → Int32) → (Nat → Nat → Int32)
  | 0, i, σ1 => σ1
  | n + 1, i, σ1 => (if (he &&& ((1 : Int32) <<< (i &&& 31))) = 0 then (f_B_keepMeetings_lp2 σ he n (i + 1) σ1) else (f_B_keepMeetings_lp2 σ he n (i + 1) (kup σ1 4 (i).toNatClampNeg ((σ1 4 (i).toNatClampNeg) ||| (he &&& (((1 : Int32) <<< (i &&& 31)) ^^^ (-1 : Int32)))))))
theorem f_B_keepMeetings_lp2_z (σ : Nat → Nat → Int32) (he : Int32) (i : Int32) (σ1 : Nat → Nat → Int32) : f_B_keepMeetings_lp2 σ he 0 i σ1 = σ1 := rfl
theorem f_B_keepMeetings_lp2_s (σ : Nat → Nat → Int32) (he : Int32) (n : Nat) (i : Int32) (σ1 : Nat → Nat → Int32) : f_B_keepMeetings_lp2 σ he (n + 1) i σ1 = (if (he &&& ((1 : Int32) <<< (i &&& 31))) = 0 then (f_B_keepMeetings_lp2 σ he n (i + 1) σ1) else (f_B_keepMeetings_lp2 σ he n (i + 1) (kup σ1 4 (i).toNatClampNeg ((σ1 4 (i).toNatClampNeg) ||| (he &&& (((1 : Int32) <<< (i &&& 31)) ^^^ (-1 : Int32))))))) := rfl

def f_B_keepMeetings (σ : Nat → Nat → Int32) (he : Int32) : (Nat → Nat → Int32) := (f_B_keepMeetings_lp2 σ he 6 (0 : Int32) σ)

set_option maxRecDepth 100000 in
set_option maxHeartbeats 4000000 in
theorem c_B_keepMeetings (l : Launch) (D : va_G) (cA ad t : Nat → Nat) (hap : kap 7 ad) (σ : Nat → Nat → Int32) (he : Int32) : Met l y_B_keepMeetings w_B_keepMeetings ({ frames := 0, cells := 0, slots := 0, locals := 0 } : Room) (va_Pc [.ref (ad 0), .int he] (bPre D cA ad t σ)) (kQv D (bw cA ad (f_B_keepMeetings σ he)) (kA 7 ad)) 0 0 (kA 7 ad) := by
  refine Met.ofW (cc := b_B_keepMeetings) (maxL := 4) (ret := none) (by decide) rfl ?_
  intro p e s m args below meth c s₁ B hml hv
  obtain ⟨rfl, hv⟩ := hv
  obtain ⟨hP, hK, hZ⟩ := hv
  have hx := B.exec
  have hb := B.bytes
  have hr := B.returns
  have hlocks := B.notSynchronized
  have hT : ∀ w ∈ TB, w.before ([.ref (ad 0), .int he] : List Value).toArray s = true := fun w h => atoms_spec (ws := w_B_keepMeetings) B.pre w (List.mem_cons_of_mem _ h)
  have hown : s.vm.findClass R_B = some m.cls := findClass_of_methodNamed B.named
  have hS : va_S (kA 7 ad) s.heap s.heap [] := va_S.rf
  have hD : ∀ σ, va_D (kA 7 ad) (bw cA ad σ) := fun σ => kD hap rfl
  have hl := lv_entry ([.ref (ad 0), .int he]) (n := 4) (Nat.le_of_ble_eq_true rfl)
  rw [lg_entry_eq]
  generalize (lg_sl ([.ref (ad 0), .int he]) ++ List.replicate (4 - (lg_sl ([.ref (ad 0), .int he])).length) Slot.unset).toArray = ls at hl ⊢
  have hl : lv_has ls 4 [(0, .ref (ad 0)), (1, .int he)] := hl
  have loop2 : ∀ (n i : Nat) (σ1 : Nat → Nat → Int32) (H : Heap) (locs : List Loc) (ls : Array Slot), i + n = 6 → lv_has ls 4 [(2, .int (nI i)), (0, .ref (ad 0)), (1, .int he)] → va_P D classes (bw cA ad σ1) H → va_S (kA 7 ad) s.heap H locs → f_B_keepMeetings_lp2 σ he n (nI i) σ1 = f_B_keepMeetings σ he → W p l e (headSpec w_B_keepMeetings ({ frames := 0, cells := 0, slots := 0, locals := 0 } : Room)).room s m ([.ref (ad 0), .int he] : List Value).toArray below meth c H locs 0 0 (MQ below (kQv D (bw cA ad (f_B_keepMeetings σ he)) (kA 7 ad)) ([.ref (ad 0), .int he] : List Value).toArray s 0 0 (kA 7 ad)) (F0 m 2 ls []) := by
    intro n
    induction n with
    | zero =>
      intro i σ1 H locs ls hi hl hP hS hg
      refine lv_iload_n hx hb d_B_keepMeetings_2 rfl (lv_at hl 0 rfl) ?_
      refine lv_bipush (v := (6 : Int32)) hx hb d_B_keepMeetings_3 (by decide) ?_
      refine lv_icmp_ge (tgt := 38) hx hb d_B_keepMeetings_5 (by decide) (fun _ => ?_) (fun h9 => absurd (nI_le (a := 6) (b := i) (by omega) (by omega)) h9)
      have e9 : σ1 = f_B_keepMeetings σ he := by rw [← hg, f_B_keepMeetings_lp2_z]
      exact W.vret hx hb hr (fun t ht hW => ⟨rfl, by rw [ht, ← e9]; exact hP, hS.F ht⟩) hS.2.2 d_B_keepMeetings_38
    | succ n ih =>
      intro i σ1 H locs ls hi hl hP hS hg
      refine lv_iload_n hx hb d_B_keepMeetings_2 rfl (lv_at hl 0 rfl) ?_
      refine lv_bipush (v := (6 : Int32)) hx hb d_B_keepMeetings_3 (by decide) ?_
      refine lv_icmp_ge (tgt := 38) hx hb d_B_keepMeetings_5 (by decide) (fun h9 => absurd h9 (nI_ge (a := i) (b := 6) (by omega) (by decide))) (fun _ => ?_)
      refine lv_iconst (v := (1 : Int32)) hx hb d_B_keepMeetings_8 (by decide) ?_
      refine lv_iload_n hx hb d_B_keepMeetings_9 rfl (lv_at hl 0 rfl) ?_
      refine lv_ishl hx hb d_B_keepMeetings_10 ?_
      refine lv_istore_n (lv' := [(3, .int ((1 : Int32) <<< ((nI i) &&& 31))), (2, .int (nI i)), (0, .ref (ad 0)), (1, .int he)]) hx hb d_B_keepMeetings_11 rfl hl (by decide) rfl (fun ls hl => ?_)
      refine lv_iload_n hx hb d_B_keepMeetings_12 rfl (lv_at hl 3 rfl) ?_
      refine lv_iload_n hx hb d_B_keepMeetings_13 rfl (lv_at hl 0 rfl) ?_
      refine lv_iand hx hb d_B_keepMeetings_14 ?_
      refine lv_if_eq (tgt := 32) hx hb d_B_keepMeetings_15 (by decide) (fun q1 => ?_) (fun q1 => ?_)
      · refine lv_iinc (v := (nI (i + 1))) (lv' := [(2, .int (nI (i + 1))), (3, .int ((1 : Int32) <<< ((nI i) &&& 31))), (0, .ref (ad 0)), (1, .int he)]) hx hb d_B_keepMeetings_32 hl (k := 1) rfl (by rw [nI_succ]; rfl) (by decide) rfl (fun ls hl => ?_)
        refine lv_goto (tgt := 2) hx hb d_B_keepMeetings_35 (by decide) ?_
        exact ih (i + 1) σ1 H locs ls (by omega) (lv_sub hl [0, 2, 3] rfl) hP hS (by rw [← hg, f_B_keepMeetings_lp2_s, if_pos q1, nI_succ])
      · refine lv_aload_n hx hb d_B_keepMeetings_18 rfl (lv_at hl 2 rfl) ?_
        refine va_get (D := D) (ci := 0) (v := .ref (ad 5)) (C := R_B) (T := F_B) (N := 10) hx hb hT in_B hown hK hP 0 rfl rfl 4 (by decide) (hT _ fl_B_22) (fun _ h9 => h9) rfl d_B_keepMeetings_19 ?_
        refine lv_iload_n hx hb d_B_keepMeetings_22 rfl (lv_at hl 1 rfl) ?_
        refine lv_dup2_11 hx hb d_B_keepMeetings_23 rfl rfl ?_
        refine va_iald hx hb hK hP 5 0 rfl rfl (by first | assumption | exact kin (by decide) | exact vp_in_nI (by omega) (by decide)) d_B_keepMeetings_24 ?_
        refine lv_iload_n hx hb d_B_keepMeetings_25 rfl (lv_at hl 3 rfl) ?_
        refine lv_iload_n hx hb d_B_keepMeetings_26 rfl (lv_at hl 0 rfl) ?_
        refine lv_iconst (v := (-1 : Int32)) hx hb d_B_keepMeetings_27 (by decide) ?_
        refine lv_ixor hx hb d_B_keepMeetings_28 ?_
        refine lv_iand hx hb d_B_keepMeetings_29 ?_
        refine lv_ior hx hb d_B_keepMeetings_30 ?_
        refine va_iast (A := (kA 7 ad)) hx hb hK hP (hD _) hS 5 0 rfl rfl (by first | assumption | exact kin (by decide) | exact vp_in_nI (by omega) (by decide)) d_B_keepMeetings_31 (fun H locs hP _ hS => ?_)
        have hP := kst (bw_s5 cA ad σ1 ((nI i)).toNatClampNeg ((σ1 4 ((nI i)).toNatClampNeg) ||| (he &&& (((1 : Int32) <<< ((nI i) &&& 31)) ^^^ (-1 : Int32))))) hP
        refine lv_iinc (v := (nI (i + 1))) (lv' := [(2, .int (nI (i + 1))), (3, .int ((1 : Int32) <<< ((nI i) &&& 31))), (0, .ref (ad 0)), (1, .int he)]) hx hb d_B_keepMeetings_32 hl (k := 1) rfl (by rw [nI_succ]; rfl) (by decide) rfl (fun ls hl => ?_)
        refine lv_goto (tgt := 2) hx hb d_B_keepMeetings_35 (by decide) ?_
        exact ih (i + 1) (kup σ1 4 ((nI i)).toNatClampNeg ((σ1 4 ((nI i)).toNatClampNeg) ||| (he &&& (((1 : Int32) <<< ((nI i) &&& 31)) ^^^ (-1 : Int32))))) H locs ls (by omega) (lv_sub hl [0, 2, 3] rfl) hP hS (by rw [← hg, f_B_keepMeetings_lp2_s, if_neg q1, nI_succ])
  refine lv_iconst (v := (0 : Int32)) hx hb d_B_keepMeetings_0 (by decide) ?_
  refine lv_istore_n (lv' := [(2, .int (0 : Int32)), (0, .ref (ad 0)), (1, .int he)]) hx hb d_B_keepMeetings_1 rfl hl (by decide) rfl (fun ls hl => ?_)
  exact loop2 6 0 σ s.heap [] ls rfl (lv_sub hl [0, 1, 2] rfl) hP hS (by rw [f_B_keepMeetings]; rfl)

def f_B_draw_lp4 (σ : Nat → Nat → Int32) (x : Int32) : Nat → Int32 → Int32 → (Nat → Nat → Int32) → (Nat → Nat → Int32)
  | 0, i, acc, σ1 => (f_B_keepMeetings (kup σ1 3 (x).toNatClampNeg (f_B_colourAt σ1 x acc)) acc)
  | n + 1, i, acc, σ1 => (if (f_B_isAt σ1 i x) = 0 then (f_B_draw_lp4 σ x n (i + 1) acc σ1) else (f_B_draw_lp4 σ x n (i + 1) (acc ||| ((1 : Int32) <<< (i &&& 31))) σ1))
theorem f_B_draw_lp4_z (σ : Nat → Nat → Int32) (x : Int32) (i : Int32) (acc : Int32) (σ1 : Nat → Nat → Int32) : f_B_draw_lp4 σ x 0 i acc σ1 = (f_B_keepMeetings (kup σ1 3 (x).toNatClampNeg (f_B_colourAt σ1 x acc)) acc) := rfl
theorem f_B_draw_lp4_s (σ : Nat → Nat → Int32) (x : Int32) (n : Nat) (i : Int32) (acc : Int32) (σ1 : Nat → Nat → Int32) : f_B_draw_lp4 σ x (n + 1) i acc σ1 = (if (f_B_isAt σ1 i x) = 0 then (f_B_draw_lp4 σ x n (i + 1) acc σ1) else (f_B_draw_lp4 σ x n (i + 1) (acc ||| ((1 : Int32) <<< (i &&& 31))) σ1)) := rfl

def f_B_draw (σ : Nat → Nat → Int32) (x : Int32) : (Nat → Nat → Int32) := (f_B_draw_lp4 σ x 6 (0 : Int32) (0 : Int32) σ)

set_option maxRecDepth 100000 in
set_option maxHeartbeats 4000000 in
theorem c_B_draw (l : Launch) (D : va_G) (cA ad t : Nat → Nat) (hap : kap 7 ad) (σ : Nat → Nat → Int32) (x : Int32) (h1 : vp_in x 160) : Met l y_B_draw w_B_draw ({ frames := 4, cells := 0, slots := 0, locals := 92 } : Room) (va_Pc [.ref (ad 0), .int x] (bPre D cA ad t σ)) (kQv D (bw cA ad (f_B_draw σ x)) (kA 7 ad)) 0 0 (kA 7 ad) := by
  refine Met.ofW (cc := b_B_draw) (maxL := 4) (ret := none) (by decide) rfl ?_
  intro p e s m args below meth c s₁ B hml hv
  obtain ⟨rfl, hv⟩ := hv
  obtain ⟨hP, hK, hZ⟩ := hv
  have hx := B.exec
  have hb := B.bytes
  have hr := B.returns
  have hlocks := B.notSynchronized
  have hT : ∀ w ∈ TB, w.before ([.ref (ad 0), .int x] : List Value).toArray s = true := fun w h => atoms_spec (ws := w_B_draw) B.pre w (List.mem_cons_of_mem _ h)
  have hown : s.vm.findClass R_B = some m.cls := findClass_of_methodNamed B.named
  have hS : va_S (kA 7 ad) s.heap s.heap [] := va_S.rf
  have hD : ∀ σ, va_D (kA 7 ad) (bw cA ad σ) := fun σ => kD hap rfl
  have hl := lv_entry ([.ref (ad 0), .int x]) (n := 4) (Nat.le_of_ble_eq_true rfl)
  rw [lg_entry_eq]
  generalize (lg_sl ([.ref (ad 0), .int x]) ++ List.replicate (4 - (lg_sl ([.ref (ad 0), .int x])).length) Slot.unset).toArray = ls at hl ⊢
  have hl : lv_has ls 4 [(0, .ref (ad 0)), (1, .int x)] := hl
  have loop4 : ∀ (n i : Nat) (acc : Int32) (σ1 : Nat → Nat → Int32) (H : Heap) (locs : List Loc) (ls : Array Slot), i + n = 6 → lv_has ls 4 [(3, .int (nI i)), (2, .int acc), (0, .ref (ad 0)), (1, .int x)] → va_P D classes (bw cA ad σ1) H → va_S (kA 7 ad) s.heap H locs → f_B_draw_lp4 σ x n (nI i) acc σ1 = f_B_draw σ x → W p l e (headSpec w_B_draw ({ frames := 4, cells := 0, slots := 0, locals := 92 } : Room)).room s m ([.ref (ad 0), .int x] : List Value).toArray below meth c H locs 0 0 (MQ below (kQv D (bw cA ad (f_B_draw σ x)) (kA 7 ad)) ([.ref (ad 0), .int x] : List Value).toArray s 0 0 (kA 7 ad)) (F0 m 4 ls []) := by
    intro n
    induction n with
    | zero =>
      intro i acc σ1 H locs ls hi hl hP hS hg
      refine lv_iload_n hx hb d_B_draw_4 rfl (lv_at hl 0 rfl) ?_
      refine lv_bipush (v := (6 : Int32)) hx hb d_B_draw_5 (by decide) ?_
      refine lv_icmp_ge (tgt := 31) hx hb d_B_draw_7 (by decide) (fun _ => ?_) (fun h9 => absurd (nI_le (a := 6) (b := i) (by omega) (by omega)) h9)
      refine lv_aload_n hx hb d_B_draw_31 rfl (lv_at hl 2 rfl) ?_
      refine va_get (D := D) (ci := 0) (v := .ref (ad 4)) (C := R_B) (T := F_B) (N := 10) hx hb hT in_B hown hK hP 0 rfl rfl 3 (by decide) (hT _ fl_B_19) (fun _ h9 => h9) rfl d_B_draw_32 ?_
      refine lv_iload_n hx hb d_B_draw_35 rfl (lv_at hl 3 rfl) ?_
      refine lv_aload_n hx hb d_B_draw_36 rfl (lv_at hl 2 rfl) ?_
      refine lv_iload_n hx hb d_B_draw_37 rfl (lv_at hl 3 rfl) ?_
      refine lv_iload_n hx hb d_B_draw_38 rfl (lv_at hl 1 rfl) ?_
      refine vp_callSi (va_Run.run (va_runV (As := [.int x, .int acc]) (rest := [.int x, .ref (ad 4)]) ⟨hx, hb, hml, hown, hT⟩ (c_B_colourAt l D cA ad t hap σ1 x acc) (kCV 2 hT ml_B_136 mi_B_colourAt ⟨Nat.le_of_ble_eq_true rfl, Nat.le_of_ble_eq_true rfl⟩) (bpreV hK hP hZ hS) rfl rfl hl.1 rfl (lv_room (Nat.le_of_ble_eq_true rfl)) d_B_draw_39 ⟨Nat.le_of_ble_eq_true rfl, Nat.le_of_ble_eq_true rfl⟩)) (fun r9 e9 => ?_)
      subst e9
      refine va_iast (A := (kA 7 ad)) hx hb hK hP (hD _) hS 4 0 rfl rfl (by first | assumption | exact kin (by decide) | exact vp_in_nI (by omega) (by decide)) d_B_draw_42 (fun H locs hP _ hS => ?_)
      have hP := kst (bw_s4 cA ad σ1 (x).toNatClampNeg (f_B_colourAt σ1 x acc)) hP
      refine lv_aload_n hx hb d_B_draw_43 rfl (lv_at hl 2 rfl) ?_
      refine lv_iload_n hx hb d_B_draw_44 rfl (lv_at hl 1 rfl) ?_
      refine kcv (va_runV (As := [.int acc]) (rest := []) ⟨hx, hb, hml, hown, hT⟩ (c_B_keepMeetings l D cA ad t hap (kup σ1 3 (x).toNatClampNeg (f_B_colourAt σ1 x acc)) acc) (kCV 1 hT ml_B_139 mi_B_keepMeetings ⟨Nat.le_of_ble_eq_true rfl, Nat.le_of_ble_eq_true rfl⟩) (bpreV hK hP hZ hS) rfl rfl hl.1 rfl (lv_room (Nat.le_of_ble_eq_true rfl)) d_B_draw_45 ⟨Nat.le_of_ble_eq_true rfl, Nat.le_of_ble_eq_true rfl⟩) hS (fun H locs hP hS => ?_)
      have e9 : (f_B_keepMeetings (kup σ1 3 (x).toNatClampNeg (f_B_colourAt σ1 x acc)) acc) = f_B_draw σ x := by rw [← hg, f_B_draw_lp4_z]
      exact W.vret hx hb hr (fun t ht hW => ⟨rfl, by rw [ht, ← e9]; exact hP, hS.F ht⟩) hS.2.2 d_B_draw_48
    | succ n ih =>
      intro i acc σ1 H locs ls hi hl hP hS hg
      refine lv_iload_n hx hb d_B_draw_4 rfl (lv_at hl 0 rfl) ?_
      refine lv_bipush (v := (6 : Int32)) hx hb d_B_draw_5 (by decide) ?_
      refine lv_icmp_ge (tgt := 31) hx hb d_B_draw_7 (by decide) (fun h9 => absurd h9 (nI_ge (a := i) (b := 6) (by omega) (by decide))) (fun _ => ?_)
      refine lv_aload_n hx hb d_B_draw_10 rfl (lv_at hl 2 rfl) ?_
      refine lv_iload_n hx hb d_B_draw_11 rfl (lv_at hl 0 rfl) ?_
      refine lv_iload_n hx hb d_B_draw_12 rfl (lv_at hl 3 rfl) ?_
      refine vp_callSi (va_Run.run (va_runV (As := [.int (nI i), .int x]) (rest := []) ⟨hx, hb, hml, hown, hT⟩ (c_B_isAt l D cA ad t hap σ1 (nI i) x (by first | assumption | exact kin (by decide) | exact vp_in_nI (by omega) (by decide))) (kCV 2 hT ml_B_60 mi_B_isAt ⟨Nat.le_of_ble_eq_true rfl, Nat.le_of_ble_eq_true rfl⟩) (bpreV hK hP hZ hS) rfl rfl hl.1 rfl (lv_room (Nat.le_of_ble_eq_true rfl)) d_B_draw_13 ⟨Nat.le_of_ble_eq_true rfl, Nat.le_of_ble_eq_true rfl⟩)) (fun r9 e9 => ?_)
      subst e9
      refine lv_if_eq (tgt := 25) hx hb d_B_draw_16 (by decide) (fun q1 => ?_) (fun q1 => ?_)
      · refine lv_iinc (v := (nI (i + 1))) (lv' := [(3, .int (nI (i + 1))), (2, .int acc), (0, .ref (ad 0)), (1, .int x)]) hx hb d_B_draw_25 hl (k := 0) rfl (by rw [nI_succ]; rfl) (by decide) rfl (fun ls hl => ?_)
        refine lv_goto (tgt := 4) hx hb d_B_draw_28 (by decide) ?_
        exact ih (i + 1) acc σ1 H locs ls (by omega) (lv_sub hl [0, 1, 2, 3] rfl) hP hS (by rw [← hg, f_B_draw_lp4_s, if_pos q1, nI_succ])
      · refine lv_iload_n hx hb d_B_draw_19 rfl (lv_at hl 1 rfl) ?_
        refine lv_iconst (v := (1 : Int32)) hx hb d_B_draw_20 (by decide) ?_
        refine lv_iload_n hx hb d_B_draw_21 rfl (lv_at hl 0 rfl) ?_
        refine lv_ishl hx hb d_B_draw_22 ?_
        refine lv_ior hx hb d_B_draw_23 ?_
        refine lv_istore_n (lv' := [(2, .int (acc ||| ((1 : Int32) <<< ((nI i) &&& 31)))), (3, .int (nI i)), (0, .ref (ad 0)), (1, .int x)]) hx hb d_B_draw_24 rfl hl (by decide) rfl (fun ls hl => ?_)
        refine lv_iinc (v := (nI (i + 1))) (lv' := [(3, .int (nI (i + 1))), (2, .int (acc ||| ((1 : Int32) <<< ((nI i) &&& 31)))), (0, .ref (ad 0)), (1, .int x)]) hx hb d_B_draw_25 hl (k := 1) rfl (by rw [nI_succ]; rfl) (by decide) rfl (fun ls hl => ?_)
        refine lv_goto (tgt := 4) hx hb d_B_draw_28 (by decide) ?_
        exact ih (i + 1) (acc ||| ((1 : Int32) <<< ((nI i) &&& 31))) σ1 H locs ls (by omega) (lv_sub hl [0, 1, 2, 3] rfl) hP hS (by rw [← hg, f_B_draw_lp4_s, if_neg q1, nI_succ])
  refine lv_iconst (v := (0 : Int32)) hx hb d_B_draw_0 (by decide) ?_
  refine lv_istore_n (lv' := [(2, .int (0 : Int32)), (0, .ref (ad 0)), (1, .int x)]) hx hb d_B_draw_1 rfl hl (by decide) rfl (fun ls hl => ?_)
  refine lv_iconst (v := (0 : Int32)) hx hb d_B_draw_2 (by decide) ?_
  refine lv_istore_n (lv' := [(3, .int (0 : Int32)), (2, .int (0 : Int32)), (0, .ref (ad 0)), (1, .int x)]) hx hb d_B_draw_3 rfl hl (by decide) rfl (fun ls hl => ?_)
  exact loop4 6 0 (0 : Int32) σ s.heap [] ls rfl (lv_sub hl [0, 1, 2, 3] rfl) hP hS (by rw [f_B_draw]; rfl)
end
section
theorem kup_ne {σ : Nat → Nat → Int32} {k j a : Nat} {v : Int32} (h : a ≠ k) : kup σ k j v a = σ a := if_neg h
theorem kup_eq {σ : Nat → Nat → Int32} {k j : Nat} {v : Int32} : kup σ k j v k = upd (σ k) j v := if_pos rfl
theorem kkeep (σ : Nat → Nat → Int32) (he : Int32) (n : Nat) (a : Nat) (h : a ≠ 4) : ∀ (i : Int32) (σ1 : Nat → Nat → Int32), f_B_keepMeetings_lp2 σ he n i σ1 a = σ1 a := by
  induction n with
  | zero => intro i σ1; rw [f_B_keepMeetings_lp2_z]
  | succ n ih =>
    intro i σ1
    rw [f_B_keepMeetings_lp2_s]
    split
    · rw [ih]
    · rw [ih, kup_ne h]
theorem kdraw_lp (σ : Nat → Nat → Int32) (x : Int32) (n : Nat) (a : Nat) (h3 : a ≠ 3) (h4 : a ≠ 4) : ∀ (i acc : Int32) (σ1 : Nat → Nat → Int32), f_B_draw_lp4 σ x n i acc σ1 a = σ1 a := by
  induction n with
  | zero => intro i acc σ1; rw [f_B_draw_lp4_z, f_B_keepMeetings, kkeep _ _ _ _ h4, kup_ne h3]
  | succ n ih =>
    intro i acc σ1
    rw [f_B_draw_lp4_s]
    split <;> exact ih _ _ _
theorem kdraw5 (σ : Nat → Nat → Int32) (x : Int32) : f_B_draw σ x 5 = σ 5 := by rw [f_B_draw, kdraw_lp _ _ _ _ (by decide) (by decide)]
theorem ktick1 (X : Nat → Nat → Int32) : f_T_tick X 5 1 = X 5 1 := by
  rw [f_T_tick]
  repeat' split
  all_goals rfl
theorem kClk_run {σ1 X : Nat → Nat → Int32} (hk : kClk σ1) (hX : X 5 1 = σ1 5 1) : kClk (f_B_stepClock (f_T_tick X)) := by
  have h1 : vp_in (f_T_tick X 5 1) 228 := by rw [ktick1, hX]; exact hk
  unfold kClk
  rw [f_B_stepClock]
  split
  · exact kin (i := 0) (by decide)
  · exact k228 h1 (by assumption)
def f_B_run_lp2 (σ : Nat → Nat → Int32) (N : Nat) : Nat → Int32 → (Nat → Nat → Int32) → (Nat → Nat → Int32)
  | 0, i, σ1 => σ1
  | n + 1, i, σ1 => (if (σ1 5 1) < (68 : Int32) then (f_B_run_lp2 σ N n (i + 1) (f_B_stepClock (f_T_tick σ1))) else (if (228 : Int32) ≤ i then (f_B_run_lp2 σ N n (i + 1) (f_B_stepClock (f_T_tick (kup σ1 5 3 ((σ1 5 3) + (1 : Int32)))))) else (f_B_run_lp2 σ N n (i + 1) (f_B_stepClock (f_T_tick (kup (f_B_draw σ1 ((σ1 5 1) - (68 : Int32))) 5 3 (((f_B_draw σ1 ((σ1 5 1) - (68 : Int32))) 5 3) + (1 : Int32))))))))
theorem f_B_run_lp2_z (σ : Nat → Nat → Int32) (N : Nat) (i : Int32) (σ1 : Nat → Nat → Int32) : f_B_run_lp2 σ N 0 i σ1 = σ1 := rfl
theorem f_B_run_lp2_s (σ : Nat → Nat → Int32) (N : Nat) (n : Nat) (i : Int32) (σ1 : Nat → Nat → Int32) : f_B_run_lp2 σ N (n + 1) i σ1 = (if (σ1 5 1) < (68 : Int32) then (f_B_run_lp2 σ N n (i + 1) (f_B_stepClock (f_T_tick σ1))) else (if (228 : Int32) ≤ i then (f_B_run_lp2 σ N n (i + 1) (f_B_stepClock (f_T_tick (kup σ1 5 3 ((σ1 5 3) + (1 : Int32)))))) else (f_B_run_lp2 σ N n (i + 1) (f_B_stepClock (f_T_tick (kup (f_B_draw σ1 ((σ1 5 1) - (68 : Int32))) 5 3 (((f_B_draw σ1 ((σ1 5 1) - (68 : Int32))) 5 3) + (1 : Int32)))))))) := rfl

def f_B_run (σ : Nat → Nat → Int32) (N : Nat) : (Nat → Nat → Int32) := (f_B_run_lp2 σ N N (0 : Int32) σ)

set_option maxRecDepth 100000 in
set_option maxHeartbeats 4000000 in
theorem c_B_run (l : Launch) (D : va_G) (cA ad t : Nat → Nat) (hap : kap 7 ad) (σ : Nat → Nat → Int32) (N : Nat) (hN : N < 2 ^ 31) (h0 : kClk σ) : Met l y_B_run w_B_run ({ frames := 5, cells := 0, slots := 0, locals := 115 } : Room) (va_Pc [.ref (ad 0), .int (nI N)] (bPre D cA ad t σ)) (kQv D (bw cA ad (f_B_run σ N)) (kA 7 ad)) 0 0 (kA 7 ad) := by
  refine Met.ofW (cc := b_B_run) (maxL := 3) (ret := none) (by decide) rfl ?_
  intro p e s m args below meth c s₁ B hml hv
  obtain ⟨rfl, hv⟩ := hv
  obtain ⟨hP, hK, hZ⟩ := hv
  have hx := B.exec
  have hb := B.bytes
  have hr := B.returns
  have hlocks := B.notSynchronized
  have hT : ∀ w ∈ TB, w.before ([.ref (ad 0), .int (nI N)] : List Value).toArray s = true := fun w h => atoms_spec (ws := w_B_run) B.pre w (List.mem_cons_of_mem _ h)
  have hown : s.vm.findClass R_B = some m.cls := findClass_of_methodNamed B.named
  have hS : va_S (kA 7 ad) s.heap s.heap [] := va_S.rf
  have hD : ∀ σ, va_D (kA 7 ad) (bw cA ad σ) := fun σ => kD hap rfl
  have hl := lv_entry ([.ref (ad 0), .int (nI N)]) (n := 3) (Nat.le_of_ble_eq_true rfl)
  rw [lg_entry_eq]
  generalize (lg_sl ([.ref (ad 0), .int (nI N)]) ++ List.replicate (3 - (lg_sl ([.ref (ad 0), .int (nI N)])).length) Slot.unset).toArray = ls at hl ⊢
  have hl : lv_has ls 3 [(0, .ref (ad 0)), (1, .int (nI N))] := hl
  have loop2 : ∀ (n i : Nat) (σ1 : Nat → Nat → Int32) (H : Heap) (locs : List Loc) (ls : Array Slot), i + n = N → lv_has ls 3 [(2, .int (nI i)), (0, .ref (ad 0)), (1, .int (nI N))] → va_P D classes (bw cA ad σ1) H → va_S (kA 7 ad) s.heap H locs → kClk σ1 → f_B_run_lp2 σ N n (nI i) σ1 = f_B_run σ N → W p l e (headSpec w_B_run ({ frames := 5, cells := 0, slots := 0, locals := 115 } : Room)).room s m ([.ref (ad 0), .int (nI N)] : List Value).toArray below meth c H locs 0 0 (MQ below (kQv D (bw cA ad (f_B_run σ N)) (kA 7 ad)) ([.ref (ad 0), .int (nI N)] : List Value).toArray s 0 0 (kA 7 ad)) (F0 m 2 ls []) := by
    intro n
    induction n with
    | zero =>
      intro i σ1 H locs ls hi hl hP hS hk hg
      refine lv_iload_n hx hb d_B_run_2 rfl (lv_at hl 0 rfl) ?_
      refine lv_iload_n hx hb d_B_run_3 rfl (lv_at hl 2 rfl) ?_
      refine lv_icmp_ge (tgt := 61) hx hb d_B_run_4 (by decide) (fun _ => ?_) (fun h9 => absurd (nI_le (a := N) (b := i) (by omega) (by omega)) h9)
      have e9 : σ1 = f_B_run σ N := by rw [← hg, f_B_run_lp2_z]
      exact W.vret hx hb hr (fun t ht hW => ⟨rfl, by rw [ht, ← e9]; exact hP, hS.F ht⟩) hS.2.2 d_B_run_61
    | succ n ih =>
      intro i σ1 H locs ls hi hl hP hS hk hg
      refine lv_iload_n hx hb d_B_run_2 rfl (lv_at hl 0 rfl) ?_
      refine lv_iload_n hx hb d_B_run_3 rfl (lv_at hl 2 rfl) ?_
      refine lv_icmp_ge (tgt := 61) hx hb d_B_run_4 (by decide) (fun h9 => absurd h9 (nI_ge (a := i) (b := N) (by omega) hN)) (fun _ => ?_)
      refine lv_aload_n hx hb d_B_run_7 rfl (lv_at hl 1 rfl) ?_
      refine va_get (D := D) (ci := 0) (v := .int (σ1 5 1)) (C := R_B) (T := F_B) (N := 10) hx hb hT in_B hown hK hP 0 rfl rfl 7 (by decide) (hT _ fl_B_49) (fun _ h9 => h9) rfl d_B_run_8 ?_
      refine lv_bipush (v := (68 : Int32)) hx hb d_B_run_11 (by decide) ?_
      refine lv_icmp_lt (tgt := 44) hx hb d_B_run_13 (by decide) (fun q1 => ?_) (fun q1 => ?_)
      · refine lv_aload_n hx hb d_B_run_44 rfl (lv_at hl 1 rfl) ?_
        refine va_get (D := D) (ci := 0) (v := .ref (ad 6)) (C := R_B) (T := F_B) (N := 10) hx hb hT in_B hown hK hP 0 rfl rfl 5 (by decide) (hT _ fl_B_28) (fun _ h9 => h9) rfl d_B_run_45 ?_
        refine kcv (va_runVN (As := []) (rest := []) ⟨hx, hb, hml, hown, hT⟩ (c_T_tick l D cA ad t hap σ1) (kCN 0 hT ml_B_130 mi_T_tick ⟨Nat.le_of_ble_eq_true rfl, Nat.le_of_ble_eq_true rfl⟩) (bpreT hK hP hZ hS) rfl rfl hl.1 rfl (lv_room (Nat.le_of_ble_eq_true rfl)) d_B_run_48 ⟨Nat.le_of_ble_eq_true rfl, Nat.le_of_ble_eq_true rfl⟩) hS (fun H locs hP hS => ?_)
        refine lv_aload_n hx hb d_B_run_51 rfl (lv_at hl 1 rfl) ?_
        refine kcv (va_runV (As := []) (rest := []) ⟨hx, hb, hml, hown, hT⟩ (c_B_stepClock l D cA ad t hap (f_T_tick σ1)) (kCV 0 hT ml_B_133 mi_B_stepClock ⟨Nat.le_of_ble_eq_true rfl, Nat.le_of_ble_eq_true rfl⟩) (bpreV hK hP hZ hS) rfl rfl hl.1 rfl (lv_room (Nat.le_of_ble_eq_true rfl)) d_B_run_52 ⟨Nat.le_of_ble_eq_true rfl, Nat.le_of_ble_eq_true rfl⟩) hS (fun H locs hP hS => ?_)
        refine lv_iinc (v := (nI (i + 1))) (lv' := [(2, .int (nI (i + 1))), (0, .ref (ad 0)), (1, .int (nI N))]) hx hb d_B_run_55 hl (k := 0) rfl (by rw [nI_succ]; rfl) (by decide) rfl (fun ls hl => ?_)
        refine lv_goto (tgt := 2) hx hb d_B_run_58 (by decide) ?_
        exact ih (i + 1) (f_B_stepClock (f_T_tick σ1)) H locs ls (by omega) (lv_sub hl [0, 1, 2] rfl) hP hS (kClk_run hk (by first | rfl | exact congrFun (kdraw5 ..) 1)) (by rw [← hg, f_B_run_lp2_s, if_pos q1, nI_succ])
      · refine lv_iload_n hx hb d_B_run_16 rfl (lv_at hl 0 rfl) ?_
        refine lv_sipush (v := (228 : Int32)) hx hb d_B_run_17 (by decide) ?_
        refine lv_icmp_ge (tgt := 34) hx hb d_B_run_20 (by decide) (fun q2 => ?_) (fun q2 => ?_)
        · refine lv_aload_n hx hb d_B_run_34 rfl (lv_at hl 1 rfl) ?_
          refine lv_dup hx hb d_B_run_35 rfl ?_
          refine va_get (D := D) (ci := 0) (v := .int (σ1 5 3)) (C := R_B) (T := F_B) (N := 10) hx hb hT in_B hown hK hP 0 rfl rfl 9 (by decide) (hT _ fl_B_84) (fun _ h9 => h9) rfl d_B_run_36 ?_
          refine lv_iconst (v := (1 : Int32)) hx hb d_B_run_39 (by decide) ?_
          refine lv_iadd hx hb d_B_run_40 ?_
          refine va_put (A := (kA 7 ad)) (D := D) (ci := 0) (v := .int ((σ1 5 3) + (1 : Int32))) (ty := .int) (C := R_B) (T := F_B) (N := 10) hx hb hT in_B ft_B ft_B_ok n_B hown hK hP (hD _) hS 0 rfl rfl 9 (by decide) (hT _ fl_B_84) (fun _ h9 => h9) rfl (by decide +kernel) rfl rfl (Nat.le_of_ble_eq_true rfl) d_B_run_41 (fun H locs hP _ hS => ?_)
          have hP := kst (bw_p0_9 cA ad σ1 ((σ1 5 3) + (1 : Int32))) hP
          refine lv_aload_n hx hb d_B_run_44 rfl (lv_at hl 1 rfl) ?_
          refine va_get (D := D) (ci := 0) (v := .ref (ad 6)) (C := R_B) (T := F_B) (N := 10) hx hb hT in_B hown hK hP 0 rfl rfl 5 (by decide) (hT _ fl_B_28) (fun _ h9 => h9) rfl d_B_run_45 ?_
          refine kcv (va_runVN (As := []) (rest := []) ⟨hx, hb, hml, hown, hT⟩ (c_T_tick l D cA ad t hap (kup σ1 5 3 ((σ1 5 3) + (1 : Int32)))) (kCN 0 hT ml_B_130 mi_T_tick ⟨Nat.le_of_ble_eq_true rfl, Nat.le_of_ble_eq_true rfl⟩) (bpreT hK hP hZ hS) rfl rfl hl.1 rfl (lv_room (Nat.le_of_ble_eq_true rfl)) d_B_run_48 ⟨Nat.le_of_ble_eq_true rfl, Nat.le_of_ble_eq_true rfl⟩) hS (fun H locs hP hS => ?_)
          refine lv_aload_n hx hb d_B_run_51 rfl (lv_at hl 1 rfl) ?_
          refine kcv (va_runV (As := []) (rest := []) ⟨hx, hb, hml, hown, hT⟩ (c_B_stepClock l D cA ad t hap (f_T_tick (kup σ1 5 3 ((σ1 5 3) + (1 : Int32))))) (kCV 0 hT ml_B_133 mi_B_stepClock ⟨Nat.le_of_ble_eq_true rfl, Nat.le_of_ble_eq_true rfl⟩) (bpreV hK hP hZ hS) rfl rfl hl.1 rfl (lv_room (Nat.le_of_ble_eq_true rfl)) d_B_run_52 ⟨Nat.le_of_ble_eq_true rfl, Nat.le_of_ble_eq_true rfl⟩) hS (fun H locs hP hS => ?_)
          refine lv_iinc (v := (nI (i + 1))) (lv' := [(2, .int (nI (i + 1))), (0, .ref (ad 0)), (1, .int (nI N))]) hx hb d_B_run_55 hl (k := 0) rfl (by rw [nI_succ]; rfl) (by decide) rfl (fun ls hl => ?_)
          refine lv_goto (tgt := 2) hx hb d_B_run_58 (by decide) ?_
          exact ih (i + 1) (f_B_stepClock (f_T_tick (kup σ1 5 3 ((σ1 5 3) + (1 : Int32))))) H locs ls (by omega) (lv_sub hl [0, 1, 2] rfl) hP hS (kClk_run hk (by first | rfl | exact congrFun (kdraw5 ..) 1)) (by rw [← hg, f_B_run_lp2_s, if_neg q1, if_pos q2, nI_succ])
        · refine lv_aload_n hx hb d_B_run_23 rfl (lv_at hl 1 rfl) ?_
          refine lv_aload_n hx hb d_B_run_24 rfl (lv_at hl 1 rfl) ?_
          refine va_get (D := D) (ci := 0) (v := .int (σ1 5 1)) (C := R_B) (T := F_B) (N := 10) hx hb hT in_B hown hK hP 0 rfl rfl 7 (by decide) (hT _ fl_B_49) (fun _ h9 => h9) rfl d_B_run_25 ?_
          refine lv_bipush (v := (68 : Int32)) hx hb d_B_run_28 (by decide) ?_
          refine lv_isub hx hb d_B_run_30 ?_
          refine kcv (va_runV (As := [.int ((σ1 5 1) - (68 : Int32))]) (rest := []) ⟨hx, hb, hml, hown, hT⟩ (c_B_draw l D cA ad t hap σ1 ((σ1 5 1) - (68 : Int32)) (by first | assumption | exact kin (by decide) | exact kClk_x hk (by assumption))) (kCV 1 hT ml_B_127 mi_B_draw ⟨Nat.le_of_ble_eq_true rfl, Nat.le_of_ble_eq_true rfl⟩) (bpreV hK hP hZ hS) rfl rfl hl.1 rfl (lv_room (Nat.le_of_ble_eq_true rfl)) d_B_run_31 ⟨Nat.le_of_ble_eq_true rfl, Nat.le_of_ble_eq_true rfl⟩) hS (fun H locs hP hS => ?_)
          refine lv_aload_n hx hb d_B_run_34 rfl (lv_at hl 1 rfl) ?_
          refine lv_dup hx hb d_B_run_35 rfl ?_
          refine va_get (D := D) (ci := 0) (v := .int ((f_B_draw σ1 ((σ1 5 1) - (68 : Int32))) 5 3)) (C := R_B) (T := F_B) (N := 10) hx hb hT in_B hown hK hP 0 rfl rfl 9 (by decide) (hT _ fl_B_84) (fun _ h9 => h9) rfl d_B_run_36 ?_
          refine lv_iconst (v := (1 : Int32)) hx hb d_B_run_39 (by decide) ?_
          refine lv_iadd hx hb d_B_run_40 ?_
          refine va_put (A := (kA 7 ad)) (D := D) (ci := 0) (v := .int (((f_B_draw σ1 ((σ1 5 1) - (68 : Int32))) 5 3) + (1 : Int32))) (ty := .int) (C := R_B) (T := F_B) (N := 10) hx hb hT in_B ft_B ft_B_ok n_B hown hK hP (hD _) hS 0 rfl rfl 9 (by decide) (hT _ fl_B_84) (fun _ h9 => h9) rfl (by decide +kernel) rfl rfl (Nat.le_of_ble_eq_true rfl) d_B_run_41 (fun H locs hP _ hS => ?_)
          have hP := kst (bw_p0_9 cA ad (f_B_draw σ1 ((σ1 5 1) - (68 : Int32))) (((f_B_draw σ1 ((σ1 5 1) - (68 : Int32))) 5 3) + (1 : Int32))) hP
          refine lv_aload_n hx hb d_B_run_44 rfl (lv_at hl 1 rfl) ?_
          refine va_get (D := D) (ci := 0) (v := .ref (ad 6)) (C := R_B) (T := F_B) (N := 10) hx hb hT in_B hown hK hP 0 rfl rfl 5 (by decide) (hT _ fl_B_28) (fun _ h9 => h9) rfl d_B_run_45 ?_
          refine kcv (va_runVN (As := []) (rest := []) ⟨hx, hb, hml, hown, hT⟩ (c_T_tick l D cA ad t hap (kup (f_B_draw σ1 ((σ1 5 1) - (68 : Int32))) 5 3 (((f_B_draw σ1 ((σ1 5 1) - (68 : Int32))) 5 3) + (1 : Int32)))) (kCN 0 hT ml_B_130 mi_T_tick ⟨Nat.le_of_ble_eq_true rfl, Nat.le_of_ble_eq_true rfl⟩) (bpreT hK hP hZ hS) rfl rfl hl.1 rfl (lv_room (Nat.le_of_ble_eq_true rfl)) d_B_run_48 ⟨Nat.le_of_ble_eq_true rfl, Nat.le_of_ble_eq_true rfl⟩) hS (fun H locs hP hS => ?_)
          refine lv_aload_n hx hb d_B_run_51 rfl (lv_at hl 1 rfl) ?_
          refine kcv (va_runV (As := []) (rest := []) ⟨hx, hb, hml, hown, hT⟩ (c_B_stepClock l D cA ad t hap (f_T_tick (kup (f_B_draw σ1 ((σ1 5 1) - (68 : Int32))) 5 3 (((f_B_draw σ1 ((σ1 5 1) - (68 : Int32))) 5 3) + (1 : Int32))))) (kCV 0 hT ml_B_133 mi_B_stepClock ⟨Nat.le_of_ble_eq_true rfl, Nat.le_of_ble_eq_true rfl⟩) (bpreV hK hP hZ hS) rfl rfl hl.1 rfl (lv_room (Nat.le_of_ble_eq_true rfl)) d_B_run_52 ⟨Nat.le_of_ble_eq_true rfl, Nat.le_of_ble_eq_true rfl⟩) hS (fun H locs hP hS => ?_)
          refine lv_iinc (v := (nI (i + 1))) (lv' := [(2, .int (nI (i + 1))), (0, .ref (ad 0)), (1, .int (nI N))]) hx hb d_B_run_55 hl (k := 0) rfl (by rw [nI_succ]; rfl) (by decide) rfl (fun ls hl => ?_)
          refine lv_goto (tgt := 2) hx hb d_B_run_58 (by decide) ?_
          exact ih (i + 1) (f_B_stepClock (f_T_tick (kup (f_B_draw σ1 ((σ1 5 1) - (68 : Int32))) 5 3 (((f_B_draw σ1 ((σ1 5 1) - (68 : Int32))) 5 3) + (1 : Int32))))) H locs ls (by omega) (lv_sub hl [0, 1, 2] rfl) hP hS (kClk_run hk (by first | rfl | exact congrFun (kdraw5 ..) 1)) (by rw [← hg, f_B_run_lp2_s, if_neg q1, if_neg q2, nI_succ])
  refine lv_iconst (v := (0 : Int32)) hx hb d_B_run_0 (by decide) ?_
  refine lv_istore_n (lv' := [(2, .int (0 : Int32)), (0, .ref (ad 0)), (1, .int (nI N))]) hx hb d_B_run_1 rfl hl (by decide) rfl (fun ls hl => ?_)
  exact loop2 N 0 σ s.heap [] ls (by omega) (lv_sub hl [0, 1, 2] rfl) hP hS (h0) (by rw [f_B_run]; rfl)
end
section
def f_B_put (σ : Nat → Nat → Int32) (o : Int32) : (Nat → Nat → Int32) := (if (2 : Int32) ≤ o then (if (68 : Int32) ≤ (σ 5 1) then (kup σ 2 (o).toNatClampNeg (((((σ 5 1) - (68 : Int32)) + (4 : Int32)) + (0 : Int32)) - ((((σ 5 1) - (68 : Int32)) + (4 : Int32)) + (0 : Int32)) / (160 : Int32) * (160 : Int32))) else (kup σ 2 (o).toNatClampNeg ((2 : Int32) + (0 : Int32)))) else (if (68 : Int32) ≤ (σ 5 1) then (kup σ 2 (o).toNatClampNeg (((((σ 5 1) - (68 : Int32)) + (4 : Int32)) + (1 : Int32)) - ((((σ 5 1) - (68 : Int32)) + (4 : Int32)) + (1 : Int32)) / (160 : Int32) * (160 : Int32))) else (kup σ 2 (o).toNatClampNeg ((2 : Int32) + (1 : Int32)))))

set_option maxRecDepth 100000 in
set_option maxHeartbeats 4000000 in
theorem c_B_put (l : Launch) (D : va_G) (cA ad t : Nat → Nat) (hap : kap 7 ad) (σ : Nat → Nat → Int32) (o : Int32) (h1 : vp_in o 5) : Met l y_B_put w_B_put ({ frames := 0, cells := 0, slots := 0, locals := 0 } : Room) (va_Pc [.ref (ad 0), .int o] (bPre D cA ad t σ)) (kQv D (bw cA ad (f_B_put σ o)) (kA 7 ad)) 0 0 (kA 7 ad) := by
  refine Met.ofW (cc := b_B_put) (maxL := 3) (ret := none) (by decide) rfl ?_
  intro p e s m args below meth c s₁ B hml hv
  obtain ⟨rfl, hv⟩ := hv
  obtain ⟨hP, hK, hZ⟩ := hv
  have hx := B.exec
  have hb := B.bytes
  have hr := B.returns
  have hlocks := B.notSynchronized
  have hT : ∀ w ∈ TB, w.before ([.ref (ad 0), .int o] : List Value).toArray s = true := fun w h => atoms_spec (ws := w_B_put) B.pre w (List.mem_cons_of_mem _ h)
  have hown : s.vm.findClass R_B = some m.cls := findClass_of_methodNamed B.named
  have hS : va_S (kA 7 ad) s.heap s.heap [] := va_S.rf
  have hD : ∀ σ, va_D (kA 7 ad) (bw cA ad σ) := fun σ => kD hap rfl
  have hl := lv_entry ([.ref (ad 0), .int o]) (n := 3) (Nat.le_of_ble_eq_true rfl)
  rw [lg_entry_eq]
  generalize (lg_sl ([.ref (ad 0), .int o]) ++ List.replicate (3 - (lg_sl ([.ref (ad 0), .int o])).length) Slot.unset).toArray = ls at hl ⊢
  have hl : lv_has ls 3 [(0, .ref (ad 0)), (1, .int o)] := hl
  refine lv_iload_n hx hb d_B_put_0 rfl (lv_at hl 1 rfl) ?_
  refine lv_iconst (v := (2 : Int32)) hx hb d_B_put_1 (by decide) ?_
  refine lv_icmp_ge (tgt := 9) hx hb d_B_put_2 (by decide) (fun q1 => ?_) (fun q1 => ?_)
  · refine lv_iconst (v := (0 : Int32)) hx hb d_B_put_9 (by decide) ?_
    refine lv_istore_n (lv' := [(2, .int (0 : Int32)), (0, .ref (ad 0)), (1, .int o)]) hx hb d_B_put_10 rfl hl (by decide) rfl (fun ls hl => ?_)
    refine lv_aload_n hx hb d_B_put_11 rfl (lv_at hl 1 rfl) ?_
    refine va_get (D := D) (ci := 0) (v := .int (σ 5 1)) (C := R_B) (T := F_B) (N := 10) hx hb hT in_B hown hK hP 0 rfl rfl 7 (by decide) (hT _ fl_B_49) (fun _ h9 => h9) rfl d_B_put_12 ?_
    refine lv_bipush (v := (68 : Int32)) hx hb d_B_put_15 (by decide) ?_
    refine lv_icmp_ge (tgt := 32) hx hb d_B_put_17 (by decide) (fun q2 => ?_) (fun q2 => ?_)
    · refine lv_aload_n hx hb d_B_put_32 rfl (lv_at hl 1 rfl) ?_
      refine va_get (D := D) (ci := 0) (v := .ref (ad 3)) (C := R_B) (T := F_B) (N := 10) hx hb hT in_B hown hK hP 0 rfl rfl 2 (by decide) (hT _ fl_B_16) (fun _ h9 => h9) rfl d_B_put_33 ?_
      refine lv_iload_n hx hb d_B_put_36 rfl (lv_at hl 2 rfl) ?_
      refine lv_aload_n hx hb d_B_put_37 rfl (lv_at hl 1 rfl) ?_
      refine va_get (D := D) (ci := 0) (v := .int (σ 5 1)) (C := R_B) (T := F_B) (N := 10) hx hb hT in_B hown hK hP 0 rfl rfl 7 (by decide) (hT _ fl_B_49) (fun _ h9 => h9) rfl d_B_put_38 ?_
      refine lv_bipush (v := (68 : Int32)) hx hb d_B_put_41 (by decide) ?_
      refine lv_isub hx hb d_B_put_43 ?_
      refine lv_iconst (v := (4 : Int32)) hx hb d_B_put_44 (by decide) ?_
      refine lv_iadd hx hb d_B_put_45 ?_
      refine lv_iload_n hx hb d_B_put_46 rfl (lv_at hl 0 rfl) ?_
      refine lv_iadd hx hb d_B_put_47 ?_
      refine lv_sipush (v := (160 : Int32)) hx hb d_B_put_48 (by decide) ?_
      refine lv_irem hx hb d_B_put_51 (by decide) ?_
      refine va_iast (A := (kA 7 ad)) hx hb hK hP (hD _) hS 3 0 rfl rfl (by first | assumption | exact kin (by decide)) d_B_put_52 (fun H locs hP _ hS => ?_)
      have hP := kst (bw_s3 cA ad σ (o).toNatClampNeg (((((σ 5 1) - (68 : Int32)) + (4 : Int32)) + (0 : Int32)) - ((((σ 5 1) - (68 : Int32)) + (4 : Int32)) + (0 : Int32)) / (160 : Int32) * (160 : Int32))) hP
      have e9 : (kup σ 2 (o).toNatClampNeg (((((σ 5 1) - (68 : Int32)) + (4 : Int32)) + (0 : Int32)) - ((((σ 5 1) - (68 : Int32)) + (4 : Int32)) + (0 : Int32)) / (160 : Int32) * (160 : Int32))) = f_B_put σ o := by rw [f_B_put, if_pos q1, if_pos q2]
      exact W.vret hx hb hr (fun t ht hW => ⟨rfl, by rw [ht, ← e9]; exact hP, hS.F ht⟩) hS.2.2 d_B_put_53
    · refine lv_aload_n hx hb d_B_put_20 rfl (lv_at hl 1 rfl) ?_
      refine va_get (D := D) (ci := 0) (v := .ref (ad 3)) (C := R_B) (T := F_B) (N := 10) hx hb hT in_B hown hK hP 0 rfl rfl 2 (by decide) (hT _ fl_B_16) (fun _ h9 => h9) rfl d_B_put_21 ?_
      refine lv_iload_n hx hb d_B_put_24 rfl (lv_at hl 2 rfl) ?_
      refine lv_iconst (v := (2 : Int32)) hx hb d_B_put_25 (by decide) ?_
      refine lv_iload_n hx hb d_B_put_26 rfl (lv_at hl 0 rfl) ?_
      refine lv_iadd hx hb d_B_put_27 ?_
      refine va_iast (A := (kA 7 ad)) hx hb hK hP (hD _) hS 3 0 rfl rfl (by first | assumption | exact kin (by decide)) d_B_put_28 (fun H locs hP _ hS => ?_)
      have hP := kst (bw_s3 cA ad σ (o).toNatClampNeg ((2 : Int32) + (0 : Int32))) hP
      refine lv_goto (tgt := 53) hx hb d_B_put_29 (by decide) ?_
      have e9 : (kup σ 2 (o).toNatClampNeg ((2 : Int32) + (0 : Int32))) = f_B_put σ o := by rw [f_B_put, if_pos q1, if_neg q2]
      exact W.vret hx hb hr (fun t ht hW => ⟨rfl, by rw [ht, ← e9]; exact hP, hS.F ht⟩) hS.2.2 d_B_put_53
  · refine lv_iconst (v := (1 : Int32)) hx hb d_B_put_5 (by decide) ?_
    refine lv_goto (tgt := 10) hx hb d_B_put_6 (by decide) ?_
    refine lv_istore_n (lv' := [(2, .int (1 : Int32)), (0, .ref (ad 0)), (1, .int o)]) hx hb d_B_put_10 rfl hl (by decide) rfl (fun ls hl => ?_)
    refine lv_aload_n hx hb d_B_put_11 rfl (lv_at hl 1 rfl) ?_
    refine va_get (D := D) (ci := 0) (v := .int (σ 5 1)) (C := R_B) (T := F_B) (N := 10) hx hb hT in_B hown hK hP 0 rfl rfl 7 (by decide) (hT _ fl_B_49) (fun _ h9 => h9) rfl d_B_put_12 ?_
    refine lv_bipush (v := (68 : Int32)) hx hb d_B_put_15 (by decide) ?_
    refine lv_icmp_ge (tgt := 32) hx hb d_B_put_17 (by decide) (fun q3 => ?_) (fun q3 => ?_)
    · refine lv_aload_n hx hb d_B_put_32 rfl (lv_at hl 1 rfl) ?_
      refine va_get (D := D) (ci := 0) (v := .ref (ad 3)) (C := R_B) (T := F_B) (N := 10) hx hb hT in_B hown hK hP 0 rfl rfl 2 (by decide) (hT _ fl_B_16) (fun _ h9 => h9) rfl d_B_put_33 ?_
      refine lv_iload_n hx hb d_B_put_36 rfl (lv_at hl 2 rfl) ?_
      refine lv_aload_n hx hb d_B_put_37 rfl (lv_at hl 1 rfl) ?_
      refine va_get (D := D) (ci := 0) (v := .int (σ 5 1)) (C := R_B) (T := F_B) (N := 10) hx hb hT in_B hown hK hP 0 rfl rfl 7 (by decide) (hT _ fl_B_49) (fun _ h9 => h9) rfl d_B_put_38 ?_
      refine lv_bipush (v := (68 : Int32)) hx hb d_B_put_41 (by decide) ?_
      refine lv_isub hx hb d_B_put_43 ?_
      refine lv_iconst (v := (4 : Int32)) hx hb d_B_put_44 (by decide) ?_
      refine lv_iadd hx hb d_B_put_45 ?_
      refine lv_iload_n hx hb d_B_put_46 rfl (lv_at hl 0 rfl) ?_
      refine lv_iadd hx hb d_B_put_47 ?_
      refine lv_sipush (v := (160 : Int32)) hx hb d_B_put_48 (by decide) ?_
      refine lv_irem hx hb d_B_put_51 (by decide) ?_
      refine va_iast (A := (kA 7 ad)) hx hb hK hP (hD _) hS 3 0 rfl rfl (by first | assumption | exact kin (by decide)) d_B_put_52 (fun H locs hP _ hS => ?_)
      have hP := kst (bw_s3 cA ad σ (o).toNatClampNeg (((((σ 5 1) - (68 : Int32)) + (4 : Int32)) + (1 : Int32)) - ((((σ 5 1) - (68 : Int32)) + (4 : Int32)) + (1 : Int32)) / (160 : Int32) * (160 : Int32))) hP
      have e9 : (kup σ 2 (o).toNatClampNeg (((((σ 5 1) - (68 : Int32)) + (4 : Int32)) + (1 : Int32)) - ((((σ 5 1) - (68 : Int32)) + (4 : Int32)) + (1 : Int32)) / (160 : Int32) * (160 : Int32))) = f_B_put σ o := by rw [f_B_put, if_neg q1, if_pos q3]
      exact W.vret hx hb hr (fun t ht hW => ⟨rfl, by rw [ht, ← e9]; exact hP, hS.F ht⟩) hS.2.2 d_B_put_53
    · refine lv_aload_n hx hb d_B_put_20 rfl (lv_at hl 1 rfl) ?_
      refine va_get (D := D) (ci := 0) (v := .ref (ad 3)) (C := R_B) (T := F_B) (N := 10) hx hb hT in_B hown hK hP 0 rfl rfl 2 (by decide) (hT _ fl_B_16) (fun _ h9 => h9) rfl d_B_put_21 ?_
      refine lv_iload_n hx hb d_B_put_24 rfl (lv_at hl 2 rfl) ?_
      refine lv_iconst (v := (2 : Int32)) hx hb d_B_put_25 (by decide) ?_
      refine lv_iload_n hx hb d_B_put_26 rfl (lv_at hl 0 rfl) ?_
      refine lv_iadd hx hb d_B_put_27 ?_
      refine va_iast (A := (kA 7 ad)) hx hb hK hP (hD _) hS 3 0 rfl rfl (by first | assumption | exact kin (by decide)) d_B_put_28 (fun H locs hP _ hS => ?_)
      have hP := kst (bw_s3 cA ad σ (o).toNatClampNeg ((2 : Int32) + (1 : Int32))) hP
      refine lv_goto (tgt := 53) hx hb d_B_put_29 (by decide) ?_
      have e9 : (kup σ 2 (o).toNatClampNeg ((2 : Int32) + (1 : Int32))) = f_B_put σ o := by rw [f_B_put, if_neg q1, if_neg q3]
      exact W.vret hx hb hr (fun t ht hW => ⟨rfl, by rw [ht, ← e9]; exact hP, hS.F ht⟩) hS.2.2 d_B_put_53

def f_B_moveAll_lp2 (σ : Nat → Nat → Int32) : Nat → Int32 → (Nat → Nat → Int32) → (Nat → Nat → Int32)
  | 0, i, σ1 => σ1
  | n + 1, i, σ1 => (f_B_moveAll_lp2 σ n (i + 1) (kup σ1 2 (i).toNatClampNeg (f_J_floorMod ((σ1 2 (i).toNatClampNeg) - (f_B_motionOf σ1 i)) (160 : Int32))))
theorem f_B_moveAll_lp2_z (σ : Nat → Nat → Int32) (i : Int32) (σ1 : Nat → Nat → Int32) : f_B_moveAll_lp2 σ 0 i σ1 = σ1 := rfl
theorem f_B_moveAll_lp2_s (σ : Nat → Nat → Int32) (n : Nat) (i : Int32) (σ1 : Nat → Nat → Int32) : f_B_moveAll_lp2 σ (n + 1) i σ1 = (f_B_moveAll_lp2 σ n (i + 1) (kup σ1 2 (i).toNatClampNeg (f_J_floorMod ((σ1 2 (i).toNatClampNeg) - (f_B_motionOf σ1 i)) (160 : Int32)))) := rfl

def f_B_moveAll (σ : Nat → Nat → Int32) : (Nat → Nat → Int32) := (f_B_moveAll_lp2 σ 5 (0 : Int32) σ)

set_option maxRecDepth 100000 in
set_option maxHeartbeats 4000000 in
theorem c_B_moveAll (l : Launch) (D : va_G) (cA ad t : Nat → Nat) (hap : kap 7 ad) (σ : Nat → Nat → Int32) : Met l y_B_moveAll w_B_moveAll ({ frames := 1, cells := 0, slots := 0, locals := 22 } : Room) (va_Pc [.ref (ad 0)] (bPre D cA ad t σ)) (kQv D (bw cA ad (f_B_moveAll σ)) (kA 7 ad)) 0 0 (kA 7 ad) := by
  refine Met.ofW (cc := b_B_moveAll) (maxL := 2) (ret := none) (by decide) rfl ?_
  intro p e s m args below meth c s₁ B hml hv
  obtain ⟨rfl, hv⟩ := hv
  obtain ⟨hP, hK, hZ⟩ := hv
  have hx := B.exec
  have hb := B.bytes
  have hr := B.returns
  have hlocks := B.notSynchronized
  have hT : ∀ w ∈ TB, w.before ([.ref (ad 0)] : List Value).toArray s = true := fun w h => atoms_spec (ws := w_B_moveAll) B.pre w (List.mem_cons_of_mem _ h)
  have hown : s.vm.findClass R_B = some m.cls := findClass_of_methodNamed B.named
  have hS : va_S (kA 7 ad) s.heap s.heap [] := va_S.rf
  have hD : ∀ σ, va_D (kA 7 ad) (bw cA ad σ) := fun σ => kD hap rfl
  have hl := lv_entry ([.ref (ad 0)]) (n := 2) (Nat.le_of_ble_eq_true rfl)
  rw [lg_entry_eq]
  generalize (lg_sl ([.ref (ad 0)]) ++ List.replicate (2 - (lg_sl ([.ref (ad 0)])).length) Slot.unset).toArray = ls at hl ⊢
  have hl : lv_has ls 2 [(0, .ref (ad 0))] := hl
  have loop2 : ∀ (n i : Nat) (σ1 : Nat → Nat → Int32) (H : Heap) (locs : List Loc) (ls : Array Slot), i + n = 5 → lv_has ls 2 [(1, .int (nI i)), (0, .ref (ad 0))] → va_P D classes (bw cA ad σ1) H → va_S (kA 7 ad) s.heap H locs → f_B_moveAll_lp2 σ n (nI i) σ1 = f_B_moveAll σ → W p l e (headSpec w_B_moveAll ({ frames := 1, cells := 0, slots := 0, locals := 22 } : Room)).room s m ([.ref (ad 0)] : List Value).toArray below meth c H locs 0 0 (MQ below (kQv D (bw cA ad (f_B_moveAll σ)) (kA 7 ad)) ([.ref (ad 0)] : List Value).toArray s 0 0 (kA 7 ad)) (F0 m 2 ls []) := by
    intro n
    induction n with
    | zero =>
      intro i σ1 H locs ls hi hl hP hS hg
      refine lv_iload_n hx hb d_B_moveAll_2 rfl (lv_at hl 0 rfl) ?_
      refine lv_iconst (v := (5 : Int32)) hx hb d_B_moveAll_3 (by decide) ?_
      refine lv_icmp_ge (tgt := 37) hx hb d_B_moveAll_4 (by decide) (fun _ => ?_) (fun h9 => absurd (nI_le (a := 5) (b := i) (by omega) (by omega)) h9)
      have e9 : σ1 = f_B_moveAll σ := by rw [← hg, f_B_moveAll_lp2_z]
      exact W.vret hx hb hr (fun t ht hW => ⟨rfl, by rw [ht, ← e9]; exact hP, hS.F ht⟩) hS.2.2 d_B_moveAll_37
    | succ n ih =>
      intro i σ1 H locs ls hi hl hP hS hg
      refine lv_iload_n hx hb d_B_moveAll_2 rfl (lv_at hl 0 rfl) ?_
      refine lv_iconst (v := (5 : Int32)) hx hb d_B_moveAll_3 (by decide) ?_
      refine lv_icmp_ge (tgt := 37) hx hb d_B_moveAll_4 (by decide) (fun h9 => absurd h9 (nI_ge (a := i) (b := 5) (by omega) (by decide))) (fun _ => ?_)
      refine lv_aload_n hx hb d_B_moveAll_7 rfl (lv_at hl 1 rfl) ?_
      refine va_get (D := D) (ci := 0) (v := .ref (ad 3)) (C := R_B) (T := F_B) (N := 10) hx hb hT in_B hown hK hP 0 rfl rfl 2 (by decide) (hT _ fl_B_16) (fun _ h9 => h9) rfl d_B_moveAll_8 ?_
      refine lv_iload_n hx hb d_B_moveAll_11 rfl (lv_at hl 0 rfl) ?_
      refine lv_aload_n hx hb d_B_moveAll_12 rfl (lv_at hl 1 rfl) ?_
      refine va_get (D := D) (ci := 0) (v := .ref (ad 3)) (C := R_B) (T := F_B) (N := 10) hx hb hT in_B hown hK hP 0 rfl rfl 2 (by decide) (hT _ fl_B_16) (fun _ h9 => h9) rfl d_B_moveAll_13 ?_
      refine lv_iload_n hx hb d_B_moveAll_16 rfl (lv_at hl 0 rfl) ?_
      refine va_iald hx hb hK hP 3 0 rfl rfl (by first | assumption | exact kin (by decide) | exact vp_in_nI (by omega) (by decide) | exact kin23 (by omega) | decide) d_B_moveAll_17 ?_
      refine lv_aload_n hx hb d_B_moveAll_18 rfl (lv_at hl 1 rfl) ?_
      refine lv_iload_n hx hb d_B_moveAll_19 rfl (lv_at hl 0 rfl) ?_
      refine vp_callSi (va_Run.run (va_runV (As := [.int (nI i)]) (rest := [.int (σ1 2 ((nI i)).toNatClampNeg), .int (nI i), .ref (ad 3)]) ⟨hx, hb, hml, hown, hT⟩ (c_B_motionOf l D cA ad t hap σ1 (nI i) (by first | assumption | exact kin (by decide) | exact vp_in_nI (by omega) (by decide) | exact kin23 (by omega) | decide)) (kCV 1 hT ml_B_118 mi_B_motionOf ⟨Nat.le_of_ble_eq_true rfl, Nat.le_of_ble_eq_true rfl⟩) (bpreV hK hP hZ hS) rfl rfl hl.1 rfl (lv_room (Nat.le_of_ble_eq_true rfl)) d_B_moveAll_20 ⟨Nat.le_of_ble_eq_true rfl, Nat.le_of_ble_eq_true rfl⟩)) (fun r9 e9 => ?_)
      subst e9
      refine lv_isub hx hb d_B_moveAll_23 ?_
      refine lv_sipush (v := (160 : Int32)) hx hb d_B_moveAll_24 (by decide) ?_
      refine vp_callSi (va_Run.run (va_runS (As := [.int ((σ1 2 ((nI i)).toNatClampNeg) - (f_B_motionOf σ1 (nI i))), .int (160 : Int32)]) (rest := [.int (nI i), .ref (ad 3)]) ⟨hx, hb, hml, hown, hT⟩ (c_J_floorMod l ((σ1 2 ((nI i)).toNatClampNeg) - (f_B_motionOf σ1 (nI i))) (160 : Int32) (by first | assumption | exact kin (by decide) | exact vp_in_nI (by omega) (by decide) | exact kin23 (by omega) | decide)) (kCS 2 hT ml_B_121 ms_JM_floorMod ⟨Nat.le_of_ble_eq_true rfl, Nat.le_of_ble_eq_true rfl⟩) (kpreJ) rfl rfl hl.1 rfl (lv_room (Nat.le_of_ble_eq_true rfl)) d_B_moveAll_27 ⟨Nat.le_of_ble_eq_true rfl, Nat.le_of_ble_eq_true rfl⟩)) (fun r9 e9 => ?_)
      subst e9
      refine va_iast (A := (kA 7 ad)) hx hb hK hP (hD _) hS 3 0 rfl rfl (by first | assumption | exact kin (by decide) | exact vp_in_nI (by omega) (by decide) | exact kin23 (by omega) | decide) d_B_moveAll_30 (fun H locs hP _ hS => ?_)
      have hP := kst (bw_s3 cA ad σ1 ((nI i)).toNatClampNeg (f_J_floorMod ((σ1 2 ((nI i)).toNatClampNeg) - (f_B_motionOf σ1 (nI i))) (160 : Int32))) hP
      refine lv_iinc (v := (nI (i + 1))) (lv' := [(1, .int (nI (i + 1))), (0, .ref (ad 0))]) hx hb d_B_moveAll_31 hl (k := 0) rfl (by rw [nI_succ]; rfl) (by decide) rfl (fun ls hl => ?_)
      refine lv_goto (tgt := 2) hx hb d_B_moveAll_34 (by decide) ?_
      exact ih (i + 1) (kup σ1 2 ((nI i)).toNatClampNeg (f_J_floorMod ((σ1 2 ((nI i)).toNatClampNeg) - (f_B_motionOf σ1 (nI i))) (160 : Int32))) H locs ls (by omega) (lv_sub hl [0, 1] rfl) hP hS (by rw [← hg, f_B_moveAll_lp2_s, nI_succ])
  refine lv_iconst (v := (0 : Int32)) hx hb d_B_moveAll_0 (by decide) ?_
  refine lv_istore_n (lv' := [(1, .int (0 : Int32)), (0, .ref (ad 0))]) hx hb d_B_moveAll_1 rfl hl (by decide) rfl (fun ls hl => ?_)
  exact loop2 5 0 σ s.heap [] ls rfl (lv_sub hl [0, 1] rfl) hP hS (by rw [f_B_moveAll]; rfl)

def f_B_unlock (σ : Nat → Nat → Int32) (side : Int32) : (Nat → Nat → Int32) := (kup σ 2 (((2 : Int32) + side)).toNatClampNeg (((σ 2 (side).toNatClampNeg) + ((4 : Int32) <<< ((tab1 ((f_B_copiesOf σ side)).toNatClampNeg) &&& 31))) - ((σ 2 (side).toNatClampNeg) + ((4 : Int32) <<< ((tab1 ((f_B_copiesOf σ side)).toNatClampNeg) &&& 31))) / (160 : Int32) * (160 : Int32)))

set_option maxRecDepth 100000 in
set_option maxHeartbeats 4000000 in
theorem c_B_unlock (l : Launch) (D : va_G) (cA ad t : Nat → Nat) (hap : kap 7 ad) (σ : Nat → Nat → Int32) (side : Int32) (hs : side = 0 ∨ side = 1) : Met l y_B_unlock w_B_unlock ({ frames := 1, cells := 0, slots := 0, locals := 21 } : Room) (va_Pc [.ref (ad 0), .int side] (bPre D cA ad t σ)) (kQv D (bw cA ad (f_B_unlock σ side)) (kA 7 ad)) 0 0 (kA 7 ad) := by
  refine Met.ofW (cc := b_B_unlock) (maxL := 3) (ret := none) (by decide) rfl ?_
  intro p e s m args below meth c s₁ B hml hv
  obtain ⟨rfl, hv⟩ := hv
  obtain ⟨hP, hK, hZ⟩ := hv
  have hx := B.exec
  have hb := B.bytes
  have hr := B.returns
  have hlocks := B.notSynchronized
  have hT : ∀ w ∈ TB, w.before ([.ref (ad 0), .int side] : List Value).toArray s = true := fun w h => atoms_spec (ws := w_B_unlock) B.pre w (List.mem_cons_of_mem _ h)
  have hown : s.vm.findClass R_B = some m.cls := findClass_of_methodNamed B.named
  have hS : va_S (kA 7 ad) s.heap s.heap [] := va_S.rf
  have hD : ∀ σ, va_D (kA 7 ad) (bw cA ad σ) := fun σ => kD hap rfl
  have hl := lv_entry ([.ref (ad 0), .int side]) (n := 3) (Nat.le_of_ble_eq_true rfl)
  rw [lg_entry_eq]
  generalize (lg_sl ([.ref (ad 0), .int side]) ++ List.replicate (3 - (lg_sl ([.ref (ad 0), .int side])).length) Slot.unset).toArray = ls at hl ⊢
  have hl : lv_has ls 3 [(0, .ref (ad 0)), (1, .int side)] := hl
  refine lv_iconst (v := (4 : Int32)) hx hb d_B_unlock_0 (by decide) ?_
  refine va_gets hx hb (kZ_z1 hZ) hS hown (hT _ fl_B_96) (fun _ h9 => h9) d_B_unlock_1 ?_
  refine lv_aload_n hx hb d_B_unlock_4 rfl (lv_at hl 0 rfl) ?_
  refine lv_iload_n hx hb d_B_unlock_5 rfl (lv_at hl 1 rfl) ?_
  refine vp_callSi (va_Run.run (va_runV (As := [.int side]) (rest := [.ref (t 1), .int (4 : Int32)]) ⟨hx, hb, hml, hown, hT⟩ (c_B_copiesOf l D cA ad t hap σ side (by first | assumption | exact kin (by decide) | ((rcases hs with rfl | rfl <;> exact kin (by decide))) | exact kin7 _)) (kCV 1 hT ml_B_99 mi_B_copiesOf ⟨Nat.le_of_ble_eq_true rfl, Nat.le_of_ble_eq_true rfl⟩) (bpreV hK hP hZ hS) rfl rfl hl.1 rfl (lv_room (Nat.le_of_ble_eq_true rfl)) d_B_unlock_6 ⟨Nat.le_of_ble_eq_true rfl, Nat.le_of_ble_eq_true rfl⟩)) (fun r9 e9 => ?_)
  subst e9
  refine va_ti (v := .int (tab1 ((f_B_copiesOf σ side)).toNatClampNeg)) hx hb (kZ_t1 hZ) hS (by first | assumption | exact kin (by decide) | ((rcases hs with rfl | rfl <;> exact kin (by decide))) | exact kin7 _) rfl d_B_unlock_9 ?_
  refine lv_ishl hx hb d_B_unlock_10 ?_
  refine lv_istore_n (lv' := [(2, .int ((4 : Int32) <<< ((tab1 ((f_B_copiesOf σ side)).toNatClampNeg) &&& 31))), (0, .ref (ad 0)), (1, .int side)]) hx hb d_B_unlock_11 rfl hl (by decide) rfl (fun ls hl => ?_)
  refine lv_aload_n hx hb d_B_unlock_12 rfl (lv_at hl 1 rfl) ?_
  refine va_get (D := D) (ci := 0) (v := .ref (ad 3)) (C := R_B) (T := F_B) (N := 10) hx hb hT in_B hown hK hP 0 rfl rfl 2 (by decide) (hT _ fl_B_16) (fun _ h9 => h9) rfl d_B_unlock_13 ?_
  refine lv_iconst (v := (2 : Int32)) hx hb d_B_unlock_16 (by decide) ?_
  refine lv_iload_n hx hb d_B_unlock_17 rfl (lv_at hl 2 rfl) ?_
  refine lv_iadd hx hb d_B_unlock_18 ?_
  refine lv_aload_n hx hb d_B_unlock_19 rfl (lv_at hl 1 rfl) ?_
  refine va_get (D := D) (ci := 0) (v := .ref (ad 3)) (C := R_B) (T := F_B) (N := 10) hx hb hT in_B hown hK hP 0 rfl rfl 2 (by decide) (hT _ fl_B_16) (fun _ h9 => h9) rfl d_B_unlock_20 ?_
  refine lv_iload_n hx hb d_B_unlock_23 rfl (lv_at hl 2 rfl) ?_
  refine va_iald hx hb hK hP 3 0 rfl rfl (by first | assumption | exact kin (by decide) | ((rcases hs with rfl | rfl <;> exact kin (by decide))) | exact kin7 _) d_B_unlock_24 ?_
  refine lv_iload_n hx hb d_B_unlock_25 rfl (lv_at hl 0 rfl) ?_
  refine lv_iadd hx hb d_B_unlock_26 ?_
  refine lv_sipush (v := (160 : Int32)) hx hb d_B_unlock_27 (by decide) ?_
  refine lv_irem hx hb d_B_unlock_30 (by decide) ?_
  refine va_iast (A := (kA 7 ad)) hx hb hK hP (hD _) hS 3 0 rfl rfl (by first | assumption | exact kin (by decide) | ((rcases hs with rfl | rfl <;> exact kin (by decide))) | exact kin7 _) d_B_unlock_31 (fun H locs hP _ hS => ?_)
  have hP := kst (bw_s3 cA ad σ (((2 : Int32) + side)).toNatClampNeg (((σ 2 (side).toNatClampNeg) + ((4 : Int32) <<< ((tab1 ((f_B_copiesOf σ side)).toNatClampNeg) &&& 31))) - ((σ 2 (side).toNatClampNeg) + ((4 : Int32) <<< ((tab1 ((f_B_copiesOf σ side)).toNatClampNeg) &&& 31))) / (160 : Int32) * (160 : Int32))) hP
  have e9 : (kup σ 2 (((2 : Int32) + side)).toNatClampNeg (((σ 2 (side).toNatClampNeg) + ((4 : Int32) <<< ((tab1 ((f_B_copiesOf σ side)).toNatClampNeg) &&& 31))) - ((σ 2 (side).toNatClampNeg) + ((4 : Int32) <<< ((tab1 ((f_B_copiesOf σ side)).toNatClampNeg) &&& 31))) / (160 : Int32) * (160 : Int32))) = f_B_unlock σ side := by rw [f_B_unlock]
  exact W.vret hx hb hr (fun t ht hW => ⟨rfl, by rw [ht, ← e9]; exact hP, hS.F ht⟩) hS.2.2 d_B_unlock_32

def f_B_strobe (σ : Nat → Nat → Int32) (r : Int32) : (Nat → Nat → Int32) := (if r = (33 : Int32) then (f_B_moveAll σ) else (if r = (34 : Int32) then (f_J_fill4 σ) else (if r = (35 : Int32) then (f_J_fill2 σ) else (f_B_put σ (r - (28 : Int32))))))

set_option maxRecDepth 100000 in
set_option maxHeartbeats 4000000 in
theorem c_B_strobe (l : Launch) (D : va_G) (cA ad t : Nat → Nat) (hap : kap 7 ad) (σ : Nat → Nat → Int32) (r : Int32) (h1 : vp_in r 36) (h2 : (28 : Int32) ≤ r) : Met l y_B_strobe w_B_strobe ({ frames := 2, cells := 0, slots := 0, locals := 46 } : Room) (va_Pc [.ref (ad 0), .int r] (bPre D cA ad t σ)) (kQv D (bw cA ad (f_B_strobe σ r)) (kA 7 ad)) 0 0 (kA 7 ad) := by
  refine Met.ofW (cc := b_B_strobe) (maxL := 2) (ret := none) (by decide) rfl ?_
  intro p e s m args below meth c s₁ B hml hv
  obtain ⟨rfl, hv⟩ := hv
  obtain ⟨hP, hK, hZ⟩ := hv
  have hx := B.exec
  have hb := B.bytes
  have hr := B.returns
  have hlocks := B.notSynchronized
  have hT : ∀ w ∈ TB, w.before ([.ref (ad 0), .int r] : List Value).toArray s = true := fun w h => atoms_spec (ws := w_B_strobe) B.pre w (List.mem_cons_of_mem _ h)
  have hown : s.vm.findClass R_B = some m.cls := findClass_of_methodNamed B.named
  have hS : va_S (kA 7 ad) s.heap s.heap [] := va_S.rf
  have hD : ∀ σ, va_D (kA 7 ad) (bw cA ad σ) := fun σ => kD hap rfl
  have hl := lv_entry ([.ref (ad 0), .int r]) (n := 2) (Nat.le_of_ble_eq_true rfl)
  rw [lg_entry_eq]
  generalize (lg_sl ([.ref (ad 0), .int r]) ++ List.replicate (2 - (lg_sl ([.ref (ad 0), .int r])).length) Slot.unset).toArray = ls at hl ⊢
  have hl : lv_has ls 2 [(0, .ref (ad 0)), (1, .int r)] := hl
  refine lv_iload_n hx hb d_B_strobe_0 rfl (lv_at hl 1 rfl) ?_
  by_cases q1 : r = (33 : Int32)
  · refine lv_tableIn (tgt := 28) (off := 27) hx hb d_B_strobe_1 (by rw [q1]; decide) (by rw [q1]; decide) (by rw [q1]; rfl) (by decide) ?_
    refine lv_aload_n hx hb d_B_strobe_28 rfl (lv_at hl 0 rfl) ?_
    refine kcv (va_runV (As := []) (rest := []) ⟨hx, hb, hml, hown, hT⟩ (c_B_moveAll l D cA ad t hap σ) (kCV 0 hT ml_B_103 mi_B_moveAll ⟨Nat.le_of_ble_eq_true rfl, Nat.le_of_ble_eq_true rfl⟩) (bpreV hK hP hZ hS) rfl rfl hl.1 rfl (lv_room (Nat.le_of_ble_eq_true rfl)) d_B_strobe_29 ⟨Nat.le_of_ble_eq_true rfl, Nat.le_of_ble_eq_true rfl⟩) hS (fun H locs hP hS => ?_)
    refine lv_goto (tgt := 69) hx hb d_B_strobe_32 (by decide) ?_
    have e9 : (f_B_moveAll σ) = f_B_strobe σ r := by rw [f_B_strobe, if_pos q1]
    exact W.vret hx hb hr (fun t ht hW => ⟨rfl, by rw [ht, ← e9]; exact hP, hS.F ht⟩) hS.2.2 d_B_strobe_69
  by_cases q2 : r = (34 : Int32)
  · refine lv_tableIn (tgt := 35) (off := 34) hx hb d_B_strobe_1 (by rw [q2]; decide) (by rw [q2]; decide) (by rw [q2]; rfl) (by decide) ?_
    refine lv_aload_n hx hb d_B_strobe_35 rfl (lv_at hl 0 rfl) ?_
    refine va_get (D := D) (ci := 0) (v := .ref (ad 1)) (C := R_B) (T := F_B) (N := 10) hx hb hT in_B hown hK hP 0 rfl rfl 0 (by decide) (hT _ fl_B_9) (fun _ h9 => h9) rfl d_B_strobe_36 ?_
    refine lv_bipush (v := (23 : Int32)) hx hb d_B_strobe_39 (by decide) ?_
    refine lv_bipush (v := (28 : Int32)) hx hb d_B_strobe_41 (by decide) ?_
    refine lv_iconst (v := (0 : Int32)) hx hb d_B_strobe_43 (by decide) ?_
    refine kcv (va_runS (As := [.ref (ad 1), .int (23 : Int32), .int (28 : Int32), .int (0 : Int32)]) (rest := []) ⟨hx, hb, hml, hown, hT⟩ (c_J_fill4 l D cA ad t hap σ) (kCS 4 hT ml_B_106 ms_JA_fill4 ⟨Nat.le_of_ble_eq_true rfl, Nat.le_of_ble_eq_true rfl⟩) (bpreS hK hP hZ hS) rfl rfl hl.1 rfl (lv_room (Nat.le_of_ble_eq_true rfl)) d_B_strobe_44 ⟨Nat.le_of_ble_eq_true rfl, Nat.le_of_ble_eq_true rfl⟩) hS (fun H locs hP hS => ?_)
    refine lv_goto (tgt := 69) hx hb d_B_strobe_47 (by decide) ?_
    have e9 : (f_J_fill4 σ) = f_B_strobe σ r := by rw [f_B_strobe, if_neg q1, if_pos q2]
    exact W.vret hx hb hr (fun t ht hW => ⟨rfl, by rw [ht, ← e9]; exact hP, hS.F ht⟩) hS.2.2 d_B_strobe_69
  by_cases q3 : r = (35 : Int32)
  · refine lv_tableIn (tgt := 50) (off := 49) hx hb d_B_strobe_1 (by rw [q3]; decide) (by rw [q3]; decide) (by rw [q3]; rfl) (by decide) ?_
    refine lv_aload_n hx hb d_B_strobe_50 rfl (lv_at hl 0 rfl) ?_
    refine va_get (D := D) (ci := 0) (v := .ref (ad 5)) (C := R_B) (T := F_B) (N := 10) hx hb hT in_B hown hK hP 0 rfl rfl 4 (by decide) (hT _ fl_B_22) (fun _ h9 => h9) rfl d_B_strobe_51 ?_
    refine lv_iconst (v := (0 : Int32)) hx hb d_B_strobe_54 (by decide) ?_
    refine kcv (va_runS (As := [.ref (ad 5), .int (0 : Int32)]) (rest := []) ⟨hx, hb, hml, hown, hT⟩ (c_J_fill2 l D cA ad t hap σ) (kCS 2 hT ml_B_112 ms_JA_fill2 ⟨Nat.le_of_ble_eq_true rfl, Nat.le_of_ble_eq_true rfl⟩) (bpreS hK hP hZ hS) rfl rfl hl.1 rfl (lv_room (Nat.le_of_ble_eq_true rfl)) d_B_strobe_55 ⟨Nat.le_of_ble_eq_true rfl, Nat.le_of_ble_eq_true rfl⟩) hS (fun H locs hP hS => ?_)
    refine lv_goto (tgt := 69) hx hb d_B_strobe_58 (by decide) ?_
    have e9 : (f_J_fill2 σ) = f_B_strobe σ r := by rw [f_B_strobe, if_neg q1, if_neg q2, if_pos q3]
    exact W.vret hx hb hr (fun t ht hW => ⟨rfl, by rw [ht, ← e9]; exact hP, hS.F ht⟩) hS.2.2 d_B_strobe_69
  refine lv_tableOut (tgt := 61) hx hb d_B_strobe_1 (by have a0 := lv_neT q1 (a := 33) rfl; have a1 := lv_neT q2 (a := 34) rfl; have a2 := lv_neT q3 (a := 35) rfl; omega) (by decide) ?_
  refine lv_aload_n hx hb d_B_strobe_61 rfl (lv_at hl 0 rfl) ?_
  refine lv_iload_n hx hb d_B_strobe_62 rfl (lv_at hl 1 rfl) ?_
  refine lv_bipush (v := (28 : Int32)) hx hb d_B_strobe_63 (by decide) ?_
  refine lv_isub hx hb d_B_strobe_65 ?_
  refine kcv (va_runV (As := [.int (r - (28 : Int32))]) (rest := []) ⟨hx, hb, hml, hown, hT⟩ (c_B_put l D cA ad t hap σ (r - (28 : Int32)) (by first | assumption | exact kin (by decide) | exact kin28 h1 h2 (by assumption) (by assumption) (by assumption))) (kCV 1 hT ml_B_115 mi_B_put ⟨Nat.le_of_ble_eq_true rfl, Nat.le_of_ble_eq_true rfl⟩) (bpreV hK hP hZ hS) rfl rfl hl.1 rfl (lv_room (Nat.le_of_ble_eq_true rfl)) d_B_strobe_66 ⟨Nat.le_of_ble_eq_true rfl, Nat.le_of_ble_eq_true rfl⟩) hS (fun H locs hP hS => ?_)
  have e9 : (f_B_put σ (r - (28 : Int32))) = f_B_strobe σ r := by rw [f_B_strobe, if_neg q1, if_neg q2, if_neg q3]
  exact W.vret hx hb hr (fun t ht hW => ⟨rfl, by rw [ht, ← e9]; exact hP, hS.F ht⟩) hS.2.2 d_B_strobe_69
end
section
def f_B_store (σ : Nat → Nat → Int32) (r : Int32) (v : Int32) : (Nat → Nat → Int32) := (if r = (9 : Int32) then (kup (kup σ 1 ((1 : Int32)).toNatClampNeg (σ 0 ((10 : Int32)).toNatClampNeg)) 0 (r).toNatClampNeg v) else (if r = (10 : Int32) then (kup (kup (kup σ 1 ((0 : Int32)).toNatClampNeg (σ 0 ((9 : Int32)).toNatClampNeg)) 5 0 ((kup σ 1 ((0 : Int32)).toNatClampNeg (σ 0 ((9 : Int32)).toNatClampNeg)) 0 ((13 : Int32)).toNatClampNeg)) 0 (r).toNatClampNeg v) else (if r = (21 : Int32) then (if (f_B_hasBit σ r (2 : Int32)) = 0 then (kup σ 0 (r).toNatClampNeg v) else (if (v &&& (2 : Int32)) = 0 then (kup (f_B_unlock σ (r - (21 : Int32))) 0 (r).toNatClampNeg v) else (kup σ 0 (r).toNatClampNeg v))) else (if r = (22 : Int32) then (if (f_B_hasBit σ r (2 : Int32)) = 0 then (kup σ 0 (r).toNatClampNeg v) else (if (v &&& (2 : Int32)) = 0 then (kup (f_B_unlock σ (r - (21 : Int32))) 0 (r).toNatClampNeg v) else (kup σ 0 (r).toNatClampNeg v))) else (kup σ 0 (r).toNatClampNeg v)))))

set_option maxRecDepth 100000 in
set_option maxHeartbeats 4000000 in
theorem c_B_store (l : Launch) (D : va_G) (cA ad t : Nat → Nat) (hap : kap 7 ad) (σ : Nat → Nat → Int32) (r : Int32) (v : Int32) (h1 : vp_in r 36) : Met l y_B_store w_B_store ({ frames := 2, cells := 0, slots := 0, locals := 43 } : Room) (va_Pc [.ref (ad 0), .int r, .int v] (bPre D cA ad t σ)) (kQv D (bw cA ad (f_B_store σ r v)) (kA 7 ad)) 0 0 (kA 7 ad) := by
  refine Met.ofW (cc := b_B_store) (maxL := 3) (ret := none) (by decide) rfl ?_
  intro p e s m args below meth c s₁ B hml hv
  obtain ⟨rfl, hv⟩ := hv
  obtain ⟨hP, hK, hZ⟩ := hv
  have hx := B.exec
  have hb := B.bytes
  have hr := B.returns
  have hlocks := B.notSynchronized
  have hT : ∀ w ∈ TB, w.before ([.ref (ad 0), .int r, .int v] : List Value).toArray s = true := fun w h => atoms_spec (ws := w_B_store) B.pre w (List.mem_cons_of_mem _ h)
  have hown : s.vm.findClass R_B = some m.cls := findClass_of_methodNamed B.named
  have hS : va_S (kA 7 ad) s.heap s.heap [] := va_S.rf
  have hD : ∀ σ, va_D (kA 7 ad) (bw cA ad σ) := fun σ => kD hap rfl
  have hl := lv_entry ([.ref (ad 0), .int r, .int v]) (n := 3) (Nat.le_of_ble_eq_true rfl)
  rw [lg_entry_eq]
  generalize (lg_sl ([.ref (ad 0), .int r, .int v]) ++ List.replicate (3 - (lg_sl ([.ref (ad 0), .int r, .int v])).length) Slot.unset).toArray = ls at hl ⊢
  have hl : lv_has ls 3 [(0, .ref (ad 0)), (1, .int r), (2, .int v)] := hl
  refine lv_iload_n hx hb d_B_store_0 rfl (lv_at hl 1 rfl) ?_
  by_cases q1 : r = (9 : Int32)
  · refine lv_lookup (tgt := 44) (off := 43) hx hb d_B_store_1 (by decide) (by rw [q1]; decide) (by decide) ?_
    refine lv_aload_n hx hb d_B_store_44 rfl (lv_at hl 0 rfl) ?_
    refine va_get (D := D) (ci := 0) (v := .ref (ad 2)) (C := R_B) (T := F_B) (N := 10) hx hb hT in_B hown hK hP 0 rfl rfl 1 (by decide) (hT _ fl_B_13) (fun _ h9 => h9) rfl d_B_store_45 ?_
    refine lv_iconst (v := (1 : Int32)) hx hb d_B_store_48 (by decide) ?_
    refine lv_aload_n hx hb d_B_store_49 rfl (lv_at hl 0 rfl) ?_
    refine va_get (D := D) (ci := 0) (v := .ref (ad 1)) (C := R_B) (T := F_B) (N := 10) hx hb hT in_B hown hK hP 0 rfl rfl 0 (by decide) (hT _ fl_B_9) (fun _ h9 => h9) rfl d_B_store_50 ?_
    refine lv_bipush (v := (10 : Int32)) hx hb d_B_store_53 (by decide) ?_
    refine va_iald hx hb hK hP 1 0 rfl rfl (by first | assumption | exact kin (by decide) | exact kwr21 (by with_reducible assumption) | exact kwr22 (by with_reducible assumption)) d_B_store_55 ?_
    refine va_iast (A := (kA 7 ad)) hx hb hK hP (hD _) hS 2 0 rfl rfl (by first | assumption | exact kin (by decide) | exact kwr21 (by with_reducible assumption) | exact kwr22 (by with_reducible assumption)) d_B_store_56 (fun H locs hP _ hS => ?_)
    have hP := kst (bw_s2 cA ad σ ((1 : Int32)).toNatClampNeg (σ 0 ((10 : Int32)).toNatClampNeg)) hP
    refine lv_goto (tgt := 113) hx hb d_B_store_57 (by decide) ?_
    refine lv_aload_n hx hb d_B_store_113 rfl (lv_at hl 0 rfl) ?_
    refine va_get (D := D) (ci := 0) (v := .ref (ad 1)) (C := R_B) (T := F_B) (N := 10) hx hb hT in_B hown hK hP 0 rfl rfl 0 (by decide) (hT _ fl_B_9) (fun _ h9 => h9) rfl d_B_store_114 ?_
    refine lv_iload_n hx hb d_B_store_117 rfl (lv_at hl 1 rfl) ?_
    refine lv_iload_n hx hb d_B_store_118 rfl (lv_at hl 2 rfl) ?_
    refine va_iast (A := (kA 7 ad)) hx hb hK hP (hD _) hS 1 0 rfl rfl (by first | assumption | exact kin (by decide) | exact kwr21 (by with_reducible assumption) | exact kwr22 (by with_reducible assumption)) d_B_store_119 (fun H locs hP _ hS => ?_)
    have hP := kst (bw_s1 cA ad (kup σ 1 ((1 : Int32)).toNatClampNeg (σ 0 ((10 : Int32)).toNatClampNeg)) (r).toNatClampNeg v) hP
    have e9 : (kup (kup σ 1 ((1 : Int32)).toNatClampNeg (σ 0 ((10 : Int32)).toNatClampNeg)) 0 (r).toNatClampNeg v) = f_B_store σ r v := by rw [f_B_store, if_pos q1]
    exact W.vret hx hb hr (fun t ht hW => ⟨rfl, by rw [ht, ← e9]; exact hP, hS.F ht⟩) hS.2.2 d_B_store_120
  by_cases q2 : r = (10 : Int32)
  · refine lv_lookup (tgt := 60) (off := 59) hx hb d_B_store_1 (by decide) (by rw [q2]; decide) (by decide) ?_
    refine lv_aload_n hx hb d_B_store_60 rfl (lv_at hl 0 rfl) ?_
    refine va_get (D := D) (ci := 0) (v := .ref (ad 2)) (C := R_B) (T := F_B) (N := 10) hx hb hT in_B hown hK hP 0 rfl rfl 1 (by decide) (hT _ fl_B_13) (fun _ h9 => h9) rfl d_B_store_61 ?_
    refine lv_iconst (v := (0 : Int32)) hx hb d_B_store_64 (by decide) ?_
    refine lv_aload_n hx hb d_B_store_65 rfl (lv_at hl 0 rfl) ?_
    refine va_get (D := D) (ci := 0) (v := .ref (ad 1)) (C := R_B) (T := F_B) (N := 10) hx hb hT in_B hown hK hP 0 rfl rfl 0 (by decide) (hT _ fl_B_9) (fun _ h9 => h9) rfl d_B_store_66 ?_
    refine lv_bipush (v := (9 : Int32)) hx hb d_B_store_69 (by decide) ?_
    refine va_iald hx hb hK hP 1 0 rfl rfl (by first | assumption | exact kin (by decide) | exact kwr21 (by with_reducible assumption) | exact kwr22 (by with_reducible assumption)) d_B_store_71 ?_
    refine va_iast (A := (kA 7 ad)) hx hb hK hP (hD _) hS 2 0 rfl rfl (by first | assumption | exact kin (by decide) | exact kwr21 (by with_reducible assumption) | exact kwr22 (by with_reducible assumption)) d_B_store_72 (fun H locs hP _ hS => ?_)
    have hP := kst (bw_s2 cA ad σ ((0 : Int32)).toNatClampNeg (σ 0 ((9 : Int32)).toNatClampNeg)) hP
    refine lv_aload_n hx hb d_B_store_73 rfl (lv_at hl 0 rfl) ?_
    refine lv_aload_n hx hb d_B_store_74 rfl (lv_at hl 0 rfl) ?_
    refine va_get (D := D) (ci := 0) (v := .ref (ad 1)) (C := R_B) (T := F_B) (N := 10) hx hb hT in_B hown hK hP 0 rfl rfl 0 (by decide) (hT _ fl_B_9) (fun _ h9 => h9) rfl d_B_store_75 ?_
    refine lv_bipush (v := (13 : Int32)) hx hb d_B_store_78 (by decide) ?_
    refine va_iald hx hb hK hP 1 0 rfl rfl (by first | assumption | exact kin (by decide) | exact kwr21 (by with_reducible assumption) | exact kwr22 (by with_reducible assumption)) d_B_store_80 ?_
    refine va_put (A := (kA 7 ad)) (D := D) (ci := 0) (v := .int ((kup σ 1 ((0 : Int32)).toNatClampNeg (σ 0 ((9 : Int32)).toNatClampNeg)) 0 ((13 : Int32)).toNatClampNeg)) (ty := .int) (C := R_B) (T := F_B) (N := 10) hx hb hT in_B ft_B ft_B_ok n_B hown hK hP (hD _) hS 0 rfl rfl 6 (by decide) (hT _ fl_B_87) (fun _ h9 => h9) rfl (by decide +kernel) rfl rfl (Nat.le_of_ble_eq_true rfl) d_B_store_81 (fun H locs hP _ hS => ?_)
    have hP := kst (bw_p0_6 cA ad (kup σ 1 ((0 : Int32)).toNatClampNeg (σ 0 ((9 : Int32)).toNatClampNeg)) ((kup σ 1 ((0 : Int32)).toNatClampNeg (σ 0 ((9 : Int32)).toNatClampNeg)) 0 ((13 : Int32)).toNatClampNeg)) hP
    refine lv_goto (tgt := 113) hx hb d_B_store_84 (by decide) ?_
    refine lv_aload_n hx hb d_B_store_113 rfl (lv_at hl 0 rfl) ?_
    refine va_get (D := D) (ci := 0) (v := .ref (ad 1)) (C := R_B) (T := F_B) (N := 10) hx hb hT in_B hown hK hP 0 rfl rfl 0 (by decide) (hT _ fl_B_9) (fun _ h9 => h9) rfl d_B_store_114 ?_
    refine lv_iload_n hx hb d_B_store_117 rfl (lv_at hl 1 rfl) ?_
    refine lv_iload_n hx hb d_B_store_118 rfl (lv_at hl 2 rfl) ?_
    refine va_iast (A := (kA 7 ad)) hx hb hK hP (hD _) hS 1 0 rfl rfl (by first | assumption | exact kin (by decide) | exact kwr21 (by with_reducible assumption) | exact kwr22 (by with_reducible assumption)) d_B_store_119 (fun H locs hP _ hS => ?_)
    have hP := kst (bw_s1 cA ad (kup (kup σ 1 ((0 : Int32)).toNatClampNeg (σ 0 ((9 : Int32)).toNatClampNeg)) 5 0 ((kup σ 1 ((0 : Int32)).toNatClampNeg (σ 0 ((9 : Int32)).toNatClampNeg)) 0 ((13 : Int32)).toNatClampNeg)) (r).toNatClampNeg v) hP
    have e9 : (kup (kup (kup σ 1 ((0 : Int32)).toNatClampNeg (σ 0 ((9 : Int32)).toNatClampNeg)) 5 0 ((kup σ 1 ((0 : Int32)).toNatClampNeg (σ 0 ((9 : Int32)).toNatClampNeg)) 0 ((13 : Int32)).toNatClampNeg)) 0 (r).toNatClampNeg v) = f_B_store σ r v := by rw [f_B_store, if_neg q1, if_pos q2]
    exact W.vret hx hb hr (fun t ht hW => ⟨rfl, by rw [ht, ← e9]; exact hP, hS.F ht⟩) hS.2.2 d_B_store_120
  by_cases q3 : r = (21 : Int32)
  · refine lv_lookup (tgt := 87) (off := 86) hx hb d_B_store_1 (by decide) (by rw [q3]; decide) (by decide) ?_
    refine lv_aload_n hx hb d_B_store_87 rfl (lv_at hl 0 rfl) ?_
    refine lv_iload_n hx hb d_B_store_88 rfl (lv_at hl 1 rfl) ?_
    refine lv_iconst (v := (2 : Int32)) hx hb d_B_store_89 (by decide) ?_
    refine vp_callSi (va_Run.run (va_runV (As := [.int r, .int (2 : Int32)]) (rest := []) ⟨hx, hb, hml, hown, hT⟩ (c_B_hasBit l D cA ad t hap σ r (2 : Int32) (by first | assumption | exact kin (by decide) | exact kwr21 (by with_reducible assumption) | exact kwr22 (by with_reducible assumption))) (kCV 2 hT ml_B_90 mi_B_hasBit ⟨Nat.le_of_ble_eq_true rfl, Nat.le_of_ble_eq_true rfl⟩) (bpreV hK hP hZ hS) rfl rfl hl.1 rfl (lv_room (Nat.le_of_ble_eq_true rfl)) d_B_store_90 ⟨Nat.le_of_ble_eq_true rfl, Nat.le_of_ble_eq_true rfl⟩)) (fun r9 e9 => ?_)
    subst e9
    refine lv_if_eq (tgt := 113) hx hb d_B_store_93 (by decide) (fun q4 => ?_) (fun q4 => ?_)
    · refine lv_aload_n hx hb d_B_store_113 rfl (lv_at hl 0 rfl) ?_
      refine va_get (D := D) (ci := 0) (v := .ref (ad 1)) (C := R_B) (T := F_B) (N := 10) hx hb hT in_B hown hK hP 0 rfl rfl 0 (by decide) (hT _ fl_B_9) (fun _ h9 => h9) rfl d_B_store_114 ?_
      refine lv_iload_n hx hb d_B_store_117 rfl (lv_at hl 1 rfl) ?_
      refine lv_iload_n hx hb d_B_store_118 rfl (lv_at hl 2 rfl) ?_
      refine va_iast (A := (kA 7 ad)) hx hb hK hP (hD _) hS 1 0 rfl rfl (by first | assumption | exact kin (by decide) | exact kwr21 (by with_reducible assumption) | exact kwr22 (by with_reducible assumption)) d_B_store_119 (fun H locs hP _ hS => ?_)
      have hP := kst (bw_s1 cA ad σ (r).toNatClampNeg v) hP
      have e9 : (kup σ 0 (r).toNatClampNeg v) = f_B_store σ r v := by rw [f_B_store, if_neg q1, if_neg q2, if_pos q3, if_pos q4]
      exact W.vret hx hb hr (fun t ht hW => ⟨rfl, by rw [ht, ← e9]; exact hP, hS.F ht⟩) hS.2.2 d_B_store_120
    · refine lv_iload_n hx hb d_B_store_96 rfl (lv_at hl 2 rfl) ?_
      refine lv_iconst (v := (2 : Int32)) hx hb d_B_store_97 (by decide) ?_
      refine lv_iand hx hb d_B_store_98 ?_
      refine lv_if_ne (tgt := 113) hx hb d_B_store_99 (by decide) (fun q5 => ?_) (fun q5 => ?_)
      · refine lv_aload_n hx hb d_B_store_113 rfl (lv_at hl 0 rfl) ?_
        refine va_get (D := D) (ci := 0) (v := .ref (ad 1)) (C := R_B) (T := F_B) (N := 10) hx hb hT in_B hown hK hP 0 rfl rfl 0 (by decide) (hT _ fl_B_9) (fun _ h9 => h9) rfl d_B_store_114 ?_
        refine lv_iload_n hx hb d_B_store_117 rfl (lv_at hl 1 rfl) ?_
        refine lv_iload_n hx hb d_B_store_118 rfl (lv_at hl 2 rfl) ?_
        refine va_iast (A := (kA 7 ad)) hx hb hK hP (hD _) hS 1 0 rfl rfl (by first | assumption | exact kin (by decide) | exact kwr21 (by with_reducible assumption) | exact kwr22 (by with_reducible assumption)) d_B_store_119 (fun H locs hP _ hS => ?_)
        have hP := kst (bw_s1 cA ad σ (r).toNatClampNeg v) hP
        have e9 : (kup σ 0 (r).toNatClampNeg v) = f_B_store σ r v := by rw [f_B_store, if_neg q1, if_neg q2, if_pos q3, if_neg q4, if_neg q5]
        exact W.vret hx hb hr (fun t ht hW => ⟨rfl, by rw [ht, ← e9]; exact hP, hS.F ht⟩) hS.2.2 d_B_store_120
      · refine lv_aload_n hx hb d_B_store_102 rfl (lv_at hl 0 rfl) ?_
        refine lv_iload_n hx hb d_B_store_103 rfl (lv_at hl 1 rfl) ?_
        refine lv_bipush (v := (21 : Int32)) hx hb d_B_store_104 (by decide) ?_
        refine lv_isub hx hb d_B_store_106 ?_
        refine kcv (va_runV (As := [.int (r - (21 : Int32))]) (rest := []) ⟨hx, hb, hml, hown, hT⟩ (c_B_unlock l D cA ad t hap σ (r - (21 : Int32)) (by first | assumption | exact kin (by decide) | exact kwr21 (by with_reducible assumption) | exact kwr22 (by with_reducible assumption))) (kCV 1 hT ml_B_93 mi_B_unlock ⟨Nat.le_of_ble_eq_true rfl, Nat.le_of_ble_eq_true rfl⟩) (bpreV hK hP hZ hS) rfl rfl hl.1 rfl (lv_room (Nat.le_of_ble_eq_true rfl)) d_B_store_107 ⟨Nat.le_of_ble_eq_true rfl, Nat.le_of_ble_eq_true rfl⟩) hS (fun H locs hP hS => ?_)
        refine lv_goto (tgt := 113) hx hb d_B_store_110 (by decide) ?_
        refine lv_aload_n hx hb d_B_store_113 rfl (lv_at hl 0 rfl) ?_
        refine va_get (D := D) (ci := 0) (v := .ref (ad 1)) (C := R_B) (T := F_B) (N := 10) hx hb hT in_B hown hK hP 0 rfl rfl 0 (by decide) (hT _ fl_B_9) (fun _ h9 => h9) rfl d_B_store_114 ?_
        refine lv_iload_n hx hb d_B_store_117 rfl (lv_at hl 1 rfl) ?_
        refine lv_iload_n hx hb d_B_store_118 rfl (lv_at hl 2 rfl) ?_
        refine va_iast (A := (kA 7 ad)) hx hb hK hP (hD _) hS 1 0 rfl rfl (by first | assumption | exact kin (by decide) | exact kwr21 (by with_reducible assumption) | exact kwr22 (by with_reducible assumption)) d_B_store_119 (fun H locs hP _ hS => ?_)
        have hP := kst (bw_s1 cA ad (f_B_unlock σ (r - (21 : Int32))) (r).toNatClampNeg v) hP
        have e9 : (kup (f_B_unlock σ (r - (21 : Int32))) 0 (r).toNatClampNeg v) = f_B_store σ r v := by rw [f_B_store, if_neg q1, if_neg q2, if_pos q3, if_neg q4, if_pos q5]
        exact W.vret hx hb hr (fun t ht hW => ⟨rfl, by rw [ht, ← e9]; exact hP, hS.F ht⟩) hS.2.2 d_B_store_120
  by_cases q6 : r = (22 : Int32)
  · refine lv_lookup (tgt := 87) (off := 86) hx hb d_B_store_1 (by decide) (by rw [q6]; decide) (by decide) ?_
    refine lv_aload_n hx hb d_B_store_87 rfl (lv_at hl 0 rfl) ?_
    refine lv_iload_n hx hb d_B_store_88 rfl (lv_at hl 1 rfl) ?_
    refine lv_iconst (v := (2 : Int32)) hx hb d_B_store_89 (by decide) ?_
    refine vp_callSi (va_Run.run (va_runV (As := [.int r, .int (2 : Int32)]) (rest := []) ⟨hx, hb, hml, hown, hT⟩ (c_B_hasBit l D cA ad t hap σ r (2 : Int32) (by first | assumption | exact kin (by decide) | exact kwr21 (by with_reducible assumption) | exact kwr22 (by with_reducible assumption))) (kCV 2 hT ml_B_90 mi_B_hasBit ⟨Nat.le_of_ble_eq_true rfl, Nat.le_of_ble_eq_true rfl⟩) (bpreV hK hP hZ hS) rfl rfl hl.1 rfl (lv_room (Nat.le_of_ble_eq_true rfl)) d_B_store_90 ⟨Nat.le_of_ble_eq_true rfl, Nat.le_of_ble_eq_true rfl⟩)) (fun r9 e9 => ?_)
    subst e9
    refine lv_if_eq (tgt := 113) hx hb d_B_store_93 (by decide) (fun q7 => ?_) (fun q7 => ?_)
    · refine lv_aload_n hx hb d_B_store_113 rfl (lv_at hl 0 rfl) ?_
      refine va_get (D := D) (ci := 0) (v := .ref (ad 1)) (C := R_B) (T := F_B) (N := 10) hx hb hT in_B hown hK hP 0 rfl rfl 0 (by decide) (hT _ fl_B_9) (fun _ h9 => h9) rfl d_B_store_114 ?_
      refine lv_iload_n hx hb d_B_store_117 rfl (lv_at hl 1 rfl) ?_
      refine lv_iload_n hx hb d_B_store_118 rfl (lv_at hl 2 rfl) ?_
      refine va_iast (A := (kA 7 ad)) hx hb hK hP (hD _) hS 1 0 rfl rfl (by first | assumption | exact kin (by decide) | exact kwr21 (by with_reducible assumption) | exact kwr22 (by with_reducible assumption)) d_B_store_119 (fun H locs hP _ hS => ?_)
      have hP := kst (bw_s1 cA ad σ (r).toNatClampNeg v) hP
      have e9 : (kup σ 0 (r).toNatClampNeg v) = f_B_store σ r v := by rw [f_B_store, if_neg q1, if_neg q2, if_neg q3, if_pos q6, if_pos q7]
      exact W.vret hx hb hr (fun t ht hW => ⟨rfl, by rw [ht, ← e9]; exact hP, hS.F ht⟩) hS.2.2 d_B_store_120
    · refine lv_iload_n hx hb d_B_store_96 rfl (lv_at hl 2 rfl) ?_
      refine lv_iconst (v := (2 : Int32)) hx hb d_B_store_97 (by decide) ?_
      refine lv_iand hx hb d_B_store_98 ?_
      refine lv_if_ne (tgt := 113) hx hb d_B_store_99 (by decide) (fun q8 => ?_) (fun q8 => ?_)
      · refine lv_aload_n hx hb d_B_store_113 rfl (lv_at hl 0 rfl) ?_
        refine va_get (D := D) (ci := 0) (v := .ref (ad 1)) (C := R_B) (T := F_B) (N := 10) hx hb hT in_B hown hK hP 0 rfl rfl 0 (by decide) (hT _ fl_B_9) (fun _ h9 => h9) rfl d_B_store_114 ?_
        refine lv_iload_n hx hb d_B_store_117 rfl (lv_at hl 1 rfl) ?_
        refine lv_iload_n hx hb d_B_store_118 rfl (lv_at hl 2 rfl) ?_
        refine va_iast (A := (kA 7 ad)) hx hb hK hP (hD _) hS 1 0 rfl rfl (by first | assumption | exact kin (by decide) | exact kwr21 (by with_reducible assumption) | exact kwr22 (by with_reducible assumption)) d_B_store_119 (fun H locs hP _ hS => ?_)
        have hP := kst (bw_s1 cA ad σ (r).toNatClampNeg v) hP
        have e9 : (kup σ 0 (r).toNatClampNeg v) = f_B_store σ r v := by rw [f_B_store, if_neg q1, if_neg q2, if_neg q3, if_pos q6, if_neg q7, if_neg q8]
        exact W.vret hx hb hr (fun t ht hW => ⟨rfl, by rw [ht, ← e9]; exact hP, hS.F ht⟩) hS.2.2 d_B_store_120
      · refine lv_aload_n hx hb d_B_store_102 rfl (lv_at hl 0 rfl) ?_
        refine lv_iload_n hx hb d_B_store_103 rfl (lv_at hl 1 rfl) ?_
        refine lv_bipush (v := (21 : Int32)) hx hb d_B_store_104 (by decide) ?_
        refine lv_isub hx hb d_B_store_106 ?_
        refine kcv (va_runV (As := [.int (r - (21 : Int32))]) (rest := []) ⟨hx, hb, hml, hown, hT⟩ (c_B_unlock l D cA ad t hap σ (r - (21 : Int32)) (by first | assumption | exact kin (by decide) | exact kwr21 (by with_reducible assumption) | exact kwr22 (by with_reducible assumption))) (kCV 1 hT ml_B_93 mi_B_unlock ⟨Nat.le_of_ble_eq_true rfl, Nat.le_of_ble_eq_true rfl⟩) (bpreV hK hP hZ hS) rfl rfl hl.1 rfl (lv_room (Nat.le_of_ble_eq_true rfl)) d_B_store_107 ⟨Nat.le_of_ble_eq_true rfl, Nat.le_of_ble_eq_true rfl⟩) hS (fun H locs hP hS => ?_)
        refine lv_goto (tgt := 113) hx hb d_B_store_110 (by decide) ?_
        refine lv_aload_n hx hb d_B_store_113 rfl (lv_at hl 0 rfl) ?_
        refine va_get (D := D) (ci := 0) (v := .ref (ad 1)) (C := R_B) (T := F_B) (N := 10) hx hb hT in_B hown hK hP 0 rfl rfl 0 (by decide) (hT _ fl_B_9) (fun _ h9 => h9) rfl d_B_store_114 ?_
        refine lv_iload_n hx hb d_B_store_117 rfl (lv_at hl 1 rfl) ?_
        refine lv_iload_n hx hb d_B_store_118 rfl (lv_at hl 2 rfl) ?_
        refine va_iast (A := (kA 7 ad)) hx hb hK hP (hD _) hS 1 0 rfl rfl (by first | assumption | exact kin (by decide) | exact kwr21 (by with_reducible assumption) | exact kwr22 (by with_reducible assumption)) d_B_store_119 (fun H locs hP _ hS => ?_)
        have hP := kst (bw_s1 cA ad (f_B_unlock σ (r - (21 : Int32))) (r).toNatClampNeg v) hP
        have e9 : (kup (f_B_unlock σ (r - (21 : Int32))) 0 (r).toNatClampNeg v) = f_B_store σ r v := by rw [f_B_store, if_neg q1, if_neg q2, if_neg q3, if_pos q6, if_neg q7, if_pos q8]
        exact W.vret hx hb hr (fun t ht hW => ⟨rfl, by rw [ht, ← e9]; exact hP, hS.F ht⟩) hS.2.2 d_B_store_120
  refine lv_lookup (tgt := 113) (off := 112) hx hb d_B_store_1 (by decide) (by simp only [List.toList_toArray]; rw [lv_osw q1 (k := (9 : Int32)) (a := 9) rfl, lv_osw q2 (k := (10 : Int32)) (a := 10) rfl, lv_osw q3 (k := (21 : Int32)) (a := 21) rfl, lv_osw q6 (k := (22 : Int32)) (a := 22) rfl]; rfl) (by decide) ?_
  refine lv_aload_n hx hb d_B_store_113 rfl (lv_at hl 0 rfl) ?_
  refine va_get (D := D) (ci := 0) (v := .ref (ad 1)) (C := R_B) (T := F_B) (N := 10) hx hb hT in_B hown hK hP 0 rfl rfl 0 (by decide) (hT _ fl_B_9) (fun _ h9 => h9) rfl d_B_store_114 ?_
  refine lv_iload_n hx hb d_B_store_117 rfl (lv_at hl 1 rfl) ?_
  refine lv_iload_n hx hb d_B_store_118 rfl (lv_at hl 2 rfl) ?_
  refine va_iast (A := (kA 7 ad)) hx hb hK hP (hD _) hS 1 0 rfl rfl (by first | assumption | exact kin (by decide) | exact kwr21 (by with_reducible assumption) | exact kwr22 (by with_reducible assumption)) d_B_store_119 (fun H locs hP _ hS => ?_)
  have hP := kst (bw_s1 cA ad σ (r).toNatClampNeg v) hP
  have e9 : (kup σ 0 (r).toNatClampNeg v) = f_B_store σ r v := by rw [f_B_store, if_neg q1, if_neg q2, if_neg q3, if_neg q6]
  exact W.vret hx hb hr (fun t ht hW => ⟨rfl, by rw [ht, ← e9]; exact hP, hS.F ht⟩) hS.2.2 d_B_store_120
end
