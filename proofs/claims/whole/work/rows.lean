section
-- ===== PART A: goes FIRST, ahead of the names: the tables' words, and 'selects' of the private methods out of them =====
/-- a private method of a class that the tables say can be made, by its rows of tables_1 -/
def lw_okq (q : MethodName × Nat) : Prop := (q.1.cls ≠ "java/lang/invoke/MethodHandle" ∧ q.1.cls ≠ "java/lang/invoke/VarHandle") ∧ Cond.instantiable q.1.cls q.2 ∈ tables_1 ∧ Cond.privateMethod q.1 ∈ tables_1 ∧ Cond.instanceMethod q.1 ∈ tables_1
theorem lw_p0 : lw_okq (⟨"TabLines", "saveState", "()V"⟩, 7) := ⟨⟨by decide +kernel, by decide +kernel⟩, List.mem_of_getElem? (i := 12) (by decide +kernel), List.mem_of_getElem? (i := 245) (by decide +kernel), List.mem_of_getElem? (i := 246) (by decide +kernel)⟩
theorem lw_p1 : lw_okq (⟨"TabLines", "isStyle", "(I)Z"⟩, 7) := ⟨⟨by decide +kernel, by decide +kernel⟩, List.mem_of_getElem? (i := 12) (by decide +kernel), List.mem_of_getElem? (i := 265) (by decide +kernel), List.mem_of_getElem? (i := 266) (by decide +kernel)⟩
theorem lw_p2 : lw_okq (⟨"TabLines$StopReader", "skipSpaces", "()V"⟩, 4) := ⟨⟨by decide +kernel, by decide +kernel⟩, List.mem_of_getElem? (i := 91) (by decide +kernel), List.mem_of_getElem? (i := 321) (by decide +kernel), List.mem_of_getElem? (i := 322) (by decide +kernel)⟩
theorem lw_p3 : lw_okq (⟨"TabLines$StopReader", "next", "()I"⟩, 4) := ⟨⟨by decide +kernel, by decide +kernel⟩, List.mem_of_getElem? (i := 91) (by decide +kernel), List.mem_of_getElem? (i := 325) (by decide +kernel), List.mem_of_getElem? (i := 326) (by decide +kernel)⟩
theorem lw_p4 : lw_okq (⟨"TabLines$StopReader", "readItem", "()Z"⟩, 4) := ⟨⟨by decide +kernel, by decide +kernel⟩, List.mem_of_getElem? (i := 91) (by decide +kernel), List.mem_of_getElem? (i := 329) (by decide +kernel), List.mem_of_getElem? (i := 330) (by decide +kernel)⟩
theorem lw_p5 : lw_okq (⟨"TabLines$StopReader", "readPosition", "()I"⟩, 4) := ⟨⟨by decide +kernel, by decide +kernel⟩, List.mem_of_getElem? (i := 91) (by decide +kernel), List.mem_of_getElem? (i := 336) (by decide +kernel), List.mem_of_getElem? (i := 337) (by decide +kernel)⟩
theorem lw_p6 : lw_okq (⟨"TabLines", "isParagraph", "(I)Z"⟩, 7) := ⟨⟨by decide +kernel, by decide +kernel⟩, List.mem_of_getElem? (i := 12) (by decide +kernel), List.mem_of_getElem? (i := 360) (by decide +kernel), List.mem_of_getElem? (i := 361) (by decide +kernel)⟩
theorem lw_p7 : lw_okq (⟨"TabLines", "layOut", "(II)V"⟩, 7) := ⟨⟨by decide +kernel, by decide +kernel⟩, List.mem_of_getElem? (i := 12) (by decide +kernel), List.mem_of_getElem? (i := 397) (by decide +kernel), List.mem_of_getElem? (i := 398) (by decide +kernel)⟩
theorem lw_p8 : lw_okq (⟨"TabLines", "styleOf", "(I)LTabLines$Style;"⟩, 7) := ⟨⟨by decide +kernel, by decide +kernel⟩, List.mem_of_getElem? (i := 12) (by decide +kernel), List.mem_of_getElem? (i := 401) (by decide +kernel), List.mem_of_getElem? (i := 402) (by decide +kernel)⟩
theorem lw_p9 : lw_okq (⟨"TabLines$Words", "startWord", "(I)V"⟩, 6) := ⟨⟨by decide +kernel, by decide +kernel⟩, List.mem_of_getElem? (i := 119) (by decide +kernel), List.mem_of_getElem? (i := 417) (by decide +kernel), List.mem_of_getElem? (i := 418) (by decide +kernel)⟩
theorem lw_p10 : lw_okq (⟨"TabLines$Words", "growWord", "(I)V"⟩, 6) := ⟨⟨by decide +kernel, by decide +kernel⟩, List.mem_of_getElem? (i := 119) (by decide +kernel), List.mem_of_getElem? (i := 421) (by decide +kernel), List.mem_of_getElem? (i := 422) (by decide +kernel)⟩
theorem lw_p11 : lw_okq (⟨"TabLines$Words", "endField", "()V"⟩, 6) := ⟨⟨by decide +kernel, by decide +kernel⟩, List.mem_of_getElem? (i := 119) (by decide +kernel), List.mem_of_getElem? (i := 426) (by decide +kernel), List.mem_of_getElem? (i := 427) (by decide +kernel)⟩
theorem lw_p12 : lw_okq (⟨"TabLines$Layout", "startField", "(III)V"⟩, 12) := ⟨⟨by decide +kernel, by decide +kernel⟩, List.mem_of_getElem? (i := 113) (by decide +kernel), List.mem_of_getElem? (i := 434) (by decide +kernel), List.mem_of_getElem? (i := 435) (by decide +kernel)⟩
theorem lw_p13 : lw_okq (⟨"TabLines$Layout", "flow", "(II)V"⟩, 12) := ⟨⟨by decide +kernel, by decide +kernel⟩, List.mem_of_getElem? (i := 113) (by decide +kernel), List.mem_of_getElem? (i := 446) (by decide +kernel), List.mem_of_getElem? (i := 447) (by decide +kernel)⟩
theorem lw_p14 : lw_okq (⟨"TabLines$Layout", "startLine", "()V"⟩, 12) := ⟨⟨by decide +kernel, by decide +kernel⟩, List.mem_of_getElem? (i := 113) (by decide +kernel), List.mem_of_getElem? (i := 454) (by decide +kernel), List.mem_of_getElem? (i := 455) (by decide +kernel)⟩
theorem lw_p15 : lw_okq (⟨"TabLines$Layout", "place", "(I)V"⟩, 12) := ⟨⟨by decide +kernel, by decide +kernel⟩, List.mem_of_getElem? (i := 113) (by decide +kernel), List.mem_of_getElem? (i := 458) (by decide +kernel), List.mem_of_getElem? (i := 459) (by decide +kernel)⟩
def lw_privs_1 : List (MethodName × Nat) := [(⟨"TabLines", "saveState", "()V"⟩, 7), (⟨"TabLines", "isStyle", "(I)Z"⟩, 7), (⟨"TabLines$StopReader", "skipSpaces", "()V"⟩, 4), (⟨"TabLines$StopReader", "next", "()I"⟩, 4), (⟨"TabLines$StopReader", "readItem", "()Z"⟩, 4), (⟨"TabLines$StopReader", "readPosition", "()I"⟩, 4), (⟨"TabLines", "isParagraph", "(I)Z"⟩, 7), (⟨"TabLines", "layOut", "(II)V"⟩, 7), (⟨"TabLines", "styleOf", "(I)LTabLines$Style;"⟩, 7), (⟨"TabLines$Words", "startWord", "(I)V"⟩, 6), (⟨"TabLines$Words", "growWord", "(I)V"⟩, 6), (⟨"TabLines$Words", "endField", "()V"⟩, 6), (⟨"TabLines$Layout", "startField", "(III)V"⟩, 12), (⟨"TabLines$Layout", "flow", "(II)V"⟩, 12), (⟨"TabLines$Layout", "startLine", "()V"⟩, 12), (⟨"TabLines$Layout", "place", "(I)V"⟩, 12)]
theorem lw_r1 : ∀ q ∈ lw_privs_1, lw_okq q := List.forall_mem_cons.mpr ⟨lw_p0, List.forall_mem_cons.mpr ⟨lw_p1, List.forall_mem_cons.mpr ⟨lw_p2, List.forall_mem_cons.mpr ⟨lw_p3, List.forall_mem_cons.mpr ⟨lw_p4, List.forall_mem_cons.mpr ⟨lw_p5, List.forall_mem_cons.mpr ⟨lw_p6, List.forall_mem_cons.mpr ⟨lw_p7, List.forall_mem_cons.mpr ⟨lw_p8, List.forall_mem_cons.mpr ⟨lw_p9, List.forall_mem_cons.mpr ⟨lw_p10, List.forall_mem_cons.mpr ⟨lw_p11, List.forall_mem_cons.mpr ⟨lw_p12, List.forall_mem_cons.mpr ⟨lw_p13, List.forall_mem_cons.mpr ⟨lw_p14, List.forall_mem_cons.mpr ⟨lw_p15, fun _ h => absurd h List.not_mem_nil⟩⟩⟩⟩⟩⟩⟩⟩⟩⟩⟩⟩⟩⟩⟩⟩
theorem lw_p16 : lw_okq (⟨"TabLines$Layout", "noteFilled", "()V"⟩, 12) := ⟨⟨by decide +kernel, by decide +kernel⟩, List.mem_of_getElem? (i := 113) (by decide +kernel), List.mem_of_getElem? (i := 474) (by decide +kernel), List.mem_of_getElem? (i := 475) (by decide +kernel)⟩
theorem lw_p17 : lw_okq (⟨"TabLines$Layout", "fillBehindTab", "(LTabLines$Style;)V"⟩, 12) := ⟨⟨by decide +kernel, by decide +kernel⟩, List.mem_of_getElem? (i := 113) (by decide +kernel), List.mem_of_getElem? (i := 478) (by decide +kernel), List.mem_of_getElem? (i := 479) (by decide +kernel)⟩
theorem lw_p18 : lw_okq (⟨"TabLines$Layout", "measureRun", "(III)V"⟩, 12) := ⟨⟨by decide +kernel, by decide +kernel⟩, List.mem_of_getElem? (i := 113) (by decide +kernel), List.mem_of_getElem? (i := 499) (by decide +kernel), List.mem_of_getElem? (i := 500) (by decide +kernel)⟩
theorem lw_p19 : lw_okq (⟨"TabLines$Layout", "startRun", "(III)V"⟩, 12) := ⟨⟨by decide +kernel, by decide +kernel⟩, List.mem_of_getElem? (i := 113) (by decide +kernel), List.mem_of_getElem? (i := 511) (by decide +kernel), List.mem_of_getElem? (i := 512) (by decide +kernel)⟩
theorem lw_p20 : lw_okq (⟨"TabLines$Layout", "runAhead", "(I)I"⟩, 12) := ⟨⟨by decide +kernel, by decide +kernel⟩, List.mem_of_getElem? (i := 113) (by decide +kernel), List.mem_of_getElem? (i := 515) (by decide +kernel), List.mem_of_getElem? (i := 516) (by decide +kernel)⟩
theorem lw_p21 : lw_okq (⟨"TabLinesModel", "notes", "()V"⟩, 18) := ⟨⟨by decide +kernel, by decide +kernel⟩, List.mem_of_getElem? (i := 586) (by decide +kernel), List.mem_of_getElem? (i := 659) (by decide +kernel), List.mem_of_getElem? (i := 660) (by decide +kernel)⟩
theorem lw_p22 : lw_okq (⟨"TabLinesModel", "of", "(II)I"⟩, 18) := ⟨⟨by decide +kernel, by decide +kernel⟩, List.mem_of_getElem? (i := 586) (by decide +kernel), List.mem_of_getElem? (i := 670) (by decide +kernel), List.mem_of_getElem? (i := 671) (by decide +kernel)⟩
theorem lw_p23 : lw_okq (⟨"TabLinesModel", "hasStop", "(II)Z"⟩, 18) := ⟨⟨by decide +kernel, by decide +kernel⟩, List.mem_of_getElem? (i := 586) (by decide +kernel), List.mem_of_getElem? (i := 681) (by decide +kernel), List.mem_of_getElem? (i := 682) (by decide +kernel)⟩
theorem lw_p24 : lw_okq (⟨"TabLinesModel", "stopOf", "(III)I"⟩, 18) := ⟨⟨by decide +kernel, by decide +kernel⟩, List.mem_of_getElem? (i := 586) (by decide +kernel), List.mem_of_getElem? (i := 685) (by decide +kernel), List.mem_of_getElem? (i := 686) (by decide +kernel)⟩
theorem lw_p25 : lw_okq (⟨"TabLinesModel", "puts", "(IIII)I"⟩, 18) := ⟨⟨by decide +kernel, by decide +kernel⟩, List.mem_of_getElem? (i := 586) (by decide +kernel), List.mem_of_getElem? (i := 689) (by decide +kernel), List.mem_of_getElem? (i := 690) (by decide +kernel)⟩
theorem lw_p26 : lw_okq (⟨"TabLinesModel", "here", "()I"⟩, 18) := ⟨⟨by decide +kernel, by decide +kernel⟩, List.mem_of_getElem? (i := 586) (by decide +kernel), List.mem_of_getElem? (i := 709) (by decide +kernel), List.mem_of_getElem? (i := 710) (by decide +kernel)⟩
theorem lw_p27 : lw_okq (⟨"TabLinesModel", "readsItem", "()Z"⟩, 18) := ⟨⟨by decide +kernel, by decide +kernel⟩, List.mem_of_getElem? (i := 586) (by decide +kernel), List.mem_of_getElem? (i := 713) (by decide +kernel), List.mem_of_getElem? (i := 714) (by decide +kernel)⟩
theorem lw_p28 : lw_okq (⟨"TabLinesModel", "isTold", "(I)Z"⟩, 18) := ⟨⟨by decide +kernel, by decide +kernel⟩, List.mem_of_getElem? (i := 586) (by decide +kernel), List.mem_of_getElem? (i := 720) (by decide +kernel), List.mem_of_getElem? (i := 721) (by decide +kernel)⟩
theorem lw_p29 : lw_okq (⟨"TabLinesModel", "isParagraph", "(I)Z"⟩, 18) := ⟨⟨by decide +kernel, by decide +kernel⟩, List.mem_of_getElem? (i := 586) (by decide +kernel), List.mem_of_getElem? (i := 738) (by decide +kernel), List.mem_of_getElem? (i := 739) (by decide +kernel)⟩
theorem lw_p30 : lw_okq (⟨"TabLinesModel", "adds", "(II)V"⟩, 18) := ⟨⟨by decide +kernel, by decide +kernel⟩, List.mem_of_getElem? (i := 586) (by decide +kernel), List.mem_of_getElem? (i := 757) (by decide +kernel), List.mem_of_getElem? (i := 758) (by decide +kernel)⟩
theorem lw_p31 : lw_okq (⟨"TabLinesModel", "lays", "(II)I"⟩, 18) := ⟨⟨by decide +kernel, by decide +kernel⟩, List.mem_of_getElem? (i := 586) (by decide +kernel), List.mem_of_getElem? (i := 770) (by decide +kernel), List.mem_of_getElem? (i := 771) (by decide +kernel)⟩
def lw_privs_2 : List (MethodName × Nat) := [(⟨"TabLines$Layout", "noteFilled", "()V"⟩, 12), (⟨"TabLines$Layout", "fillBehindTab", "(LTabLines$Style;)V"⟩, 12), (⟨"TabLines$Layout", "measureRun", "(III)V"⟩, 12), (⟨"TabLines$Layout", "startRun", "(III)V"⟩, 12), (⟨"TabLines$Layout", "runAhead", "(I)I"⟩, 12), (⟨"TabLinesModel", "notes", "()V"⟩, 18), (⟨"TabLinesModel", "of", "(II)I"⟩, 18), (⟨"TabLinesModel", "hasStop", "(II)Z"⟩, 18), (⟨"TabLinesModel", "stopOf", "(III)I"⟩, 18), (⟨"TabLinesModel", "puts", "(IIII)I"⟩, 18), (⟨"TabLinesModel", "here", "()I"⟩, 18), (⟨"TabLinesModel", "readsItem", "()Z"⟩, 18), (⟨"TabLinesModel", "isTold", "(I)Z"⟩, 18), (⟨"TabLinesModel", "isParagraph", "(I)Z"⟩, 18), (⟨"TabLinesModel", "adds", "(II)V"⟩, 18), (⟨"TabLinesModel", "lays", "(II)I"⟩, 18)]
theorem lw_r2 : ∀ q ∈ lw_privs_2, lw_okq q := List.forall_mem_cons.mpr ⟨lw_p16, List.forall_mem_cons.mpr ⟨lw_p17, List.forall_mem_cons.mpr ⟨lw_p18, List.forall_mem_cons.mpr ⟨lw_p19, List.forall_mem_cons.mpr ⟨lw_p20, List.forall_mem_cons.mpr ⟨lw_p21, List.forall_mem_cons.mpr ⟨lw_p22, List.forall_mem_cons.mpr ⟨lw_p23, List.forall_mem_cons.mpr ⟨lw_p24, List.forall_mem_cons.mpr ⟨lw_p25, List.forall_mem_cons.mpr ⟨lw_p26, List.forall_mem_cons.mpr ⟨lw_p27, List.forall_mem_cons.mpr ⟨lw_p28, List.forall_mem_cons.mpr ⟨lw_p29, List.forall_mem_cons.mpr ⟨lw_p30, List.forall_mem_cons.mpr ⟨lw_p31, fun _ h => absurd h List.not_mem_nil⟩⟩⟩⟩⟩⟩⟩⟩⟩⟩⟩⟩⟩⟩⟩⟩
theorem lw_p32 : lw_okq (⟨"TabLinesModel", "opensLine", "()V"⟩, 18) := ⟨⟨by decide +kernel, by decide +kernel⟩, List.mem_of_getElem? (i := 586) (by decide +kernel), List.mem_of_getElem? (i := 774) (by decide +kernel), List.mem_of_getElem? (i := 775) (by decide +kernel)⟩
theorem lw_p33 : lw_okq (⟨"TabLinesModel", "length", "()I"⟩, 18) := ⟨⟨by decide +kernel, by decide +kernel⟩, List.mem_of_getElem? (i := 586) (by decide +kernel), List.mem_of_getElem? (i := 778) (by decide +kernel), List.mem_of_getElem? (i := 779) (by decide +kernel)⟩
theorem lw_p34 : lw_okq (⟨"TabLinesModel", "letterAt", "(I)I"⟩, 18) := ⟨⟨by decide +kernel, by decide +kernel⟩, List.mem_of_getElem? (i := 586) (by decide +kernel), List.mem_of_getElem? (i := 782) (by decide +kernel), List.mem_of_getElem? (i := 783) (by decide +kernel)⟩
theorem lw_p35 : lw_okq (⟨"TabLinesModel", "begins", "(III)V"⟩, 18) := ⟨⟨by decide +kernel, by decide +kernel⟩, List.mem_of_getElem? (i := 586) (by decide +kernel), List.mem_of_getElem? (i := 786) (by decide +kernel), List.mem_of_getElem? (i := 787) (by decide +kernel)⟩
theorem lw_p36 : lw_okq (⟨"TabLinesModel", "flows", "(II)V"⟩, 18) := ⟨⟨by decide +kernel, by decide +kernel⟩, List.mem_of_getElem? (i := 586) (by decide +kernel), List.mem_of_getElem? (i := 790) (by decide +kernel), List.mem_of_getElem? (i := 791) (by decide +kernel)⟩
theorem lw_p37 : lw_okq (⟨"TabLinesModel", "wordFrom", "(II)I"⟩, 18) := ⟨⟨by decide +kernel, by decide +kernel⟩, List.mem_of_getElem? (i := 586) (by decide +kernel), List.mem_of_getElem? (i := 794) (by decide +kernel), List.mem_of_getElem? (i := 795) (by decide +kernel)⟩
theorem lw_p38 : lw_okq (⟨"TabLinesModel", "endOfWord", "(II)I"⟩, 18) := ⟨⟨by decide +kernel, by decide +kernel⟩, List.mem_of_getElem? (i := 586) (by decide +kernel), List.mem_of_getElem? (i := 798) (by decide +kernel), List.mem_of_getElem? (i := 799) (by decide +kernel)⟩
theorem lw_p39 : lw_okq (⟨"TabLinesModel", "newLine", "()V"⟩, 18) := ⟨⟨by decide +kernel, by decide +kernel⟩, List.mem_of_getElem? (i := 586) (by decide +kernel), List.mem_of_getElem? (i := 802) (by decide +kernel), List.mem_of_getElem? (i := 803) (by decide +kernel)⟩
theorem lw_p40 : lw_okq (⟨"TabLinesModel", "writes", "(II)V"⟩, 18) := ⟨⟨by decide +kernel, by decide +kernel⟩, List.mem_of_getElem? (i := 586) (by decide +kernel), List.mem_of_getElem? (i := 806) (by decide +kernel), List.mem_of_getElem? (i := 807) (by decide +kernel)⟩
theorem lw_p41 : lw_okq (⟨"TabLinesModel", "fills", "()V"⟩, 18) := ⟨⟨by decide +kernel, by decide +kernel⟩, List.mem_of_getElem? (i := 586) (by decide +kernel), List.mem_of_getElem? (i := 810) (by decide +kernel), List.mem_of_getElem? (i := 811) (by decide +kernel)⟩
theorem lw_p42 : lw_okq (⟨"TabLinesModel", "laysField", "(II)V"⟩, 18) := ⟨⟨by decide +kernel, by decide +kernel⟩, List.mem_of_getElem? (i := 586) (by decide +kernel), List.mem_of_getElem? (i := 814) (by decide +kernel), List.mem_of_getElem? (i := 815) (by decide +kernel)⟩
theorem lw_p43 : lw_okq (⟨"TabLinesModel", "ownStop", "()I"⟩, 18) := ⟨⟨by decide +kernel, by decide +kernel⟩, List.mem_of_getElem? (i := 586) (by decide +kernel), List.mem_of_getElem? (i := 818) (by decide +kernel), List.mem_of_getElem? (i := 819) (by decide +kernel)⟩
theorem lw_p44 : lw_okq (⟨"TabLinesModel", "lastStop", "()I"⟩, 18) := ⟨⟨by decide +kernel, by decide +kernel⟩, List.mem_of_getElem? (i := 586) (by decide +kernel), List.mem_of_getElem? (i := 822) (by decide +kernel), List.mem_of_getElem? (i := 823) (by decide +kernel)⟩
theorem lw_p45 : lw_okq (⟨"TabLinesModel", "defaultBehind", "(I)I"⟩, 18) := ⟨⟨by decide +kernel, by decide +kernel⟩, List.mem_of_getElem? (i := 586) (by decide +kernel), List.mem_of_getElem? (i := 826) (by decide +kernel), List.mem_of_getElem? (i := 827) (by decide +kernel)⟩
theorem lw_p46 : lw_okq (⟨"TabLinesModel", "flowsAnew", "(II)V"⟩, 18) := ⟨⟨by decide +kernel, by decide +kernel⟩, List.mem_of_getElem? (i := 586) (by decide +kernel), List.mem_of_getElem? (i := 830) (by decide +kernel), List.mem_of_getElem? (i := 831) (by decide +kernel)⟩
theorem lw_p47 : lw_okq (⟨"TabLinesModel", "endOfRun", "(III)I"⟩, 18) := ⟨⟨by decide +kernel, by decide +kernel⟩, List.mem_of_getElem? (i := 586) (by decide +kernel), List.mem_of_getElem? (i := 834) (by decide +kernel), List.mem_of_getElem? (i := 835) (by decide +kernel)⟩
def lw_privs_3 : List (MethodName × Nat) := [(⟨"TabLinesModel", "opensLine", "()V"⟩, 18), (⟨"TabLinesModel", "length", "()I"⟩, 18), (⟨"TabLinesModel", "letterAt", "(I)I"⟩, 18), (⟨"TabLinesModel", "begins", "(III)V"⟩, 18), (⟨"TabLinesModel", "flows", "(II)V"⟩, 18), (⟨"TabLinesModel", "wordFrom", "(II)I"⟩, 18), (⟨"TabLinesModel", "endOfWord", "(II)I"⟩, 18), (⟨"TabLinesModel", "newLine", "()V"⟩, 18), (⟨"TabLinesModel", "writes", "(II)V"⟩, 18), (⟨"TabLinesModel", "fills", "()V"⟩, 18), (⟨"TabLinesModel", "laysField", "(II)V"⟩, 18), (⟨"TabLinesModel", "ownStop", "()I"⟩, 18), (⟨"TabLinesModel", "lastStop", "()I"⟩, 18), (⟨"TabLinesModel", "defaultBehind", "(I)I"⟩, 18), (⟨"TabLinesModel", "flowsAnew", "(II)V"⟩, 18), (⟨"TabLinesModel", "endOfRun", "(III)I"⟩, 18)]
theorem lw_r3 : ∀ q ∈ lw_privs_3, lw_okq q := List.forall_mem_cons.mpr ⟨lw_p32, List.forall_mem_cons.mpr ⟨lw_p33, List.forall_mem_cons.mpr ⟨lw_p34, List.forall_mem_cons.mpr ⟨lw_p35, List.forall_mem_cons.mpr ⟨lw_p36, List.forall_mem_cons.mpr ⟨lw_p37, List.forall_mem_cons.mpr ⟨lw_p38, List.forall_mem_cons.mpr ⟨lw_p39, List.forall_mem_cons.mpr ⟨lw_p40, List.forall_mem_cons.mpr ⟨lw_p41, List.forall_mem_cons.mpr ⟨lw_p42, List.forall_mem_cons.mpr ⟨lw_p43, List.forall_mem_cons.mpr ⟨lw_p44, List.forall_mem_cons.mpr ⟨lw_p45, List.forall_mem_cons.mpr ⟨lw_p46, List.forall_mem_cons.mpr ⟨lw_p47, fun _ h => absurd h List.not_mem_nil⟩⟩⟩⟩⟩⟩⟩⟩⟩⟩⟩⟩⟩⟩⟩⟩
theorem lw_p48 : lw_okq (⟨"TabLinesModel", "lengthOf", "(IIZ)I"⟩, 18) := ⟨⟨by decide +kernel, by decide +kernel⟩, List.mem_of_getElem? (i := 586) (by decide +kernel), List.mem_of_getElem? (i := 838) (by decide +kernel), List.mem_of_getElem? (i := 839) (by decide +kernel)⟩
theorem lw_p49 : lw_okq (⟨"TabLinesModel", "leads", "(II)V"⟩, 18) := ⟨⟨by decide +kernel, by decide +kernel⟩, List.mem_of_getElem? (i := 586) (by decide +kernel), List.mem_of_getElem? (i := 842) (by decide +kernel), List.mem_of_getElem? (i := 843) (by decide +kernel)⟩
theorem lw_p50 : lw_okq (⟨"TabLinesModel", "laysBars", "()V"⟩, 18) := ⟨⟨by decide +kernel, by decide +kernel⟩, List.mem_of_getElem? (i := 586) (by decide +kernel), List.mem_of_getElem? (i := 846) (by decide +kernel), List.mem_of_getElem? (i := 847) (by decide +kernel)⟩
def lw_privs_4 : List (MethodName × Nat) := [(⟨"TabLinesModel", "lengthOf", "(IIZ)I"⟩, 18), (⟨"TabLinesModel", "leads", "(II)V"⟩, 18), (⟨"TabLinesModel", "laysBars", "()V"⟩, 18)]
theorem lw_r4 : ∀ q ∈ lw_privs_4, lw_okq q := List.forall_mem_cons.mpr ⟨lw_p48, List.forall_mem_cons.mpr ⟨lw_p49, List.forall_mem_cons.mpr ⟨lw_p50, fun _ h => absurd h List.not_mem_nil⟩⟩⟩
def lw_privs : List (MethodName × Nat) := lw_privs_1 ++ (lw_privs_2 ++ (lw_privs_3 ++ (lw_privs_4)))
def lw_tbl : List Cond := k2_sels lw_privs ++ tables_1
theorem lw_privs_ok : ∀ q ∈ lw_privs, lw_okq q := by
  show ∀ q ∈ lw_privs_1 ++ (lw_privs_2 ++ (lw_privs_3 ++ (lw_privs_4))), lw_okq q
  exact List.forall_mem_append.mpr ⟨lw_r1, List.forall_mem_append.mpr ⟨lw_r2, List.forall_mem_append.mpr ⟨lw_r3, lw_r4⟩⟩⟩
def RX0 : String := "TabLines$Layout"
def TX0 : u_T := fun k => match k with
  | 0 => ("TabLines$Layout", "words", "LTabLines$Words;", true)
  | 1 => ("TabLines$Layout", "pieces", "LTabLines$Pieces;", true)
  | 2 => ("TabLines$Layout", "fields", "[[I", true)
  | 3 => ("TabLines$Layout", "columns", "I", false)
  | 4 => ("TabLines$Layout", "distance", "I", false)
  | 5 => ("TabLines$Layout", "hanging", "I", false)
  | 6 => ("TabLines$Layout", "row", "I", false)
  | 7 => ("TabLines$Layout", "c", "I", false)
  | 8 => ("TabLines$Layout", "current", "I", false)
  | 9 => ("TabLines$Layout", "runEnd", "I", false)
  | 10 => ("TabLines$Layout", "runLength", "I", false)
  | _ => ("TabLines$Layout", "runPoint", "I", false)
def tyX0 : Nat → FieldType := fun k => match k with
  | 0 => .object "TabLines$Words"
  | 1 => .object "TabLines$Pieces"
  | 2 => .array (.array .int)
  | 3 => .int
  | 4 => .int
  | 5 => .int
  | 6 => .int
  | 7 => .int
  | 8 => .int
  | 9 => .int
  | 10 => .int
  | _ => .int
theorem nmX0 : ∀ a, a < 12 → ∀ b, b < 12 → a ≠ b → (TX0 a).2.1 ≠ (TX0 b).2.1 := by decide +kernel
theorem tyX0_ok : ∀ k, k < 12 → parseFieldDescriptor (TX0 k).2.2.1 = some (tyX0 k) := by decide +kernel
abbrev cX0_init : ByteArray := prog_2_method_1_code
def yX0_init : MethodName := ⟨RX0, "<init>", "()V"⟩
abbrev cX0_lineCount : ByteArray := prog_2_method_2_code
def yX0_lineCount : MethodName := ⟨RX0, "lineCount", "()I"⟩
abbrev cX0_fill : ByteArray := prog_2_method_3_code
def yX0_fill : MethodName := ⟨RX0, "fill", "(LTabLines$Paragraph;LTabLines$Style;II)V"⟩
abbrev cX0_fillBehindTab : ByteArray := prog_2_method_4_code
def yX0_fillBehindTab : MethodName := ⟨RX0, "fillBehindTab", "(LTabLines$Style;)V"⟩
abbrev cX0_measureRun : ByteArray := prog_2_method_5_code
def yX0_measureRun : MethodName := ⟨RX0, "measureRun", "(III)V"⟩
abbrev cX0_startRun : ByteArray := prog_2_method_6_code
def yX0_startRun : MethodName := ⟨RX0, "startRun", "(III)V"⟩
abbrev cX0_runAhead : ByteArray := prog_2_method_7_code
def yX0_runAhead : MethodName := ⟨RX0, "runAhead", "(I)I"⟩
abbrev cX0_startField : ByteArray := prog_2_method_8_code
def yX0_startField : MethodName := ⟨RX0, "startField", "(III)V"⟩
abbrev cX0_startLine : ByteArray := prog_2_method_9_code
def yX0_startLine : MethodName := ⟨RX0, "startLine", "()V"⟩
abbrev cX0_flow : ByteArray := prog_2_method_10_code
def yX0_flow : MethodName := ⟨RX0, "flow", "(II)V"⟩
abbrev cX0_place : ByteArray := prog_2_method_11_code
def yX0_place : MethodName := ⟨RX0, "place", "(I)V"⟩
abbrev cX0_noteFilled : ByteArray := prog_2_method_12_code
def yX0_noteFilled : MethodName := ⟨RX0, "noteFilled", "()V"⟩
abbrev cX0_barColumns : ByteArray := prog_2_method_13_code
def yX0_barColumns : MethodName := ⟨RX0, "barColumns", "(LTabLines$Style;)I"⟩
def RX1 : String := "TabLines$Paragraph"
def TX1 : u_T := fun k => match k with
  | 0 => ("TabLines$Paragraph", "style", "I", false)
  | 1 => ("TabLines$Paragraph", "length", "I", false)
  | _ => ("TabLines$Paragraph", "characters", "[I", true)
def tyX1 : Nat → FieldType := fun k => match k with
  | 0 => .int
  | 1 => .int
  | _ => .array .int
theorem nmX1 : ∀ a, a < 3 → ∀ b, b < 3 → a ≠ b → (TX1 a).2.1 ≠ (TX1 b).2.1 := by decide +kernel
theorem tyX1_ok : ∀ k, k < 3 → parseFieldDescriptor (TX1 k).2.2.1 = some (tyX1 k) := by decide +kernel
abbrev cX1_init : ByteArray := prog_3_method_1_code
def yX1_init : MethodName := ⟨RX1, "<init>", "()V"⟩
abbrev cX1_append : ByteArray := prog_3_method_2_code
def yX1_append : MethodName := ⟨RX1, "append", "(I)V"⟩
abbrev cX1_characterAt : ByteArray := prog_3_method_3_code
def yX1_characterAt : MethodName := ⟨RX1, "characterAt", "(I)I"⟩
abbrev cX1_takeFrom : ByteArray := prog_3_method_4_code
def yX1_takeFrom : MethodName := ⟨RX1, "takeFrom", "(LTabLines$Paragraph;)V"⟩
def RX2 : String := "TabLines$Pieces"
def TX2 : u_T := fun k => match k with
  | 0 => ("TabLines$Pieces", "pieceCount", "I", false)
  | 1 => ("TabLines$Pieces", "rows", "[I", true)
  | 2 => ("TabLines$Pieces", "columns", "[I", true)
  | 3 => ("TabLines$Pieces", "lengths", "[I", true)
  | 4 => ("TabLines$Pieces", "leaders", "[I", true)
  | _ => ("TabLines$Pieces", "sources", "[I", true)
def tyX2 : Nat → FieldType := fun k => match k with
  | 0 => .int
  | 1 => .array .int
  | 2 => .array .int
  | 3 => .array .int
  | 4 => .array .int
  | _ => .array .int
theorem nmX2 : ∀ a, a < 6 → ∀ b, b < 6 → a ≠ b → (TX2 a).2.1 ≠ (TX2 b).2.1 := by decide +kernel
theorem tyX2_ok : ∀ k, k < 6 → parseFieldDescriptor (TX2 k).2.2.1 = some (tyX2 k) := by decide +kernel
abbrev cX2_init : ByteArray := prog_4_method_1_code
def yX2_init : MethodName := ⟨RX2, "<init>", "()V"⟩
abbrev cX2_removeAll : ByteArray := prog_4_method_2_code
def yX2_removeAll : MethodName := ⟨RX2, "removeAll", "()V"⟩
abbrev cX2_add : ByteArray := prog_4_method_3_code
def yX2_add : MethodName := ⟨RX2, "add", "(IIIII)V"⟩
abbrev cX2_pieceAt : ByteArray := prog_4_method_4_code
def yX2_pieceAt : MethodName := ⟨RX2, "pieceAt", "(II)I"⟩
abbrev cX2_filled : ByteArray := prog_4_method_5_code
def yX2_filled : MethodName := ⟨RX2, "filled", "(Z)I"⟩
def RX3 : String := "TabLines$State"
def TX3 : u_T := fun k => match k with
  | 0 => ("TabLines$State", "columns", "I", false)
  | 1 => ("TabLines$State", "distance", "I", false)
  | 2 => ("TabLines$State", "paragraphCount", "I", false)
  | 3 => ("TabLines$State", "styles", "[LTabLines$Style;", true)
  | _ => ("TabLines$State", "paragraphs", "[LTabLines$Paragraph;", true)
def tyX3 : Nat → FieldType := fun k => match k with
  | 0 => .int
  | 1 => .int
  | 2 => .int
  | 3 => .array (.object "TabLines$Style")
  | _ => .array (.object "TabLines$Paragraph")
theorem nmX3 : ∀ a, a < 5 → ∀ b, b < 5 → a ≠ b → (TX3 a).2.1 ≠ (TX3 b).2.1 := by decide +kernel
theorem tyX3_ok : ∀ k, k < 5 → parseFieldDescriptor (TX3 k).2.2.1 = some (tyX3 k) := by decide +kernel
abbrev cX3_init : ByteArray := prog_5_method_1_code
def yX3_init : MethodName := ⟨RX3, "<init>", "()V"⟩
abbrev cX3_takeAllOf : ByteArray := prog_5_method_2_code
def yX3_takeAllOf : MethodName := ⟨RX3, "takeAllOf", "(LTabLines$State;)V"⟩
def RX4 : String := "TabLines$StopReader"
def TX4 : u_T := fun k => match k with
  | 0 => ("TabLines$StopReader", "read", "LTabLines$Style;", true)
  | 1 => ("TabLines$StopReader", "text", "[I", false)
  | 2 => ("TabLines$StopReader", "length", "I", false)
  | _ => ("TabLines$StopReader", "at", "I", false)
def tyX4 : Nat → FieldType := fun k => match k with
  | 0 => .object "TabLines$Style"
  | 1 => .array .int
  | 2 => .int
  | _ => .int
theorem nmX4 : ∀ a, a < 4 → ∀ b, b < 4 → a ≠ b → (TX4 a).2.1 ≠ (TX4 b).2.1 := by decide +kernel
theorem tyX4_ok : ∀ k, k < 4 → parseFieldDescriptor (TX4 k).2.2.1 = some (tyX4 k) := by decide +kernel
abbrev cX4_init : ByteArray := prog_6_method_1_code
def yX4_init : MethodName := ⟨RX4, "<init>", "()V"⟩
abbrev cX4_readStops : ByteArray := prog_6_method_2_code
def yX4_readStops : MethodName := ⟨RX4, "readStops", "([II)I"⟩
abbrev cX4_readItem : ByteArray := prog_6_method_3_code
def yX4_readItem : MethodName := ⟨RX4, "readItem", "()Z"⟩
abbrev cX4_readPosition : ByteArray := prog_6_method_4_code
def yX4_readPosition : MethodName := ⟨RX4, "readPosition", "()I"⟩
abbrev cX4_skipSpaces : ByteArray := prog_6_method_5_code
def yX4_skipSpaces : MethodName := ⟨RX4, "skipSpaces", "()V"⟩
abbrev cX4_next : ByteArray := prog_6_method_6_code
def yX4_next : MethodName := ⟨RX4, "next", "()I"⟩
abbrev cX4_kindOf : ByteArray := prog_6_method_7_code
def yX4_kindOf : MethodName := ⟨RX4, "kindOf", "(I)I"⟩
abbrev cX4_leaderOf : ByteArray := prog_6_method_8_code
def yX4_leaderOf : MethodName := ⟨RX4, "leaderOf", "(I)I"⟩
def RX5 : String := "TabLines$Style"
def TX5 : u_T := fun k => match k with
  | 0 => ("TabLines$Style", "first", "I", false)
  | 1 => ("TabLines$Style", "hanging", "I", false)
  | _ => ("TabLines$Style", "stopAt", "[I", true)
def tyX5 : Nat → FieldType := fun k => match k with
  | 0 => .int
  | 1 => .int
  | _ => .array .int
theorem nmX5 : ∀ a, a < 3 → ∀ b, b < 3 → a ≠ b → (TX5 a).2.1 ≠ (TX5 b).2.1 := by decide +kernel
theorem tyX5_ok : ∀ k, k < 3 → parseFieldDescriptor (TX5 k).2.2.1 = some (tyX5 k) := by decide +kernel
abbrev cX5_init : ByteArray := prog_7_method_1_code
def yX5_init : MethodName := ⟨RX5, "<init>", "()V"⟩
abbrev cX5_hasStop : ByteArray := prog_7_method_2_code
def yX5_hasStop : MethodName := ⟨RX5, "hasStop", "(I)Z"⟩
abbrev cX5_kindAt : ByteArray := prog_7_method_3_code
def yX5_kindAt : MethodName := ⟨RX5, "kindAt", "(I)I"⟩
abbrev cX5_leaderAt : ByteArray := prog_7_method_4_code
def yX5_leaderAt : MethodName := ⟨RX5, "leaderAt", "(I)I"⟩
abbrev cX5_putStop : ByteArray := prog_7_method_5_code
def yX5_putStop : MethodName := ⟨RX5, "putStop", "(III)V"⟩
abbrev cX5_dropStop : ByteArray := prog_7_method_6_code
def yX5_dropStop : MethodName := ⟨RX5, "dropStop", "(I)V"⟩
abbrev cX5_dropStops : ByteArray := prog_7_method_7_code
def yX5_dropStops : MethodName := ⟨RX5, "dropStops", "()V"⟩
abbrev cX5_takeStopsOf : ByteArray := prog_7_method_8_code
def yX5_takeStopsOf : MethodName := ⟨RX5, "takeStopsOf", "(LTabLines$Style;)V"⟩
abbrev cX5_stopsBefore : ByteArray := prog_7_method_9_code
def yX5_stopsBefore : MethodName := ⟨RX5, "stopsBefore", "(I)I"⟩
abbrev cX5_positionOf : ByteArray := prog_7_method_10_code
def yX5_positionOf : MethodName := ⟨RX5, "positionOf", "(I)I"⟩
abbrev cX5_hasTab : ByteArray := prog_7_method_11_code
def yX5_hasTab : MethodName := ⟨RX5, "hasTab", "(I)Z"⟩
abbrev cX5_lastTab : ByteArray := prog_7_method_12_code
def yX5_lastTab : MethodName := ⟨RX5, "lastTab", "()I"⟩
abbrev cX5_tabBehind : ByteArray := prog_7_method_13_code
def yX5_tabBehind : MethodName := ⟨RX5, "tabBehind", "(I)I"⟩
def RX6 : String := "TabLines$Words"
def TX6 : u_T := fun k => match k with
  | 0 => ("TabLines$Words", "fieldCount", "I", false)
  | 1 => ("TabLines$Words", "wordCount", "I", false)
  | 2 => ("TabLines$Words", "starts", "[I", true)
  | 3 => ("TabLines$Words", "lengths", "[I", true)
  | 4 => ("TabLines$Words", "points", "[I", true)
  | _ => ("TabLines$Words", "ends", "[I", true)
def tyX6 : Nat → FieldType := fun k => match k with
  | 0 => .int
  | 1 => .int
  | 2 => .array .int
  | 3 => .array .int
  | 4 => .array .int
  | _ => .array .int
theorem nmX6 : ∀ a, a < 6 → ∀ b, b < 6 → a ≠ b → (TX6 a).2.1 ≠ (TX6 b).2.1 := by decide +kernel
theorem tyX6_ok : ∀ k, k < 6 → parseFieldDescriptor (TX6 k).2.2.1 = some (tyX6 k) := by decide +kernel
abbrev cX6_init : ByteArray := prog_8_method_1_code
def yX6_init : MethodName := ⟨RX6, "<init>", "()V"⟩
abbrev cX6_take : ByteArray := prog_8_method_2_code
def yX6_take : MethodName := ⟨RX6, "take", "(LTabLines$Paragraph;)V"⟩
abbrev cX6_startWord : ByteArray := prog_8_method_3_code
def yX6_startWord : MethodName := ⟨RX6, "startWord", "(I)V"⟩
abbrev cX6_growWord : ByteArray := prog_8_method_4_code
def yX6_growWord : MethodName := ⟨RX6, "growWord", "(I)V"⟩
abbrev cX6_endField : ByteArray := prog_8_method_5_code
def yX6_endField : MethodName := ⟨RX6, "endField", "()V"⟩
abbrev cX6_firstOf : ByteArray := prog_8_method_6_code
def yX6_firstOf : MethodName := ⟨RX6, "firstOf", "(I)I"⟩
abbrev cX6_endOf : ByteArray := prog_8_method_7_code
def yX6_endOf : MethodName := ⟨RX6, "endOf", "(I)I"⟩
abbrev cX6_startOf : ByteArray := prog_8_method_8_code
def yX6_startOf : MethodName := ⟨RX6, "startOf", "(I)I"⟩
abbrev cX6_lengthOf : ByteArray := prog_8_method_9_code
def yX6_lengthOf : MethodName := ⟨RX6, "lengthOf", "(I)I"⟩
abbrev cX6_pointOf : ByteArray := prog_8_method_10_code
def yX6_pointOf : MethodName := ⟨RX6, "pointOf", "(I)I"⟩
def RX7 : String := "TabLines"
def TX7 : u_T := fun k => match k with
  | 0 => ("TabLines", "state", "LTabLines$State;", true)
  | 1 => ("TabLines", "saved", "[LTabLines$State;", true)
  | 2 => ("TabLines", "savedCount", "I", false)
  | 3 => ("TabLines", "text", "[I", true)
  | 4 => ("TabLines", "textLength", "I", false)
  | 5 => ("TabLines", "reader", "LTabLines$StopReader;", true)
  | _ => ("TabLines", "layout", "LTabLines$Layout;", true)
def tyX7 : Nat → FieldType := fun k => match k with
  | 0 => .object "TabLines$State"
  | 1 => .array (.object "TabLines$State")
  | 2 => .int
  | 3 => .array .int
  | 4 => .int
  | 5 => .object "TabLines$StopReader"
  | _ => .object "TabLines$Layout"
theorem nmX7 : ∀ a, a < 7 → ∀ b, b < 7 → a ≠ b → (TX7 a).2.1 ≠ (TX7 b).2.1 := by decide +kernel
theorem tyX7_ok : ∀ k, k < 7 → parseFieldDescriptor (TX7 k).2.2.1 = some (tyX7 k) := by decide +kernel
abbrev cX7_init : ByteArray := prog_1_method_1_code
def yX7_init : MethodName := ⟨RX7, "<init>", "()V"⟩
abbrev cX7_setNumber : ByteArray := prog_1_method_2_code
def yX7_setNumber : MethodName := ⟨RX7, "setNumber", "(II)I"⟩
abbrev cX7_setIndent : ByteArray := prog_1_method_3_code
def yX7_setIndent : MethodName := ⟨RX7, "setIndent", "(III)I"⟩
abbrev cX7_setStop : ByteArray := prog_1_method_4_code
def yX7_setStop : MethodName := ⟨RX7, "setStop", "(IIII)I"⟩
abbrev cX7_removeStop : ByteArray := prog_1_method_5_code
def yX7_removeStop : MethodName := ⟨RX7, "removeStop", "(II)I"⟩
abbrev cX7_appendCharacter : ByteArray := prog_1_method_6_code
def yX7_appendCharacter : MethodName := ⟨RX7, "appendCharacter", "(I)I"⟩
abbrev cX7_clearText : ByteArray := prog_1_method_7_code
def yX7_clearText : MethodName := ⟨RX7, "clearText", "()I"⟩
abbrev cX7_loadStops : ByteArray := prog_1_method_8_code
def yX7_loadStops : MethodName := ⟨RX7, "loadStops", "(I)I"⟩
abbrev cX7_addParagraph : ByteArray := prog_1_method_9_code
def yX7_addParagraph : MethodName := ⟨RX7, "addParagraph", "(I)I"⟩
abbrev cX7_removeParagraph : ByteArray := prog_1_method_10_code
def yX7_removeParagraph : MethodName := ⟨RX7, "removeParagraph", "(I)I"⟩
abbrev cX7_setStyle : ByteArray := prog_1_method_11_code
def yX7_setStyle : MethodName := ⟨RX7, "setStyle", "(II)I"⟩
abbrev cX7_takeText : ByteArray := prog_1_method_12_code
def yX7_takeText : MethodName := ⟨RX7, "takeText", "(I)I"⟩
abbrev cX7_addWord : ByteArray := prog_1_method_13_code
def yX7_addWord : MethodName := ⟨RX7, "addWord", "(IIII)I"⟩
abbrev cX7_addAmount : ByteArray := prog_1_method_14_code
def yX7_addAmount : MethodName := ⟨RX7, "addAmount", "(II)I"⟩
abbrev cX7_count : ByteArray := prog_1_method_15_code
def yX7_count : MethodName := ⟨RX7, "count", "(I)I"⟩
abbrev cX7_style : ByteArray := prog_1_method_16_code
def yX7_style : MethodName := ⟨RX7, "style", "(II)I"⟩
abbrev cX7_stop : ByteArray := prog_1_method_17_code
def yX7_stop : MethodName := ⟨RX7, "stop", "(III)I"⟩
abbrev cX7_character : ByteArray := prog_1_method_18_code
def yX7_character : MethodName := ⟨RX7, "character", "(II)I"⟩
abbrev cX7_lines : ByteArray := prog_1_method_19_code
def yX7_lines : MethodName := ⟨RX7, "lines", "(I)I"⟩
abbrev cX7_cell : ByteArray := prog_1_method_20_code
def yX7_cell : MethodName := ⟨RX7, "cell", "(III)I"⟩
abbrev cX7_field : ByteArray := prog_1_method_21_code
def yX7_field : MethodName := ⟨RX7, "field", "(III)I"⟩
abbrev cX7_holds : ByteArray := prog_1_method_22_code
def yX7_holds : MethodName := ⟨RX7, "holds", "(II)I"⟩
abbrev cX7_linesWith : ByteArray := prog_1_method_23_code
def yX7_linesWith : MethodName := ⟨RX7, "linesWith", "(II)I"⟩
abbrev cX7_leastColumns : ByteArray := prog_1_method_24_code
def yX7_leastColumns : MethodName := ⟨RX7, "leastColumns", "(II)I"⟩
abbrev cX7_undo : ByteArray := prog_1_method_25_code
def yX7_undo : MethodName := ⟨RX7, "undo", "()I"⟩
abbrev cX7_saveState : ByteArray := prog_1_method_26_code
def yX7_saveState : MethodName := ⟨RX7, "saveState", "()V"⟩
abbrev cX7_isStyle : ByteArray := prog_1_method_27_code
def yX7_isStyle : MethodName := ⟨RX7, "isStyle", "(I)Z"⟩
abbrev cX7_isParagraph : ByteArray := prog_1_method_28_code
def yX7_isParagraph : MethodName := ⟨RX7, "isParagraph", "(I)Z"⟩
abbrev cX7_styleOf : ByteArray := prog_1_method_29_code
def yX7_styleOf : MethodName := ⟨RX7, "styleOf", "(I)LTabLines$Style;"⟩
abbrev cX7_layOut : ByteArray := prog_1_method_30_code
def yX7_layOut : MethodName := ⟨RX7, "layOut", "(II)V"⟩
abbrev cX7_isWithin : ByteArray := prog_1_method_31_code
def yX7_isWithin : MethodName := ⟨RX7, "isWithin", "(III)Z"⟩
abbrev cX7_isDigit : ByteArray := prog_1_method_32_code
def yX7_isDigit : MethodName := ⟨RX7, "isDigit", "(I)Z"⟩
abbrev cX7_isParagraphCharacter : ByteArray := prog_1_method_33_code
def yX7_isParagraphCharacter : MethodName := ⟨RX7, "isParagraphCharacter", "(I)Z"⟩
abbrev cX7_digitsOf : ByteArray := prog_1_method_34_code
def yX7_digitsOf : MethodName := ⟨RX7, "digitsOf", "(I)I"⟩
abbrev cX7_multipleBehind : ByteArray := prog_1_method_35_code
def yX7_multipleBehind : MethodName := ⟨RX7, "multipleBehind", "(II)I"⟩
abbrev cX7_leaderCharacter : ByteArray := prog_1_method_36_code
def yX7_leaderCharacter : MethodName := ⟨RX7, "leaderCharacter", "(I)I"⟩
def RX8 : String := "TabLinesModel"
def TX8 : u_T := fun k => match k with
  | 0 => ("TabLinesModel", "s", "[I", true)
  | 1 => ("TabLinesModel", "past", "[I", true)
  | 2 => ("TabLinesModel", "pasts", "I", false)
  | 3 => ("TabLinesModel", "text", "[B", true)
  | 4 => ("TabLinesModel", "typed", "I", false)
  | 5 => ("TabLinesModel", "at", "I", false)
  | 6 => ("TabLinesModel", "told", "I", false)
  | 7 => ("TabLinesModel", "told3", "[I", true)
  | 8 => ("TabLinesModel", "grid", "[B", true)
  | 9 => ("TabLinesModel", "holds", "[B", true)
  | 10 => ("TabLinesModel", "fields", "[I", true)
  | 11 => ("TabLinesModel", "fieldsMany", "I", false)
  | 12 => ("TabLinesModel", "line", "I", false)
  | 13 => ("TabLinesModel", "c", "I", false)
  | 14 => ("TabLinesModel", "wide", "I", false)
  | 15 => ("TabLinesModel", "style", "I", false)
  | 16 => ("TabLinesModel", "base", "I", false)
  | _ => ("TabLinesModel", "field", "I", false)
def tyX8 : Nat → FieldType := fun k => match k with
  | 0 => .array .int
  | 1 => .array .int
  | 2 => .int
  | 3 => .array .byte
  | 4 => .int
  | 5 => .int
  | 6 => .int
  | 7 => .array .int
  | 8 => .array .byte
  | 9 => .array .byte
  | 10 => .array .int
  | 11 => .int
  | 12 => .int
  | 13 => .int
  | 14 => .int
  | 15 => .int
  | 16 => .int
  | _ => .int
theorem nmX8 : ∀ a, a < 18 → ∀ b, b < 18 → a ≠ b → (TX8 a).2.1 ≠ (TX8 b).2.1 := by decide +kernel
theorem tyX8_ok : ∀ k, k < 18 → parseFieldDescriptor (TX8 k).2.2.1 = some (tyX8 k) := by decide +kernel
abbrev cX8_init : ByteArray := prog_10_method_1_code
def yX8_init : MethodName := ⟨RX8, "<init>", "()V"⟩
abbrev cX8_in : ByteArray := prog_10_method_3_code
def yX8_in : MethodName := ⟨RX8, "in", "(III)Z"⟩
abbrev cX8_lesser : ByteArray := prog_10_method_4_code
def yX8_lesser : MethodName := ⟨RX8, "lesser", "(II)I"⟩
abbrev cX8_notes : ByteArray := prog_10_method_5_code
def yX8_notes : MethodName := ⟨RX8, "notes", "()V"⟩
abbrev cX8_undo : ByteArray := prog_10_method_6_code
def yX8_undo : MethodName := ⟨RX8, "undo", "()I"⟩
abbrev cX8_isStyle : ByteArray := prog_10_method_7_code
def yX8_isStyle : MethodName := ⟨RX8, "isStyle", "(I)Z"⟩
abbrev cX8_placeOf : ByteArray := prog_10_method_8_code
def yX8_placeOf : MethodName := ⟨RX8, "placeOf", "(II)I"⟩
abbrev cX8_of : ByteArray := prog_10_method_9_code
def yX8_of : MethodName := ⟨RX8, "of", "(II)I"⟩
abbrev cX8_stopOf : ByteArray := prog_10_method_10_code
def yX8_stopOf : MethodName := ⟨RX8, "stopOf", "(III)I"⟩
abbrev cX8_setNumber : ByteArray := prog_10_method_11_code
def yX8_setNumber : MethodName := ⟨RX8, "setNumber", "(II)I"⟩
abbrev cX8_setIndent : ByteArray := prog_10_method_12_code
def yX8_setIndent : MethodName := ⟨RX8, "setIndent", "(III)I"⟩
abbrev cX8_puts : ByteArray := prog_10_method_13_code
def yX8_puts : MethodName := ⟨RX8, "puts", "(IIII)I"⟩
abbrev cX8_hasStop : ByteArray := prog_10_method_14_code
def yX8_hasStop : MethodName := ⟨RX8, "hasStop", "(II)Z"⟩
abbrev cX8_setStop : ByteArray := prog_10_method_15_code
def yX8_setStop : MethodName := ⟨RX8, "setStop", "(IIII)I"⟩
abbrev cX8_removeStop : ByteArray := prog_10_method_16_code
def yX8_removeStop : MethodName := ⟨RX8, "removeStop", "(II)I"⟩
abbrev cX8_appendCharacter : ByteArray := prog_10_method_17_code
def yX8_appendCharacter : MethodName := ⟨RX8, "appendCharacter", "(I)I"⟩
abbrev cX8_clearText : ByteArray := prog_10_method_18_code
def yX8_clearText : MethodName := ⟨RX8, "clearText", "()I"⟩
abbrev cX8_here : ByteArray := prog_10_method_19_code
def yX8_here : MethodName := ⟨RX8, "here", "()I"⟩
abbrev cX8_kindOf : ByteArray := prog_10_method_20_code
def yX8_kindOf : MethodName := ⟨RX8, "kindOf", "(I)I"⟩
abbrev cX8_leaderOf : ByteArray := prog_10_method_21_code
def yX8_leaderOf : MethodName := ⟨RX8, "leaderOf", "(I)I"⟩
abbrev cX8_isTold : ByteArray := prog_10_method_22_code
def yX8_isTold : MethodName := ⟨RX8, "isTold", "(I)Z"⟩
abbrev cX8_readsItem : ByteArray := prog_10_method_23_code
def yX8_readsItem : MethodName := ⟨RX8, "readsItem", "()Z"⟩
abbrev cX8_loadStops : ByteArray := prog_10_method_24_code
def yX8_loadStops : MethodName := ⟨RX8, "loadStops", "(I)I"⟩
abbrev cX8_isParagraph : ByteArray := prog_10_method_25_code
def yX8_isParagraph : MethodName := ⟨RX8, "isParagraph", "(I)Z"⟩
abbrev cX8_own : ByteArray := prog_10_method_26_code
def yX8_own : MethodName := ⟨RX8, "own", "(I)I"⟩
abbrev cX8_addParagraph : ByteArray := prog_10_method_27_code
def yX8_addParagraph : MethodName := ⟨RX8, "addParagraph", "(I)I"⟩
abbrev cX8_removeParagraph : ByteArray := prog_10_method_28_code
def yX8_removeParagraph : MethodName := ⟨RX8, "removeParagraph", "(I)I"⟩
abbrev cX8_setStyle : ByteArray := prog_10_method_29_code
def yX8_setStyle : MethodName := ⟨RX8, "setStyle", "(II)I"⟩
abbrev cX8_isWritten : ByteArray := prog_10_method_30_code
def yX8_isWritten : MethodName := ⟨RX8, "isWritten", "(I)Z"⟩
abbrev cX8_takeText : ByteArray := prog_10_method_31_code
def yX8_takeText : MethodName := ⟨RX8, "takeText", "(I)I"⟩
abbrev cX8_adds : ByteArray := prog_10_method_32_code
def yX8_adds : MethodName := ⟨RX8, "adds", "(II)V"⟩
abbrev cX8_addWord : ByteArray := prog_10_method_33_code
def yX8_addWord : MethodName := ⟨RX8, "addWord", "(IIII)I"⟩
abbrev cX8_addAmount : ByteArray := prog_10_method_34_code
def yX8_addAmount : MethodName := ⟨RX8, "addAmount", "(II)I"⟩
abbrev cX8_letterAt : ByteArray := prog_10_method_35_code
def yX8_letterAt : MethodName := ⟨RX8, "letterAt", "(I)I"⟩
abbrev cX8_length : ByteArray := prog_10_method_36_code
def yX8_length : MethodName := ⟨RX8, "length", "()I"⟩
abbrev cX8_opensLine : ByteArray := prog_10_method_37_code
def yX8_opensLine : MethodName := ⟨RX8, "opensLine", "()V"⟩
abbrev cX8_newLine : ByteArray := prog_10_method_38_code
def yX8_newLine : MethodName := ⟨RX8, "newLine", "()V"⟩
abbrev cX8_writes : ByteArray := prog_10_method_39_code
def yX8_writes : MethodName := ⟨RX8, "writes", "(II)V"⟩
abbrev cX8_begins : ByteArray := prog_10_method_40_code
def yX8_begins : MethodName := ⟨RX8, "begins", "(III)V"⟩
abbrev cX8_fills : ByteArray := prog_10_method_41_code
def yX8_fills : MethodName := ⟨RX8, "fills", "()V"⟩
abbrev cX8_wordFrom : ByteArray := prog_10_method_42_code
def yX8_wordFrom : MethodName := ⟨RX8, "wordFrom", "(II)I"⟩
abbrev cX8_endOfWord : ByteArray := prog_10_method_43_code
def yX8_endOfWord : MethodName := ⟨RX8, "endOfWord", "(II)I"⟩
abbrev cX8_flows : ByteArray := prog_10_method_44_code
def yX8_flows : MethodName := ⟨RX8, "flows", "(II)V"⟩
abbrev cX8_lastStop : ByteArray := prog_10_method_45_code
def yX8_lastStop : MethodName := ⟨RX8, "lastStop", "()I"⟩
abbrev cX8_defaultBehind : ByteArray := prog_10_method_46_code
def yX8_defaultBehind : MethodName := ⟨RX8, "defaultBehind", "(I)I"⟩
abbrev cX8_ownStop : ByteArray := prog_10_method_47_code
def yX8_ownStop : MethodName := ⟨RX8, "ownStop", "()I"⟩
abbrev cX8_endOfRun : ByteArray := prog_10_method_48_code
def yX8_endOfRun : MethodName := ⟨RX8, "endOfRun", "(III)I"⟩
abbrev cX8_lengthOf : ByteArray := prog_10_method_49_code
def yX8_lengthOf : MethodName := ⟨RX8, "lengthOf", "(IIZ)I"⟩
abbrev cX8_leads : ByteArray := prog_10_method_50_code
def yX8_leads : MethodName := ⟨RX8, "leads", "(II)V"⟩
abbrev cX8_flowsAnew : ByteArray := prog_10_method_51_code
def yX8_flowsAnew : MethodName := ⟨RX8, "flowsAnew", "(II)V"⟩
abbrev cX8_laysField : ByteArray := prog_10_method_52_code
def yX8_laysField : MethodName := ⟨RX8, "laysField", "(II)V"⟩
abbrev cX8_laysBars : ByteArray := prog_10_method_53_code
def yX8_laysBars : MethodName := ⟨RX8, "laysBars", "()V"⟩
abbrev cX8_lays : ByteArray := prog_10_method_54_code
def yX8_lays : MethodName := ⟨RX8, "lays", "(II)I"⟩
abbrev cX8_count : ByteArray := prog_10_method_55_code
def yX8_count : MethodName := ⟨RX8, "count", "(I)I"⟩
abbrev cX8_style : ByteArray := prog_10_method_56_code
def yX8_style : MethodName := ⟨RX8, "style", "(II)I"⟩
abbrev cX8_stop : ByteArray := prog_10_method_57_code
def yX8_stop : MethodName := ⟨RX8, "stop", "(III)I"⟩
abbrev cX8_character : ByteArray := prog_10_method_58_code
def yX8_character : MethodName := ⟨RX8, "character", "(II)I"⟩
abbrev cX8_lines : ByteArray := prog_10_method_59_code
def yX8_lines : MethodName := ⟨RX8, "lines", "(I)I"⟩
abbrev cX8_cell : ByteArray := prog_10_method_60_code
def yX8_cell : MethodName := ⟨RX8, "cell", "(III)I"⟩
abbrev cX8_field : ByteArray := prog_10_method_61_code
def yX8_field : MethodName := ⟨RX8, "field", "(III)I"⟩
abbrev cX8_holds : ByteArray := prog_10_method_62_code
def yX8_holds : MethodName := ⟨RX8, "holds", "(II)I"⟩
abbrev cX8_linesWith : ByteArray := prog_10_method_63_code
def yX8_linesWith : MethodName := ⟨RX8, "linesWith", "(II)I"⟩
abbrev cX8_leastColumns : ByteArray := prog_10_method_64_code
def yX8_leastColumns : MethodName := ⟨RX8, "leastColumns", "(II)I"⟩
def RJ9 : String := "java/lang/Math"
def TJ9 : u_T := fun k => match k with
  | _ => ("", "", "", false)
abbrev cJ9_max_7cf53 : ByteArray := prog_11_method_65_code
def yJ9_max_7cf53 : MethodName := ⟨RJ9, "max", "(II)I"⟩
abbrev cJ9_min_7cf53 : ByteArray := prog_11_method_69_code
def yJ9_min_7cf53 : MethodName := ⟨RJ9, "min", "(II)I"⟩
theorem dX0_init_0 : decode cX0_init 0 = .ok (.aload_n 0, 1) := by decide +kernel
theorem dX0_init_1 : decode cX0_init 1 = .ok (.invokespecial 3, 3) := by decide +kernel
theorem dX0_init_4 : decode cX0_init 4 = .ok (.aload_n 0, 1) := by decide +kernel
theorem dX0_init_5 : decode cX0_init 5 = .ok (.new 9, 3) := by decide +kernel
theorem dX0_init_8 : decode cX0_init 8 = .ok (.dup, 1) := by decide +kernel
theorem dX0_init_9 : decode cX0_init 9 = .ok (.invokespecial 11, 3) := by decide +kernel
theorem dX0_init_12 : decode cX0_init 12 = .ok (.putfield 12, 3) := by decide +kernel
theorem dX0_init_15 : decode cX0_init 15 = .ok (.aload_n 0, 1) := by decide +kernel
theorem dX0_init_16 : decode cX0_init 16 = .ok (.new 18, 3) := by decide +kernel
theorem dX0_init_19 : decode cX0_init 19 = .ok (.dup, 1) := by decide +kernel
theorem dX0_init_20 : decode cX0_init 20 = .ok (.invokespecial 20, 3) := by decide +kernel
theorem dX0_init_23 : decode cX0_init 23 = .ok (.putfield 21, 3) := by decide +kernel
theorem dX0_init_26 : decode cX0_init 26 = .ok (.aload_n 0, 1) := by decide +kernel
theorem dX0_init_27 : decode cX0_init 27 = .ok (.bipush 81, 2) := by decide +kernel
theorem dX0_init_29 : decode cX0_init 29 = .ok (.bipush 6, 2) := by decide +kernel
theorem dX0_init_31 : decode cX0_init 31 = .ok (.multianewarray 25 2, 4) := by decide +kernel
theorem dX0_init_35 : decode cX0_init 35 = .ok (.putfield 27, 3) := by decide +kernel
theorem dX0_init_38 : decode cX0_init 38 = .ok (.return_, 1) := by decide +kernel
theorem dX0_lineCount_0 : decode cX0_lineCount 0 = .ok (.aload_n 0, 1) := by decide +kernel
theorem dX0_lineCount_1 : decode cX0_lineCount 1 = .ok (.getfield 30, 3) := by decide +kernel
theorem dX0_lineCount_4 : decode cX0_lineCount 4 = .ok (.iconst 1, 1) := by decide +kernel
theorem dX0_lineCount_5 : decode cX0_lineCount 5 = .ok (.iadd, 1) := by decide +kernel
theorem dX0_lineCount_6 : decode cX0_lineCount 6 = .ok (.ireturn, 1) := by decide +kernel
theorem dX0_fill_0 : decode cX0_fill 0 = .ok (.aload_n 0, 1) := by decide +kernel
theorem dX0_fill_1 : decode cX0_fill 1 = .ok (.getfield 12, 3) := by decide +kernel
theorem dX0_fill_4 : decode cX0_fill 4 = .ok (.aload_n 1, 1) := by decide +kernel
theorem dX0_fill_5 : decode cX0_fill 5 = .ok (.invokevirtual 34, 3) := by decide +kernel
theorem dX0_fill_8 : decode cX0_fill 8 = .ok (.aload_n 0, 1) := by decide +kernel
theorem dX0_fill_9 : decode cX0_fill 9 = .ok (.getfield 21, 3) := by decide +kernel
theorem dX0_fill_12 : decode cX0_fill 12 = .ok (.invokevirtual 38, 3) := by decide +kernel
theorem dX0_fill_15 : decode cX0_fill 15 = .ok (.aload_n 0, 1) := by decide +kernel
theorem dX0_fill_16 : decode cX0_fill 16 = .ok (.iload_n 3, 1) := by decide +kernel
theorem dX0_fill_17 : decode cX0_fill 17 = .ok (.putfield 41, 3) := by decide +kernel
theorem dX0_fill_20 : decode cX0_fill 20 = .ok (.aload_n 0, 1) := by decide +kernel
theorem dX0_fill_21 : decode cX0_fill 21 = .ok (.iload 4, 2) := by decide +kernel
theorem dX0_fill_23 : decode cX0_fill 23 = .ok (.putfield 44, 3) := by decide +kernel
theorem dX0_fill_26 : decode cX0_fill 26 = .ok (.aload_n 0, 1) := by decide +kernel
theorem dX0_fill_27 : decode cX0_fill 27 = .ok (.aload_n 2, 1) := by decide +kernel
theorem dX0_fill_28 : decode cX0_fill 28 = .ok (.getfield 47, 3) := by decide +kernel
theorem dX0_fill_31 : decode cX0_fill 31 = .ok (.putfield 52, 3) := by decide +kernel
theorem dX0_fill_34 : decode cX0_fill 34 = .ok (.aload_n 0, 1) := by decide +kernel
theorem dX0_fill_35 : decode cX0_fill 35 = .ok (.iconst 0, 1) := by decide +kernel
theorem dX0_fill_36 : decode cX0_fill 36 = .ok (.putfield 30, 3) := by decide +kernel
theorem dX0_fill_39 : decode cX0_fill 39 = .ok (.aload_n 0, 1) := by decide +kernel
theorem dX0_fill_40 : decode cX0_fill 40 = .ok (.aload_n 2, 1) := by decide +kernel
theorem dX0_fill_41 : decode cX0_fill 41 = .ok (.getfield 53, 3) := by decide +kernel
theorem dX0_fill_44 : decode cX0_fill 44 = .ok (.putfield 56, 3) := by decide +kernel
theorem dX0_fill_47 : decode cX0_fill 47 = .ok (.iconst 0, 1) := by decide +kernel
theorem dX0_fill_48 : decode cX0_fill 48 = .ok (.istore 5, 2) := by decide +kernel
theorem dX0_fill_50 : decode cX0_fill 50 = .ok (.iload 5, 2) := by decide +kernel
theorem dX0_fill_52 : decode cX0_fill 52 = .ok (.aload_n 0, 1) := by decide +kernel
theorem dX0_fill_53 : decode cX0_fill 53 = .ok (.getfield 12, 3) := by decide +kernel
theorem dX0_fill_56 : decode cX0_fill 56 = .ok (.getfield 59, 3) := by decide +kernel
theorem dX0_fill_59 : decode cX0_fill 59 = .ok (.if_icmp .ge 67, 3) := by decide +kernel
theorem dX0_fill_62 : decode cX0_fill 62 = .ok (.iload 5, 2) := by decide +kernel
theorem dX0_fill_64 : decode cX0_fill 64 = .ok (.bipush 81, 2) := by decide +kernel
theorem dX0_fill_66 : decode cX0_fill 66 = .ok (.if_icmp .ge 60, 3) := by decide +kernel
theorem dX0_fill_69 : decode cX0_fill 69 = .ok (.aload_n 0, 1) := by decide +kernel
theorem dX0_fill_70 : decode cX0_fill 70 = .ok (.iload 5, 2) := by decide +kernel
theorem dX0_fill_72 : decode cX0_fill 72 = .ok (.putfield 62, 3) := by decide +kernel
theorem dX0_fill_75 : decode cX0_fill 75 = .ok (.iload 5, 2) := by decide +kernel
theorem dX0_fill_77 : decode cX0_fill 77 = .ok (.ifCond .ne 38, 3) := by decide +kernel
theorem dX0_fill_80 : decode cX0_fill 80 = .ok (.aload_n 0, 1) := by decide +kernel
theorem dX0_fill_81 : decode cX0_fill 81 = .ok (.bipush (-9), 2) := by decide +kernel
theorem dX0_fill_83 : decode cX0_fill 83 = .ok (.bipush (-9), 2) := by decide +kernel
theorem dX0_fill_85 : decode cX0_fill 85 = .ok (.bipush (-9), 2) := by decide +kernel
theorem dX0_fill_87 : decode cX0_fill 87 = .ok (.invokevirtual 65, 3) := by decide +kernel
theorem dX0_fill_90 : decode cX0_fill 90 = .ok (.aload_n 0, 1) := by decide +kernel
theorem dX0_fill_91 : decode cX0_fill 91 = .ok (.aload_n 0, 1) := by decide +kernel
theorem dX0_fill_92 : decode cX0_fill 92 = .ok (.getfield 12, 3) := by decide +kernel
theorem dX0_fill_95 : decode cX0_fill 95 = .ok (.iload 5, 2) := by decide +kernel
theorem dX0_fill_97 : decode cX0_fill 97 = .ok (.invokevirtual 69, 3) := by decide +kernel
theorem dX0_fill_100 : decode cX0_fill 100 = .ok (.aload_n 0, 1) := by decide +kernel
theorem dX0_fill_101 : decode cX0_fill 101 = .ok (.getfield 12, 3) := by decide +kernel
theorem dX0_fill_104 : decode cX0_fill 104 = .ok (.iload 5, 2) := by decide +kernel
theorem dX0_fill_106 : decode cX0_fill 106 = .ok (.invokevirtual 73, 3) := by decide +kernel
theorem dX0_fill_109 : decode cX0_fill 109 = .ok (.invokevirtual 76, 3) := by decide +kernel
theorem dX0_fill_112 : decode cX0_fill 112 = .ok (.goto 8, 3) := by decide +kernel
theorem dX0_fill_115 : decode cX0_fill 115 = .ok (.aload_n 0, 1) := by decide +kernel
theorem dX0_fill_116 : decode cX0_fill 116 = .ok (.aload_n 2, 1) := by decide +kernel
theorem dX0_fill_117 : decode cX0_fill 117 = .ok (.invokevirtual 80, 3) := by decide +kernel
theorem dX0_fill_120 : decode cX0_fill 120 = .ok (.iinc 5 1, 3) := by decide +kernel
theorem dX0_fill_123 : decode cX0_fill 123 = .ok (.goto (-73), 3) := by decide +kernel
theorem dX0_fill_126 : decode cX0_fill 126 = .ok (.return_, 1) := by decide +kernel
theorem dX0_fillBehindTab_0 : decode cX0_fillBehindTab 0 = .ok (.aload_n 0, 1) := by decide +kernel
theorem dX0_fillBehindTab_1 : decode cX0_fillBehindTab 1 = .ok (.getfield 12, 3) := by decide +kernel
theorem dX0_fillBehindTab_4 : decode cX0_fillBehindTab 4 = .ok (.aload_n 0, 1) := by decide +kernel
theorem dX0_fillBehindTab_5 : decode cX0_fillBehindTab 5 = .ok (.getfield 62, 3) := by decide +kernel
theorem dX0_fillBehindTab_8 : decode cX0_fillBehindTab 8 = .ok (.invokevirtual 69, 3) := by decide +kernel
theorem dX0_fillBehindTab_11 : decode cX0_fillBehindTab 11 = .ok (.istore_n 2, 1) := by decide +kernel
theorem dX0_fillBehindTab_12 : decode cX0_fillBehindTab 12 = .ok (.aload_n 0, 1) := by decide +kernel
theorem dX0_fillBehindTab_13 : decode cX0_fillBehindTab 13 = .ok (.getfield 12, 3) := by decide +kernel
theorem dX0_fillBehindTab_16 : decode cX0_fillBehindTab 16 = .ok (.aload_n 0, 1) := by decide +kernel
theorem dX0_fillBehindTab_17 : decode cX0_fillBehindTab 17 = .ok (.getfield 62, 3) := by decide +kernel
theorem dX0_fillBehindTab_20 : decode cX0_fillBehindTab 20 = .ok (.invokevirtual 73, 3) := by decide +kernel
theorem dX0_fillBehindTab_23 : decode cX0_fillBehindTab 23 = .ok (.istore_n 3, 1) := by decide +kernel
theorem dX0_fillBehindTab_24 : decode cX0_fillBehindTab 24 = .ok (.aload_n 1, 1) := by decide +kernel
theorem dX0_fillBehindTab_25 : decode cX0_fillBehindTab 25 = .ok (.aload_n 0, 1) := by decide +kernel
theorem dX0_fillBehindTab_26 : decode cX0_fillBehindTab 26 = .ok (.getfield 56, 3) := by decide +kernel
theorem dX0_fillBehindTab_29 : decode cX0_fillBehindTab 29 = .ok (.invokevirtual 84, 3) := by decide +kernel
theorem dX0_fillBehindTab_32 : decode cX0_fillBehindTab 32 = .ok (.istore 4, 2) := by decide +kernel
theorem dX0_fillBehindTab_34 : decode cX0_fillBehindTab 34 = .ok (.iload 4, 2) := by decide +kernel
theorem dX0_fillBehindTab_36 : decode cX0_fillBehindTab 36 = .ok (.bipush (-9), 2) := by decide +kernel
theorem dX0_fillBehindTab_38 : decode cX0_fillBehindTab 38 = .ok (.if_icmp .eq 7, 3) := by decide +kernel
theorem dX0_fillBehindTab_41 : decode cX0_fillBehindTab 41 = .ok (.iconst 1, 1) := by decide +kernel
theorem dX0_fillBehindTab_42 : decode cX0_fillBehindTab 42 = .ok (.goto 4, 3) := by decide +kernel
theorem dX0_fillBehindTab_45 : decode cX0_fillBehindTab 45 = .ok (.iconst 0, 1) := by decide +kernel
theorem dX0_fillBehindTab_46 : decode cX0_fillBehindTab 46 = .ok (.istore 5, 2) := by decide +kernel
theorem dX0_fillBehindTab_48 : decode cX0_fillBehindTab 48 = .ok (.iload 5, 2) := by decide +kernel
theorem dX0_fillBehindTab_50 : decode cX0_fillBehindTab 50 = .ok (.ifCond .eq 8, 3) := by decide +kernel
theorem dX0_fillBehindTab_53 : decode cX0_fillBehindTab 53 = .ok (.iload 4, 2) := by decide +kernel
theorem dX0_fillBehindTab_55 : decode cX0_fillBehindTab 55 = .ok (.goto 14, 3) := by decide +kernel
theorem dX0_fillBehindTab_58 : decode cX0_fillBehindTab 58 = .ok (.aload_n 0, 1) := by decide +kernel
theorem dX0_fillBehindTab_59 : decode cX0_fillBehindTab 59 = .ok (.getfield 56, 3) := by decide +kernel
theorem dX0_fillBehindTab_62 : decode cX0_fillBehindTab 62 = .ok (.aload_n 0, 1) := by decide +kernel
theorem dX0_fillBehindTab_63 : decode cX0_fillBehindTab 63 = .ok (.getfield 44, 3) := by decide +kernel
theorem dX0_fillBehindTab_66 : decode cX0_fillBehindTab 66 = .ok (.invokestatic 87, 3) := by decide +kernel
theorem dX0_fillBehindTab_69 : decode cX0_fillBehindTab 69 = .ok (.istore 6, 2) := by decide +kernel
theorem dX0_fillBehindTab_71 : decode cX0_fillBehindTab 71 = .ok (.iload 5, 2) := by decide +kernel
theorem dX0_fillBehindTab_73 : decode cX0_fillBehindTab 73 = .ok (.ifCond .eq 12, 3) := by decide +kernel
theorem dX0_fillBehindTab_76 : decode cX0_fillBehindTab 76 = .ok (.aload_n 1, 1) := by decide +kernel
theorem dX0_fillBehindTab_77 : decode cX0_fillBehindTab 77 = .ok (.iload 6, 2) := by decide +kernel
theorem dX0_fillBehindTab_79 : decode cX0_fillBehindTab 79 = .ok (.invokevirtual 91, 3) := by decide +kernel
theorem dX0_fillBehindTab_82 : decode cX0_fillBehindTab 82 = .ok (.goto 4, 3) := by decide +kernel
theorem dX0_fillBehindTab_85 : decode cX0_fillBehindTab 85 = .ok (.iconst 0, 1) := by decide +kernel
theorem dX0_fillBehindTab_86 : decode cX0_fillBehindTab 86 = .ok (.istore 7, 2) := by decide +kernel
theorem dX0_fillBehindTab_88 : decode cX0_fillBehindTab 88 = .ok (.aload_n 0, 1) := by decide +kernel
theorem dX0_fillBehindTab_89 : decode cX0_fillBehindTab 89 = .ok (.iload_n 2, 1) := by decide +kernel
theorem dX0_fillBehindTab_90 : decode cX0_fillBehindTab 90 = .ok (.iload_n 3, 1) := by decide +kernel
theorem dX0_fillBehindTab_91 : decode cX0_fillBehindTab 91 = .ok (.aload_n 0, 1) := by decide +kernel
theorem dX0_fillBehindTab_92 : decode cX0_fillBehindTab 92 = .ok (.getfield 41, 3) := by decide +kernel
theorem dX0_fillBehindTab_95 : decode cX0_fillBehindTab 95 = .ok (.iload 7, 2) := by decide +kernel
theorem dX0_fillBehindTab_97 : decode cX0_fillBehindTab 97 = .ok (.ifCond .ne 8, 3) := by decide +kernel
theorem dX0_fillBehindTab_100 : decode cX0_fillBehindTab 100 = .ok (.iload 6, 2) := by decide +kernel
theorem dX0_fillBehindTab_102 : decode cX0_fillBehindTab 102 = .ok (.goto 7, 3) := by decide +kernel
theorem dX0_fillBehindTab_105 : decode cX0_fillBehindTab 105 = .ok (.aload_n 0, 1) := by decide +kernel
theorem dX0_fillBehindTab_106 : decode cX0_fillBehindTab 106 = .ok (.getfield 56, 3) := by decide +kernel
theorem dX0_fillBehindTab_109 : decode cX0_fillBehindTab 109 = .ok (.isub, 1) := by decide +kernel
theorem dX0_fillBehindTab_110 : decode cX0_fillBehindTab 110 = .ok (.invokevirtual 94, 3) := by decide +kernel
theorem dX0_fillBehindTab_113 : decode cX0_fillBehindTab 113 = .ok (.iload 6, 2) := by decide +kernel
theorem dX0_fillBehindTab_115 : decode cX0_fillBehindTab 115 = .ok (.aload_n 0, 1) := by decide +kernel
theorem dX0_fillBehindTab_116 : decode cX0_fillBehindTab 116 = .ok (.getfield 41, 3) := by decide +kernel
theorem dX0_fillBehindTab_119 : decode cX0_fillBehindTab 119 = .ok (.if_icmp .gt 16, 3) := by decide +kernel
theorem dX0_fillBehindTab_122 : decode cX0_fillBehindTab 122 = .ok (.iload_n 2, 1) := by decide +kernel
theorem dX0_fillBehindTab_123 : decode cX0_fillBehindTab 123 = .ok (.iload_n 3, 1) := by decide +kernel
theorem dX0_fillBehindTab_124 : decode cX0_fillBehindTab 124 = .ok (.if_icmp .ge 32, 3) := by decide +kernel
theorem dX0_fillBehindTab_127 : decode cX0_fillBehindTab 127 = .ok (.aload_n 0, 1) := by decide +kernel
theorem dX0_fillBehindTab_128 : decode cX0_fillBehindTab 128 = .ok (.getfield 97, 3) := by decide +kernel
theorem dX0_fillBehindTab_131 : decode cX0_fillBehindTab 131 = .ok (.iload_n 2, 1) := by decide +kernel
theorem dX0_fillBehindTab_132 : decode cX0_fillBehindTab 132 = .ok (.if_icmp .ne 24, 3) := by decide +kernel
theorem dX0_fillBehindTab_135 : decode cX0_fillBehindTab 135 = .ok (.aload_n 0, 1) := by decide +kernel
theorem dX0_fillBehindTab_136 : decode cX0_fillBehindTab 136 = .ok (.invokevirtual 100, 3) := by decide +kernel
theorem dX0_fillBehindTab_139 : decode cX0_fillBehindTab 139 = .ok (.aload_n 0, 1) := by decide +kernel
theorem dX0_fillBehindTab_140 : decode cX0_fillBehindTab 140 = .ok (.bipush (-9), 2) := by decide +kernel
theorem dX0_fillBehindTab_142 : decode cX0_fillBehindTab 142 = .ok (.bipush (-9), 2) := by decide +kernel
theorem dX0_fillBehindTab_144 : decode cX0_fillBehindTab 144 = .ok (.bipush (-9), 2) := by decide +kernel
theorem dX0_fillBehindTab_146 : decode cX0_fillBehindTab 146 = .ok (.invokevirtual 65, 3) := by decide +kernel
theorem dX0_fillBehindTab_149 : decode cX0_fillBehindTab 149 = .ok (.aload_n 0, 1) := by decide +kernel
theorem dX0_fillBehindTab_150 : decode cX0_fillBehindTab 150 = .ok (.iload_n 2, 1) := by decide +kernel
theorem dX0_fillBehindTab_151 : decode cX0_fillBehindTab 151 = .ok (.iload_n 3, 1) := by decide +kernel
theorem dX0_fillBehindTab_152 : decode cX0_fillBehindTab 152 = .ok (.invokevirtual 76, 3) := by decide +kernel
theorem dX0_fillBehindTab_155 : decode cX0_fillBehindTab 155 = .ok (.return_, 1) := by decide +kernel
theorem dX0_fillBehindTab_156 : decode cX0_fillBehindTab 156 = .ok (.aload_n 0, 1) := by decide +kernel
theorem dX0_fillBehindTab_157 : decode cX0_fillBehindTab 157 = .ok (.iload 6, 2) := by decide +kernel
theorem dX0_fillBehindTab_159 : decode cX0_fillBehindTab 159 = .ok (.iload 7, 2) := by decide +kernel
theorem dX0_fillBehindTab_161 : decode cX0_fillBehindTab 161 = .ok (.iload 5, 2) := by decide +kernel
theorem dX0_fillBehindTab_163 : decode cX0_fillBehindTab 163 = .ok (.ifCond .eq 12, 3) := by decide +kernel
theorem dX0_fillBehindTab_166 : decode cX0_fillBehindTab 166 = .ok (.aload_n 1, 1) := by decide +kernel
theorem dX0_fillBehindTab_167 : decode cX0_fillBehindTab 167 = .ok (.iload 6, 2) := by decide +kernel
theorem dX0_fillBehindTab_169 : decode cX0_fillBehindTab 169 = .ok (.invokevirtual 103, 3) := by decide +kernel
theorem dX0_fillBehindTab_172 : decode cX0_fillBehindTab 172 = .ok (.goto 4, 3) := by decide +kernel
theorem dX0_fillBehindTab_175 : decode cX0_fillBehindTab 175 = .ok (.iconst 0, 1) := by decide +kernel
theorem dX0_fillBehindTab_176 : decode cX0_fillBehindTab 176 = .ok (.invokevirtual 106, 3) := by decide +kernel
theorem dX0_fillBehindTab_179 : decode cX0_fillBehindTab 179 = .ok (.aload_n 0, 1) := by decide +kernel
theorem dX0_fillBehindTab_180 : decode cX0_fillBehindTab 180 = .ok (.iload_n 2, 1) := by decide +kernel
theorem dX0_fillBehindTab_181 : decode cX0_fillBehindTab 181 = .ok (.aload_n 0, 1) := by decide +kernel
theorem dX0_fillBehindTab_182 : decode cX0_fillBehindTab 182 = .ok (.getfield 97, 3) := by decide +kernel
theorem dX0_fillBehindTab_185 : decode cX0_fillBehindTab 185 = .ok (.invokevirtual 76, 3) := by decide +kernel
theorem dX0_fillBehindTab_188 : decode cX0_fillBehindTab 188 = .ok (.aload_n 0, 1) := by decide +kernel
theorem dX0_fillBehindTab_189 : decode cX0_fillBehindTab 189 = .ok (.getfield 97, 3) := by decide +kernel
theorem dX0_fillBehindTab_192 : decode cX0_fillBehindTab 192 = .ok (.iload_n 3, 1) := by decide +kernel
theorem dX0_fillBehindTab_193 : decode cX0_fillBehindTab 193 = .ok (.if_icmp .ge 16, 3) := by decide +kernel
theorem dX0_fillBehindTab_196 : decode cX0_fillBehindTab 196 = .ok (.aload_n 0, 1) := by decide +kernel
theorem dX0_fillBehindTab_197 : decode cX0_fillBehindTab 197 = .ok (.invokevirtual 100, 3) := by decide +kernel
theorem dX0_fillBehindTab_200 : decode cX0_fillBehindTab 200 = .ok (.aload_n 0, 1) := by decide +kernel
theorem dX0_fillBehindTab_201 : decode cX0_fillBehindTab 201 = .ok (.aload_n 0, 1) := by decide +kernel
theorem dX0_fillBehindTab_202 : decode cX0_fillBehindTab 202 = .ok (.getfield 97, 3) := by decide +kernel
theorem dX0_fillBehindTab_205 : decode cX0_fillBehindTab 205 = .ok (.iload_n 3, 1) := by decide +kernel
theorem dX0_fillBehindTab_206 : decode cX0_fillBehindTab 206 = .ok (.invokevirtual 76, 3) := by decide +kernel
theorem dX0_fillBehindTab_209 : decode cX0_fillBehindTab 209 = .ok (.return_, 1) := by decide +kernel
theorem dX0_measureRun_0 : decode cX0_measureRun 0 = .ok (.aload_n 0, 1) := by decide +kernel
theorem dX0_measureRun_1 : decode cX0_measureRun 1 = .ok (.iload_n 1, 1) := by decide +kernel
theorem dX0_measureRun_2 : decode cX0_measureRun 2 = .ok (.putfield 97, 3) := by decide +kernel
theorem dX0_measureRun_5 : decode cX0_measureRun 5 = .ok (.aload_n 0, 1) := by decide +kernel
theorem dX0_measureRun_6 : decode cX0_measureRun 6 = .ok (.iconst 0, 1) := by decide +kernel
theorem dX0_measureRun_7 : decode cX0_measureRun 7 = .ok (.putfield 109, 3) := by decide +kernel
theorem dX0_measureRun_10 : decode cX0_measureRun 10 = .ok (.aload_n 0, 1) := by decide +kernel
theorem dX0_measureRun_11 : decode cX0_measureRun 11 = .ok (.iconst (-1), 1) := by decide +kernel
theorem dX0_measureRun_12 : decode cX0_measureRun 12 = .ok (.putfield 112, 3) := by decide +kernel
theorem dX0_measureRun_15 : decode cX0_measureRun 15 = .ok (.iload_n 1, 1) := by decide +kernel
theorem dX0_measureRun_16 : decode cX0_measureRun 16 = .ok (.istore 4, 2) := by decide +kernel
theorem dX0_measureRun_18 : decode cX0_measureRun 18 = .ok (.iload 4, 2) := by decide +kernel
theorem dX0_measureRun_20 : decode cX0_measureRun 20 = .ok (.iload_n 2, 1) := by decide +kernel
theorem dX0_measureRun_21 : decode cX0_measureRun 21 = .ok (.if_icmp .ge 107, 3) := by decide +kernel
theorem dX0_measureRun_24 : decode cX0_measureRun 24 = .ok (.iload 4, 2) := by decide +kernel
theorem dX0_measureRun_26 : decode cX0_measureRun 26 = .ok (.iload_n 1, 1) := by decide +kernel
theorem dX0_measureRun_27 : decode cX0_measureRun 27 = .ok (.if_icmp .ne 7, 3) := by decide +kernel
theorem dX0_measureRun_30 : decode cX0_measureRun 30 = .ok (.iconst 0, 1) := by decide +kernel
theorem dX0_measureRun_31 : decode cX0_measureRun 31 = .ok (.goto 9, 3) := by decide +kernel
theorem dX0_measureRun_34 : decode cX0_measureRun 34 = .ok (.aload_n 0, 1) := by decide +kernel
theorem dX0_measureRun_35 : decode cX0_measureRun 35 = .ok (.getfield 109, 3) := by decide +kernel
theorem dX0_measureRun_38 : decode cX0_measureRun 38 = .ok (.iconst 1, 1) := by decide +kernel
theorem dX0_measureRun_39 : decode cX0_measureRun 39 = .ok (.iadd, 1) := by decide +kernel
theorem dX0_measureRun_40 : decode cX0_measureRun 40 = .ok (.istore 5, 2) := by decide +kernel
theorem dX0_measureRun_42 : decode cX0_measureRun 42 = .ok (.iload 5, 2) := by decide +kernel
theorem dX0_measureRun_44 : decode cX0_measureRun 44 = .ok (.aload_n 0, 1) := by decide +kernel
theorem dX0_measureRun_45 : decode cX0_measureRun 45 = .ok (.getfield 12, 3) := by decide +kernel
theorem dX0_measureRun_48 : decode cX0_measureRun 48 = .ok (.iload 4, 2) := by decide +kernel
theorem dX0_measureRun_50 : decode cX0_measureRun 50 = .ok (.invokevirtual 115, 3) := by decide +kernel
theorem dX0_measureRun_53 : decode cX0_measureRun 53 = .ok (.iadd, 1) := by decide +kernel
theorem dX0_measureRun_54 : decode cX0_measureRun 54 = .ok (.iload_n 3, 1) := by decide +kernel
theorem dX0_measureRun_55 : decode cX0_measureRun 55 = .ok (.if_icmp .le 6, 3) := by decide +kernel
theorem dX0_measureRun_58 : decode cX0_measureRun 58 = .ok (.goto 70, 3) := by decide +kernel
theorem dX0_measureRun_61 : decode cX0_measureRun 61 = .ok (.aload_n 0, 1) := by decide +kernel
theorem dX0_measureRun_62 : decode cX0_measureRun 62 = .ok (.getfield 112, 3) := by decide +kernel
theorem dX0_measureRun_65 : decode cX0_measureRun 65 = .ok (.iconst (-1), 1) := by decide +kernel
theorem dX0_measureRun_66 : decode cX0_measureRun 66 = .ok (.if_icmp .ne 32, 3) := by decide +kernel
theorem dX0_measureRun_69 : decode cX0_measureRun 69 = .ok (.aload_n 0, 1) := by decide +kernel
theorem dX0_measureRun_70 : decode cX0_measureRun 70 = .ok (.getfield 12, 3) := by decide +kernel
theorem dX0_measureRun_73 : decode cX0_measureRun 73 = .ok (.iload 4, 2) := by decide +kernel
theorem dX0_measureRun_75 : decode cX0_measureRun 75 = .ok (.invokevirtual 118, 3) := by decide +kernel
theorem dX0_measureRun_78 : decode cX0_measureRun 78 = .ok (.iconst (-1), 1) := by decide +kernel
theorem dX0_measureRun_79 : decode cX0_measureRun 79 = .ok (.if_icmp .eq 19, 3) := by decide +kernel
theorem dX0_measureRun_82 : decode cX0_measureRun 82 = .ok (.aload_n 0, 1) := by decide +kernel
theorem dX0_measureRun_83 : decode cX0_measureRun 83 = .ok (.iload 5, 2) := by decide +kernel
theorem dX0_measureRun_85 : decode cX0_measureRun 85 = .ok (.aload_n 0, 1) := by decide +kernel
theorem dX0_measureRun_86 : decode cX0_measureRun 86 = .ok (.getfield 12, 3) := by decide +kernel
theorem dX0_measureRun_89 : decode cX0_measureRun 89 = .ok (.iload 4, 2) := by decide +kernel
theorem dX0_measureRun_91 : decode cX0_measureRun 91 = .ok (.invokevirtual 118, 3) := by decide +kernel
theorem dX0_measureRun_94 : decode cX0_measureRun 94 = .ok (.iadd, 1) := by decide +kernel
theorem dX0_measureRun_95 : decode cX0_measureRun 95 = .ok (.putfield 112, 3) := by decide +kernel
theorem dX0_measureRun_98 : decode cX0_measureRun 98 = .ok (.aload_n 0, 1) := by decide +kernel
theorem dX0_measureRun_99 : decode cX0_measureRun 99 = .ok (.iload 5, 2) := by decide +kernel
theorem dX0_measureRun_101 : decode cX0_measureRun 101 = .ok (.aload_n 0, 1) := by decide +kernel
theorem dX0_measureRun_102 : decode cX0_measureRun 102 = .ok (.getfield 12, 3) := by decide +kernel
theorem dX0_measureRun_105 : decode cX0_measureRun 105 = .ok (.iload 4, 2) := by decide +kernel
theorem dX0_measureRun_107 : decode cX0_measureRun 107 = .ok (.invokevirtual 115, 3) := by decide +kernel
theorem dX0_measureRun_110 : decode cX0_measureRun 110 = .ok (.iadd, 1) := by decide +kernel
theorem dX0_measureRun_111 : decode cX0_measureRun 111 = .ok (.putfield 109, 3) := by decide +kernel
theorem dX0_measureRun_114 : decode cX0_measureRun 114 = .ok (.aload_n 0, 1) := by decide +kernel
theorem dX0_measureRun_115 : decode cX0_measureRun 115 = .ok (.iload 4, 2) := by decide +kernel
theorem dX0_measureRun_117 : decode cX0_measureRun 117 = .ok (.iconst 1, 1) := by decide +kernel
theorem dX0_measureRun_118 : decode cX0_measureRun 118 = .ok (.iadd, 1) := by decide +kernel
theorem dX0_measureRun_119 : decode cX0_measureRun 119 = .ok (.putfield 97, 3) := by decide +kernel
theorem dX0_measureRun_122 : decode cX0_measureRun 122 = .ok (.iinc 4 1, 3) := by decide +kernel
theorem dX0_measureRun_125 : decode cX0_measureRun 125 = .ok (.goto (-107), 3) := by decide +kernel
theorem dX0_measureRun_128 : decode cX0_measureRun 128 = .ok (.aload_n 0, 1) := by decide +kernel
theorem dX0_measureRun_129 : decode cX0_measureRun 129 = .ok (.getfield 112, 3) := by decide +kernel
theorem dX0_measureRun_132 : decode cX0_measureRun 132 = .ok (.iconst (-1), 1) := by decide +kernel
theorem dX0_measureRun_133 : decode cX0_measureRun 133 = .ok (.if_icmp .ne 11, 3) := by decide +kernel
theorem dX0_measureRun_136 : decode cX0_measureRun 136 = .ok (.aload_n 0, 1) := by decide +kernel
theorem dX0_measureRun_137 : decode cX0_measureRun 137 = .ok (.aload_n 0, 1) := by decide +kernel
theorem dX0_measureRun_138 : decode cX0_measureRun 138 = .ok (.getfield 109, 3) := by decide +kernel
theorem dX0_measureRun_141 : decode cX0_measureRun 141 = .ok (.putfield 112, 3) := by decide +kernel
theorem dX0_measureRun_144 : decode cX0_measureRun 144 = .ok (.return_, 1) := by decide +kernel
theorem dX0_startRun_0 : decode cX0_startRun 0 = .ok (.iload_n 1, 1) := by decide +kernel
theorem dX0_startRun_1 : decode cX0_startRun 1 = .ok (.aload_n 0, 1) := by decide +kernel
theorem dX0_startRun_2 : decode cX0_startRun 2 = .ok (.iload_n 2, 1) := by decide +kernel
theorem dX0_startRun_3 : decode cX0_startRun 3 = .ok (.invokevirtual 121, 3) := by decide +kernel
theorem dX0_startRun_6 : decode cX0_startRun 6 = .ok (.isub, 1) := by decide +kernel
theorem dX0_startRun_7 : decode cX0_startRun 7 = .ok (.istore 4, 2) := by decide +kernel
theorem dX0_startRun_9 : decode cX0_startRun 9 = .ok (.iconst 0, 1) := by decide +kernel
theorem dX0_startRun_10 : decode cX0_startRun 10 = .ok (.istore 5, 2) := by decide +kernel
theorem dX0_startRun_12 : decode cX0_startRun 12 = .ok (.iload 4, 2) := by decide +kernel
theorem dX0_startRun_14 : decode cX0_startRun 14 = .ok (.aload_n 0, 1) := by decide +kernel
theorem dX0_startRun_15 : decode cX0_startRun 15 = .ok (.getfield 56, 3) := by decide +kernel
theorem dX0_startRun_18 : decode cX0_startRun 18 = .ok (.if_icmp .ge 15, 3) := by decide +kernel
theorem dX0_startRun_21 : decode cX0_startRun 21 = .ok (.aload_n 0, 1) := by decide +kernel
theorem dX0_startRun_22 : decode cX0_startRun 22 = .ok (.getfield 56, 3) := by decide +kernel
theorem dX0_startRun_25 : decode cX0_startRun 25 = .ok (.istore 4, 2) := by decide +kernel
theorem dX0_startRun_27 : decode cX0_startRun 27 = .ok (.iconst 1, 1) := by decide +kernel
theorem dX0_startRun_28 : decode cX0_startRun 28 = .ok (.istore 5, 2) := by decide +kernel
theorem dX0_startRun_30 : decode cX0_startRun 30 = .ok (.goto 31, 3) := by decide +kernel
theorem dX0_startRun_33 : decode cX0_startRun 33 = .ok (.iload 4, 2) := by decide +kernel
theorem dX0_startRun_35 : decode cX0_startRun 35 = .ok (.aload_n 0, 1) := by decide +kernel
theorem dX0_startRun_36 : decode cX0_startRun 36 = .ok (.getfield 109, 3) := by decide +kernel
theorem dX0_startRun_39 : decode cX0_startRun 39 = .ok (.iadd, 1) := by decide +kernel
theorem dX0_startRun_40 : decode cX0_startRun 40 = .ok (.aload_n 0, 1) := by decide +kernel
theorem dX0_startRun_41 : decode cX0_startRun 41 = .ok (.getfield 41, 3) := by decide +kernel
theorem dX0_startRun_44 : decode cX0_startRun 44 = .ok (.if_icmp .le 17, 3) := by decide +kernel
theorem dX0_startRun_47 : decode cX0_startRun 47 = .ok (.aload_n 0, 1) := by decide +kernel
theorem dX0_startRun_48 : decode cX0_startRun 48 = .ok (.getfield 41, 3) := by decide +kernel
theorem dX0_startRun_51 : decode cX0_startRun 51 = .ok (.aload_n 0, 1) := by decide +kernel
theorem dX0_startRun_52 : decode cX0_startRun 52 = .ok (.getfield 109, 3) := by decide +kernel
theorem dX0_startRun_55 : decode cX0_startRun 55 = .ok (.isub, 1) := by decide +kernel
theorem dX0_startRun_56 : decode cX0_startRun 56 = .ok (.istore 4, 2) := by decide +kernel
theorem dX0_startRun_58 : decode cX0_startRun 58 = .ok (.iconst 2, 1) := by decide +kernel
theorem dX0_startRun_59 : decode cX0_startRun 59 = .ok (.istore 5, 2) := by decide +kernel
theorem dX0_startRun_61 : decode cX0_startRun 61 = .ok (.iload_n 3, 1) := by decide +kernel
theorem dX0_startRun_62 : decode cX0_startRun 62 = .ok (.ifCond .eq 36, 3) := by decide +kernel
theorem dX0_startRun_65 : decode cX0_startRun 65 = .ok (.iload 4, 2) := by decide +kernel
theorem dX0_startRun_67 : decode cX0_startRun 67 = .ok (.aload_n 0, 1) := by decide +kernel
theorem dX0_startRun_68 : decode cX0_startRun 68 = .ok (.getfield 56, 3) := by decide +kernel
theorem dX0_startRun_71 : decode cX0_startRun 71 = .ok (.if_icmp .le 27, 3) := by decide +kernel
theorem dX0_startRun_74 : decode cX0_startRun 74 = .ok (.aload_n 0, 1) := by decide +kernel
theorem dX0_startRun_75 : decode cX0_startRun 75 = .ok (.getfield 21, 3) := by decide +kernel
theorem dX0_startRun_78 : decode cX0_startRun 78 = .ok (.aload_n 0, 1) := by decide +kernel
theorem dX0_startRun_79 : decode cX0_startRun 79 = .ok (.getfield 30, 3) := by decide +kernel
theorem dX0_startRun_82 : decode cX0_startRun 82 = .ok (.aload_n 0, 1) := by decide +kernel
theorem dX0_startRun_83 : decode cX0_startRun 83 = .ok (.getfield 56, 3) := by decide +kernel
theorem dX0_startRun_86 : decode cX0_startRun 86 = .ok (.iload 4, 2) := by decide +kernel
theorem dX0_startRun_88 : decode cX0_startRun 88 = .ok (.aload_n 0, 1) := by decide +kernel
theorem dX0_startRun_89 : decode cX0_startRun 89 = .ok (.getfield 56, 3) := by decide +kernel
theorem dX0_startRun_92 : decode cX0_startRun 92 = .ok (.isub, 1) := by decide +kernel
theorem dX0_startRun_93 : decode cX0_startRun 93 = .ok (.iload_n 3, 1) := by decide +kernel
theorem dX0_startRun_94 : decode cX0_startRun 94 = .ok (.iconst 0, 1) := by decide +kernel
theorem dX0_startRun_95 : decode cX0_startRun 95 = .ok (.invokevirtual 124, 3) := by decide +kernel
theorem dX0_startRun_98 : decode cX0_startRun 98 = .ok (.aload_n 0, 1) := by decide +kernel
theorem dX0_startRun_99 : decode cX0_startRun 99 = .ok (.iload 4, 2) := by decide +kernel
theorem dX0_startRun_101 : decode cX0_startRun 101 = .ok (.putfield 56, 3) := by decide +kernel
theorem dX0_startRun_104 : decode cX0_startRun 104 = .ok (.aload_n 0, 1) := by decide +kernel
theorem dX0_startRun_105 : decode cX0_startRun 105 = .ok (.iload_n 1, 1) := by decide +kernel
theorem dX0_startRun_106 : decode cX0_startRun 106 = .ok (.iload_n 2, 1) := by decide +kernel
theorem dX0_startRun_107 : decode cX0_startRun 107 = .ok (.iload 5, 2) := by decide +kernel
theorem dX0_startRun_109 : decode cX0_startRun 109 = .ok (.invokevirtual 65, 3) := by decide +kernel
theorem dX0_startRun_112 : decode cX0_startRun 112 = .ok (.return_, 1) := by decide +kernel
theorem dX0_runAhead_0 : decode cX0_runAhead 0 = .ok (.iload_n 1, 1) := by decide +kernel
theorem dX0_runAhead_1 : decode cX0_runAhead 1 = .ok (.tableswitch 44 1 3 #[27, 32, 39], 27) := by decide +kernel
theorem dX0_runAhead_28 : decode cX0_runAhead 28 = .ok (.aload_n 0, 1) := by decide +kernel
theorem dX0_runAhead_29 : decode cX0_runAhead 29 = .ok (.getfield 109, 3) := by decide +kernel
theorem dX0_runAhead_32 : decode cX0_runAhead 32 = .ok (.ireturn, 1) := by decide +kernel
theorem dX0_runAhead_33 : decode cX0_runAhead 33 = .ok (.aload_n 0, 1) := by decide +kernel
theorem dX0_runAhead_34 : decode cX0_runAhead 34 = .ok (.getfield 109, 3) := by decide +kernel
theorem dX0_runAhead_37 : decode cX0_runAhead 37 = .ok (.iconst 2, 1) := by decide +kernel
theorem dX0_runAhead_38 : decode cX0_runAhead 38 = .ok (.idiv, 1) := by decide +kernel
theorem dX0_runAhead_39 : decode cX0_runAhead 39 = .ok (.ireturn, 1) := by decide +kernel
theorem dX0_runAhead_40 : decode cX0_runAhead 40 = .ok (.aload_n 0, 1) := by decide +kernel
theorem dX0_runAhead_41 : decode cX0_runAhead 41 = .ok (.getfield 112, 3) := by decide +kernel
theorem dX0_runAhead_44 : decode cX0_runAhead 44 = .ok (.ireturn, 1) := by decide +kernel
theorem dX0_runAhead_45 : decode cX0_runAhead 45 = .ok (.iconst 0, 1) := by decide +kernel
theorem dX0_runAhead_46 : decode cX0_runAhead 46 = .ok (.ireturn, 1) := by decide +kernel
theorem dX0_startField_0 : decode cX0_startField 0 = .ok (.aload_n 0, 1) := by decide +kernel
theorem dX0_startField_1 : decode cX0_startField 1 = .ok (.getfield 62, 3) := by decide +kernel
theorem dX0_startField_4 : decode cX0_startField 4 = .ok (.ifCond .lt 59, 3) := by decide +kernel
theorem dX0_startField_7 : decode cX0_startField 7 = .ok (.aload_n 0, 1) := by decide +kernel
theorem dX0_startField_8 : decode cX0_startField 8 = .ok (.getfield 62, 3) := by decide +kernel
theorem dX0_startField_11 : decode cX0_startField 11 = .ok (.bipush 81, 2) := by decide +kernel
theorem dX0_startField_13 : decode cX0_startField 13 = .ok (.if_icmp .ge 50, 3) := by decide +kernel
theorem dX0_startField_16 : decode cX0_startField 16 = .ok (.aload_n 0, 1) := by decide +kernel
theorem dX0_startField_17 : decode cX0_startField 17 = .ok (.getfield 27, 3) := by decide +kernel
theorem dX0_startField_20 : decode cX0_startField 20 = .ok (.aload_n 0, 1) := by decide +kernel
theorem dX0_startField_21 : decode cX0_startField 21 = .ok (.getfield 62, 3) := by decide +kernel
theorem dX0_startField_24 : decode cX0_startField 24 = .ok (.aaload, 1) := by decide +kernel
theorem dX0_startField_25 : decode cX0_startField 25 = .ok (.astore 4, 2) := by decide +kernel
theorem dX0_startField_27 : decode cX0_startField 27 = .ok (.aload 4, 2) := by decide +kernel
theorem dX0_startField_29 : decode cX0_startField 29 = .ok (.iconst 0, 1) := by decide +kernel
theorem dX0_startField_30 : decode cX0_startField 30 = .ok (.aload_n 0, 1) := by decide +kernel
theorem dX0_startField_31 : decode cX0_startField 31 = .ok (.getfield 30, 3) := by decide +kernel
theorem dX0_startField_34 : decode cX0_startField 34 = .ok (.iastore, 1) := by decide +kernel
theorem dX0_startField_35 : decode cX0_startField 35 = .ok (.aload 4, 2) := by decide +kernel
theorem dX0_startField_37 : decode cX0_startField 37 = .ok (.iconst 1, 1) := by decide +kernel
theorem dX0_startField_38 : decode cX0_startField 38 = .ok (.aload_n 0, 1) := by decide +kernel
theorem dX0_startField_39 : decode cX0_startField 39 = .ok (.getfield 56, 3) := by decide +kernel
theorem dX0_startField_42 : decode cX0_startField 42 = .ok (.iastore, 1) := by decide +kernel
theorem dX0_startField_43 : decode cX0_startField 43 = .ok (.aload 4, 2) := by decide +kernel
theorem dX0_startField_45 : decode cX0_startField 45 = .ok (.iconst 2, 1) := by decide +kernel
theorem dX0_startField_46 : decode cX0_startField 46 = .ok (.iconst 0, 1) := by decide +kernel
theorem dX0_startField_47 : decode cX0_startField 47 = .ok (.iastore, 1) := by decide +kernel
theorem dX0_startField_48 : decode cX0_startField 48 = .ok (.aload 4, 2) := by decide +kernel
theorem dX0_startField_50 : decode cX0_startField 50 = .ok (.iconst 3, 1) := by decide +kernel
theorem dX0_startField_51 : decode cX0_startField 51 = .ok (.iload_n 1, 1) := by decide +kernel
theorem dX0_startField_52 : decode cX0_startField 52 = .ok (.iastore, 1) := by decide +kernel
theorem dX0_startField_53 : decode cX0_startField 53 = .ok (.aload 4, 2) := by decide +kernel
theorem dX0_startField_55 : decode cX0_startField 55 = .ok (.iconst 4, 1) := by decide +kernel
theorem dX0_startField_56 : decode cX0_startField 56 = .ok (.iload_n 2, 1) := by decide +kernel
theorem dX0_startField_57 : decode cX0_startField 57 = .ok (.iastore, 1) := by decide +kernel
theorem dX0_startField_58 : decode cX0_startField 58 = .ok (.aload 4, 2) := by decide +kernel
theorem dX0_startField_60 : decode cX0_startField 60 = .ok (.iconst 5, 1) := by decide +kernel
theorem dX0_startField_61 : decode cX0_startField 61 = .ok (.iload_n 3, 1) := by decide +kernel
theorem dX0_startField_62 : decode cX0_startField 62 = .ok (.iastore, 1) := by decide +kernel
theorem dX0_startField_63 : decode cX0_startField 63 = .ok (.return_, 1) := by decide +kernel
theorem dX0_startLine_0 : decode cX0_startLine 0 = .ok (.aload_n 0, 1) := by decide +kernel
theorem dX0_startLine_1 : decode cX0_startLine 1 = .ok (.dup, 1) := by decide +kernel
theorem dX0_startLine_2 : decode cX0_startLine 2 = .ok (.getfield 30, 3) := by decide +kernel
theorem dX0_startLine_5 : decode cX0_startLine 5 = .ok (.iconst 1, 1) := by decide +kernel
theorem dX0_startLine_6 : decode cX0_startLine 6 = .ok (.iadd, 1) := by decide +kernel
theorem dX0_startLine_7 : decode cX0_startLine 7 = .ok (.putfield 30, 3) := by decide +kernel
theorem dX0_startLine_10 : decode cX0_startLine 10 = .ok (.aload_n 0, 1) := by decide +kernel
theorem dX0_startLine_11 : decode cX0_startLine 11 = .ok (.aload_n 0, 1) := by decide +kernel
theorem dX0_startLine_12 : decode cX0_startLine 12 = .ok (.getfield 52, 3) := by decide +kernel
theorem dX0_startLine_15 : decode cX0_startLine 15 = .ok (.putfield 56, 3) := by decide +kernel
theorem dX0_startLine_18 : decode cX0_startLine 18 = .ok (.return_, 1) := by decide +kernel
theorem dX0_flow_0 : decode cX0_flow 0 = .ok (.iload_n 1, 1) := by decide +kernel
theorem dX0_flow_1 : decode cX0_flow 1 = .ok (.istore_n 3, 1) := by decide +kernel
theorem dX0_flow_2 : decode cX0_flow 2 = .ok (.iload_n 3, 1) := by decide +kernel
theorem dX0_flow_3 : decode cX0_flow 3 = .ok (.iload_n 2, 1) := by decide +kernel
theorem dX0_flow_4 : decode cX0_flow 4 = .ok (.if_icmp .ge 58, 3) := by decide +kernel
theorem dX0_flow_7 : decode cX0_flow 7 = .ok (.iload_n 3, 1) := by decide +kernel
theorem dX0_flow_8 : decode cX0_flow 8 = .ok (.iload_n 1, 1) := by decide +kernel
theorem dX0_flow_9 : decode cX0_flow 9 = .ok (.if_icmp .le 42, 3) := by decide +kernel
theorem dX0_flow_12 : decode cX0_flow 12 = .ok (.aload_n 0, 1) := by decide +kernel
theorem dX0_flow_13 : decode cX0_flow 13 = .ok (.getfield 56, 3) := by decide +kernel
theorem dX0_flow_16 : decode cX0_flow 16 = .ok (.iconst 1, 1) := by decide +kernel
theorem dX0_flow_17 : decode cX0_flow 17 = .ok (.iadd, 1) := by decide +kernel
theorem dX0_flow_18 : decode cX0_flow 18 = .ok (.aload_n 0, 1) := by decide +kernel
theorem dX0_flow_19 : decode cX0_flow 19 = .ok (.getfield 12, 3) := by decide +kernel
theorem dX0_flow_22 : decode cX0_flow 22 = .ok (.iload_n 3, 1) := by decide +kernel
theorem dX0_flow_23 : decode cX0_flow 23 = .ok (.invokevirtual 115, 3) := by decide +kernel
theorem dX0_flow_26 : decode cX0_flow 26 = .ok (.iadd, 1) := by decide +kernel
theorem dX0_flow_27 : decode cX0_flow 27 = .ok (.aload_n 0, 1) := by decide +kernel
theorem dX0_flow_28 : decode cX0_flow 28 = .ok (.getfield 41, 3) := by decide +kernel
theorem dX0_flow_31 : decode cX0_flow 31 = .ok (.if_icmp .gt 16, 3) := by decide +kernel
theorem dX0_flow_34 : decode cX0_flow 34 = .ok (.aload_n 0, 1) := by decide +kernel
theorem dX0_flow_35 : decode cX0_flow 35 = .ok (.dup, 1) := by decide +kernel
theorem dX0_flow_36 : decode cX0_flow 36 = .ok (.getfield 56, 3) := by decide +kernel
theorem dX0_flow_39 : decode cX0_flow 39 = .ok (.iconst 1, 1) := by decide +kernel
theorem dX0_flow_40 : decode cX0_flow 40 = .ok (.iadd, 1) := by decide +kernel
theorem dX0_flow_41 : decode cX0_flow 41 = .ok (.putfield 56, 3) := by decide +kernel
theorem dX0_flow_44 : decode cX0_flow 44 = .ok (.goto 7, 3) := by decide +kernel
theorem dX0_flow_47 : decode cX0_flow 47 = .ok (.aload_n 0, 1) := by decide +kernel
theorem dX0_flow_48 : decode cX0_flow 48 = .ok (.invokevirtual 100, 3) := by decide +kernel
theorem dX0_flow_51 : decode cX0_flow 51 = .ok (.aload_n 0, 1) := by decide +kernel
theorem dX0_flow_52 : decode cX0_flow 52 = .ok (.iload_n 3, 1) := by decide +kernel
theorem dX0_flow_53 : decode cX0_flow 53 = .ok (.invokevirtual 128, 3) := by decide +kernel
theorem dX0_flow_56 : decode cX0_flow 56 = .ok (.iinc 3 1, 3) := by decide +kernel
theorem dX0_flow_59 : decode cX0_flow 59 = .ok (.goto (-57), 3) := by decide +kernel
theorem dX0_flow_62 : decode cX0_flow 62 = .ok (.return_, 1) := by decide +kernel
theorem dX0_place_0 : decode cX0_place 0 = .ok (.aload_n 0, 1) := by decide +kernel
theorem dX0_place_1 : decode cX0_place 1 = .ok (.getfield 12, 3) := by decide +kernel
theorem dX0_place_4 : decode cX0_place 4 = .ok (.iload_n 1, 1) := by decide +kernel
theorem dX0_place_5 : decode cX0_place 5 = .ok (.invokevirtual 132, 3) := by decide +kernel
theorem dX0_place_8 : decode cX0_place 8 = .ok (.aload_n 0, 1) := by decide +kernel
theorem dX0_place_9 : decode cX0_place 9 = .ok (.getfield 12, 3) := by decide +kernel
theorem dX0_place_12 : decode cX0_place 12 = .ok (.iload_n 1, 1) := by decide +kernel
theorem dX0_place_13 : decode cX0_place 13 = .ok (.invokevirtual 115, 3) := by decide +kernel
theorem dX0_place_16 : decode cX0_place 16 = .ok (.iadd, 1) := by decide +kernel
theorem dX0_place_17 : decode cX0_place 17 = .ok (.istore_n 2, 1) := by decide +kernel
theorem dX0_place_18 : decode cX0_place 18 = .ok (.aload_n 0, 1) := by decide +kernel
theorem dX0_place_19 : decode cX0_place 19 = .ok (.getfield 12, 3) := by decide +kernel
theorem dX0_place_22 : decode cX0_place 22 = .ok (.iload_n 1, 1) := by decide +kernel
theorem dX0_place_23 : decode cX0_place 23 = .ok (.invokevirtual 115, 3) := by decide +kernel
theorem dX0_place_26 : decode cX0_place 26 = .ok (.istore_n 3, 1) := by decide +kernel
theorem dX0_place_27 : decode cX0_place 27 = .ok (.iload_n 3, 1) := by decide +kernel
theorem dX0_place_28 : decode cX0_place 28 = .ok (.ifCond .le 74, 3) := by decide +kernel
theorem dX0_place_31 : decode cX0_place 31 = .ok (.iload_n 3, 1) := by decide +kernel
theorem dX0_place_32 : decode cX0_place 32 = .ok (.iconst 1, 1) := by decide +kernel
theorem dX0_place_33 : decode cX0_place 33 = .ok (.aload_n 0, 1) := by decide +kernel
theorem dX0_place_34 : decode cX0_place 34 = .ok (.getfield 41, 3) := by decide +kernel
theorem dX0_place_37 : decode cX0_place 37 = .ok (.aload_n 0, 1) := by decide +kernel
theorem dX0_place_38 : decode cX0_place 38 = .ok (.getfield 56, 3) := by decide +kernel
theorem dX0_place_41 : decode cX0_place 41 = .ok (.isub, 1) := by decide +kernel
theorem dX0_place_42 : decode cX0_place 42 = .ok (.invokestatic 135, 3) := by decide +kernel
theorem dX0_place_45 : decode cX0_place 45 = .ok (.invokestatic 140, 3) := by decide +kernel
theorem dX0_place_48 : decode cX0_place 48 = .ok (.istore 4, 2) := by decide +kernel
theorem dX0_place_50 : decode cX0_place 50 = .ok (.aload_n 0, 1) := by decide +kernel
theorem dX0_place_51 : decode cX0_place 51 = .ok (.getfield 21, 3) := by decide +kernel
theorem dX0_place_54 : decode cX0_place 54 = .ok (.aload_n 0, 1) := by decide +kernel
theorem dX0_place_55 : decode cX0_place 55 = .ok (.getfield 30, 3) := by decide +kernel
theorem dX0_place_58 : decode cX0_place 58 = .ok (.aload_n 0, 1) := by decide +kernel
theorem dX0_place_59 : decode cX0_place 59 = .ok (.getfield 56, 3) := by decide +kernel
theorem dX0_place_62 : decode cX0_place 62 = .ok (.iload 4, 2) := by decide +kernel
theorem dX0_place_64 : decode cX0_place 64 = .ok (.iconst 0, 1) := by decide +kernel
theorem dX0_place_65 : decode cX0_place 65 = .ok (.iload_n 2, 1) := by decide +kernel
theorem dX0_place_66 : decode cX0_place 66 = .ok (.iload_n 3, 1) := by decide +kernel
theorem dX0_place_67 : decode cX0_place 67 = .ok (.isub, 1) := by decide +kernel
theorem dX0_place_68 : decode cX0_place 68 = .ok (.invokevirtual 124, 3) := by decide +kernel
theorem dX0_place_71 : decode cX0_place 71 = .ok (.aload_n 0, 1) := by decide +kernel
theorem dX0_place_72 : decode cX0_place 72 = .ok (.dup, 1) := by decide +kernel
theorem dX0_place_73 : decode cX0_place 73 = .ok (.getfield 56, 3) := by decide +kernel
theorem dX0_place_76 : decode cX0_place 76 = .ok (.iload 4, 2) := by decide +kernel
theorem dX0_place_78 : decode cX0_place 78 = .ok (.iadd, 1) := by decide +kernel
theorem dX0_place_79 : decode cX0_place 79 = .ok (.putfield 56, 3) := by decide +kernel
theorem dX0_place_82 : decode cX0_place 82 = .ok (.aload_n 0, 1) := by decide +kernel
theorem dX0_place_83 : decode cX0_place 83 = .ok (.invokevirtual 143, 3) := by decide +kernel
theorem dX0_place_86 : decode cX0_place 86 = .ok (.iload_n 3, 1) := by decide +kernel
theorem dX0_place_87 : decode cX0_place 87 = .ok (.iload 4, 2) := by decide +kernel
theorem dX0_place_89 : decode cX0_place 89 = .ok (.isub, 1) := by decide +kernel
theorem dX0_place_90 : decode cX0_place 90 = .ok (.istore_n 3, 1) := by decide +kernel
theorem dX0_place_91 : decode cX0_place 91 = .ok (.iload_n 3, 1) := by decide +kernel
theorem dX0_place_92 : decode cX0_place 92 = .ok (.ifCond .le 7, 3) := by decide +kernel
theorem dX0_place_95 : decode cX0_place 95 = .ok (.aload_n 0, 1) := by decide +kernel
theorem dX0_place_96 : decode cX0_place 96 = .ok (.invokevirtual 100, 3) := by decide +kernel
theorem dX0_place_99 : decode cX0_place 99 = .ok (.goto (-72), 3) := by decide +kernel
theorem dX0_place_102 : decode cX0_place 102 = .ok (.return_, 1) := by decide +kernel
theorem dX0_noteFilled_0 : decode cX0_noteFilled 0 = .ok (.aload_n 0, 1) := by decide +kernel
theorem dX0_noteFilled_1 : decode cX0_noteFilled 1 = .ok (.getfield 62, 3) := by decide +kernel
theorem dX0_noteFilled_4 : decode cX0_noteFilled 4 = .ok (.ifCond .lt 43, 3) := by decide +kernel
theorem dX0_noteFilled_7 : decode cX0_noteFilled 7 = .ok (.aload_n 0, 1) := by decide +kernel
theorem dX0_noteFilled_8 : decode cX0_noteFilled 8 = .ok (.getfield 62, 3) := by decide +kernel
theorem dX0_noteFilled_11 : decode cX0_noteFilled 11 = .ok (.bipush 81, 2) := by decide +kernel
theorem dX0_noteFilled_13 : decode cX0_noteFilled 13 = .ok (.if_icmp .ge 34, 3) := by decide +kernel
theorem dX0_noteFilled_16 : decode cX0_noteFilled 16 = .ok (.aload_n 0, 1) := by decide +kernel
theorem dX0_noteFilled_17 : decode cX0_noteFilled 17 = .ok (.getfield 27, 3) := by decide +kernel
theorem dX0_noteFilled_20 : decode cX0_noteFilled 20 = .ok (.aload_n 0, 1) := by decide +kernel
theorem dX0_noteFilled_21 : decode cX0_noteFilled 21 = .ok (.getfield 62, 3) := by decide +kernel
theorem dX0_noteFilled_24 : decode cX0_noteFilled 24 = .ok (.aaload, 1) := by decide +kernel
theorem dX0_noteFilled_25 : decode cX0_noteFilled 25 = .ok (.astore_n 1, 1) := by decide +kernel
theorem dX0_noteFilled_26 : decode cX0_noteFilled 26 = .ok (.aload_n 1, 1) := by decide +kernel
theorem dX0_noteFilled_27 : decode cX0_noteFilled 27 = .ok (.iconst 0, 1) := by decide +kernel
theorem dX0_noteFilled_28 : decode cX0_noteFilled 28 = .ok (.iaload, 1) := by decide +kernel
theorem dX0_noteFilled_29 : decode cX0_noteFilled 29 = .ok (.aload_n 0, 1) := by decide +kernel
theorem dX0_noteFilled_30 : decode cX0_noteFilled 30 = .ok (.getfield 30, 3) := by decide +kernel
theorem dX0_noteFilled_33 : decode cX0_noteFilled 33 = .ok (.if_icmp .ne 14, 3) := by decide +kernel
theorem dX0_noteFilled_36 : decode cX0_noteFilled 36 = .ok (.aload_n 1, 1) := by decide +kernel
theorem dX0_noteFilled_37 : decode cX0_noteFilled 37 = .ok (.iconst 2, 1) := by decide +kernel
theorem dX0_noteFilled_38 : decode cX0_noteFilled 38 = .ok (.aload_n 0, 1) := by decide +kernel
theorem dX0_noteFilled_39 : decode cX0_noteFilled 39 = .ok (.getfield 56, 3) := by decide +kernel
theorem dX0_noteFilled_42 : decode cX0_noteFilled 42 = .ok (.aload_n 1, 1) := by decide +kernel
theorem dX0_noteFilled_43 : decode cX0_noteFilled 43 = .ok (.iconst 1, 1) := by decide +kernel
theorem dX0_noteFilled_44 : decode cX0_noteFilled 44 = .ok (.iaload, 1) := by decide +kernel
theorem dX0_noteFilled_45 : decode cX0_noteFilled 45 = .ok (.isub, 1) := by decide +kernel
theorem dX0_noteFilled_46 : decode cX0_noteFilled 46 = .ok (.iastore, 1) := by decide +kernel
theorem dX0_noteFilled_47 : decode cX0_noteFilled 47 = .ok (.return_, 1) := by decide +kernel
theorem dX0_barColumns_0 : decode cX0_barColumns 0 = .ok (.iconst 0, 1) := by decide +kernel
theorem dX0_barColumns_1 : decode cX0_barColumns 1 = .ok (.istore_n 2, 1) := by decide +kernel
theorem dX0_barColumns_2 : decode cX0_barColumns 2 = .ok (.iconst 1, 1) := by decide +kernel
theorem dX0_barColumns_3 : decode cX0_barColumns 3 = .ok (.istore_n 3, 1) := by decide +kernel
theorem dX0_barColumns_4 : decode cX0_barColumns 4 = .ok (.iload_n 3, 1) := by decide +kernel
theorem dX0_barColumns_5 : decode cX0_barColumns 5 = .ok (.aload_n 0, 1) := by decide +kernel
theorem dX0_barColumns_6 : decode cX0_barColumns 6 = .ok (.getfield 41, 3) := by decide +kernel
theorem dX0_barColumns_9 : decode cX0_barColumns 9 = .ok (.if_icmp .ge 59, 3) := by decide +kernel
theorem dX0_barColumns_12 : decode cX0_barColumns 12 = .ok (.iload_n 3, 1) := by decide +kernel
theorem dX0_barColumns_13 : decode cX0_barColumns 13 = .ok (.bipush 80, 2) := by decide +kernel
theorem dX0_barColumns_15 : decode cX0_barColumns 15 = .ok (.if_icmp .gt 53, 3) := by decide +kernel
theorem dX0_barColumns_18 : decode cX0_barColumns 18 = .ok (.aload_n 1, 1) := by decide +kernel
theorem dX0_barColumns_19 : decode cX0_barColumns 19 = .ok (.iload_n 3, 1) := by decide +kernel
theorem dX0_barColumns_20 : decode cX0_barColumns 20 = .ok (.invokevirtual 91, 3) := by decide +kernel
theorem dX0_barColumns_23 : decode cX0_barColumns 23 = .ok (.iconst 4, 1) := by decide +kernel
theorem dX0_barColumns_24 : decode cX0_barColumns 24 = .ok (.if_icmp .ne 38, 3) := by decide +kernel
theorem dX0_barColumns_27 : decode cX0_barColumns 27 = .ok (.iconst 0, 1) := by decide +kernel
theorem dX0_barColumns_28 : decode cX0_barColumns 28 = .ok (.istore 4, 2) := by decide +kernel
theorem dX0_barColumns_30 : decode cX0_barColumns 30 = .ok (.iload 4, 2) := by decide +kernel
theorem dX0_barColumns_32 : decode cX0_barColumns 32 = .ok (.aload_n 0, 1) := by decide +kernel
theorem dX0_barColumns_33 : decode cX0_barColumns 33 = .ok (.getfield 30, 3) := by decide +kernel
theorem dX0_barColumns_36 : decode cX0_barColumns 36 = .ok (.if_icmp .gt 26, 3) := by decide +kernel
theorem dX0_barColumns_39 : decode cX0_barColumns 39 = .ok (.aload_n 0, 1) := by decide +kernel
theorem dX0_barColumns_40 : decode cX0_barColumns 40 = .ok (.getfield 21, 3) := by decide +kernel
theorem dX0_barColumns_43 : decode cX0_barColumns 43 = .ok (.iload 4, 2) := by decide +kernel
theorem dX0_barColumns_45 : decode cX0_barColumns 45 = .ok (.iload_n 3, 1) := by decide +kernel
theorem dX0_barColumns_46 : decode cX0_barColumns 46 = .ok (.invokevirtual 146, 3) := by decide +kernel
theorem dX0_barColumns_49 : decode cX0_barColumns 49 = .ok (.iconst (-1), 1) := by decide +kernel
theorem dX0_barColumns_50 : decode cX0_barColumns 50 = .ok (.if_icmp .ne 6, 3) := by decide +kernel
theorem dX0_barColumns_53 : decode cX0_barColumns 53 = .ok (.iinc 2 1, 3) := by decide +kernel
theorem dX0_barColumns_56 : decode cX0_barColumns 56 = .ok (.iinc 4 1, 3) := by decide +kernel
theorem dX0_barColumns_59 : decode cX0_barColumns 59 = .ok (.goto (-29), 3) := by decide +kernel
theorem dX0_barColumns_62 : decode cX0_barColumns 62 = .ok (.iinc 3 1, 3) := by decide +kernel
theorem dX0_barColumns_65 : decode cX0_barColumns 65 = .ok (.goto (-61), 3) := by decide +kernel
theorem dX0_barColumns_68 : decode cX0_barColumns 68 = .ok (.iload_n 2, 1) := by decide +kernel
theorem dX0_barColumns_69 : decode cX0_barColumns 69 = .ok (.ireturn, 1) := by decide +kernel
theorem dX1_init_0 : decode cX1_init 0 = .ok (.aload_n 0, 1) := by decide +kernel
theorem dX1_init_1 : decode cX1_init 1 = .ok (.invokespecial 3, 3) := by decide +kernel
theorem dX1_init_4 : decode cX1_init 4 = .ok (.aload_n 0, 1) := by decide +kernel
theorem dX1_init_5 : decode cX1_init 5 = .ok (.bipush 80, 2) := by decide +kernel
theorem dX1_init_7 : decode cX1_init 7 = .ok (.newarray .int, 2) := by decide +kernel
theorem dX1_init_9 : decode cX1_init 9 = .ok (.putfield 9, 3) := by decide +kernel
theorem dX1_init_12 : decode cX1_init 12 = .ok (.return_, 1) := by decide +kernel
theorem dX1_append_0 : decode cX1_append 0 = .ok (.aload_n 0, 1) := by decide +kernel
theorem dX1_append_1 : decode cX1_append 1 = .ok (.getfield 15, 3) := by decide +kernel
theorem dX1_append_4 : decode cX1_append 4 = .ok (.iconst 0, 1) := by decide +kernel
theorem dX1_append_5 : decode cX1_append 5 = .ok (.bipush 79, 2) := by decide +kernel
theorem dX1_append_7 : decode cX1_append 7 = .ok (.invokestatic 19, 3) := by decide +kernel
theorem dX1_append_10 : decode cX1_append 10 = .ok (.ifCond .eq 23, 3) := by decide +kernel
theorem dX1_append_13 : decode cX1_append 13 = .ok (.aload_n 0, 1) := by decide +kernel
theorem dX1_append_14 : decode cX1_append 14 = .ok (.getfield 9, 3) := by decide +kernel
theorem dX1_append_17 : decode cX1_append 17 = .ok (.aload_n 0, 1) := by decide +kernel
theorem dX1_append_18 : decode cX1_append 18 = .ok (.getfield 15, 3) := by decide +kernel
theorem dX1_append_21 : decode cX1_append 21 = .ok (.iload_n 1, 1) := by decide +kernel
theorem dX1_append_22 : decode cX1_append 22 = .ok (.iastore, 1) := by decide +kernel
theorem dX1_append_23 : decode cX1_append 23 = .ok (.aload_n 0, 1) := by decide +kernel
theorem dX1_append_24 : decode cX1_append 24 = .ok (.dup, 1) := by decide +kernel
theorem dX1_append_25 : decode cX1_append 25 = .ok (.getfield 15, 3) := by decide +kernel
theorem dX1_append_28 : decode cX1_append 28 = .ok (.iconst 1, 1) := by decide +kernel
theorem dX1_append_29 : decode cX1_append 29 = .ok (.iadd, 1) := by decide +kernel
theorem dX1_append_30 : decode cX1_append 30 = .ok (.putfield 15, 3) := by decide +kernel
theorem dX1_append_33 : decode cX1_append 33 = .ok (.return_, 1) := by decide +kernel
theorem dX1_characterAt_0 : decode cX1_characterAt 0 = .ok (.iload_n 1, 1) := by decide +kernel
theorem dX1_characterAt_1 : decode cX1_characterAt 1 = .ok (.ifCond .lt 21, 3) := by decide +kernel
theorem dX1_characterAt_4 : decode cX1_characterAt 4 = .ok (.iload_n 1, 1) := by decide +kernel
theorem dX1_characterAt_5 : decode cX1_characterAt 5 = .ok (.aload_n 0, 1) := by decide +kernel
theorem dX1_characterAt_6 : decode cX1_characterAt 6 = .ok (.getfield 15, 3) := by decide +kernel
theorem dX1_characterAt_9 : decode cX1_characterAt 9 = .ok (.if_icmp .ge 13, 3) := by decide +kernel
theorem dX1_characterAt_12 : decode cX1_characterAt 12 = .ok (.iload_n 1, 1) := by decide +kernel
theorem dX1_characterAt_13 : decode cX1_characterAt 13 = .ok (.bipush 80, 2) := by decide +kernel
theorem dX1_characterAt_15 : decode cX1_characterAt 15 = .ok (.if_icmp .ge 7, 3) := by decide +kernel
theorem dX1_characterAt_18 : decode cX1_characterAt 18 = .ok (.iconst 1, 1) := by decide +kernel
theorem dX1_characterAt_19 : decode cX1_characterAt 19 = .ok (.goto 4, 3) := by decide +kernel
theorem dX1_characterAt_22 : decode cX1_characterAt 22 = .ok (.iconst 0, 1) := by decide +kernel
theorem dX1_characterAt_23 : decode cX1_characterAt 23 = .ok (.istore_n 2, 1) := by decide +kernel
theorem dX1_characterAt_24 : decode cX1_characterAt 24 = .ok (.iload_n 2, 1) := by decide +kernel
theorem dX1_characterAt_25 : decode cX1_characterAt 25 = .ok (.ifCond .eq 12, 3) := by decide +kernel
theorem dX1_characterAt_28 : decode cX1_characterAt 28 = .ok (.aload_n 0, 1) := by decide +kernel
theorem dX1_characterAt_29 : decode cX1_characterAt 29 = .ok (.getfield 9, 3) := by decide +kernel
theorem dX1_characterAt_32 : decode cX1_characterAt 32 = .ok (.iload_n 1, 1) := by decide +kernel
theorem dX1_characterAt_33 : decode cX1_characterAt 33 = .ok (.iaload, 1) := by decide +kernel
theorem dX1_characterAt_34 : decode cX1_characterAt 34 = .ok (.goto 5, 3) := by decide +kernel
theorem dX1_characterAt_37 : decode cX1_characterAt 37 = .ok (.bipush (-9), 2) := by decide +kernel
theorem dX1_characterAt_39 : decode cX1_characterAt 39 = .ok (.ireturn, 1) := by decide +kernel
theorem dX1_takeFrom_0 : decode cX1_takeFrom 0 = .ok (.aload_n 0, 1) := by decide +kernel
theorem dX1_takeFrom_1 : decode cX1_takeFrom 1 = .ok (.aload_n 1, 1) := by decide +kernel
theorem dX1_takeFrom_2 : decode cX1_takeFrom 2 = .ok (.getfield 23, 3) := by decide +kernel
theorem dX1_takeFrom_5 : decode cX1_takeFrom 5 = .ok (.putfield 23, 3) := by decide +kernel
theorem dX1_takeFrom_8 : decode cX1_takeFrom 8 = .ok (.aload_n 0, 1) := by decide +kernel
theorem dX1_takeFrom_9 : decode cX1_takeFrom 9 = .ok (.aload_n 1, 1) := by decide +kernel
theorem dX1_takeFrom_10 : decode cX1_takeFrom 10 = .ok (.getfield 15, 3) := by decide +kernel
theorem dX1_takeFrom_13 : decode cX1_takeFrom 13 = .ok (.putfield 15, 3) := by decide +kernel
theorem dX1_takeFrom_16 : decode cX1_takeFrom 16 = .ok (.iconst 0, 1) := by decide +kernel
theorem dX1_takeFrom_17 : decode cX1_takeFrom 17 = .ok (.istore_n 2, 1) := by decide +kernel
theorem dX1_takeFrom_18 : decode cX1_takeFrom 18 = .ok (.iload_n 2, 1) := by decide +kernel
theorem dX1_takeFrom_19 : decode cX1_takeFrom 19 = .ok (.bipush 80, 2) := by decide +kernel
theorem dX1_takeFrom_21 : decode cX1_takeFrom 21 = .ok (.if_icmp .ge 21, 3) := by decide +kernel
theorem dX1_takeFrom_24 : decode cX1_takeFrom 24 = .ok (.aload_n 0, 1) := by decide +kernel
theorem dX1_takeFrom_25 : decode cX1_takeFrom 25 = .ok (.getfield 9, 3) := by decide +kernel
theorem dX1_takeFrom_28 : decode cX1_takeFrom 28 = .ok (.iload_n 2, 1) := by decide +kernel
theorem dX1_takeFrom_29 : decode cX1_takeFrom 29 = .ok (.aload_n 1, 1) := by decide +kernel
theorem dX1_takeFrom_30 : decode cX1_takeFrom 30 = .ok (.getfield 9, 3) := by decide +kernel
theorem dX1_takeFrom_33 : decode cX1_takeFrom 33 = .ok (.iload_n 2, 1) := by decide +kernel
theorem dX1_takeFrom_34 : decode cX1_takeFrom 34 = .ok (.iaload, 1) := by decide +kernel
theorem dX1_takeFrom_35 : decode cX1_takeFrom 35 = .ok (.iastore, 1) := by decide +kernel
theorem dX1_takeFrom_36 : decode cX1_takeFrom 36 = .ok (.iinc 2 1, 3) := by decide +kernel
theorem dX1_takeFrom_39 : decode cX1_takeFrom 39 = .ok (.goto (-21), 3) := by decide +kernel
theorem dX1_takeFrom_42 : decode cX1_takeFrom 42 = .ok (.return_, 1) := by decide +kernel
theorem dX2_init_0 : decode cX2_init 0 = .ok (.aload_n 0, 1) := by decide +kernel
theorem dX2_init_1 : decode cX2_init 1 = .ok (.invokespecial 3, 3) := by decide +kernel
theorem dX2_init_4 : decode cX2_init 4 = .ok (.aload_n 0, 1) := by decide +kernel
theorem dX2_init_5 : decode cX2_init 5 = .ok (.bipush 80, 2) := by decide +kernel
theorem dX2_init_7 : decode cX2_init 7 = .ok (.newarray .int, 2) := by decide +kernel
theorem dX2_init_9 : decode cX2_init 9 = .ok (.putfield 11, 3) := by decide +kernel
theorem dX2_init_12 : decode cX2_init 12 = .ok (.aload_n 0, 1) := by decide +kernel
theorem dX2_init_13 : decode cX2_init 13 = .ok (.bipush 80, 2) := by decide +kernel
theorem dX2_init_15 : decode cX2_init 15 = .ok (.newarray .int, 2) := by decide +kernel
theorem dX2_init_17 : decode cX2_init 17 = .ok (.putfield 15, 3) := by decide +kernel
theorem dX2_init_20 : decode cX2_init 20 = .ok (.aload_n 0, 1) := by decide +kernel
theorem dX2_init_21 : decode cX2_init 21 = .ok (.bipush 80, 2) := by decide +kernel
theorem dX2_init_23 : decode cX2_init 23 = .ok (.newarray .int, 2) := by decide +kernel
theorem dX2_init_25 : decode cX2_init 25 = .ok (.putfield 18, 3) := by decide +kernel
theorem dX2_init_28 : decode cX2_init 28 = .ok (.aload_n 0, 1) := by decide +kernel
theorem dX2_init_29 : decode cX2_init 29 = .ok (.bipush 80, 2) := by decide +kernel
theorem dX2_init_31 : decode cX2_init 31 = .ok (.newarray .int, 2) := by decide +kernel
theorem dX2_init_33 : decode cX2_init 33 = .ok (.putfield 21, 3) := by decide +kernel
theorem dX2_init_36 : decode cX2_init 36 = .ok (.aload_n 0, 1) := by decide +kernel
theorem dX2_init_37 : decode cX2_init 37 = .ok (.bipush 80, 2) := by decide +kernel
theorem dX2_init_39 : decode cX2_init 39 = .ok (.newarray .int, 2) := by decide +kernel
theorem dX2_init_41 : decode cX2_init 41 = .ok (.putfield 24, 3) := by decide +kernel
theorem dX2_init_44 : decode cX2_init 44 = .ok (.return_, 1) := by decide +kernel
theorem dX2_removeAll_0 : decode cX2_removeAll 0 = .ok (.aload_n 0, 1) := by decide +kernel
theorem dX2_removeAll_1 : decode cX2_removeAll 1 = .ok (.iconst 0, 1) := by decide +kernel
theorem dX2_removeAll_2 : decode cX2_removeAll 2 = .ok (.putfield 27, 3) := by decide +kernel
theorem dX2_removeAll_5 : decode cX2_removeAll 5 = .ok (.return_, 1) := by decide +kernel
theorem dX2_add_0 : decode cX2_add 0 = .ok (.aload_n 0, 1) := by decide +kernel
theorem dX2_add_1 : decode cX2_add 1 = .ok (.getfield 27, 3) := by decide +kernel
theorem dX2_add_4 : decode cX2_add 4 = .ok (.bipush 80, 2) := by decide +kernel
theorem dX2_add_6 : decode cX2_add 6 = .ok (.if_icmp .ge 65, 3) := by decide +kernel
theorem dX2_add_9 : decode cX2_add 9 = .ok (.aload_n 0, 1) := by decide +kernel
theorem dX2_add_10 : decode cX2_add 10 = .ok (.getfield 11, 3) := by decide +kernel
theorem dX2_add_13 : decode cX2_add 13 = .ok (.aload_n 0, 1) := by decide +kernel
theorem dX2_add_14 : decode cX2_add 14 = .ok (.getfield 27, 3) := by decide +kernel
theorem dX2_add_17 : decode cX2_add 17 = .ok (.iload_n 1, 1) := by decide +kernel
theorem dX2_add_18 : decode cX2_add 18 = .ok (.iastore, 1) := by decide +kernel
theorem dX2_add_19 : decode cX2_add 19 = .ok (.aload_n 0, 1) := by decide +kernel
theorem dX2_add_20 : decode cX2_add 20 = .ok (.getfield 15, 3) := by decide +kernel
theorem dX2_add_23 : decode cX2_add 23 = .ok (.aload_n 0, 1) := by decide +kernel
theorem dX2_add_24 : decode cX2_add 24 = .ok (.getfield 27, 3) := by decide +kernel
theorem dX2_add_27 : decode cX2_add 27 = .ok (.iload_n 2, 1) := by decide +kernel
theorem dX2_add_28 : decode cX2_add 28 = .ok (.iastore, 1) := by decide +kernel
theorem dX2_add_29 : decode cX2_add 29 = .ok (.aload_n 0, 1) := by decide +kernel
theorem dX2_add_30 : decode cX2_add 30 = .ok (.getfield 18, 3) := by decide +kernel
theorem dX2_add_33 : decode cX2_add 33 = .ok (.aload_n 0, 1) := by decide +kernel
theorem dX2_add_34 : decode cX2_add 34 = .ok (.getfield 27, 3) := by decide +kernel
theorem dX2_add_37 : decode cX2_add 37 = .ok (.iload_n 3, 1) := by decide +kernel
theorem dX2_add_38 : decode cX2_add 38 = .ok (.iastore, 1) := by decide +kernel
theorem dX2_add_39 : decode cX2_add 39 = .ok (.aload_n 0, 1) := by decide +kernel
theorem dX2_add_40 : decode cX2_add 40 = .ok (.getfield 21, 3) := by decide +kernel
theorem dX2_add_43 : decode cX2_add 43 = .ok (.aload_n 0, 1) := by decide +kernel
theorem dX2_add_44 : decode cX2_add 44 = .ok (.getfield 27, 3) := by decide +kernel
theorem dX2_add_47 : decode cX2_add 47 = .ok (.iload 4, 2) := by decide +kernel
theorem dX2_add_49 : decode cX2_add 49 = .ok (.iastore, 1) := by decide +kernel
theorem dX2_add_50 : decode cX2_add 50 = .ok (.aload_n 0, 1) := by decide +kernel
theorem dX2_add_51 : decode cX2_add 51 = .ok (.getfield 24, 3) := by decide +kernel
theorem dX2_add_54 : decode cX2_add 54 = .ok (.aload_n 0, 1) := by decide +kernel
theorem dX2_add_55 : decode cX2_add 55 = .ok (.getfield 27, 3) := by decide +kernel
theorem dX2_add_58 : decode cX2_add 58 = .ok (.iload 5, 2) := by decide +kernel
theorem dX2_add_60 : decode cX2_add 60 = .ok (.iastore, 1) := by decide +kernel
theorem dX2_add_61 : decode cX2_add 61 = .ok (.aload_n 0, 1) := by decide +kernel
theorem dX2_add_62 : decode cX2_add 62 = .ok (.dup, 1) := by decide +kernel
theorem dX2_add_63 : decode cX2_add 63 = .ok (.getfield 27, 3) := by decide +kernel
theorem dX2_add_66 : decode cX2_add 66 = .ok (.iconst 1, 1) := by decide +kernel
theorem dX2_add_67 : decode cX2_add 67 = .ok (.iadd, 1) := by decide +kernel
theorem dX2_add_68 : decode cX2_add 68 = .ok (.putfield 27, 3) := by decide +kernel
theorem dX2_add_71 : decode cX2_add 71 = .ok (.return_, 1) := by decide +kernel
theorem dX2_pieceAt_0 : decode cX2_pieceAt 0 = .ok (.iconst 0, 1) := by decide +kernel
theorem dX2_pieceAt_1 : decode cX2_pieceAt 1 = .ok (.istore_n 3, 1) := by decide +kernel
theorem dX2_pieceAt_2 : decode cX2_pieceAt 2 = .ok (.iload_n 3, 1) := by decide +kernel
theorem dX2_pieceAt_3 : decode cX2_pieceAt 3 = .ok (.aload_n 0, 1) := by decide +kernel
theorem dX2_pieceAt_4 : decode cX2_pieceAt 4 = .ok (.getfield 27, 3) := by decide +kernel
theorem dX2_pieceAt_7 : decode cX2_pieceAt 7 = .ok (.if_icmp .ge 55, 3) := by decide +kernel
theorem dX2_pieceAt_10 : decode cX2_pieceAt 10 = .ok (.iload_n 3, 1) := by decide +kernel
theorem dX2_pieceAt_11 : decode cX2_pieceAt 11 = .ok (.bipush 80, 2) := by decide +kernel
theorem dX2_pieceAt_13 : decode cX2_pieceAt 13 = .ok (.if_icmp .ge 49, 3) := by decide +kernel
theorem dX2_pieceAt_16 : decode cX2_pieceAt 16 = .ok (.aload_n 0, 1) := by decide +kernel
theorem dX2_pieceAt_17 : decode cX2_pieceAt 17 = .ok (.getfield 11, 3) := by decide +kernel
theorem dX2_pieceAt_20 : decode cX2_pieceAt 20 = .ok (.iload_n 3, 1) := by decide +kernel
theorem dX2_pieceAt_21 : decode cX2_pieceAt 21 = .ok (.iaload, 1) := by decide +kernel
theorem dX2_pieceAt_22 : decode cX2_pieceAt 22 = .ok (.iload_n 1, 1) := by decide +kernel
theorem dX2_pieceAt_23 : decode cX2_pieceAt 23 = .ok (.if_icmp .ne 33, 3) := by decide +kernel
theorem dX2_pieceAt_26 : decode cX2_pieceAt 26 = .ok (.iload_n 2, 1) := by decide +kernel
theorem dX2_pieceAt_27 : decode cX2_pieceAt 27 = .ok (.aload_n 0, 1) := by decide +kernel
theorem dX2_pieceAt_28 : decode cX2_pieceAt 28 = .ok (.getfield 15, 3) := by decide +kernel
theorem dX2_pieceAt_31 : decode cX2_pieceAt 31 = .ok (.iload_n 3, 1) := by decide +kernel
theorem dX2_pieceAt_32 : decode cX2_pieceAt 32 = .ok (.iaload, 1) := by decide +kernel
theorem dX2_pieceAt_33 : decode cX2_pieceAt 33 = .ok (.aload_n 0, 1) := by decide +kernel
theorem dX2_pieceAt_34 : decode cX2_pieceAt 34 = .ok (.getfield 15, 3) := by decide +kernel
theorem dX2_pieceAt_37 : decode cX2_pieceAt 37 = .ok (.iload_n 3, 1) := by decide +kernel
theorem dX2_pieceAt_38 : decode cX2_pieceAt 38 = .ok (.iaload, 1) := by decide +kernel
theorem dX2_pieceAt_39 : decode cX2_pieceAt 39 = .ok (.aload_n 0, 1) := by decide +kernel
theorem dX2_pieceAt_40 : decode cX2_pieceAt 40 = .ok (.getfield 18, 3) := by decide +kernel
theorem dX2_pieceAt_43 : decode cX2_pieceAt 43 = .ok (.iload_n 3, 1) := by decide +kernel
theorem dX2_pieceAt_44 : decode cX2_pieceAt 44 = .ok (.iaload, 1) := by decide +kernel
theorem dX2_pieceAt_45 : decode cX2_pieceAt 45 = .ok (.iadd, 1) := by decide +kernel
theorem dX2_pieceAt_46 : decode cX2_pieceAt 46 = .ok (.iconst 1, 1) := by decide +kernel
theorem dX2_pieceAt_47 : decode cX2_pieceAt 47 = .ok (.isub, 1) := by decide +kernel
theorem dX2_pieceAt_48 : decode cX2_pieceAt 48 = .ok (.invokestatic 31, 3) := by decide +kernel
theorem dX2_pieceAt_51 : decode cX2_pieceAt 51 = .ok (.ifCond .eq 5, 3) := by decide +kernel
theorem dX2_pieceAt_54 : decode cX2_pieceAt 54 = .ok (.iload_n 3, 1) := by decide +kernel
theorem dX2_pieceAt_55 : decode cX2_pieceAt 55 = .ok (.ireturn, 1) := by decide +kernel
theorem dX2_pieceAt_56 : decode cX2_pieceAt 56 = .ok (.iinc 3 1, 3) := by decide +kernel
theorem dX2_pieceAt_59 : decode cX2_pieceAt 59 = .ok (.goto (-57), 3) := by decide +kernel
theorem dX2_pieceAt_62 : decode cX2_pieceAt 62 = .ok (.iconst (-1), 1) := by decide +kernel
theorem dX2_pieceAt_63 : decode cX2_pieceAt 63 = .ok (.ireturn, 1) := by decide +kernel
theorem dX2_filled_0 : decode cX2_filled 0 = .ok (.iconst 0, 1) := by decide +kernel
theorem dX2_filled_1 : decode cX2_filled 1 = .ok (.istore_n 2, 1) := by decide +kernel
theorem dX2_filled_2 : decode cX2_filled 2 = .ok (.iconst 0, 1) := by decide +kernel
theorem dX2_filled_3 : decode cX2_filled 3 = .ok (.istore_n 3, 1) := by decide +kernel
theorem dX2_filled_4 : decode cX2_filled 4 = .ok (.iload_n 3, 1) := by decide +kernel
theorem dX2_filled_5 : decode cX2_filled 5 = .ok (.aload_n 0, 1) := by decide +kernel
theorem dX2_filled_6 : decode cX2_filled 6 = .ok (.getfield 27, 3) := by decide +kernel
theorem dX2_filled_9 : decode cX2_filled 9 = .ok (.if_icmp .ge 42, 3) := by decide +kernel
theorem dX2_filled_12 : decode cX2_filled 12 = .ok (.iload_n 3, 1) := by decide +kernel
theorem dX2_filled_13 : decode cX2_filled 13 = .ok (.bipush 80, 2) := by decide +kernel
theorem dX2_filled_15 : decode cX2_filled 15 = .ok (.if_icmp .ge 36, 3) := by decide +kernel
theorem dX2_filled_18 : decode cX2_filled 18 = .ok (.iload_n 1, 1) := by decide +kernel
theorem dX2_filled_19 : decode cX2_filled 19 = .ok (.aload_n 0, 1) := by decide +kernel
theorem dX2_filled_20 : decode cX2_filled 20 = .ok (.getfield 21, 3) := by decide +kernel
theorem dX2_filled_23 : decode cX2_filled 23 = .ok (.iload_n 3, 1) := by decide +kernel
theorem dX2_filled_24 : decode cX2_filled 24 = .ok (.iaload, 1) := by decide +kernel
theorem dX2_filled_25 : decode cX2_filled 25 = .ok (.ifCond .eq 7, 3) := by decide +kernel
theorem dX2_filled_28 : decode cX2_filled 28 = .ok (.iconst 1, 1) := by decide +kernel
theorem dX2_filled_29 : decode cX2_filled 29 = .ok (.goto 4, 3) := by decide +kernel
theorem dX2_filled_32 : decode cX2_filled 32 = .ok (.iconst 0, 1) := by decide +kernel
theorem dX2_filled_33 : decode cX2_filled 33 = .ok (.if_icmp .ne 12, 3) := by decide +kernel
theorem dX2_filled_36 : decode cX2_filled 36 = .ok (.iload_n 2, 1) := by decide +kernel
theorem dX2_filled_37 : decode cX2_filled 37 = .ok (.aload_n 0, 1) := by decide +kernel
theorem dX2_filled_38 : decode cX2_filled 38 = .ok (.getfield 18, 3) := by decide +kernel
theorem dX2_filled_41 : decode cX2_filled 41 = .ok (.iload_n 3, 1) := by decide +kernel
theorem dX2_filled_42 : decode cX2_filled 42 = .ok (.iaload, 1) := by decide +kernel
theorem dX2_filled_43 : decode cX2_filled 43 = .ok (.iadd, 1) := by decide +kernel
theorem dX2_filled_44 : decode cX2_filled 44 = .ok (.istore_n 2, 1) := by decide +kernel
theorem dX2_filled_45 : decode cX2_filled 45 = .ok (.iinc 3 1, 3) := by decide +kernel
theorem dX2_filled_48 : decode cX2_filled 48 = .ok (.goto (-44), 3) := by decide +kernel
theorem dX2_filled_51 : decode cX2_filled 51 = .ok (.iload_n 2, 1) := by decide +kernel
theorem dX2_filled_52 : decode cX2_filled 52 = .ok (.ireturn, 1) := by decide +kernel
theorem dX3_init_0 : decode cX3_init 0 = .ok (.aload_n 0, 1) := by decide +kernel
theorem dX3_init_1 : decode cX3_init 1 = .ok (.invokespecial 3, 3) := by decide +kernel
theorem dX3_init_4 : decode cX3_init 4 = .ok (.aload_n 0, 1) := by decide +kernel
theorem dX3_init_5 : decode cX3_init 5 = .ok (.bipush 40, 2) := by decide +kernel
theorem dX3_init_7 : decode cX3_init 7 = .ok (.putfield 9, 3) := by decide +kernel
theorem dX3_init_10 : decode cX3_init 10 = .ok (.aload_n 0, 1) := by decide +kernel
theorem dX3_init_11 : decode cX3_init 11 = .ok (.bipush 8, 2) := by decide +kernel
theorem dX3_init_13 : decode cX3_init 13 = .ok (.putfield 15, 3) := by decide +kernel
theorem dX3_init_16 : decode cX3_init 16 = .ok (.aload_n 0, 1) := by decide +kernel
theorem dX3_init_17 : decode cX3_init 17 = .ok (.iconst 4, 1) := by decide +kernel
theorem dX3_init_18 : decode cX3_init 18 = .ok (.anewarray 18, 3) := by decide +kernel
theorem dX3_init_21 : decode cX3_init 21 = .ok (.putfield 20, 3) := by decide +kernel
theorem dX3_init_24 : decode cX3_init 24 = .ok (.aload_n 0, 1) := by decide +kernel
theorem dX3_init_25 : decode cX3_init 25 = .ok (.bipush 8, 2) := by decide +kernel
theorem dX3_init_27 : decode cX3_init 27 = .ok (.anewarray 24, 3) := by decide +kernel
theorem dX3_init_30 : decode cX3_init 30 = .ok (.putfield 26, 3) := by decide +kernel
theorem dX3_init_33 : decode cX3_init 33 = .ok (.iconst 0, 1) := by decide +kernel
theorem dX3_init_34 : decode cX3_init 34 = .ok (.istore_n 1, 1) := by decide +kernel
theorem dX3_init_35 : decode cX3_init 35 = .ok (.iload_n 1, 1) := by decide +kernel
theorem dX3_init_36 : decode cX3_init 36 = .ok (.iconst 4, 1) := by decide +kernel
theorem dX3_init_37 : decode cX3_init 37 = .ok (.if_icmp .ge 22, 3) := by decide +kernel
theorem dX3_init_40 : decode cX3_init 40 = .ok (.aload_n 0, 1) := by decide +kernel
theorem dX3_init_41 : decode cX3_init 41 = .ok (.getfield 20, 3) := by decide +kernel
theorem dX3_init_44 : decode cX3_init 44 = .ok (.iload_n 1, 1) := by decide +kernel
theorem dX3_init_45 : decode cX3_init 45 = .ok (.new 18, 3) := by decide +kernel
theorem dX3_init_48 : decode cX3_init 48 = .ok (.dup, 1) := by decide +kernel
theorem dX3_init_49 : decode cX3_init 49 = .ok (.invokespecial 30, 3) := by decide +kernel
theorem dX3_init_52 : decode cX3_init 52 = .ok (.aastore, 1) := by decide +kernel
theorem dX3_init_53 : decode cX3_init 53 = .ok (.iinc 1 1, 3) := by decide +kernel
theorem dX3_init_56 : decode cX3_init 56 = .ok (.goto (-21), 3) := by decide +kernel
theorem dX3_init_59 : decode cX3_init 59 = .ok (.iconst 0, 1) := by decide +kernel
theorem dX3_init_60 : decode cX3_init 60 = .ok (.istore_n 1, 1) := by decide +kernel
theorem dX3_init_61 : decode cX3_init 61 = .ok (.iload_n 1, 1) := by decide +kernel
theorem dX3_init_62 : decode cX3_init 62 = .ok (.bipush 8, 2) := by decide +kernel
theorem dX3_init_64 : decode cX3_init 64 = .ok (.if_icmp .ge 22, 3) := by decide +kernel
theorem dX3_init_67 : decode cX3_init 67 = .ok (.aload_n 0, 1) := by decide +kernel
theorem dX3_init_68 : decode cX3_init 68 = .ok (.getfield 26, 3) := by decide +kernel
theorem dX3_init_71 : decode cX3_init 71 = .ok (.iload_n 1, 1) := by decide +kernel
theorem dX3_init_72 : decode cX3_init 72 = .ok (.new 24, 3) := by decide +kernel
theorem dX3_init_75 : decode cX3_init 75 = .ok (.dup, 1) := by decide +kernel
theorem dX3_init_76 : decode cX3_init 76 = .ok (.invokespecial 31, 3) := by decide +kernel
theorem dX3_init_79 : decode cX3_init 79 = .ok (.aastore, 1) := by decide +kernel
theorem dX3_init_80 : decode cX3_init 80 = .ok (.iinc 1 1, 3) := by decide +kernel
theorem dX3_init_83 : decode cX3_init 83 = .ok (.goto (-22), 3) := by decide +kernel
theorem dX3_init_86 : decode cX3_init 86 = .ok (.return_, 1) := by decide +kernel
theorem dX3_takeAllOf_0 : decode cX3_takeAllOf 0 = .ok (.aload_n 0, 1) := by decide +kernel
theorem dX3_takeAllOf_1 : decode cX3_takeAllOf 1 = .ok (.aload_n 1, 1) := by decide +kernel
theorem dX3_takeAllOf_2 : decode cX3_takeAllOf 2 = .ok (.getfield 9, 3) := by decide +kernel
theorem dX3_takeAllOf_5 : decode cX3_takeAllOf 5 = .ok (.putfield 9, 3) := by decide +kernel
theorem dX3_takeAllOf_8 : decode cX3_takeAllOf 8 = .ok (.aload_n 0, 1) := by decide +kernel
theorem dX3_takeAllOf_9 : decode cX3_takeAllOf 9 = .ok (.aload_n 1, 1) := by decide +kernel
theorem dX3_takeAllOf_10 : decode cX3_takeAllOf 10 = .ok (.getfield 15, 3) := by decide +kernel
theorem dX3_takeAllOf_13 : decode cX3_takeAllOf 13 = .ok (.putfield 15, 3) := by decide +kernel
theorem dX3_takeAllOf_16 : decode cX3_takeAllOf 16 = .ok (.aload_n 0, 1) := by decide +kernel
theorem dX3_takeAllOf_17 : decode cX3_takeAllOf 17 = .ok (.aload_n 1, 1) := by decide +kernel
theorem dX3_takeAllOf_18 : decode cX3_takeAllOf 18 = .ok (.getfield 32, 3) := by decide +kernel
theorem dX3_takeAllOf_21 : decode cX3_takeAllOf 21 = .ok (.putfield 32, 3) := by decide +kernel
theorem dX3_takeAllOf_24 : decode cX3_takeAllOf 24 = .ok (.iconst 0, 1) := by decide +kernel
theorem dX3_takeAllOf_25 : decode cX3_takeAllOf 25 = .ok (.istore_n 2, 1) := by decide +kernel
theorem dX3_takeAllOf_26 : decode cX3_takeAllOf 26 = .ok (.iload_n 2, 1) := by decide +kernel
theorem dX3_takeAllOf_27 : decode cX3_takeAllOf 27 = .ok (.iconst 4, 1) := by decide +kernel
theorem dX3_takeAllOf_28 : decode cX3_takeAllOf 28 = .ok (.if_icmp .ge 60, 3) := by decide +kernel
theorem dX3_takeAllOf_31 : decode cX3_takeAllOf 31 = .ok (.aload_n 0, 1) := by decide +kernel
theorem dX3_takeAllOf_32 : decode cX3_takeAllOf 32 = .ok (.getfield 20, 3) := by decide +kernel
theorem dX3_takeAllOf_35 : decode cX3_takeAllOf 35 = .ok (.iload_n 2, 1) := by decide +kernel
theorem dX3_takeAllOf_36 : decode cX3_takeAllOf 36 = .ok (.aaload, 1) := by decide +kernel
theorem dX3_takeAllOf_37 : decode cX3_takeAllOf 37 = .ok (.aload_n 1, 1) := by decide +kernel
theorem dX3_takeAllOf_38 : decode cX3_takeAllOf 38 = .ok (.getfield 20, 3) := by decide +kernel
theorem dX3_takeAllOf_41 : decode cX3_takeAllOf 41 = .ok (.iload_n 2, 1) := by decide +kernel
theorem dX3_takeAllOf_42 : decode cX3_takeAllOf 42 = .ok (.aaload, 1) := by decide +kernel
theorem dX3_takeAllOf_43 : decode cX3_takeAllOf 43 = .ok (.getfield 35, 3) := by decide +kernel
theorem dX3_takeAllOf_46 : decode cX3_takeAllOf 46 = .ok (.putfield 35, 3) := by decide +kernel
theorem dX3_takeAllOf_49 : decode cX3_takeAllOf 49 = .ok (.aload_n 0, 1) := by decide +kernel
theorem dX3_takeAllOf_50 : decode cX3_takeAllOf 50 = .ok (.getfield 20, 3) := by decide +kernel
theorem dX3_takeAllOf_53 : decode cX3_takeAllOf 53 = .ok (.iload_n 2, 1) := by decide +kernel
theorem dX3_takeAllOf_54 : decode cX3_takeAllOf 54 = .ok (.aaload, 1) := by decide +kernel
theorem dX3_takeAllOf_55 : decode cX3_takeAllOf 55 = .ok (.aload_n 1, 1) := by decide +kernel
theorem dX3_takeAllOf_56 : decode cX3_takeAllOf 56 = .ok (.getfield 20, 3) := by decide +kernel
theorem dX3_takeAllOf_59 : decode cX3_takeAllOf 59 = .ok (.iload_n 2, 1) := by decide +kernel
theorem dX3_takeAllOf_60 : decode cX3_takeAllOf 60 = .ok (.aaload, 1) := by decide +kernel
theorem dX3_takeAllOf_61 : decode cX3_takeAllOf 61 = .ok (.getfield 38, 3) := by decide +kernel
theorem dX3_takeAllOf_64 : decode cX3_takeAllOf 64 = .ok (.putfield 38, 3) := by decide +kernel
theorem dX3_takeAllOf_67 : decode cX3_takeAllOf 67 = .ok (.aload_n 0, 1) := by decide +kernel
theorem dX3_takeAllOf_68 : decode cX3_takeAllOf 68 = .ok (.getfield 20, 3) := by decide +kernel
theorem dX3_takeAllOf_71 : decode cX3_takeAllOf 71 = .ok (.iload_n 2, 1) := by decide +kernel
theorem dX3_takeAllOf_72 : decode cX3_takeAllOf 72 = .ok (.aaload, 1) := by decide +kernel
theorem dX3_takeAllOf_73 : decode cX3_takeAllOf 73 = .ok (.aload_n 1, 1) := by decide +kernel
theorem dX3_takeAllOf_74 : decode cX3_takeAllOf 74 = .ok (.getfield 20, 3) := by decide +kernel
theorem dX3_takeAllOf_77 : decode cX3_takeAllOf 77 = .ok (.iload_n 2, 1) := by decide +kernel
theorem dX3_takeAllOf_78 : decode cX3_takeAllOf 78 = .ok (.aaload, 1) := by decide +kernel
theorem dX3_takeAllOf_79 : decode cX3_takeAllOf 79 = .ok (.invokevirtual 41, 3) := by decide +kernel
theorem dX3_takeAllOf_82 : decode cX3_takeAllOf 82 = .ok (.iinc 2 1, 3) := by decide +kernel
theorem dX3_takeAllOf_85 : decode cX3_takeAllOf 85 = .ok (.goto (-59), 3) := by decide +kernel
theorem dX3_takeAllOf_88 : decode cX3_takeAllOf 88 = .ok (.iconst 0, 1) := by decide +kernel
theorem dX3_takeAllOf_89 : decode cX3_takeAllOf 89 = .ok (.istore_n 2, 1) := by decide +kernel
theorem dX3_takeAllOf_90 : decode cX3_takeAllOf 90 = .ok (.iload_n 2, 1) := by decide +kernel
theorem dX3_takeAllOf_91 : decode cX3_takeAllOf 91 = .ok (.bipush 8, 2) := by decide +kernel
theorem dX3_takeAllOf_93 : decode cX3_takeAllOf 93 = .ok (.if_icmp .ge 24, 3) := by decide +kernel
theorem dX3_takeAllOf_96 : decode cX3_takeAllOf 96 = .ok (.aload_n 0, 1) := by decide +kernel
theorem dX3_takeAllOf_97 : decode cX3_takeAllOf 97 = .ok (.getfield 26, 3) := by decide +kernel
theorem dX3_takeAllOf_100 : decode cX3_takeAllOf 100 = .ok (.iload_n 2, 1) := by decide +kernel
theorem dX3_takeAllOf_101 : decode cX3_takeAllOf 101 = .ok (.aaload, 1) := by decide +kernel
theorem dX3_takeAllOf_102 : decode cX3_takeAllOf 102 = .ok (.aload_n 1, 1) := by decide +kernel
theorem dX3_takeAllOf_103 : decode cX3_takeAllOf 103 = .ok (.getfield 26, 3) := by decide +kernel
theorem dX3_takeAllOf_106 : decode cX3_takeAllOf 106 = .ok (.iload_n 2, 1) := by decide +kernel
theorem dX3_takeAllOf_107 : decode cX3_takeAllOf 107 = .ok (.aaload, 1) := by decide +kernel
theorem dX3_takeAllOf_108 : decode cX3_takeAllOf 108 = .ok (.invokevirtual 45, 3) := by decide +kernel
theorem dX3_takeAllOf_111 : decode cX3_takeAllOf 111 = .ok (.iinc 2 1, 3) := by decide +kernel
theorem dX3_takeAllOf_114 : decode cX3_takeAllOf 114 = .ok (.goto (-24), 3) := by decide +kernel
theorem dX3_takeAllOf_117 : decode cX3_takeAllOf 117 = .ok (.return_, 1) := by decide +kernel
theorem dX4_init_0 : decode cX4_init 0 = .ok (.aload_n 0, 1) := by decide +kernel
theorem dX4_init_1 : decode cX4_init 1 = .ok (.invokespecial 3, 3) := by decide +kernel
theorem dX4_init_4 : decode cX4_init 4 = .ok (.aload_n 0, 1) := by decide +kernel
theorem dX4_init_5 : decode cX4_init 5 = .ok (.new 9, 3) := by decide +kernel
theorem dX4_init_8 : decode cX4_init 8 = .ok (.dup, 1) := by decide +kernel
theorem dX4_init_9 : decode cX4_init 9 = .ok (.invokespecial 11, 3) := by decide +kernel
theorem dX4_init_12 : decode cX4_init 12 = .ok (.putfield 12, 3) := by decide +kernel
theorem dX4_init_15 : decode cX4_init 15 = .ok (.aload_n 0, 1) := by decide +kernel
theorem dX4_init_16 : decode cX4_init 16 = .ok (.iconst 0, 1) := by decide +kernel
theorem dX4_init_17 : decode cX4_init 17 = .ok (.newarray .int, 2) := by decide +kernel
theorem dX4_init_19 : decode cX4_init 19 = .ok (.putfield 18, 3) := by decide +kernel
theorem dX4_init_22 : decode cX4_init 22 = .ok (.return_, 1) := by decide +kernel
theorem dX4_readStops_0 : decode cX4_readStops 0 = .ok (.aload_n 0, 1) := by decide +kernel
theorem dX4_readStops_1 : decode cX4_readStops 1 = .ok (.aload_n 1, 1) := by decide +kernel
theorem dX4_readStops_2 : decode cX4_readStops 2 = .ok (.putfield 18, 3) := by decide +kernel
theorem dX4_readStops_5 : decode cX4_readStops 5 = .ok (.aload_n 0, 1) := by decide +kernel
theorem dX4_readStops_6 : decode cX4_readStops 6 = .ok (.iload_n 2, 1) := by decide +kernel
theorem dX4_readStops_7 : decode cX4_readStops 7 = .ok (.aload_n 1, 1) := by decide +kernel
theorem dX4_readStops_8 : decode cX4_readStops 8 = .ok (.arraylength, 1) := by decide +kernel
theorem dX4_readStops_9 : decode cX4_readStops 9 = .ok (.invokestatic 22, 3) := by decide +kernel
theorem dX4_readStops_12 : decode cX4_readStops 12 = .ok (.putfield 28, 3) := by decide +kernel
theorem dX4_readStops_15 : decode cX4_readStops 15 = .ok (.aload_n 0, 1) := by decide +kernel
theorem dX4_readStops_16 : decode cX4_readStops 16 = .ok (.iconst 0, 1) := by decide +kernel
theorem dX4_readStops_17 : decode cX4_readStops 17 = .ok (.putfield 32, 3) := by decide +kernel
theorem dX4_readStops_20 : decode cX4_readStops 20 = .ok (.aload_n 0, 1) := by decide +kernel
theorem dX4_readStops_21 : decode cX4_readStops 21 = .ok (.getfield 12, 3) := by decide +kernel
theorem dX4_readStops_24 : decode cX4_readStops 24 = .ok (.invokevirtual 35, 3) := by decide +kernel
theorem dX4_readStops_27 : decode cX4_readStops 27 = .ok (.aload_n 0, 1) := by decide +kernel
theorem dX4_readStops_28 : decode cX4_readStops 28 = .ok (.invokevirtual 38, 3) := by decide +kernel
theorem dX4_readStops_31 : decode cX4_readStops 31 = .ok (.iconst 0, 1) := by decide +kernel
theorem dX4_readStops_32 : decode cX4_readStops 32 = .ok (.istore_n 3, 1) := by decide +kernel
theorem dX4_readStops_33 : decode cX4_readStops 33 = .ok (.iload_n 3, 1) := by decide +kernel
theorem dX4_readStops_34 : decode cX4_readStops 34 = .ok (.bipush 8, 2) := by decide +kernel
theorem dX4_readStops_36 : decode cX4_readStops 36 = .ok (.if_icmp .gt 42, 3) := by decide +kernel
theorem dX4_readStops_39 : decode cX4_readStops 39 = .ok (.aload_n 0, 1) := by decide +kernel
theorem dX4_readStops_40 : decode cX4_readStops 40 = .ok (.getfield 32, 3) := by decide +kernel
theorem dX4_readStops_43 : decode cX4_readStops 43 = .ok (.aload_n 0, 1) := by decide +kernel
theorem dX4_readStops_44 : decode cX4_readStops 44 = .ok (.getfield 28, 3) := by decide +kernel
theorem dX4_readStops_47 : decode cX4_readStops 47 = .ok (.if_icmp .ge 31, 3) := by decide +kernel
theorem dX4_readStops_50 : decode cX4_readStops 50 = .ok (.iload_n 3, 1) := by decide +kernel
theorem dX4_readStops_51 : decode cX4_readStops 51 = .ok (.bipush 8, 2) := by decide +kernel
theorem dX4_readStops_53 : decode cX4_readStops 53 = .ok (.if_icmp .eq 10, 3) := by decide +kernel
theorem dX4_readStops_56 : decode cX4_readStops 56 = .ok (.aload_n 0, 1) := by decide +kernel
theorem dX4_readStops_57 : decode cX4_readStops 57 = .ok (.invokevirtual 41, 3) := by decide +kernel
theorem dX4_readStops_60 : decode cX4_readStops 60 = .ok (.ifCond .ne 8, 3) := by decide +kernel
theorem dX4_readStops_63 : decode cX4_readStops 63 = .ok (.aload_n 0, 1) := by decide +kernel
theorem dX4_readStops_64 : decode cX4_readStops 64 = .ok (.getfield 32, 3) := by decide +kernel
theorem dX4_readStops_67 : decode cX4_readStops 67 = .ok (.ireturn, 1) := by decide +kernel
theorem dX4_readStops_68 : decode cX4_readStops 68 = .ok (.aload_n 0, 1) := by decide +kernel
theorem dX4_readStops_69 : decode cX4_readStops 69 = .ok (.invokevirtual 38, 3) := by decide +kernel
theorem dX4_readStops_72 : decode cX4_readStops 72 = .ok (.iinc 3 1, 3) := by decide +kernel
theorem dX4_readStops_75 : decode cX4_readStops 75 = .ok (.goto (-42), 3) := by decide +kernel
theorem dX4_readStops_78 : decode cX4_readStops 78 = .ok (.iconst (-1), 1) := by decide +kernel
theorem dX4_readStops_79 : decode cX4_readStops 79 = .ok (.ireturn, 1) := by decide +kernel
theorem dX4_readItem_0 : decode cX4_readItem 0 = .ok (.aload_n 0, 1) := by decide +kernel
theorem dX4_readItem_1 : decode cX4_readItem 1 = .ok (.invokevirtual 45, 3) := by decide +kernel
theorem dX4_readItem_4 : decode cX4_readItem 4 = .ok (.invokestatic 49, 3) := by decide +kernel
theorem dX4_readItem_7 : decode cX4_readItem 7 = .ok (.istore_n 1, 1) := by decide +kernel
theorem dX4_readItem_8 : decode cX4_readItem 8 = .ok (.iload_n 1, 1) := by decide +kernel
theorem dX4_readItem_9 : decode cX4_readItem 9 = .ok (.iconst (-1), 1) := by decide +kernel
theorem dX4_readItem_10 : decode cX4_readItem 10 = .ok (.if_icmp .ne 5, 3) := by decide +kernel
theorem dX4_readItem_13 : decode cX4_readItem 13 = .ok (.iconst 0, 1) := by decide +kernel
theorem dX4_readItem_14 : decode cX4_readItem 14 = .ok (.ireturn, 1) := by decide +kernel
theorem dX4_readItem_15 : decode cX4_readItem 15 = .ok (.aload_n 0, 1) := by decide +kernel
theorem dX4_readItem_16 : decode cX4_readItem 16 = .ok (.dup, 1) := by decide +kernel
theorem dX4_readItem_17 : decode cX4_readItem 17 = .ok (.getfield 32, 3) := by decide +kernel
theorem dX4_readItem_20 : decode cX4_readItem 20 = .ok (.iconst 1, 1) := by decide +kernel
theorem dX4_readItem_21 : decode cX4_readItem 21 = .ok (.iadd, 1) := by decide +kernel
theorem dX4_readItem_22 : decode cX4_readItem 22 = .ok (.putfield 32, 3) := by decide +kernel
theorem dX4_readItem_25 : decode cX4_readItem 25 = .ok (.aload_n 0, 1) := by decide +kernel
theorem dX4_readItem_26 : decode cX4_readItem 26 = .ok (.invokevirtual 38, 3) := by decide +kernel
theorem dX4_readItem_29 : decode cX4_readItem 29 = .ok (.aload_n 0, 1) := by decide +kernel
theorem dX4_readItem_30 : decode cX4_readItem 30 = .ok (.getfield 32, 3) := by decide +kernel
theorem dX4_readItem_33 : decode cX4_readItem 33 = .ok (.istore_n 2, 1) := by decide +kernel
theorem dX4_readItem_34 : decode cX4_readItem 34 = .ok (.aload_n 0, 1) := by decide +kernel
theorem dX4_readItem_35 : decode cX4_readItem 35 = .ok (.invokevirtual 53, 3) := by decide +kernel
theorem dX4_readItem_38 : decode cX4_readItem 38 = .ok (.istore_n 3, 1) := by decide +kernel
theorem dX4_readItem_39 : decode cX4_readItem 39 = .ok (.iload_n 3, 1) := by decide +kernel
theorem dX4_readItem_40 : decode cX4_readItem 40 = .ok (.ifCond .ne 5, 3) := by decide +kernel
theorem dX4_readItem_43 : decode cX4_readItem 43 = .ok (.iconst 0, 1) := by decide +kernel
theorem dX4_readItem_44 : decode cX4_readItem 44 = .ok (.ireturn, 1) := by decide +kernel
theorem dX4_readItem_45 : decode cX4_readItem 45 = .ok (.iload_n 3, 1) := by decide +kernel
theorem dX4_readItem_46 : decode cX4_readItem 46 = .ok (.bipush 80, 2) := by decide +kernel
theorem dX4_readItem_48 : decode cX4_readItem 48 = .ok (.if_icmp .gt 14, 3) := by decide +kernel
theorem dX4_readItem_51 : decode cX4_readItem 51 = .ok (.aload_n 0, 1) := by decide +kernel
theorem dX4_readItem_52 : decode cX4_readItem 52 = .ok (.getfield 12, 3) := by decide +kernel
theorem dX4_readItem_55 : decode cX4_readItem 55 = .ok (.iload_n 3, 1) := by decide +kernel
theorem dX4_readItem_56 : decode cX4_readItem 56 = .ok (.invokevirtual 56, 3) := by decide +kernel
theorem dX4_readItem_59 : decode cX4_readItem 59 = .ok (.ifCond .eq 10, 3) := by decide +kernel
theorem dX4_readItem_62 : decode cX4_readItem 62 = .ok (.aload_n 0, 1) := by decide +kernel
theorem dX4_readItem_63 : decode cX4_readItem 63 = .ok (.iload_n 2, 1) := by decide +kernel
theorem dX4_readItem_64 : decode cX4_readItem 64 = .ok (.putfield 32, 3) := by decide +kernel
theorem dX4_readItem_67 : decode cX4_readItem 67 = .ok (.iconst 0, 1) := by decide +kernel
theorem dX4_readItem_68 : decode cX4_readItem 68 = .ok (.ireturn, 1) := by decide +kernel
theorem dX4_readItem_69 : decode cX4_readItem 69 = .ok (.aload_n 0, 1) := by decide +kernel
theorem dX4_readItem_70 : decode cX4_readItem 70 = .ok (.invokevirtual 38, 3) := by decide +kernel
theorem dX4_readItem_73 : decode cX4_readItem 73 = .ok (.iload_n 1, 1) := by decide +kernel
theorem dX4_readItem_74 : decode cX4_readItem 74 = .ok (.iconst 4, 1) := by decide +kernel
theorem dX4_readItem_75 : decode cX4_readItem 75 = .ok (.if_icmp .ne 7, 3) := by decide +kernel
theorem dX4_readItem_78 : decode cX4_readItem 78 = .ok (.iconst 0, 1) := by decide +kernel
theorem dX4_readItem_79 : decode cX4_readItem 79 = .ok (.goto 10, 3) := by decide +kernel
theorem dX4_readItem_82 : decode cX4_readItem 82 = .ok (.aload_n 0, 1) := by decide +kernel
theorem dX4_readItem_83 : decode cX4_readItem 83 = .ok (.invokevirtual 45, 3) := by decide +kernel
theorem dX4_readItem_86 : decode cX4_readItem 86 = .ok (.invokestatic 60, 3) := by decide +kernel
theorem dX4_readItem_89 : decode cX4_readItem 89 = .ok (.istore 4, 2) := by decide +kernel
theorem dX4_readItem_91 : decode cX4_readItem 91 = .ok (.iload 4, 2) := by decide +kernel
theorem dX4_readItem_93 : decode cX4_readItem 93 = .ok (.ifCond .eq 17, 3) := by decide +kernel
theorem dX4_readItem_96 : decode cX4_readItem 96 = .ok (.aload_n 0, 1) := by decide +kernel
theorem dX4_readItem_97 : decode cX4_readItem 97 = .ok (.dup, 1) := by decide +kernel
theorem dX4_readItem_98 : decode cX4_readItem 98 = .ok (.getfield 32, 3) := by decide +kernel
theorem dX4_readItem_101 : decode cX4_readItem 101 = .ok (.iconst 1, 1) := by decide +kernel
theorem dX4_readItem_102 : decode cX4_readItem 102 = .ok (.iadd, 1) := by decide +kernel
theorem dX4_readItem_103 : decode cX4_readItem 103 = .ok (.putfield 32, 3) := by decide +kernel
theorem dX4_readItem_106 : decode cX4_readItem 106 = .ok (.aload_n 0, 1) := by decide +kernel
theorem dX4_readItem_107 : decode cX4_readItem 107 = .ok (.invokevirtual 38, 3) := by decide +kernel
theorem dX4_readItem_110 : decode cX4_readItem 110 = .ok (.aload_n 0, 1) := by decide +kernel
theorem dX4_readItem_111 : decode cX4_readItem 111 = .ok (.invokevirtual 45, 3) := by decide +kernel
theorem dX4_readItem_114 : decode cX4_readItem 114 = .ok (.bipush 59, 2) := by decide +kernel
theorem dX4_readItem_116 : decode cX4_readItem 116 = .ok (.if_icmp .eq 5, 3) := by decide +kernel
theorem dX4_readItem_119 : decode cX4_readItem 119 = .ok (.iconst 0, 1) := by decide +kernel
theorem dX4_readItem_120 : decode cX4_readItem 120 = .ok (.ireturn, 1) := by decide +kernel
theorem dX4_readItem_121 : decode cX4_readItem 121 = .ok (.aload_n 0, 1) := by decide +kernel
theorem dX4_readItem_122 : decode cX4_readItem 122 = .ok (.dup, 1) := by decide +kernel
theorem dX4_readItem_123 : decode cX4_readItem 123 = .ok (.getfield 32, 3) := by decide +kernel
theorem dX4_readItem_126 : decode cX4_readItem 126 = .ok (.iconst 1, 1) := by decide +kernel
theorem dX4_readItem_127 : decode cX4_readItem 127 = .ok (.iadd, 1) := by decide +kernel
theorem dX4_readItem_128 : decode cX4_readItem 128 = .ok (.putfield 32, 3) := by decide +kernel
theorem dX4_readItem_131 : decode cX4_readItem 131 = .ok (.aload_n 0, 1) := by decide +kernel
theorem dX4_readItem_132 : decode cX4_readItem 132 = .ok (.getfield 12, 3) := by decide +kernel
theorem dX4_readItem_135 : decode cX4_readItem 135 = .ok (.iload_n 3, 1) := by decide +kernel
theorem dX4_readItem_136 : decode cX4_readItem 136 = .ok (.iload_n 1, 1) := by decide +kernel
theorem dX4_readItem_137 : decode cX4_readItem 137 = .ok (.iload 4, 2) := by decide +kernel
theorem dX4_readItem_139 : decode cX4_readItem 139 = .ok (.invokevirtual 63, 3) := by decide +kernel
theorem dX4_readItem_142 : decode cX4_readItem 142 = .ok (.iconst 1, 1) := by decide +kernel
theorem dX4_readItem_143 : decode cX4_readItem 143 = .ok (.ireturn, 1) := by decide +kernel
theorem dX4_readPosition_0 : decode cX4_readPosition 0 = .ok (.aload_n 0, 1) := by decide +kernel
theorem dX4_readPosition_1 : decode cX4_readPosition 1 = .ok (.invokevirtual 45, 3) := by decide +kernel
theorem dX4_readPosition_4 : decode cX4_readPosition 4 = .ok (.invokestatic 67, 3) := by decide +kernel
theorem dX4_readPosition_7 : decode cX4_readPosition 7 = .ok (.ifCond .eq 12, 3) := by decide +kernel
theorem dX4_readPosition_10 : decode cX4_readPosition 10 = .ok (.aload_n 0, 1) := by decide +kernel
theorem dX4_readPosition_11 : decode cX4_readPosition 11 = .ok (.invokevirtual 45, 3) := by decide +kernel
theorem dX4_readPosition_14 : decode cX4_readPosition 14 = .ok (.bipush 48, 2) := by decide +kernel
theorem dX4_readPosition_16 : decode cX4_readPosition 16 = .ok (.if_icmp .ne 5, 3) := by decide +kernel
theorem dX4_readPosition_19 : decode cX4_readPosition 19 = .ok (.iconst 0, 1) := by decide +kernel
theorem dX4_readPosition_20 : decode cX4_readPosition 20 = .ok (.ireturn, 1) := by decide +kernel
theorem dX4_readPosition_21 : decode cX4_readPosition 21 = .ok (.aload_n 0, 1) := by decide +kernel
theorem dX4_readPosition_22 : decode cX4_readPosition 22 = .ok (.invokevirtual 45, 3) := by decide +kernel
theorem dX4_readPosition_25 : decode cX4_readPosition 25 = .ok (.bipush 48, 2) := by decide +kernel
theorem dX4_readPosition_27 : decode cX4_readPosition 27 = .ok (.isub, 1) := by decide +kernel
theorem dX4_readPosition_28 : decode cX4_readPosition 28 = .ok (.istore_n 1, 1) := by decide +kernel
theorem dX4_readPosition_29 : decode cX4_readPosition 29 = .ok (.aload_n 0, 1) := by decide +kernel
theorem dX4_readPosition_30 : decode cX4_readPosition 30 = .ok (.dup, 1) := by decide +kernel
theorem dX4_readPosition_31 : decode cX4_readPosition 31 = .ok (.getfield 32, 3) := by decide +kernel
theorem dX4_readPosition_34 : decode cX4_readPosition 34 = .ok (.iconst 1, 1) := by decide +kernel
theorem dX4_readPosition_35 : decode cX4_readPosition 35 = .ok (.iadd, 1) := by decide +kernel
theorem dX4_readPosition_36 : decode cX4_readPosition 36 = .ok (.putfield 32, 3) := by decide +kernel
theorem dX4_readPosition_39 : decode cX4_readPosition 39 = .ok (.aload_n 0, 1) := by decide +kernel
theorem dX4_readPosition_40 : decode cX4_readPosition 40 = .ok (.invokevirtual 45, 3) := by decide +kernel
theorem dX4_readPosition_43 : decode cX4_readPosition 43 = .ok (.invokestatic 67, 3) := by decide +kernel
theorem dX4_readPosition_46 : decode cX4_readPosition 46 = .ok (.ifCond .eq 26, 3) := by decide +kernel
theorem dX4_readPosition_49 : decode cX4_readPosition 49 = .ok (.iload_n 1, 1) := by decide +kernel
theorem dX4_readPosition_50 : decode cX4_readPosition 50 = .ok (.bipush 10, 2) := by decide +kernel
theorem dX4_readPosition_52 : decode cX4_readPosition 52 = .ok (.imul, 1) := by decide +kernel
theorem dX4_readPosition_53 : decode cX4_readPosition 53 = .ok (.aload_n 0, 1) := by decide +kernel
theorem dX4_readPosition_54 : decode cX4_readPosition 54 = .ok (.invokevirtual 45, 3) := by decide +kernel
theorem dX4_readPosition_57 : decode cX4_readPosition 57 = .ok (.iadd, 1) := by decide +kernel
theorem dX4_readPosition_58 : decode cX4_readPosition 58 = .ok (.bipush 48, 2) := by decide +kernel
theorem dX4_readPosition_60 : decode cX4_readPosition 60 = .ok (.isub, 1) := by decide +kernel
theorem dX4_readPosition_61 : decode cX4_readPosition 61 = .ok (.istore_n 1, 1) := by decide +kernel
theorem dX4_readPosition_62 : decode cX4_readPosition 62 = .ok (.aload_n 0, 1) := by decide +kernel
theorem dX4_readPosition_63 : decode cX4_readPosition 63 = .ok (.dup, 1) := by decide +kernel
theorem dX4_readPosition_64 : decode cX4_readPosition 64 = .ok (.getfield 32, 3) := by decide +kernel
theorem dX4_readPosition_67 : decode cX4_readPosition 67 = .ok (.iconst 1, 1) := by decide +kernel
theorem dX4_readPosition_68 : decode cX4_readPosition 68 = .ok (.iadd, 1) := by decide +kernel
theorem dX4_readPosition_69 : decode cX4_readPosition 69 = .ok (.putfield 32, 3) := by decide +kernel
theorem dX4_readPosition_72 : decode cX4_readPosition 72 = .ok (.iload_n 1, 1) := by decide +kernel
theorem dX4_readPosition_73 : decode cX4_readPosition 73 = .ok (.ireturn, 1) := by decide +kernel
theorem dX4_skipSpaces_0 : decode cX4_skipSpaces 0 = .ok (.aload_n 0, 1) := by decide +kernel
theorem dX4_skipSpaces_1 : decode cX4_skipSpaces 1 = .ok (.getfield 32, 3) := by decide +kernel
theorem dX4_skipSpaces_4 : decode cX4_skipSpaces 4 = .ok (.aload_n 0, 1) := by decide +kernel
theorem dX4_skipSpaces_5 : decode cX4_skipSpaces 5 = .ok (.getfield 28, 3) := by decide +kernel
theorem dX4_skipSpaces_8 : decode cX4_skipSpaces 8 = .ok (.if_icmp .ge 25, 3) := by decide +kernel
theorem dX4_skipSpaces_11 : decode cX4_skipSpaces 11 = .ok (.aload_n 0, 1) := by decide +kernel
theorem dX4_skipSpaces_12 : decode cX4_skipSpaces 12 = .ok (.invokevirtual 45, 3) := by decide +kernel
theorem dX4_skipSpaces_15 : decode cX4_skipSpaces 15 = .ok (.bipush 32, 2) := by decide +kernel
theorem dX4_skipSpaces_17 : decode cX4_skipSpaces 17 = .ok (.if_icmp .ne 16, 3) := by decide +kernel
theorem dX4_skipSpaces_20 : decode cX4_skipSpaces 20 = .ok (.aload_n 0, 1) := by decide +kernel
theorem dX4_skipSpaces_21 : decode cX4_skipSpaces 21 = .ok (.dup, 1) := by decide +kernel
theorem dX4_skipSpaces_22 : decode cX4_skipSpaces 22 = .ok (.getfield 32, 3) := by decide +kernel
theorem dX4_skipSpaces_25 : decode cX4_skipSpaces 25 = .ok (.iconst 1, 1) := by decide +kernel
theorem dX4_skipSpaces_26 : decode cX4_skipSpaces 26 = .ok (.iadd, 1) := by decide +kernel
theorem dX4_skipSpaces_27 : decode cX4_skipSpaces 27 = .ok (.putfield 32, 3) := by decide +kernel
theorem dX4_skipSpaces_30 : decode cX4_skipSpaces 30 = .ok (.goto (-30), 3) := by decide +kernel
theorem dX4_skipSpaces_33 : decode cX4_skipSpaces 33 = .ok (.return_, 1) := by decide +kernel
theorem dX4_next_0 : decode cX4_next 0 = .ok (.aload_n 0, 1) := by decide +kernel
theorem dX4_next_1 : decode cX4_next 1 = .ok (.getfield 32, 3) := by decide +kernel
theorem dX4_next_4 : decode cX4_next 4 = .ok (.ifCond .lt 38, 3) := by decide +kernel
theorem dX4_next_7 : decode cX4_next 7 = .ok (.aload_n 0, 1) := by decide +kernel
theorem dX4_next_8 : decode cX4_next 8 = .ok (.getfield 32, 3) := by decide +kernel
theorem dX4_next_11 : decode cX4_next 11 = .ok (.aload_n 0, 1) := by decide +kernel
theorem dX4_next_12 : decode cX4_next 12 = .ok (.getfield 28, 3) := by decide +kernel
theorem dX4_next_15 : decode cX4_next 15 = .ok (.if_icmp .ge 27, 3) := by decide +kernel
theorem dX4_next_18 : decode cX4_next 18 = .ok (.aload_n 0, 1) := by decide +kernel
theorem dX4_next_19 : decode cX4_next 19 = .ok (.getfield 32, 3) := by decide +kernel
theorem dX4_next_22 : decode cX4_next 22 = .ok (.aload_n 0, 1) := by decide +kernel
theorem dX4_next_23 : decode cX4_next 23 = .ok (.getfield 18, 3) := by decide +kernel
theorem dX4_next_26 : decode cX4_next 26 = .ok (.arraylength, 1) := by decide +kernel
theorem dX4_next_27 : decode cX4_next 27 = .ok (.if_icmp .ge 15, 3) := by decide +kernel
theorem dX4_next_30 : decode cX4_next 30 = .ok (.aload_n 0, 1) := by decide +kernel
theorem dX4_next_31 : decode cX4_next 31 = .ok (.getfield 18, 3) := by decide +kernel
theorem dX4_next_34 : decode cX4_next 34 = .ok (.aload_n 0, 1) := by decide +kernel
theorem dX4_next_35 : decode cX4_next 35 = .ok (.getfield 32, 3) := by decide +kernel
theorem dX4_next_38 : decode cX4_next 38 = .ok (.iaload, 1) := by decide +kernel
theorem dX4_next_39 : decode cX4_next 39 = .ok (.goto 4, 3) := by decide +kernel
theorem dX4_next_42 : decode cX4_next 42 = .ok (.iconst (-1), 1) := by decide +kernel
theorem dX4_next_43 : decode cX4_next 43 = .ok (.ireturn, 1) := by decide +kernel
theorem dX4_kindOf_0 : decode cX4_kindOf 0 = .ok (.iload_n 0, 1) := by decide +kernel
theorem dX4_kindOf_1 : decode cX4_kindOf 1 = .ok (.lookupswitch 61 #[(98, 59), (108, 51), (109, 55), (112, 57), (114, 53)], 51) := by decide +kernel
theorem dX4_kindOf_52 : decode cX4_kindOf 52 = .ok (.iconst 0, 1) := by decide +kernel
theorem dX4_kindOf_53 : decode cX4_kindOf 53 = .ok (.ireturn, 1) := by decide +kernel
theorem dX4_kindOf_54 : decode cX4_kindOf 54 = .ok (.iconst 1, 1) := by decide +kernel
theorem dX4_kindOf_55 : decode cX4_kindOf 55 = .ok (.ireturn, 1) := by decide +kernel
theorem dX4_kindOf_56 : decode cX4_kindOf 56 = .ok (.iconst 2, 1) := by decide +kernel
theorem dX4_kindOf_57 : decode cX4_kindOf 57 = .ok (.ireturn, 1) := by decide +kernel
theorem dX4_kindOf_58 : decode cX4_kindOf 58 = .ok (.iconst 3, 1) := by decide +kernel
theorem dX4_kindOf_59 : decode cX4_kindOf 59 = .ok (.ireturn, 1) := by decide +kernel
theorem dX4_kindOf_60 : decode cX4_kindOf 60 = .ok (.iconst 4, 1) := by decide +kernel
theorem dX4_kindOf_61 : decode cX4_kindOf 61 = .ok (.ireturn, 1) := by decide +kernel
theorem dX4_kindOf_62 : decode cX4_kindOf 62 = .ok (.iconst (-1), 1) := by decide +kernel
theorem dX4_kindOf_63 : decode cX4_kindOf 63 = .ok (.ireturn, 1) := by decide +kernel
theorem dX4_leaderOf_0 : decode cX4_leaderOf 0 = .ok (.iconst 1, 1) := by decide +kernel
theorem dX4_leaderOf_1 : decode cX4_leaderOf 1 = .ok (.istore_n 1, 1) := by decide +kernel
theorem dX4_leaderOf_2 : decode cX4_leaderOf 2 = .ok (.iload_n 1, 1) := by decide +kernel
theorem dX4_leaderOf_3 : decode cX4_leaderOf 3 = .ok (.iconst 4, 1) := by decide +kernel
theorem dX4_leaderOf_4 : decode cX4_leaderOf 4 = .ok (.if_icmp .ge 19, 3) := by decide +kernel
theorem dX4_leaderOf_7 : decode cX4_leaderOf 7 = .ok (.iload_n 1, 1) := by decide +kernel
theorem dX4_leaderOf_8 : decode cX4_leaderOf 8 = .ok (.invokestatic 70, 3) := by decide +kernel
theorem dX4_leaderOf_11 : decode cX4_leaderOf 11 = .ok (.iload_n 0, 1) := by decide +kernel
theorem dX4_leaderOf_12 : decode cX4_leaderOf 12 = .ok (.if_icmp .ne 5, 3) := by decide +kernel
theorem dX4_leaderOf_15 : decode cX4_leaderOf 15 = .ok (.iload_n 1, 1) := by decide +kernel
theorem dX4_leaderOf_16 : decode cX4_leaderOf 16 = .ok (.ireturn, 1) := by decide +kernel
theorem dX4_leaderOf_17 : decode cX4_leaderOf 17 = .ok (.iinc 1 1, 3) := by decide +kernel
theorem dX4_leaderOf_20 : decode cX4_leaderOf 20 = .ok (.goto (-18), 3) := by decide +kernel
theorem dX4_leaderOf_23 : decode cX4_leaderOf 23 = .ok (.iconst 0, 1) := by decide +kernel
theorem dX4_leaderOf_24 : decode cX4_leaderOf 24 = .ok (.ireturn, 1) := by decide +kernel
theorem dX5_init_0 : decode cX5_init 0 = .ok (.aload_n 0, 1) := by decide +kernel
theorem dX5_init_1 : decode cX5_init 1 = .ok (.invokespecial 3, 3) := by decide +kernel
theorem dX5_init_4 : decode cX5_init 4 = .ok (.aload_n 0, 1) := by decide +kernel
theorem dX5_init_5 : decode cX5_init 5 = .ok (.iconst 4, 1) := by decide +kernel
theorem dX5_init_6 : decode cX5_init 6 = .ok (.putfield 9, 3) := by decide +kernel
theorem dX5_init_9 : decode cX5_init 9 = .ok (.aload_n 0, 1) := by decide +kernel
theorem dX5_init_10 : decode cX5_init 10 = .ok (.bipush 81, 2) := by decide +kernel
theorem dX5_init_12 : decode cX5_init 12 = .ok (.newarray .int, 2) := by decide +kernel
theorem dX5_init_14 : decode cX5_init 14 = .ok (.putfield 15, 3) := by decide +kernel
theorem dX5_init_17 : decode cX5_init 17 = .ok (.return_, 1) := by decide +kernel
theorem dX5_hasStop_0 : decode cX5_hasStop 0 = .ok (.iload_n 1, 1) := by decide +kernel
theorem dX5_hasStop_1 : decode cX5_hasStop 1 = .ok (.iconst 1, 1) := by decide +kernel
theorem dX5_hasStop_2 : decode cX5_hasStop 2 = .ok (.if_icmp .lt 22, 3) := by decide +kernel
theorem dX5_hasStop_5 : decode cX5_hasStop 5 = .ok (.iload_n 1, 1) := by decide +kernel
theorem dX5_hasStop_6 : decode cX5_hasStop 6 = .ok (.bipush 80, 2) := by decide +kernel
theorem dX5_hasStop_8 : decode cX5_hasStop 8 = .ok (.if_icmp .gt 16, 3) := by decide +kernel
theorem dX5_hasStop_11 : decode cX5_hasStop 11 = .ok (.aload_n 0, 1) := by decide +kernel
theorem dX5_hasStop_12 : decode cX5_hasStop 12 = .ok (.getfield 15, 3) := by decide +kernel
theorem dX5_hasStop_15 : decode cX5_hasStop 15 = .ok (.iload_n 1, 1) := by decide +kernel
theorem dX5_hasStop_16 : decode cX5_hasStop 16 = .ok (.iaload, 1) := by decide +kernel
theorem dX5_hasStop_17 : decode cX5_hasStop 17 = .ok (.ifCond .eq 7, 3) := by decide +kernel
theorem dX5_hasStop_20 : decode cX5_hasStop 20 = .ok (.iconst 1, 1) := by decide +kernel
theorem dX5_hasStop_21 : decode cX5_hasStop 21 = .ok (.goto 4, 3) := by decide +kernel
theorem dX5_hasStop_24 : decode cX5_hasStop 24 = .ok (.iconst 0, 1) := by decide +kernel
theorem dX5_hasStop_25 : decode cX5_hasStop 25 = .ok (.ireturn, 1) := by decide +kernel
theorem dX5_kindAt_0 : decode cX5_kindAt 0 = .ok (.aload_n 0, 1) := by decide +kernel
theorem dX5_kindAt_1 : decode cX5_kindAt 1 = .ok (.iload_n 1, 1) := by decide +kernel
theorem dX5_kindAt_2 : decode cX5_kindAt 2 = .ok (.invokevirtual 19, 3) := by decide +kernel
theorem dX5_kindAt_5 : decode cX5_kindAt 5 = .ok (.ifCond .eq 16, 3) := by decide +kernel
theorem dX5_kindAt_8 : decode cX5_kindAt 8 = .ok (.aload_n 0, 1) := by decide +kernel
theorem dX5_kindAt_9 : decode cX5_kindAt 9 = .ok (.getfield 15, 3) := by decide +kernel
theorem dX5_kindAt_12 : decode cX5_kindAt 12 = .ok (.iload_n 1, 1) := by decide +kernel
theorem dX5_kindAt_13 : decode cX5_kindAt 13 = .ok (.iaload, 1) := by decide +kernel
theorem dX5_kindAt_14 : decode cX5_kindAt 14 = .ok (.iconst 1, 1) := by decide +kernel
theorem dX5_kindAt_15 : decode cX5_kindAt 15 = .ok (.isub, 1) := by decide +kernel
theorem dX5_kindAt_16 : decode cX5_kindAt 16 = .ok (.iconst 4, 1) := by decide +kernel
theorem dX5_kindAt_17 : decode cX5_kindAt 17 = .ok (.idiv, 1) := by decide +kernel
theorem dX5_kindAt_18 : decode cX5_kindAt 18 = .ok (.goto 5, 3) := by decide +kernel
theorem dX5_kindAt_21 : decode cX5_kindAt 21 = .ok (.bipush (-9), 2) := by decide +kernel
theorem dX5_kindAt_23 : decode cX5_kindAt 23 = .ok (.ireturn, 1) := by decide +kernel
theorem dX5_leaderAt_0 : decode cX5_leaderAt 0 = .ok (.aload_n 0, 1) := by decide +kernel
theorem dX5_leaderAt_1 : decode cX5_leaderAt 1 = .ok (.iload_n 1, 1) := by decide +kernel
theorem dX5_leaderAt_2 : decode cX5_leaderAt 2 = .ok (.invokevirtual 19, 3) := by decide +kernel
theorem dX5_leaderAt_5 : decode cX5_leaderAt 5 = .ok (.ifCond .eq 16, 3) := by decide +kernel
theorem dX5_leaderAt_8 : decode cX5_leaderAt 8 = .ok (.aload_n 0, 1) := by decide +kernel
theorem dX5_leaderAt_9 : decode cX5_leaderAt 9 = .ok (.getfield 15, 3) := by decide +kernel
theorem dX5_leaderAt_12 : decode cX5_leaderAt 12 = .ok (.iload_n 1, 1) := by decide +kernel
theorem dX5_leaderAt_13 : decode cX5_leaderAt 13 = .ok (.iaload, 1) := by decide +kernel
theorem dX5_leaderAt_14 : decode cX5_leaderAt 14 = .ok (.iconst 1, 1) := by decide +kernel
theorem dX5_leaderAt_15 : decode cX5_leaderAt 15 = .ok (.isub, 1) := by decide +kernel
theorem dX5_leaderAt_16 : decode cX5_leaderAt 16 = .ok (.iconst 4, 1) := by decide +kernel
theorem dX5_leaderAt_17 : decode cX5_leaderAt 17 = .ok (.irem, 1) := by decide +kernel
theorem dX5_leaderAt_18 : decode cX5_leaderAt 18 = .ok (.goto 5, 3) := by decide +kernel
theorem dX5_leaderAt_21 : decode cX5_leaderAt 21 = .ok (.bipush (-9), 2) := by decide +kernel
theorem dX5_leaderAt_23 : decode cX5_leaderAt 23 = .ok (.ireturn, 1) := by decide +kernel
theorem dX5_putStop_0 : decode cX5_putStop 0 = .ok (.iload_n 1, 1) := by decide +kernel
theorem dX5_putStop_1 : decode cX5_putStop 1 = .ok (.iconst 1, 1) := by decide +kernel
theorem dX5_putStop_2 : decode cX5_putStop 2 = .ok (.bipush 80, 2) := by decide +kernel
theorem dX5_putStop_4 : decode cX5_putStop 4 = .ok (.invokestatic 23, 3) := by decide +kernel
theorem dX5_putStop_7 : decode cX5_putStop 7 = .ok (.ifCond .eq 16, 3) := by decide +kernel
theorem dX5_putStop_10 : decode cX5_putStop 10 = .ok (.aload_n 0, 1) := by decide +kernel
theorem dX5_putStop_11 : decode cX5_putStop 11 = .ok (.getfield 15, 3) := by decide +kernel
theorem dX5_putStop_14 : decode cX5_putStop 14 = .ok (.iload_n 1, 1) := by decide +kernel
theorem dX5_putStop_15 : decode cX5_putStop 15 = .ok (.iconst 1, 1) := by decide +kernel
theorem dX5_putStop_16 : decode cX5_putStop 16 = .ok (.iload_n 2, 1) := by decide +kernel
theorem dX5_putStop_17 : decode cX5_putStop 17 = .ok (.iconst 4, 1) := by decide +kernel
theorem dX5_putStop_18 : decode cX5_putStop 18 = .ok (.imul, 1) := by decide +kernel
theorem dX5_putStop_19 : decode cX5_putStop 19 = .ok (.iadd, 1) := by decide +kernel
theorem dX5_putStop_20 : decode cX5_putStop 20 = .ok (.iload_n 3, 1) := by decide +kernel
theorem dX5_putStop_21 : decode cX5_putStop 21 = .ok (.iadd, 1) := by decide +kernel
theorem dX5_putStop_22 : decode cX5_putStop 22 = .ok (.iastore, 1) := by decide +kernel
theorem dX5_putStop_23 : decode cX5_putStop 23 = .ok (.return_, 1) := by decide +kernel
theorem dX5_dropStop_0 : decode cX5_dropStop 0 = .ok (.iload_n 1, 1) := by decide +kernel
theorem dX5_dropStop_1 : decode cX5_dropStop 1 = .ok (.iconst 1, 1) := by decide +kernel
theorem dX5_dropStop_2 : decode cX5_dropStop 2 = .ok (.bipush 80, 2) := by decide +kernel
theorem dX5_dropStop_4 : decode cX5_dropStop 4 = .ok (.invokestatic 23, 3) := by decide +kernel
theorem dX5_dropStop_7 : decode cX5_dropStop 7 = .ok (.ifCond .eq 10, 3) := by decide +kernel
theorem dX5_dropStop_10 : decode cX5_dropStop 10 = .ok (.aload_n 0, 1) := by decide +kernel
theorem dX5_dropStop_11 : decode cX5_dropStop 11 = .ok (.getfield 15, 3) := by decide +kernel
theorem dX5_dropStop_14 : decode cX5_dropStop 14 = .ok (.iload_n 1, 1) := by decide +kernel
theorem dX5_dropStop_15 : decode cX5_dropStop 15 = .ok (.iconst 0, 1) := by decide +kernel
theorem dX5_dropStop_16 : decode cX5_dropStop 16 = .ok (.iastore, 1) := by decide +kernel
theorem dX5_dropStop_17 : decode cX5_dropStop 17 = .ok (.return_, 1) := by decide +kernel
theorem dX5_dropStops_0 : decode cX5_dropStops 0 = .ok (.iconst 1, 1) := by decide +kernel
theorem dX5_dropStops_1 : decode cX5_dropStops 1 = .ok (.istore_n 1, 1) := by decide +kernel
theorem dX5_dropStops_2 : decode cX5_dropStops 2 = .ok (.iload_n 1, 1) := by decide +kernel
theorem dX5_dropStops_3 : decode cX5_dropStops 3 = .ok (.bipush 80, 2) := by decide +kernel
theorem dX5_dropStops_5 : decode cX5_dropStops 5 = .ok (.if_icmp .gt 16, 3) := by decide +kernel
theorem dX5_dropStops_8 : decode cX5_dropStops 8 = .ok (.aload_n 0, 1) := by decide +kernel
theorem dX5_dropStops_9 : decode cX5_dropStops 9 = .ok (.getfield 15, 3) := by decide +kernel
theorem dX5_dropStops_12 : decode cX5_dropStops 12 = .ok (.iload_n 1, 1) := by decide +kernel
theorem dX5_dropStops_13 : decode cX5_dropStops 13 = .ok (.iconst 0, 1) := by decide +kernel
theorem dX5_dropStops_14 : decode cX5_dropStops 14 = .ok (.iastore, 1) := by decide +kernel
theorem dX5_dropStops_15 : decode cX5_dropStops 15 = .ok (.iinc 1 1, 3) := by decide +kernel
theorem dX5_dropStops_18 : decode cX5_dropStops 18 = .ok (.goto (-16), 3) := by decide +kernel
theorem dX5_dropStops_21 : decode cX5_dropStops 21 = .ok (.return_, 1) := by decide +kernel
theorem dX5_takeStopsOf_0 : decode cX5_takeStopsOf 0 = .ok (.iconst 1, 1) := by decide +kernel
theorem dX5_takeStopsOf_1 : decode cX5_takeStopsOf 1 = .ok (.istore_n 2, 1) := by decide +kernel
theorem dX5_takeStopsOf_2 : decode cX5_takeStopsOf 2 = .ok (.iload_n 2, 1) := by decide +kernel
theorem dX5_takeStopsOf_3 : decode cX5_takeStopsOf 3 = .ok (.bipush 80, 2) := by decide +kernel
theorem dX5_takeStopsOf_5 : decode cX5_takeStopsOf 5 = .ok (.if_icmp .gt 21, 3) := by decide +kernel
theorem dX5_takeStopsOf_8 : decode cX5_takeStopsOf 8 = .ok (.aload_n 0, 1) := by decide +kernel
theorem dX5_takeStopsOf_9 : decode cX5_takeStopsOf 9 = .ok (.getfield 15, 3) := by decide +kernel
theorem dX5_takeStopsOf_12 : decode cX5_takeStopsOf 12 = .ok (.iload_n 2, 1) := by decide +kernel
theorem dX5_takeStopsOf_13 : decode cX5_takeStopsOf 13 = .ok (.aload_n 1, 1) := by decide +kernel
theorem dX5_takeStopsOf_14 : decode cX5_takeStopsOf 14 = .ok (.getfield 15, 3) := by decide +kernel
theorem dX5_takeStopsOf_17 : decode cX5_takeStopsOf 17 = .ok (.iload_n 2, 1) := by decide +kernel
theorem dX5_takeStopsOf_18 : decode cX5_takeStopsOf 18 = .ok (.iaload, 1) := by decide +kernel
theorem dX5_takeStopsOf_19 : decode cX5_takeStopsOf 19 = .ok (.iastore, 1) := by decide +kernel
theorem dX5_takeStopsOf_20 : decode cX5_takeStopsOf 20 = .ok (.iinc 2 1, 3) := by decide +kernel
theorem dX5_takeStopsOf_23 : decode cX5_takeStopsOf 23 = .ok (.goto (-21), 3) := by decide +kernel
theorem dX5_takeStopsOf_26 : decode cX5_takeStopsOf 26 = .ok (.return_, 1) := by decide +kernel
theorem dX5_stopsBefore_0 : decode cX5_stopsBefore 0 = .ok (.iconst 0, 1) := by decide +kernel
theorem dX5_stopsBefore_1 : decode cX5_stopsBefore 1 = .ok (.istore_n 2, 1) := by decide +kernel
theorem dX5_stopsBefore_2 : decode cX5_stopsBefore 2 = .ok (.iconst 1, 1) := by decide +kernel
theorem dX5_stopsBefore_3 : decode cX5_stopsBefore 3 = .ok (.istore_n 3, 1) := by decide +kernel
theorem dX5_stopsBefore_4 : decode cX5_stopsBefore 4 = .ok (.iload_n 3, 1) := by decide +kernel
theorem dX5_stopsBefore_5 : decode cX5_stopsBefore 5 = .ok (.bipush 80, 2) := by decide +kernel
theorem dX5_stopsBefore_7 : decode cX5_stopsBefore 7 = .ok (.if_icmp .gt 26, 3) := by decide +kernel
theorem dX5_stopsBefore_10 : decode cX5_stopsBefore 10 = .ok (.iload_n 3, 1) := by decide +kernel
theorem dX5_stopsBefore_11 : decode cX5_stopsBefore 11 = .ok (.iload_n 1, 1) := by decide +kernel
theorem dX5_stopsBefore_12 : decode cX5_stopsBefore 12 = .ok (.if_icmp .ge 21, 3) := by decide +kernel
theorem dX5_stopsBefore_15 : decode cX5_stopsBefore 15 = .ok (.aload_n 0, 1) := by decide +kernel
theorem dX5_stopsBefore_16 : decode cX5_stopsBefore 16 = .ok (.getfield 15, 3) := by decide +kernel
theorem dX5_stopsBefore_19 : decode cX5_stopsBefore 19 = .ok (.iload_n 3, 1) := by decide +kernel
theorem dX5_stopsBefore_20 : decode cX5_stopsBefore 20 = .ok (.iaload, 1) := by decide +kernel
theorem dX5_stopsBefore_21 : decode cX5_stopsBefore 21 = .ok (.ifCond .eq 6, 3) := by decide +kernel
theorem dX5_stopsBefore_24 : decode cX5_stopsBefore 24 = .ok (.iinc 2 1, 3) := by decide +kernel
theorem dX5_stopsBefore_27 : decode cX5_stopsBefore 27 = .ok (.iinc 3 1, 3) := by decide +kernel
theorem dX5_stopsBefore_30 : decode cX5_stopsBefore 30 = .ok (.goto (-26), 3) := by decide +kernel
theorem dX5_stopsBefore_33 : decode cX5_stopsBefore 33 = .ok (.iload_n 2, 1) := by decide +kernel
theorem dX5_stopsBefore_34 : decode cX5_stopsBefore 34 = .ok (.ireturn, 1) := by decide +kernel
theorem dX5_positionOf_0 : decode cX5_positionOf 0 = .ok (.iconst 0, 1) := by decide +kernel
theorem dX5_positionOf_1 : decode cX5_positionOf 1 = .ok (.istore_n 2, 1) := by decide +kernel
theorem dX5_positionOf_2 : decode cX5_positionOf 2 = .ok (.iconst 1, 1) := by decide +kernel
theorem dX5_positionOf_3 : decode cX5_positionOf 3 = .ok (.istore_n 3, 1) := by decide +kernel
theorem dX5_positionOf_4 : decode cX5_positionOf 4 = .ok (.iload_n 3, 1) := by decide +kernel
theorem dX5_positionOf_5 : decode cX5_positionOf 5 = .ok (.bipush 80, 2) := by decide +kernel
theorem dX5_positionOf_7 : decode cX5_positionOf 7 = .ok (.if_icmp .gt 28, 3) := by decide +kernel
theorem dX5_positionOf_10 : decode cX5_positionOf 10 = .ok (.aload_n 0, 1) := by decide +kernel
theorem dX5_positionOf_11 : decode cX5_positionOf 11 = .ok (.getfield 15, 3) := by decide +kernel
theorem dX5_positionOf_14 : decode cX5_positionOf 14 = .ok (.iload_n 3, 1) := by decide +kernel
theorem dX5_positionOf_15 : decode cX5_positionOf 15 = .ok (.iaload, 1) := by decide +kernel
theorem dX5_positionOf_16 : decode cX5_positionOf 16 = .ok (.ifCond .eq 13, 3) := by decide +kernel
theorem dX5_positionOf_19 : decode cX5_positionOf 19 = .ok (.iload_n 2, 1) := by decide +kernel
theorem dX5_positionOf_20 : decode cX5_positionOf 20 = .ok (.iload_n 1, 1) := by decide +kernel
theorem dX5_positionOf_21 : decode cX5_positionOf 21 = .ok (.if_icmp .ne 5, 3) := by decide +kernel
theorem dX5_positionOf_24 : decode cX5_positionOf 24 = .ok (.iload_n 3, 1) := by decide +kernel
theorem dX5_positionOf_25 : decode cX5_positionOf 25 = .ok (.ireturn, 1) := by decide +kernel
theorem dX5_positionOf_26 : decode cX5_positionOf 26 = .ok (.iinc 2 1, 3) := by decide +kernel
theorem dX5_positionOf_29 : decode cX5_positionOf 29 = .ok (.iinc 3 1, 3) := by decide +kernel
theorem dX5_positionOf_32 : decode cX5_positionOf 32 = .ok (.goto (-28), 3) := by decide +kernel
theorem dX5_positionOf_35 : decode cX5_positionOf 35 = .ok (.bipush (-9), 2) := by decide +kernel
theorem dX5_positionOf_37 : decode cX5_positionOf 37 = .ok (.ireturn, 1) := by decide +kernel
theorem dX5_hasTab_0 : decode cX5_hasTab 0 = .ok (.aload_n 0, 1) := by decide +kernel
theorem dX5_hasTab_1 : decode cX5_hasTab 1 = .ok (.iload_n 1, 1) := by decide +kernel
theorem dX5_hasTab_2 : decode cX5_hasTab 2 = .ok (.invokevirtual 19, 3) := by decide +kernel
theorem dX5_hasTab_5 : decode cX5_hasTab 5 = .ok (.ifCond .eq 18, 3) := by decide +kernel
theorem dX5_hasTab_8 : decode cX5_hasTab 8 = .ok (.aload_n 0, 1) := by decide +kernel
theorem dX5_hasTab_9 : decode cX5_hasTab 9 = .ok (.getfield 15, 3) := by decide +kernel
theorem dX5_hasTab_12 : decode cX5_hasTab 12 = .ok (.iload_n 1, 1) := by decide +kernel
theorem dX5_hasTab_13 : decode cX5_hasTab 13 = .ok (.iaload, 1) := by decide +kernel
theorem dX5_hasTab_14 : decode cX5_hasTab 14 = .ok (.bipush 16, 2) := by decide +kernel
theorem dX5_hasTab_16 : decode cX5_hasTab 16 = .ok (.if_icmp .gt 7, 3) := by decide +kernel
theorem dX5_hasTab_19 : decode cX5_hasTab 19 = .ok (.iconst 1, 1) := by decide +kernel
theorem dX5_hasTab_20 : decode cX5_hasTab 20 = .ok (.goto 4, 3) := by decide +kernel
theorem dX5_hasTab_23 : decode cX5_hasTab 23 = .ok (.iconst 0, 1) := by decide +kernel
theorem dX5_hasTab_24 : decode cX5_hasTab 24 = .ok (.ireturn, 1) := by decide +kernel
theorem dX5_lastTab_0 : decode cX5_lastTab 0 = .ok (.bipush 80, 2) := by decide +kernel
theorem dX5_lastTab_2 : decode cX5_lastTab 2 = .ok (.istore_n 1, 1) := by decide +kernel
theorem dX5_lastTab_3 : decode cX5_lastTab 3 = .ok (.iload_n 1, 1) := by decide +kernel
theorem dX5_lastTab_4 : decode cX5_lastTab 4 = .ok (.ifCond .le 19, 3) := by decide +kernel
theorem dX5_lastTab_7 : decode cX5_lastTab 7 = .ok (.aload_n 0, 1) := by decide +kernel
theorem dX5_lastTab_8 : decode cX5_lastTab 8 = .ok (.iload_n 1, 1) := by decide +kernel
theorem dX5_lastTab_9 : decode cX5_lastTab 9 = .ok (.invokevirtual 27, 3) := by decide +kernel
theorem dX5_lastTab_12 : decode cX5_lastTab 12 = .ok (.ifCond .eq 5, 3) := by decide +kernel
theorem dX5_lastTab_15 : decode cX5_lastTab 15 = .ok (.iload_n 1, 1) := by decide +kernel
theorem dX5_lastTab_16 : decode cX5_lastTab 16 = .ok (.ireturn, 1) := by decide +kernel
theorem dX5_lastTab_17 : decode cX5_lastTab 17 = .ok (.iinc 1 (-1), 3) := by decide +kernel
theorem dX5_lastTab_20 : decode cX5_lastTab 20 = .ok (.goto (-17), 3) := by decide +kernel
theorem dX5_lastTab_23 : decode cX5_lastTab 23 = .ok (.iconst 0, 1) := by decide +kernel
theorem dX5_lastTab_24 : decode cX5_lastTab 24 = .ok (.ireturn, 1) := by decide +kernel
theorem dX5_tabBehind_0 : decode cX5_tabBehind 0 = .ok (.iload_n 1, 1) := by decide +kernel
theorem dX5_tabBehind_1 : decode cX5_tabBehind 1 = .ok (.iconst 1, 1) := by decide +kernel
theorem dX5_tabBehind_2 : decode cX5_tabBehind 2 = .ok (.iadd, 1) := by decide +kernel
theorem dX5_tabBehind_3 : decode cX5_tabBehind 3 = .ok (.istore_n 2, 1) := by decide +kernel
theorem dX5_tabBehind_4 : decode cX5_tabBehind 4 = .ok (.iload_n 2, 1) := by decide +kernel
theorem dX5_tabBehind_5 : decode cX5_tabBehind 5 = .ok (.bipush 80, 2) := by decide +kernel
theorem dX5_tabBehind_7 : decode cX5_tabBehind 7 = .ok (.if_icmp .gt 19, 3) := by decide +kernel
theorem dX5_tabBehind_10 : decode cX5_tabBehind 10 = .ok (.aload_n 0, 1) := by decide +kernel
theorem dX5_tabBehind_11 : decode cX5_tabBehind 11 = .ok (.iload_n 2, 1) := by decide +kernel
theorem dX5_tabBehind_12 : decode cX5_tabBehind 12 = .ok (.invokevirtual 27, 3) := by decide +kernel
theorem dX5_tabBehind_15 : decode cX5_tabBehind 15 = .ok (.ifCond .eq 5, 3) := by decide +kernel
theorem dX5_tabBehind_18 : decode cX5_tabBehind 18 = .ok (.iload_n 2, 1) := by decide +kernel
theorem dX5_tabBehind_19 : decode cX5_tabBehind 19 = .ok (.ireturn, 1) := by decide +kernel
theorem dX5_tabBehind_20 : decode cX5_tabBehind 20 = .ok (.iinc 2 1, 3) := by decide +kernel
theorem dX5_tabBehind_23 : decode cX5_tabBehind 23 = .ok (.goto (-19), 3) := by decide +kernel
theorem dX5_tabBehind_26 : decode cX5_tabBehind 26 = .ok (.bipush (-9), 2) := by decide +kernel
theorem dX5_tabBehind_28 : decode cX5_tabBehind 28 = .ok (.ireturn, 1) := by decide +kernel
theorem dX6_init_0 : decode cX6_init 0 = .ok (.aload_n 0, 1) := by decide +kernel
theorem dX6_init_1 : decode cX6_init 1 = .ok (.invokespecial 3, 3) := by decide +kernel
theorem dX6_init_4 : decode cX6_init 4 = .ok (.aload_n 0, 1) := by decide +kernel
theorem dX6_init_5 : decode cX6_init 5 = .ok (.bipush 80, 2) := by decide +kernel
theorem dX6_init_7 : decode cX6_init 7 = .ok (.newarray .int, 2) := by decide +kernel
theorem dX6_init_9 : decode cX6_init 9 = .ok (.putfield 9, 3) := by decide +kernel
theorem dX6_init_12 : decode cX6_init 12 = .ok (.aload_n 0, 1) := by decide +kernel
theorem dX6_init_13 : decode cX6_init 13 = .ok (.bipush 80, 2) := by decide +kernel
theorem dX6_init_15 : decode cX6_init 15 = .ok (.newarray .int, 2) := by decide +kernel
theorem dX6_init_17 : decode cX6_init 17 = .ok (.putfield 15, 3) := by decide +kernel
theorem dX6_init_20 : decode cX6_init 20 = .ok (.aload_n 0, 1) := by decide +kernel
theorem dX6_init_21 : decode cX6_init 21 = .ok (.bipush 80, 2) := by decide +kernel
theorem dX6_init_23 : decode cX6_init 23 = .ok (.newarray .int, 2) := by decide +kernel
theorem dX6_init_25 : decode cX6_init 25 = .ok (.putfield 18, 3) := by decide +kernel
theorem dX6_init_28 : decode cX6_init 28 = .ok (.aload_n 0, 1) := by decide +kernel
theorem dX6_init_29 : decode cX6_init 29 = .ok (.bipush 81, 2) := by decide +kernel
theorem dX6_init_31 : decode cX6_init 31 = .ok (.newarray .int, 2) := by decide +kernel
theorem dX6_init_33 : decode cX6_init 33 = .ok (.putfield 21, 3) := by decide +kernel
theorem dX6_init_36 : decode cX6_init 36 = .ok (.return_, 1) := by decide +kernel
theorem dX6_take_0 : decode cX6_take 0 = .ok (.aload_n 0, 1) := by decide +kernel
theorem dX6_take_1 : decode cX6_take 1 = .ok (.iconst 0, 1) := by decide +kernel
theorem dX6_take_2 : decode cX6_take 2 = .ok (.putfield 24, 3) := by decide +kernel
theorem dX6_take_5 : decode cX6_take 5 = .ok (.aload_n 0, 1) := by decide +kernel
theorem dX6_take_6 : decode cX6_take 6 = .ok (.iconst 0, 1) := by decide +kernel
theorem dX6_take_7 : decode cX6_take 7 = .ok (.putfield 28, 3) := by decide +kernel
theorem dX6_take_10 : decode cX6_take 10 = .ok (.iconst 0, 1) := by decide +kernel
theorem dX6_take_11 : decode cX6_take 11 = .ok (.istore_n 2, 1) := by decide +kernel
theorem dX6_take_12 : decode cX6_take 12 = .ok (.iconst 0, 1) := by decide +kernel
theorem dX6_take_13 : decode cX6_take 13 = .ok (.istore_n 3, 1) := by decide +kernel
theorem dX6_take_14 : decode cX6_take 14 = .ok (.iload_n 3, 1) := by decide +kernel
theorem dX6_take_15 : decode cX6_take 15 = .ok (.aload_n 1, 1) := by decide +kernel
theorem dX6_take_16 : decode cX6_take 16 = .ok (.getfield 31, 3) := by decide +kernel
theorem dX6_take_19 : decode cX6_take 19 = .ok (.if_icmp .ge 90, 3) := by decide +kernel
theorem dX6_take_22 : decode cX6_take 22 = .ok (.iload_n 3, 1) := by decide +kernel
theorem dX6_take_23 : decode cX6_take 23 = .ok (.bipush 80, 2) := by decide +kernel
theorem dX6_take_25 : decode cX6_take 25 = .ok (.if_icmp .ge 84, 3) := by decide +kernel
theorem dX6_take_28 : decode cX6_take 28 = .ok (.aload_n 1, 1) := by decide +kernel
theorem dX6_take_29 : decode cX6_take 29 = .ok (.iload_n 3, 1) := by decide +kernel
theorem dX6_take_30 : decode cX6_take 30 = .ok (.invokevirtual 36, 3) := by decide +kernel
theorem dX6_take_33 : decode cX6_take 33 = .ok (.istore 4, 2) := by decide +kernel
theorem dX6_take_35 : decode cX6_take 35 = .ok (.iload 4, 2) := by decide +kernel
theorem dX6_take_37 : decode cX6_take 37 = .ok (.bipush 32, 2) := by decide +kernel
theorem dX6_take_39 : decode cX6_take 39 = .ok (.if_icmp .eq 10, 3) := by decide +kernel
theorem dX6_take_42 : decode cX6_take 42 = .ok (.iload 4, 2) := by decide +kernel
theorem dX6_take_44 : decode cX6_take 44 = .ok (.bipush 9, 2) := by decide +kernel
theorem dX6_take_46 : decode cX6_take 46 = .ok (.if_icmp .ne 7, 3) := by decide +kernel
theorem dX6_take_49 : decode cX6_take 49 = .ok (.iconst 1, 1) := by decide +kernel
theorem dX6_take_50 : decode cX6_take 50 = .ok (.goto 4, 3) := by decide +kernel
theorem dX6_take_53 : decode cX6_take 53 = .ok (.iconst 0, 1) := by decide +kernel
theorem dX6_take_54 : decode cX6_take 54 = .ok (.istore 5, 2) := by decide +kernel
theorem dX6_take_56 : decode cX6_take 56 = .ok (.iload 5, 2) := by decide +kernel
theorem dX6_take_58 : decode cX6_take 58 = .ok (.ifCond .ne 12, 3) := by decide +kernel
theorem dX6_take_61 : decode cX6_take 61 = .ok (.iload_n 2, 1) := by decide +kernel
theorem dX6_take_62 : decode cX6_take 62 = .ok (.ifCond .ne 8, 3) := by decide +kernel
theorem dX6_take_65 : decode cX6_take 65 = .ok (.aload_n 0, 1) := by decide +kernel
theorem dX6_take_66 : decode cX6_take 66 = .ok (.iload_n 3, 1) := by decide +kernel
theorem dX6_take_67 : decode cX6_take 67 = .ok (.invokevirtual 40, 3) := by decide +kernel
theorem dX6_take_70 : decode cX6_take 70 = .ok (.iload 5, 2) := by decide +kernel
theorem dX6_take_72 : decode cX6_take 72 = .ok (.ifCond .ne 9, 3) := by decide +kernel
theorem dX6_take_75 : decode cX6_take 75 = .ok (.aload_n 0, 1) := by decide +kernel
theorem dX6_take_76 : decode cX6_take 76 = .ok (.iload 4, 2) := by decide +kernel
theorem dX6_take_78 : decode cX6_take 78 = .ok (.invokevirtual 44, 3) := by decide +kernel
theorem dX6_take_81 : decode cX6_take 81 = .ok (.iload 4, 2) := by decide +kernel
theorem dX6_take_83 : decode cX6_take 83 = .ok (.bipush 9, 2) := by decide +kernel
theorem dX6_take_85 : decode cX6_take 85 = .ok (.if_icmp .ne 7, 3) := by decide +kernel
theorem dX6_take_88 : decode cX6_take 88 = .ok (.aload_n 0, 1) := by decide +kernel
theorem dX6_take_89 : decode cX6_take 89 = .ok (.invokevirtual 47, 3) := by decide +kernel
theorem dX6_take_92 : decode cX6_take 92 = .ok (.iload 5, 2) := by decide +kernel
theorem dX6_take_94 : decode cX6_take 94 = .ok (.ifCond .ne 7, 3) := by decide +kernel
theorem dX6_take_97 : decode cX6_take 97 = .ok (.iconst 1, 1) := by decide +kernel
theorem dX6_take_98 : decode cX6_take 98 = .ok (.goto 4, 3) := by decide +kernel
theorem dX6_take_101 : decode cX6_take 101 = .ok (.iconst 0, 1) := by decide +kernel
theorem dX6_take_102 : decode cX6_take 102 = .ok (.istore_n 2, 1) := by decide +kernel
theorem dX6_take_103 : decode cX6_take 103 = .ok (.iinc 3 1, 3) := by decide +kernel
theorem dX6_take_106 : decode cX6_take 106 = .ok (.goto (-92), 3) := by decide +kernel
theorem dX6_take_109 : decode cX6_take 109 = .ok (.aload_n 0, 1) := by decide +kernel
theorem dX6_take_110 : decode cX6_take 110 = .ok (.invokevirtual 47, 3) := by decide +kernel
theorem dX6_take_113 : decode cX6_take 113 = .ok (.return_, 1) := by decide +kernel
theorem dX6_startWord_0 : decode cX6_startWord 0 = .ok (.aload_n 0, 1) := by decide +kernel
theorem dX6_startWord_1 : decode cX6_startWord 1 = .ok (.getfield 28, 3) := by decide +kernel
theorem dX6_startWord_4 : decode cX6_startWord 4 = .ok (.bipush 80, 2) := by decide +kernel
theorem dX6_startWord_6 : decode cX6_startWord 6 = .ok (.if_icmp .ge 43, 3) := by decide +kernel
theorem dX6_startWord_9 : decode cX6_startWord 9 = .ok (.aload_n 0, 1) := by decide +kernel
theorem dX6_startWord_10 : decode cX6_startWord 10 = .ok (.getfield 9, 3) := by decide +kernel
theorem dX6_startWord_13 : decode cX6_startWord 13 = .ok (.aload_n 0, 1) := by decide +kernel
theorem dX6_startWord_14 : decode cX6_startWord 14 = .ok (.getfield 28, 3) := by decide +kernel
theorem dX6_startWord_17 : decode cX6_startWord 17 = .ok (.iload_n 1, 1) := by decide +kernel
theorem dX6_startWord_18 : decode cX6_startWord 18 = .ok (.iastore, 1) := by decide +kernel
theorem dX6_startWord_19 : decode cX6_startWord 19 = .ok (.aload_n 0, 1) := by decide +kernel
theorem dX6_startWord_20 : decode cX6_startWord 20 = .ok (.getfield 15, 3) := by decide +kernel
theorem dX6_startWord_23 : decode cX6_startWord 23 = .ok (.aload_n 0, 1) := by decide +kernel
theorem dX6_startWord_24 : decode cX6_startWord 24 = .ok (.getfield 28, 3) := by decide +kernel
theorem dX6_startWord_27 : decode cX6_startWord 27 = .ok (.iconst 0, 1) := by decide +kernel
theorem dX6_startWord_28 : decode cX6_startWord 28 = .ok (.iastore, 1) := by decide +kernel
theorem dX6_startWord_29 : decode cX6_startWord 29 = .ok (.aload_n 0, 1) := by decide +kernel
theorem dX6_startWord_30 : decode cX6_startWord 30 = .ok (.getfield 18, 3) := by decide +kernel
theorem dX6_startWord_33 : decode cX6_startWord 33 = .ok (.aload_n 0, 1) := by decide +kernel
theorem dX6_startWord_34 : decode cX6_startWord 34 = .ok (.getfield 28, 3) := by decide +kernel
theorem dX6_startWord_37 : decode cX6_startWord 37 = .ok (.iconst (-1), 1) := by decide +kernel
theorem dX6_startWord_38 : decode cX6_startWord 38 = .ok (.iastore, 1) := by decide +kernel
theorem dX6_startWord_39 : decode cX6_startWord 39 = .ok (.aload_n 0, 1) := by decide +kernel
theorem dX6_startWord_40 : decode cX6_startWord 40 = .ok (.dup, 1) := by decide +kernel
theorem dX6_startWord_41 : decode cX6_startWord 41 = .ok (.getfield 28, 3) := by decide +kernel
theorem dX6_startWord_44 : decode cX6_startWord 44 = .ok (.iconst 1, 1) := by decide +kernel
theorem dX6_startWord_45 : decode cX6_startWord 45 = .ok (.iadd, 1) := by decide +kernel
theorem dX6_startWord_46 : decode cX6_startWord 46 = .ok (.putfield 28, 3) := by decide +kernel
theorem dX6_startWord_49 : decode cX6_startWord 49 = .ok (.return_, 1) := by decide +kernel
theorem dX6_growWord_0 : decode cX6_growWord 0 = .ok (.aload_n 0, 1) := by decide +kernel
theorem dX6_growWord_1 : decode cX6_growWord 1 = .ok (.getfield 28, 3) := by decide +kernel
theorem dX6_growWord_4 : decode cX6_growWord 4 = .ok (.iconst 1, 1) := by decide +kernel
theorem dX6_growWord_5 : decode cX6_growWord 5 = .ok (.isub, 1) := by decide +kernel
theorem dX6_growWord_6 : decode cX6_growWord 6 = .ok (.istore_n 2, 1) := by decide +kernel
theorem dX6_growWord_7 : decode cX6_growWord 7 = .ok (.iload_n 2, 1) := by decide +kernel
theorem dX6_growWord_8 : decode cX6_growWord 8 = .ok (.iconst 0, 1) := by decide +kernel
theorem dX6_growWord_9 : decode cX6_growWord 9 = .ok (.bipush 79, 2) := by decide +kernel
theorem dX6_growWord_11 : decode cX6_growWord 11 = .ok (.invokestatic 50, 3) := by decide +kernel
theorem dX6_growWord_14 : decode cX6_growWord 14 = .ok (.ifCond .eq 41, 3) := by decide +kernel
theorem dX6_growWord_17 : decode cX6_growWord 17 = .ok (.iload_n 1, 1) := by decide +kernel
theorem dX6_growWord_18 : decode cX6_growWord 18 = .ok (.bipush 46, 2) := by decide +kernel
theorem dX6_growWord_20 : decode cX6_growWord 20 = .ok (.if_icmp .ne 25, 3) := by decide +kernel
theorem dX6_growWord_23 : decode cX6_growWord 23 = .ok (.aload_n 0, 1) := by decide +kernel
theorem dX6_growWord_24 : decode cX6_growWord 24 = .ok (.getfield 18, 3) := by decide +kernel
theorem dX6_growWord_27 : decode cX6_growWord 27 = .ok (.iload_n 2, 1) := by decide +kernel
theorem dX6_growWord_28 : decode cX6_growWord 28 = .ok (.iaload, 1) := by decide +kernel
theorem dX6_growWord_29 : decode cX6_growWord 29 = .ok (.iconst (-1), 1) := by decide +kernel
theorem dX6_growWord_30 : decode cX6_growWord 30 = .ok (.if_icmp .ne 15, 3) := by decide +kernel
theorem dX6_growWord_33 : decode cX6_growWord 33 = .ok (.aload_n 0, 1) := by decide +kernel
theorem dX6_growWord_34 : decode cX6_growWord 34 = .ok (.getfield 18, 3) := by decide +kernel
theorem dX6_growWord_37 : decode cX6_growWord 37 = .ok (.iload_n 2, 1) := by decide +kernel
theorem dX6_growWord_38 : decode cX6_growWord 38 = .ok (.aload_n 0, 1) := by decide +kernel
theorem dX6_growWord_39 : decode cX6_growWord 39 = .ok (.getfield 15, 3) := by decide +kernel
theorem dX6_growWord_42 : decode cX6_growWord 42 = .ok (.iload_n 2, 1) := by decide +kernel
theorem dX6_growWord_43 : decode cX6_growWord 43 = .ok (.iaload, 1) := by decide +kernel
theorem dX6_growWord_44 : decode cX6_growWord 44 = .ok (.iastore, 1) := by decide +kernel
theorem dX6_growWord_45 : decode cX6_growWord 45 = .ok (.aload_n 0, 1) := by decide +kernel
theorem dX6_growWord_46 : decode cX6_growWord 46 = .ok (.getfield 15, 3) := by decide +kernel
theorem dX6_growWord_49 : decode cX6_growWord 49 = .ok (.iload_n 2, 1) := by decide +kernel
theorem dX6_growWord_50 : decode cX6_growWord 50 = .ok (.dup2, 1) := by decide +kernel
theorem dX6_growWord_51 : decode cX6_growWord 51 = .ok (.iaload, 1) := by decide +kernel
theorem dX6_growWord_52 : decode cX6_growWord 52 = .ok (.iconst 1, 1) := by decide +kernel
theorem dX6_growWord_53 : decode cX6_growWord 53 = .ok (.iadd, 1) := by decide +kernel
theorem dX6_growWord_54 : decode cX6_growWord 54 = .ok (.iastore, 1) := by decide +kernel
theorem dX6_growWord_55 : decode cX6_growWord 55 = .ok (.return_, 1) := by decide +kernel
theorem dX6_endField_0 : decode cX6_endField 0 = .ok (.aload_n 0, 1) := by decide +kernel
theorem dX6_endField_1 : decode cX6_endField 1 = .ok (.getfield 24, 3) := by decide +kernel
theorem dX6_endField_4 : decode cX6_endField 4 = .ok (.bipush 81, 2) := by decide +kernel
theorem dX6_endField_6 : decode cX6_endField 6 = .ok (.if_icmp .ge 26, 3) := by decide +kernel
theorem dX6_endField_9 : decode cX6_endField 9 = .ok (.aload_n 0, 1) := by decide +kernel
theorem dX6_endField_10 : decode cX6_endField 10 = .ok (.getfield 21, 3) := by decide +kernel
theorem dX6_endField_13 : decode cX6_endField 13 = .ok (.aload_n 0, 1) := by decide +kernel
theorem dX6_endField_14 : decode cX6_endField 14 = .ok (.getfield 24, 3) := by decide +kernel
theorem dX6_endField_17 : decode cX6_endField 17 = .ok (.aload_n 0, 1) := by decide +kernel
theorem dX6_endField_18 : decode cX6_endField 18 = .ok (.getfield 28, 3) := by decide +kernel
theorem dX6_endField_21 : decode cX6_endField 21 = .ok (.iastore, 1) := by decide +kernel
theorem dX6_endField_22 : decode cX6_endField 22 = .ok (.aload_n 0, 1) := by decide +kernel
theorem dX6_endField_23 : decode cX6_endField 23 = .ok (.dup, 1) := by decide +kernel
theorem dX6_endField_24 : decode cX6_endField 24 = .ok (.getfield 24, 3) := by decide +kernel
theorem dX6_endField_27 : decode cX6_endField 27 = .ok (.iconst 1, 1) := by decide +kernel
theorem dX6_endField_28 : decode cX6_endField 28 = .ok (.iadd, 1) := by decide +kernel
theorem dX6_endField_29 : decode cX6_endField 29 = .ok (.putfield 24, 3) := by decide +kernel
theorem dX6_endField_32 : decode cX6_endField 32 = .ok (.return_, 1) := by decide +kernel
theorem dX6_firstOf_0 : decode cX6_firstOf 0 = .ok (.iload_n 1, 1) := by decide +kernel
theorem dX6_firstOf_1 : decode cX6_firstOf 1 = .ok (.iconst 1, 1) := by decide +kernel
theorem dX6_firstOf_2 : decode cX6_firstOf 2 = .ok (.if_icmp .lt 20, 3) := by decide +kernel
theorem dX6_firstOf_5 : decode cX6_firstOf 5 = .ok (.iload_n 1, 1) := by decide +kernel
theorem dX6_firstOf_6 : decode cX6_firstOf 6 = .ok (.bipush 81, 2) := by decide +kernel
theorem dX6_firstOf_8 : decode cX6_firstOf 8 = .ok (.if_icmp .gt 14, 3) := by decide +kernel
theorem dX6_firstOf_11 : decode cX6_firstOf 11 = .ok (.aload_n 0, 1) := by decide +kernel
theorem dX6_firstOf_12 : decode cX6_firstOf 12 = .ok (.getfield 21, 3) := by decide +kernel
theorem dX6_firstOf_15 : decode cX6_firstOf 15 = .ok (.iload_n 1, 1) := by decide +kernel
theorem dX6_firstOf_16 : decode cX6_firstOf 16 = .ok (.iconst 1, 1) := by decide +kernel
theorem dX6_firstOf_17 : decode cX6_firstOf 17 = .ok (.isub, 1) := by decide +kernel
theorem dX6_firstOf_18 : decode cX6_firstOf 18 = .ok (.iaload, 1) := by decide +kernel
theorem dX6_firstOf_19 : decode cX6_firstOf 19 = .ok (.goto 4, 3) := by decide +kernel
theorem dX6_firstOf_22 : decode cX6_firstOf 22 = .ok (.iconst 0, 1) := by decide +kernel
theorem dX6_firstOf_23 : decode cX6_firstOf 23 = .ok (.ireturn, 1) := by decide +kernel
theorem dX6_endOf_0 : decode cX6_endOf 0 = .ok (.iload_n 1, 1) := by decide +kernel
theorem dX6_endOf_1 : decode cX6_endOf 1 = .ok (.ifCond .lt 18, 3) := by decide +kernel
theorem dX6_endOf_4 : decode cX6_endOf 4 = .ok (.iload_n 1, 1) := by decide +kernel
theorem dX6_endOf_5 : decode cX6_endOf 5 = .ok (.bipush 81, 2) := by decide +kernel
theorem dX6_endOf_7 : decode cX6_endOf 7 = .ok (.if_icmp .ge 12, 3) := by decide +kernel
theorem dX6_endOf_10 : decode cX6_endOf 10 = .ok (.aload_n 0, 1) := by decide +kernel
theorem dX6_endOf_11 : decode cX6_endOf 11 = .ok (.getfield 21, 3) := by decide +kernel
theorem dX6_endOf_14 : decode cX6_endOf 14 = .ok (.iload_n 1, 1) := by decide +kernel
theorem dX6_endOf_15 : decode cX6_endOf 15 = .ok (.iaload, 1) := by decide +kernel
theorem dX6_endOf_16 : decode cX6_endOf 16 = .ok (.goto 4, 3) := by decide +kernel
theorem dX6_endOf_19 : decode cX6_endOf 19 = .ok (.iconst 0, 1) := by decide +kernel
theorem dX6_endOf_20 : decode cX6_endOf 20 = .ok (.ireturn, 1) := by decide +kernel
theorem dX6_startOf_0 : decode cX6_startOf 0 = .ok (.iload_n 1, 1) := by decide +kernel
theorem dX6_startOf_1 : decode cX6_startOf 1 = .ok (.ifCond .lt 18, 3) := by decide +kernel
theorem dX6_startOf_4 : decode cX6_startOf 4 = .ok (.iload_n 1, 1) := by decide +kernel
theorem dX6_startOf_5 : decode cX6_startOf 5 = .ok (.bipush 80, 2) := by decide +kernel
theorem dX6_startOf_7 : decode cX6_startOf 7 = .ok (.if_icmp .ge 12, 3) := by decide +kernel
theorem dX6_startOf_10 : decode cX6_startOf 10 = .ok (.aload_n 0, 1) := by decide +kernel
theorem dX6_startOf_11 : decode cX6_startOf 11 = .ok (.getfield 9, 3) := by decide +kernel
theorem dX6_startOf_14 : decode cX6_startOf 14 = .ok (.iload_n 1, 1) := by decide +kernel
theorem dX6_startOf_15 : decode cX6_startOf 15 = .ok (.iaload, 1) := by decide +kernel
theorem dX6_startOf_16 : decode cX6_startOf 16 = .ok (.goto 4, 3) := by decide +kernel
theorem dX6_startOf_19 : decode cX6_startOf 19 = .ok (.iconst 0, 1) := by decide +kernel
theorem dX6_startOf_20 : decode cX6_startOf 20 = .ok (.ireturn, 1) := by decide +kernel
theorem dX6_lengthOf_0 : decode cX6_lengthOf 0 = .ok (.iload_n 1, 1) := by decide +kernel
theorem dX6_lengthOf_1 : decode cX6_lengthOf 1 = .ok (.ifCond .lt 18, 3) := by decide +kernel
theorem dX6_lengthOf_4 : decode cX6_lengthOf 4 = .ok (.iload_n 1, 1) := by decide +kernel
theorem dX6_lengthOf_5 : decode cX6_lengthOf 5 = .ok (.bipush 80, 2) := by decide +kernel
theorem dX6_lengthOf_7 : decode cX6_lengthOf 7 = .ok (.if_icmp .ge 12, 3) := by decide +kernel
theorem dX6_lengthOf_10 : decode cX6_lengthOf 10 = .ok (.aload_n 0, 1) := by decide +kernel
theorem dX6_lengthOf_11 : decode cX6_lengthOf 11 = .ok (.getfield 15, 3) := by decide +kernel
theorem dX6_lengthOf_14 : decode cX6_lengthOf 14 = .ok (.iload_n 1, 1) := by decide +kernel
theorem dX6_lengthOf_15 : decode cX6_lengthOf 15 = .ok (.iaload, 1) := by decide +kernel
theorem dX6_lengthOf_16 : decode cX6_lengthOf 16 = .ok (.goto 4, 3) := by decide +kernel
theorem dX6_lengthOf_19 : decode cX6_lengthOf 19 = .ok (.iconst 0, 1) := by decide +kernel
theorem dX6_lengthOf_20 : decode cX6_lengthOf 20 = .ok (.ireturn, 1) := by decide +kernel
theorem dX6_pointOf_0 : decode cX6_pointOf 0 = .ok (.iload_n 1, 1) := by decide +kernel
theorem dX6_pointOf_1 : decode cX6_pointOf 1 = .ok (.ifCond .lt 18, 3) := by decide +kernel
theorem dX6_pointOf_4 : decode cX6_pointOf 4 = .ok (.iload_n 1, 1) := by decide +kernel
theorem dX6_pointOf_5 : decode cX6_pointOf 5 = .ok (.bipush 80, 2) := by decide +kernel
theorem dX6_pointOf_7 : decode cX6_pointOf 7 = .ok (.if_icmp .ge 12, 3) := by decide +kernel
theorem dX6_pointOf_10 : decode cX6_pointOf 10 = .ok (.aload_n 0, 1) := by decide +kernel
theorem dX6_pointOf_11 : decode cX6_pointOf 11 = .ok (.getfield 18, 3) := by decide +kernel
theorem dX6_pointOf_14 : decode cX6_pointOf 14 = .ok (.iload_n 1, 1) := by decide +kernel
theorem dX6_pointOf_15 : decode cX6_pointOf 15 = .ok (.iaload, 1) := by decide +kernel
theorem dX6_pointOf_16 : decode cX6_pointOf 16 = .ok (.goto 4, 3) := by decide +kernel
theorem dX6_pointOf_19 : decode cX6_pointOf 19 = .ok (.iconst (-1), 1) := by decide +kernel
theorem dX6_pointOf_20 : decode cX6_pointOf 20 = .ok (.ireturn, 1) := by decide +kernel
theorem dX7_init_0 : decode cX7_init 0 = .ok (.aload_n 0, 1) := by decide +kernel
theorem dX7_init_1 : decode cX7_init 1 = .ok (.invokespecial 3, 3) := by decide +kernel
theorem dX7_init_4 : decode cX7_init 4 = .ok (.aload_n 0, 1) := by decide +kernel
theorem dX7_init_5 : decode cX7_init 5 = .ok (.new 9, 3) := by decide +kernel
theorem dX7_init_8 : decode cX7_init 8 = .ok (.dup, 1) := by decide +kernel
theorem dX7_init_9 : decode cX7_init 9 = .ok (.invokespecial 11, 3) := by decide +kernel
theorem dX7_init_12 : decode cX7_init 12 = .ok (.putfield 12, 3) := by decide +kernel
theorem dX7_init_15 : decode cX7_init 15 = .ok (.aload_n 0, 1) := by decide +kernel
theorem dX7_init_16 : decode cX7_init 16 = .ok (.bipush 6, 2) := by decide +kernel
theorem dX7_init_18 : decode cX7_init 18 = .ok (.anewarray 9, 3) := by decide +kernel
theorem dX7_init_21 : decode cX7_init 21 = .ok (.putfield 16, 3) := by decide +kernel
theorem dX7_init_24 : decode cX7_init 24 = .ok (.aload_n 0, 1) := by decide +kernel
theorem dX7_init_25 : decode cX7_init 25 = .ok (.bipush 100, 2) := by decide +kernel
theorem dX7_init_27 : decode cX7_init 27 = .ok (.newarray .int, 2) := by decide +kernel
theorem dX7_init_29 : decode cX7_init 29 = .ok (.putfield 20, 3) := by decide +kernel
theorem dX7_init_32 : decode cX7_init 32 = .ok (.aload_n 0, 1) := by decide +kernel
theorem dX7_init_33 : decode cX7_init 33 = .ok (.new 24, 3) := by decide +kernel
theorem dX7_init_36 : decode cX7_init 36 = .ok (.dup, 1) := by decide +kernel
theorem dX7_init_37 : decode cX7_init 37 = .ok (.invokespecial 26, 3) := by decide +kernel
theorem dX7_init_40 : decode cX7_init 40 = .ok (.putfield 27, 3) := by decide +kernel
theorem dX7_init_43 : decode cX7_init 43 = .ok (.aload_n 0, 1) := by decide +kernel
theorem dX7_init_44 : decode cX7_init 44 = .ok (.new 31, 3) := by decide +kernel
theorem dX7_init_47 : decode cX7_init 47 = .ok (.dup, 1) := by decide +kernel
theorem dX7_init_48 : decode cX7_init 48 = .ok (.invokespecial 33, 3) := by decide +kernel
theorem dX7_init_51 : decode cX7_init 51 = .ok (.putfield 34, 3) := by decide +kernel
theorem dX7_init_54 : decode cX7_init 54 = .ok (.iconst 0, 1) := by decide +kernel
theorem dX7_init_55 : decode cX7_init 55 = .ok (.istore_n 1, 1) := by decide +kernel
theorem dX7_init_56 : decode cX7_init 56 = .ok (.iload_n 1, 1) := by decide +kernel
theorem dX7_init_57 : decode cX7_init 57 = .ok (.bipush 6, 2) := by decide +kernel
theorem dX7_init_59 : decode cX7_init 59 = .ok (.if_icmp .ge 22, 3) := by decide +kernel
theorem dX7_init_62 : decode cX7_init 62 = .ok (.aload_n 0, 1) := by decide +kernel
theorem dX7_init_63 : decode cX7_init 63 = .ok (.getfield 16, 3) := by decide +kernel
theorem dX7_init_66 : decode cX7_init 66 = .ok (.iload_n 1, 1) := by decide +kernel
theorem dX7_init_67 : decode cX7_init 67 = .ok (.new 9, 3) := by decide +kernel
theorem dX7_init_70 : decode cX7_init 70 = .ok (.dup, 1) := by decide +kernel
theorem dX7_init_71 : decode cX7_init 71 = .ok (.invokespecial 11, 3) := by decide +kernel
theorem dX7_init_74 : decode cX7_init 74 = .ok (.aastore, 1) := by decide +kernel
theorem dX7_init_75 : decode cX7_init 75 = .ok (.iinc 1 1, 3) := by decide +kernel
theorem dX7_init_78 : decode cX7_init 78 = .ok (.goto (-22), 3) := by decide +kernel
theorem dX7_init_81 : decode cX7_init 81 = .ok (.return_, 1) := by decide +kernel
theorem dX7_setNumber_0 : decode cX7_setNumber 0 = .ok (.iload_n 1, 1) := by decide +kernel
theorem dX7_setNumber_1 : decode cX7_setNumber 1 = .ok (.ifCond .ne 36, 3) := by decide +kernel
theorem dX7_setNumber_4 : decode cX7_setNumber 4 = .ok (.iload_n 2, 1) := by decide +kernel
theorem dX7_setNumber_5 : decode cX7_setNumber 5 = .ok (.bipush 20, 2) := by decide +kernel
theorem dX7_setNumber_7 : decode cX7_setNumber 7 = .ok (.bipush 80, 2) := by decide +kernel
theorem dX7_setNumber_9 : decode cX7_setNumber 9 = .ok (.invokestatic 38, 3) := by decide +kernel
theorem dX7_setNumber_12 : decode cX7_setNumber 12 = .ok (.ifCond .eq 25, 3) := by decide +kernel
theorem dX7_setNumber_15 : decode cX7_setNumber 15 = .ok (.aload_n 0, 1) := by decide +kernel
theorem dX7_setNumber_16 : decode cX7_setNumber 16 = .ok (.invokevirtual 42, 3) := by decide +kernel
theorem dX7_setNumber_19 : decode cX7_setNumber 19 = .ok (.aload_n 0, 1) := by decide +kernel
theorem dX7_setNumber_20 : decode cX7_setNumber 20 = .ok (.getfield 12, 3) := by decide +kernel
theorem dX7_setNumber_23 : decode cX7_setNumber 23 = .ok (.getfield 45, 3) := by decide +kernel
theorem dX7_setNumber_26 : decode cX7_setNumber 26 = .ok (.istore_n 3, 1) := by decide +kernel
theorem dX7_setNumber_27 : decode cX7_setNumber 27 = .ok (.aload_n 0, 1) := by decide +kernel
theorem dX7_setNumber_28 : decode cX7_setNumber 28 = .ok (.getfield 12, 3) := by decide +kernel
theorem dX7_setNumber_31 : decode cX7_setNumber 31 = .ok (.iload_n 2, 1) := by decide +kernel
theorem dX7_setNumber_32 : decode cX7_setNumber 32 = .ok (.putfield 45, 3) := by decide +kernel
theorem dX7_setNumber_35 : decode cX7_setNumber 35 = .ok (.iload_n 3, 1) := by decide +kernel
theorem dX7_setNumber_36 : decode cX7_setNumber 36 = .ok (.ireturn, 1) := by decide +kernel
theorem dX7_setNumber_37 : decode cX7_setNumber 37 = .ok (.iload_n 1, 1) := by decide +kernel
theorem dX7_setNumber_38 : decode cX7_setNumber 38 = .ok (.iconst 1, 1) := by decide +kernel
theorem dX7_setNumber_39 : decode cX7_setNumber 39 = .ok (.if_icmp .ne 35, 3) := by decide +kernel
theorem dX7_setNumber_42 : decode cX7_setNumber 42 = .ok (.iload_n 2, 1) := by decide +kernel
theorem dX7_setNumber_43 : decode cX7_setNumber 43 = .ok (.iconst 2, 1) := by decide +kernel
theorem dX7_setNumber_44 : decode cX7_setNumber 44 = .ok (.bipush 20, 2) := by decide +kernel
theorem dX7_setNumber_46 : decode cX7_setNumber 46 = .ok (.invokestatic 38, 3) := by decide +kernel
theorem dX7_setNumber_49 : decode cX7_setNumber 49 = .ok (.ifCond .eq 25, 3) := by decide +kernel
theorem dX7_setNumber_52 : decode cX7_setNumber 52 = .ok (.aload_n 0, 1) := by decide +kernel
theorem dX7_setNumber_53 : decode cX7_setNumber 53 = .ok (.invokevirtual 42, 3) := by decide +kernel
theorem dX7_setNumber_56 : decode cX7_setNumber 56 = .ok (.aload_n 0, 1) := by decide +kernel
theorem dX7_setNumber_57 : decode cX7_setNumber 57 = .ok (.getfield 12, 3) := by decide +kernel
theorem dX7_setNumber_60 : decode cX7_setNumber 60 = .ok (.getfield 49, 3) := by decide +kernel
theorem dX7_setNumber_63 : decode cX7_setNumber 63 = .ok (.istore_n 3, 1) := by decide +kernel
theorem dX7_setNumber_64 : decode cX7_setNumber 64 = .ok (.aload_n 0, 1) := by decide +kernel
theorem dX7_setNumber_65 : decode cX7_setNumber 65 = .ok (.getfield 12, 3) := by decide +kernel
theorem dX7_setNumber_68 : decode cX7_setNumber 68 = .ok (.iload_n 2, 1) := by decide +kernel
theorem dX7_setNumber_69 : decode cX7_setNumber 69 = .ok (.putfield 49, 3) := by decide +kernel
theorem dX7_setNumber_72 : decode cX7_setNumber 72 = .ok (.iload_n 3, 1) := by decide +kernel
theorem dX7_setNumber_73 : decode cX7_setNumber 73 = .ok (.ireturn, 1) := by decide +kernel
theorem dX7_setNumber_74 : decode cX7_setNumber 74 = .ok (.iconst (-1), 1) := by decide +kernel
theorem dX7_setNumber_75 : decode cX7_setNumber 75 = .ok (.ireturn, 1) := by decide +kernel
theorem dX7_setIndent_0 : decode cX7_setIndent 0 = .ok (.aload_n 0, 1) := by decide +kernel
theorem dX7_setIndent_1 : decode cX7_setIndent 1 = .ok (.iload_n 1, 1) := by decide +kernel
theorem dX7_setIndent_2 : decode cX7_setIndent 2 = .ok (.invokevirtual 52, 3) := by decide +kernel
theorem dX7_setIndent_5 : decode cX7_setIndent 5 = .ok (.ifCond .eq 22, 3) := by decide +kernel
theorem dX7_setIndent_8 : decode cX7_setIndent 8 = .ok (.iload_n 2, 1) := by decide +kernel
theorem dX7_setIndent_9 : decode cX7_setIndent 9 = .ok (.iconst 0, 1) := by decide +kernel
theorem dX7_setIndent_10 : decode cX7_setIndent 10 = .ok (.iconst 1, 1) := by decide +kernel
theorem dX7_setIndent_11 : decode cX7_setIndent 11 = .ok (.invokestatic 38, 3) := by decide +kernel
theorem dX7_setIndent_14 : decode cX7_setIndent 14 = .ok (.ifCond .eq 13, 3) := by decide +kernel
theorem dX7_setIndent_17 : decode cX7_setIndent 17 = .ok (.iload_n 3, 1) := by decide +kernel
theorem dX7_setIndent_18 : decode cX7_setIndent 18 = .ok (.iconst 0, 1) := by decide +kernel
theorem dX7_setIndent_19 : decode cX7_setIndent 19 = .ok (.bipush 19, 2) := by decide +kernel
theorem dX7_setIndent_21 : decode cX7_setIndent 21 = .ok (.invokestatic 38, 3) := by decide +kernel
theorem dX7_setIndent_24 : decode cX7_setIndent 24 = .ok (.ifCond .ne 5, 3) := by decide +kernel
theorem dX7_setIndent_27 : decode cX7_setIndent 27 = .ok (.iconst (-1), 1) := by decide +kernel
theorem dX7_setIndent_28 : decode cX7_setIndent 28 = .ok (.ireturn, 1) := by decide +kernel
theorem dX7_setIndent_29 : decode cX7_setIndent 29 = .ok (.aload_n 0, 1) := by decide +kernel
theorem dX7_setIndent_30 : decode cX7_setIndent 30 = .ok (.invokevirtual 42, 3) := by decide +kernel
theorem dX7_setIndent_33 : decode cX7_setIndent 33 = .ok (.aload_n 0, 1) := by decide +kernel
theorem dX7_setIndent_34 : decode cX7_setIndent 34 = .ok (.getfield 12, 3) := by decide +kernel
theorem dX7_setIndent_37 : decode cX7_setIndent 37 = .ok (.getfield 56, 3) := by decide +kernel
theorem dX7_setIndent_40 : decode cX7_setIndent 40 = .ok (.iload_n 1, 1) := by decide +kernel
theorem dX7_setIndent_41 : decode cX7_setIndent 41 = .ok (.aaload, 1) := by decide +kernel
theorem dX7_setIndent_42 : decode cX7_setIndent 42 = .ok (.astore 4, 2) := by decide +kernel
theorem dX7_setIndent_44 : decode cX7_setIndent 44 = .ok (.iload_n 2, 1) := by decide +kernel
theorem dX7_setIndent_45 : decode cX7_setIndent 45 = .ok (.ifCond .ne 19, 3) := by decide +kernel
theorem dX7_setIndent_48 : decode cX7_setIndent 48 = .ok (.aload 4, 2) := by decide +kernel
theorem dX7_setIndent_50 : decode cX7_setIndent 50 = .ok (.getfield 60, 3) := by decide +kernel
theorem dX7_setIndent_53 : decode cX7_setIndent 53 = .ok (.istore 5, 2) := by decide +kernel
theorem dX7_setIndent_55 : decode cX7_setIndent 55 = .ok (.aload 4, 2) := by decide +kernel
theorem dX7_setIndent_57 : decode cX7_setIndent 57 = .ok (.iload_n 3, 1) := by decide +kernel
theorem dX7_setIndent_58 : decode cX7_setIndent 58 = .ok (.putfield 60, 3) := by decide +kernel
theorem dX7_setIndent_61 : decode cX7_setIndent 61 = .ok (.goto 16, 3) := by decide +kernel
theorem dX7_setIndent_64 : decode cX7_setIndent 64 = .ok (.aload 4, 2) := by decide +kernel
theorem dX7_setIndent_66 : decode cX7_setIndent 66 = .ok (.getfield 65, 3) := by decide +kernel
theorem dX7_setIndent_69 : decode cX7_setIndent 69 = .ok (.istore 5, 2) := by decide +kernel
theorem dX7_setIndent_71 : decode cX7_setIndent 71 = .ok (.aload 4, 2) := by decide +kernel
theorem dX7_setIndent_73 : decode cX7_setIndent 73 = .ok (.iload_n 3, 1) := by decide +kernel
theorem dX7_setIndent_74 : decode cX7_setIndent 74 = .ok (.putfield 65, 3) := by decide +kernel
theorem dX7_setIndent_77 : decode cX7_setIndent 77 = .ok (.iload 5, 2) := by decide +kernel
theorem dX7_setIndent_79 : decode cX7_setIndent 79 = .ok (.ireturn, 1) := by decide +kernel
theorem dX7_setStop_0 : decode cX7_setStop 0 = .ok (.aload_n 0, 1) := by decide +kernel
theorem dX7_setStop_1 : decode cX7_setStop 1 = .ok (.iload_n 1, 1) := by decide +kernel
theorem dX7_setStop_2 : decode cX7_setStop 2 = .ok (.invokevirtual 52, 3) := by decide +kernel
theorem dX7_setStop_5 : decode cX7_setStop 5 = .ok (.ifCond .eq 41, 3) := by decide +kernel
theorem dX7_setStop_8 : decode cX7_setStop 8 = .ok (.iload_n 2, 1) := by decide +kernel
theorem dX7_setStop_9 : decode cX7_setStop 9 = .ok (.iconst 1, 1) := by decide +kernel
theorem dX7_setStop_10 : decode cX7_setStop 10 = .ok (.bipush 80, 2) := by decide +kernel
theorem dX7_setStop_12 : decode cX7_setStop 12 = .ok (.invokestatic 38, 3) := by decide +kernel
theorem dX7_setStop_15 : decode cX7_setStop 15 = .ok (.ifCond .eq 31, 3) := by decide +kernel
theorem dX7_setStop_18 : decode cX7_setStop 18 = .ok (.iload_n 3, 1) := by decide +kernel
theorem dX7_setStop_19 : decode cX7_setStop 19 = .ok (.iconst 0, 1) := by decide +kernel
theorem dX7_setStop_20 : decode cX7_setStop 20 = .ok (.iconst 4, 1) := by decide +kernel
theorem dX7_setStop_21 : decode cX7_setStop 21 = .ok (.invokestatic 38, 3) := by decide +kernel
theorem dX7_setStop_24 : decode cX7_setStop 24 = .ok (.ifCond .eq 22, 3) := by decide +kernel
theorem dX7_setStop_27 : decode cX7_setStop 27 = .ok (.iload 4, 2) := by decide +kernel
theorem dX7_setStop_29 : decode cX7_setStop 29 = .ok (.iconst 0, 1) := by decide +kernel
theorem dX7_setStop_30 : decode cX7_setStop 30 = .ok (.iload_n 3, 1) := by decide +kernel
theorem dX7_setStop_31 : decode cX7_setStop 31 = .ok (.iconst 4, 1) := by decide +kernel
theorem dX7_setStop_32 : decode cX7_setStop 32 = .ok (.if_icmp .ne 7, 3) := by decide +kernel
theorem dX7_setStop_35 : decode cX7_setStop 35 = .ok (.iconst 0, 1) := by decide +kernel
theorem dX7_setStop_36 : decode cX7_setStop 36 = .ok (.goto 4, 3) := by decide +kernel
theorem dX7_setStop_39 : decode cX7_setStop 39 = .ok (.iconst 3, 1) := by decide +kernel
theorem dX7_setStop_40 : decode cX7_setStop 40 = .ok (.invokestatic 38, 3) := by decide +kernel
theorem dX7_setStop_43 : decode cX7_setStop 43 = .ok (.ifCond .ne 5, 3) := by decide +kernel
theorem dX7_setStop_46 : decode cX7_setStop 46 = .ok (.iconst (-1), 1) := by decide +kernel
theorem dX7_setStop_47 : decode cX7_setStop 47 = .ok (.ireturn, 1) := by decide +kernel
theorem dX7_setStop_48 : decode cX7_setStop 48 = .ok (.aload_n 0, 1) := by decide +kernel
theorem dX7_setStop_49 : decode cX7_setStop 49 = .ok (.getfield 12, 3) := by decide +kernel
theorem dX7_setStop_52 : decode cX7_setStop 52 = .ok (.getfield 56, 3) := by decide +kernel
theorem dX7_setStop_55 : decode cX7_setStop 55 = .ok (.iload_n 1, 1) := by decide +kernel
theorem dX7_setStop_56 : decode cX7_setStop 56 = .ok (.aaload, 1) := by decide +kernel
theorem dX7_setStop_57 : decode cX7_setStop 57 = .ok (.astore 5, 2) := by decide +kernel
theorem dX7_setStop_59 : decode cX7_setStop 59 = .ok (.aload 5, 2) := by decide +kernel
theorem dX7_setStop_61 : decode cX7_setStop 61 = .ok (.iload_n 2, 1) := by decide +kernel
theorem dX7_setStop_62 : decode cX7_setStop 62 = .ok (.invokevirtual 68, 3) := by decide +kernel
theorem dX7_setStop_65 : decode cX7_setStop 65 = .ok (.ifCond .ne 18, 3) := by decide +kernel
theorem dX7_setStop_68 : decode cX7_setStop 68 = .ok (.aload 5, 2) := by decide +kernel
theorem dX7_setStop_70 : decode cX7_setStop 70 = .ok (.bipush 81, 2) := by decide +kernel
theorem dX7_setStop_72 : decode cX7_setStop 72 = .ok (.invokevirtual 71, 3) := by decide +kernel
theorem dX7_setStop_75 : decode cX7_setStop 75 = .ok (.bipush 8, 2) := by decide +kernel
theorem dX7_setStop_77 : decode cX7_setStop 77 = .ok (.if_icmp .lt 6, 3) := by decide +kernel
theorem dX7_setStop_80 : decode cX7_setStop 80 = .ok (.bipush (-3), 2) := by decide +kernel
theorem dX7_setStop_82 : decode cX7_setStop 82 = .ok (.ireturn, 1) := by decide +kernel
theorem dX7_setStop_83 : decode cX7_setStop 83 = .ok (.aload_n 0, 1) := by decide +kernel
theorem dX7_setStop_84 : decode cX7_setStop 84 = .ok (.invokevirtual 42, 3) := by decide +kernel
theorem dX7_setStop_87 : decode cX7_setStop 87 = .ok (.aload 5, 2) := by decide +kernel
theorem dX7_setStop_89 : decode cX7_setStop 89 = .ok (.iload_n 2, 1) := by decide +kernel
theorem dX7_setStop_90 : decode cX7_setStop 90 = .ok (.iload_n 3, 1) := by decide +kernel
theorem dX7_setStop_91 : decode cX7_setStop 91 = .ok (.iload 4, 2) := by decide +kernel
theorem dX7_setStop_93 : decode cX7_setStop 93 = .ok (.invokevirtual 75, 3) := by decide +kernel
theorem dX7_setStop_96 : decode cX7_setStop 96 = .ok (.aload 5, 2) := by decide +kernel
theorem dX7_setStop_98 : decode cX7_setStop 98 = .ok (.iload_n 2, 1) := by decide +kernel
theorem dX7_setStop_99 : decode cX7_setStop 99 = .ok (.invokevirtual 71, 3) := by decide +kernel
theorem dX7_setStop_102 : decode cX7_setStop 102 = .ok (.ireturn, 1) := by decide +kernel
theorem dX7_removeStop_0 : decode cX7_removeStop 0 = .ok (.aload_n 0, 1) := by decide +kernel
theorem dX7_removeStop_1 : decode cX7_removeStop 1 = .ok (.iload_n 1, 1) := by decide +kernel
theorem dX7_removeStop_2 : decode cX7_removeStop 2 = .ok (.invokevirtual 52, 3) := by decide +kernel
theorem dX7_removeStop_5 : decode cX7_removeStop 5 = .ok (.ifCond .ne 5, 3) := by decide +kernel
theorem dX7_removeStop_8 : decode cX7_removeStop 8 = .ok (.iconst (-1), 1) := by decide +kernel
theorem dX7_removeStop_9 : decode cX7_removeStop 9 = .ok (.ireturn, 1) := by decide +kernel
theorem dX7_removeStop_10 : decode cX7_removeStop 10 = .ok (.aload_n 0, 1) := by decide +kernel
theorem dX7_removeStop_11 : decode cX7_removeStop 11 = .ok (.getfield 12, 3) := by decide +kernel
theorem dX7_removeStop_14 : decode cX7_removeStop 14 = .ok (.getfield 56, 3) := by decide +kernel
theorem dX7_removeStop_17 : decode cX7_removeStop 17 = .ok (.iload_n 1, 1) := by decide +kernel
theorem dX7_removeStop_18 : decode cX7_removeStop 18 = .ok (.aaload, 1) := by decide +kernel
theorem dX7_removeStop_19 : decode cX7_removeStop 19 = .ok (.astore_n 3, 1) := by decide +kernel
theorem dX7_removeStop_20 : decode cX7_removeStop 20 = .ok (.aload_n 3, 1) := by decide +kernel
theorem dX7_removeStop_21 : decode cX7_removeStop 21 = .ok (.iload_n 2, 1) := by decide +kernel
theorem dX7_removeStop_22 : decode cX7_removeStop 22 = .ok (.invokevirtual 79, 3) := by decide +kernel
theorem dX7_removeStop_25 : decode cX7_removeStop 25 = .ok (.istore 4, 2) := by decide +kernel
theorem dX7_removeStop_27 : decode cX7_removeStop 27 = .ok (.iload 4, 2) := by decide +kernel
theorem dX7_removeStop_29 : decode cX7_removeStop 29 = .ok (.bipush (-9), 2) := by decide +kernel
theorem dX7_removeStop_31 : decode cX7_removeStop 31 = .ok (.if_icmp .ne 5, 3) := by decide +kernel
theorem dX7_removeStop_34 : decode cX7_removeStop 34 = .ok (.iconst (-1), 1) := by decide +kernel
theorem dX7_removeStop_35 : decode cX7_removeStop 35 = .ok (.ireturn, 1) := by decide +kernel
theorem dX7_removeStop_36 : decode cX7_removeStop 36 = .ok (.aload_n 0, 1) := by decide +kernel
theorem dX7_removeStop_37 : decode cX7_removeStop 37 = .ok (.invokevirtual 42, 3) := by decide +kernel
theorem dX7_removeStop_40 : decode cX7_removeStop 40 = .ok (.aload_n 3, 1) := by decide +kernel
theorem dX7_removeStop_41 : decode cX7_removeStop 41 = .ok (.iload 4, 2) := by decide +kernel
theorem dX7_removeStop_43 : decode cX7_removeStop 43 = .ok (.invokevirtual 82, 3) := by decide +kernel
theorem dX7_removeStop_46 : decode cX7_removeStop 46 = .ok (.aload_n 3, 1) := by decide +kernel
theorem dX7_removeStop_47 : decode cX7_removeStop 47 = .ok (.bipush 81, 2) := by decide +kernel
theorem dX7_removeStop_49 : decode cX7_removeStop 49 = .ok (.invokevirtual 71, 3) := by decide +kernel
theorem dX7_removeStop_52 : decode cX7_removeStop 52 = .ok (.ireturn, 1) := by decide +kernel
theorem dX7_appendCharacter_0 : decode cX7_appendCharacter 0 = .ok (.iload_n 1, 1) := by decide +kernel
theorem dX7_appendCharacter_1 : decode cX7_appendCharacter 1 = .ok (.iconst 0, 1) := by decide +kernel
theorem dX7_appendCharacter_2 : decode cX7_appendCharacter 2 = .ok (.sipush 255, 3) := by decide +kernel
theorem dX7_appendCharacter_5 : decode cX7_appendCharacter 5 = .ok (.invokestatic 38, 3) := by decide +kernel
theorem dX7_appendCharacter_8 : decode cX7_appendCharacter 8 = .ok (.ifCond .ne 5, 3) := by decide +kernel
theorem dX7_appendCharacter_11 : decode cX7_appendCharacter 11 = .ok (.iconst (-1), 1) := by decide +kernel
theorem dX7_appendCharacter_12 : decode cX7_appendCharacter 12 = .ok (.ireturn, 1) := by decide +kernel
theorem dX7_appendCharacter_13 : decode cX7_appendCharacter 13 = .ok (.aload_n 0, 1) := by decide +kernel
theorem dX7_appendCharacter_14 : decode cX7_appendCharacter 14 = .ok (.getfield 86, 3) := by decide +kernel
theorem dX7_appendCharacter_17 : decode cX7_appendCharacter 17 = .ok (.bipush 100, 2) := by decide +kernel
theorem dX7_appendCharacter_19 : decode cX7_appendCharacter 19 = .ok (.if_icmp .lt 6, 3) := by decide +kernel
theorem dX7_appendCharacter_22 : decode cX7_appendCharacter 22 = .ok (.bipush (-3), 2) := by decide +kernel
theorem dX7_appendCharacter_24 : decode cX7_appendCharacter 24 = .ok (.ireturn, 1) := by decide +kernel
theorem dX7_appendCharacter_25 : decode cX7_appendCharacter 25 = .ok (.aload_n 0, 1) := by decide +kernel
theorem dX7_appendCharacter_26 : decode cX7_appendCharacter 26 = .ok (.getfield 20, 3) := by decide +kernel
theorem dX7_appendCharacter_29 : decode cX7_appendCharacter 29 = .ok (.aload_n 0, 1) := by decide +kernel
theorem dX7_appendCharacter_30 : decode cX7_appendCharacter 30 = .ok (.getfield 86, 3) := by decide +kernel
theorem dX7_appendCharacter_33 : decode cX7_appendCharacter 33 = .ok (.iload_n 1, 1) := by decide +kernel
theorem dX7_appendCharacter_34 : decode cX7_appendCharacter 34 = .ok (.iastore, 1) := by decide +kernel
theorem dX7_appendCharacter_35 : decode cX7_appendCharacter 35 = .ok (.aload_n 0, 1) := by decide +kernel
theorem dX7_appendCharacter_36 : decode cX7_appendCharacter 36 = .ok (.dup, 1) := by decide +kernel
theorem dX7_appendCharacter_37 : decode cX7_appendCharacter 37 = .ok (.getfield 86, 3) := by decide +kernel
theorem dX7_appendCharacter_40 : decode cX7_appendCharacter 40 = .ok (.iconst 1, 1) := by decide +kernel
theorem dX7_appendCharacter_41 : decode cX7_appendCharacter 41 = .ok (.iadd, 1) := by decide +kernel
theorem dX7_appendCharacter_42 : decode cX7_appendCharacter 42 = .ok (.putfield 86, 3) := by decide +kernel
theorem dX7_appendCharacter_45 : decode cX7_appendCharacter 45 = .ok (.aload_n 0, 1) := by decide +kernel
theorem dX7_appendCharacter_46 : decode cX7_appendCharacter 46 = .ok (.getfield 86, 3) := by decide +kernel
theorem dX7_appendCharacter_49 : decode cX7_appendCharacter 49 = .ok (.ireturn, 1) := by decide +kernel
theorem dX7_clearText_0 : decode cX7_clearText 0 = .ok (.aload_n 0, 1) := by decide +kernel
theorem dX7_clearText_1 : decode cX7_clearText 1 = .ok (.getfield 86, 3) := by decide +kernel
theorem dX7_clearText_4 : decode cX7_clearText 4 = .ok (.istore_n 1, 1) := by decide +kernel
theorem dX7_clearText_5 : decode cX7_clearText 5 = .ok (.aload_n 0, 1) := by decide +kernel
theorem dX7_clearText_6 : decode cX7_clearText 6 = .ok (.iconst 0, 1) := by decide +kernel
theorem dX7_clearText_7 : decode cX7_clearText 7 = .ok (.putfield 86, 3) := by decide +kernel
theorem dX7_clearText_10 : decode cX7_clearText 10 = .ok (.iload_n 1, 1) := by decide +kernel
theorem dX7_clearText_11 : decode cX7_clearText 11 = .ok (.ireturn, 1) := by decide +kernel
theorem dX7_loadStops_0 : decode cX7_loadStops 0 = .ok (.aload_n 0, 1) := by decide +kernel
theorem dX7_loadStops_1 : decode cX7_loadStops 1 = .ok (.iload_n 1, 1) := by decide +kernel
theorem dX7_loadStops_2 : decode cX7_loadStops 2 = .ok (.invokevirtual 52, 3) := by decide +kernel
theorem dX7_loadStops_5 : decode cX7_loadStops 5 = .ok (.ifCond .ne 5, 3) := by decide +kernel
theorem dX7_loadStops_8 : decode cX7_loadStops 8 = .ok (.iconst (-1), 1) := by decide +kernel
theorem dX7_loadStops_9 : decode cX7_loadStops 9 = .ok (.ireturn, 1) := by decide +kernel
theorem dX7_loadStops_10 : decode cX7_loadStops 10 = .ok (.aload_n 0, 1) := by decide +kernel
theorem dX7_loadStops_11 : decode cX7_loadStops 11 = .ok (.getfield 27, 3) := by decide +kernel
theorem dX7_loadStops_14 : decode cX7_loadStops 14 = .ok (.aload_n 0, 1) := by decide +kernel
theorem dX7_loadStops_15 : decode cX7_loadStops 15 = .ok (.getfield 20, 3) := by decide +kernel
theorem dX7_loadStops_18 : decode cX7_loadStops 18 = .ok (.aload_n 0, 1) := by decide +kernel
theorem dX7_loadStops_19 : decode cX7_loadStops 19 = .ok (.getfield 86, 3) := by decide +kernel
theorem dX7_loadStops_22 : decode cX7_loadStops 22 = .ok (.invokevirtual 89, 3) := by decide +kernel
theorem dX7_loadStops_25 : decode cX7_loadStops 25 = .ok (.istore_n 2, 1) := by decide +kernel
theorem dX7_loadStops_26 : decode cX7_loadStops 26 = .ok (.iload_n 2, 1) := by decide +kernel
theorem dX7_loadStops_27 : decode cX7_loadStops 27 = .ok (.iconst (-1), 1) := by decide +kernel
theorem dX7_loadStops_28 : decode cX7_loadStops 28 = .ok (.if_icmp .eq 9, 3) := by decide +kernel
theorem dX7_loadStops_31 : decode cX7_loadStops 31 = .ok (.sipush (-1000), 3) := by decide +kernel
theorem dX7_loadStops_34 : decode cX7_loadStops 34 = .ok (.iload_n 2, 1) := by decide +kernel
theorem dX7_loadStops_35 : decode cX7_loadStops 35 = .ok (.isub, 1) := by decide +kernel
theorem dX7_loadStops_36 : decode cX7_loadStops 36 = .ok (.ireturn, 1) := by decide +kernel
theorem dX7_loadStops_37 : decode cX7_loadStops 37 = .ok (.aload_n 0, 1) := by decide +kernel
theorem dX7_loadStops_38 : decode cX7_loadStops 38 = .ok (.invokevirtual 42, 3) := by decide +kernel
theorem dX7_loadStops_41 : decode cX7_loadStops 41 = .ok (.aload_n 0, 1) := by decide +kernel
theorem dX7_loadStops_42 : decode cX7_loadStops 42 = .ok (.iconst 0, 1) := by decide +kernel
theorem dX7_loadStops_43 : decode cX7_loadStops 43 = .ok (.putfield 86, 3) := by decide +kernel
theorem dX7_loadStops_46 : decode cX7_loadStops 46 = .ok (.aload_n 0, 1) := by decide +kernel
theorem dX7_loadStops_47 : decode cX7_loadStops 47 = .ok (.getfield 12, 3) := by decide +kernel
theorem dX7_loadStops_50 : decode cX7_loadStops 50 = .ok (.getfield 56, 3) := by decide +kernel
theorem dX7_loadStops_53 : decode cX7_loadStops 53 = .ok (.iload_n 1, 1) := by decide +kernel
theorem dX7_loadStops_54 : decode cX7_loadStops 54 = .ok (.aaload, 1) := by decide +kernel
theorem dX7_loadStops_55 : decode cX7_loadStops 55 = .ok (.astore_n 3, 1) := by decide +kernel
theorem dX7_loadStops_56 : decode cX7_loadStops 56 = .ok (.aload_n 3, 1) := by decide +kernel
theorem dX7_loadStops_57 : decode cX7_loadStops 57 = .ok (.aload_n 0, 1) := by decide +kernel
theorem dX7_loadStops_58 : decode cX7_loadStops 58 = .ok (.getfield 27, 3) := by decide +kernel
theorem dX7_loadStops_61 : decode cX7_loadStops 61 = .ok (.getfield 93, 3) := by decide +kernel
theorem dX7_loadStops_64 : decode cX7_loadStops 64 = .ok (.invokevirtual 97, 3) := by decide +kernel
theorem dX7_loadStops_67 : decode cX7_loadStops 67 = .ok (.aload_n 3, 1) := by decide +kernel
theorem dX7_loadStops_68 : decode cX7_loadStops 68 = .ok (.bipush 81, 2) := by decide +kernel
theorem dX7_loadStops_70 : decode cX7_loadStops 70 = .ok (.invokevirtual 71, 3) := by decide +kernel
theorem dX7_loadStops_73 : decode cX7_loadStops 73 = .ok (.ireturn, 1) := by decide +kernel
theorem dX7_addParagraph_0 : decode cX7_addParagraph 0 = .ok (.aload_n 0, 1) := by decide +kernel
theorem dX7_addParagraph_1 : decode cX7_addParagraph 1 = .ok (.iload_n 1, 1) := by decide +kernel
theorem dX7_addParagraph_2 : decode cX7_addParagraph 2 = .ok (.invokevirtual 52, 3) := by decide +kernel
theorem dX7_addParagraph_5 : decode cX7_addParagraph 5 = .ok (.ifCond .ne 5, 3) := by decide +kernel
theorem dX7_addParagraph_8 : decode cX7_addParagraph 8 = .ok (.iconst (-1), 1) := by decide +kernel
theorem dX7_addParagraph_9 : decode cX7_addParagraph 9 = .ok (.ireturn, 1) := by decide +kernel
theorem dX7_addParagraph_10 : decode cX7_addParagraph 10 = .ok (.aload_n 0, 1) := by decide +kernel
theorem dX7_addParagraph_11 : decode cX7_addParagraph 11 = .ok (.getfield 12, 3) := by decide +kernel
theorem dX7_addParagraph_14 : decode cX7_addParagraph 14 = .ok (.getfield 101, 3) := by decide +kernel
theorem dX7_addParagraph_17 : decode cX7_addParagraph 17 = .ok (.bipush 8, 2) := by decide +kernel
theorem dX7_addParagraph_19 : decode cX7_addParagraph 19 = .ok (.if_icmp .lt 6, 3) := by decide +kernel
theorem dX7_addParagraph_22 : decode cX7_addParagraph 22 = .ok (.bipush (-3), 2) := by decide +kernel
theorem dX7_addParagraph_24 : decode cX7_addParagraph 24 = .ok (.ireturn, 1) := by decide +kernel
theorem dX7_addParagraph_25 : decode cX7_addParagraph 25 = .ok (.aload_n 0, 1) := by decide +kernel
theorem dX7_addParagraph_26 : decode cX7_addParagraph 26 = .ok (.invokevirtual 42, 3) := by decide +kernel
theorem dX7_addParagraph_29 : decode cX7_addParagraph 29 = .ok (.aload_n 0, 1) := by decide +kernel
theorem dX7_addParagraph_30 : decode cX7_addParagraph 30 = .ok (.getfield 12, 3) := by decide +kernel
theorem dX7_addParagraph_33 : decode cX7_addParagraph 33 = .ok (.getfield 101, 3) := by decide +kernel
theorem dX7_addParagraph_36 : decode cX7_addParagraph 36 = .ok (.istore_n 2, 1) := by decide +kernel
theorem dX7_addParagraph_37 : decode cX7_addParagraph 37 = .ok (.aload_n 0, 1) := by decide +kernel
theorem dX7_addParagraph_38 : decode cX7_addParagraph 38 = .ok (.getfield 12, 3) := by decide +kernel
theorem dX7_addParagraph_41 : decode cX7_addParagraph 41 = .ok (.getfield 104, 3) := by decide +kernel
theorem dX7_addParagraph_44 : decode cX7_addParagraph 44 = .ok (.iload_n 2, 1) := by decide +kernel
theorem dX7_addParagraph_45 : decode cX7_addParagraph 45 = .ok (.aaload, 1) := by decide +kernel
theorem dX7_addParagraph_46 : decode cX7_addParagraph 46 = .ok (.iload_n 1, 1) := by decide +kernel
theorem dX7_addParagraph_47 : decode cX7_addParagraph 47 = .ok (.putfield 108, 3) := by decide +kernel
theorem dX7_addParagraph_50 : decode cX7_addParagraph 50 = .ok (.aload_n 0, 1) := by decide +kernel
theorem dX7_addParagraph_51 : decode cX7_addParagraph 51 = .ok (.getfield 12, 3) := by decide +kernel
theorem dX7_addParagraph_54 : decode cX7_addParagraph 54 = .ok (.getfield 104, 3) := by decide +kernel
theorem dX7_addParagraph_57 : decode cX7_addParagraph 57 = .ok (.iload_n 2, 1) := by decide +kernel
theorem dX7_addParagraph_58 : decode cX7_addParagraph 58 = .ok (.aaload, 1) := by decide +kernel
theorem dX7_addParagraph_59 : decode cX7_addParagraph 59 = .ok (.iconst 0, 1) := by decide +kernel
theorem dX7_addParagraph_60 : decode cX7_addParagraph 60 = .ok (.putfield 113, 3) := by decide +kernel
theorem dX7_addParagraph_63 : decode cX7_addParagraph 63 = .ok (.aload_n 0, 1) := by decide +kernel
theorem dX7_addParagraph_64 : decode cX7_addParagraph 64 = .ok (.getfield 12, 3) := by decide +kernel
theorem dX7_addParagraph_67 : decode cX7_addParagraph 67 = .ok (.dup, 1) := by decide +kernel
theorem dX7_addParagraph_68 : decode cX7_addParagraph 68 = .ok (.getfield 101, 3) := by decide +kernel
theorem dX7_addParagraph_71 : decode cX7_addParagraph 71 = .ok (.iconst 1, 1) := by decide +kernel
theorem dX7_addParagraph_72 : decode cX7_addParagraph 72 = .ok (.iadd, 1) := by decide +kernel
theorem dX7_addParagraph_73 : decode cX7_addParagraph 73 = .ok (.putfield 101, 3) := by decide +kernel
theorem dX7_addParagraph_76 : decode cX7_addParagraph 76 = .ok (.iload_n 2, 1) := by decide +kernel
theorem dX7_addParagraph_77 : decode cX7_addParagraph 77 = .ok (.ireturn, 1) := by decide +kernel
theorem dX7_removeParagraph_0 : decode cX7_removeParagraph 0 = .ok (.aload_n 0, 1) := by decide +kernel
theorem dX7_removeParagraph_1 : decode cX7_removeParagraph 1 = .ok (.iload_n 1, 1) := by decide +kernel
theorem dX7_removeParagraph_2 : decode cX7_removeParagraph 2 = .ok (.invokevirtual 116, 3) := by decide +kernel
theorem dX7_removeParagraph_5 : decode cX7_removeParagraph 5 = .ok (.ifCond .ne 5, 3) := by decide +kernel
theorem dX7_removeParagraph_8 : decode cX7_removeParagraph 8 = .ok (.iconst (-1), 1) := by decide +kernel
theorem dX7_removeParagraph_9 : decode cX7_removeParagraph 9 = .ok (.ireturn, 1) := by decide +kernel
theorem dX7_removeParagraph_10 : decode cX7_removeParagraph 10 = .ok (.aload_n 0, 1) := by decide +kernel
theorem dX7_removeParagraph_11 : decode cX7_removeParagraph 11 = .ok (.invokevirtual 42, 3) := by decide +kernel
theorem dX7_removeParagraph_14 : decode cX7_removeParagraph 14 = .ok (.aload_n 0, 1) := by decide +kernel
theorem dX7_removeParagraph_15 : decode cX7_removeParagraph 15 = .ok (.getfield 12, 3) := by decide +kernel
theorem dX7_removeParagraph_18 : decode cX7_removeParagraph 18 = .ok (.getfield 104, 3) := by decide +kernel
theorem dX7_removeParagraph_21 : decode cX7_removeParagraph 21 = .ok (.iload_n 1, 1) := by decide +kernel
theorem dX7_removeParagraph_22 : decode cX7_removeParagraph 22 = .ok (.aaload, 1) := by decide +kernel
theorem dX7_removeParagraph_23 : decode cX7_removeParagraph 23 = .ok (.astore_n 2, 1) := by decide +kernel
theorem dX7_removeParagraph_24 : decode cX7_removeParagraph 24 = .ok (.aload_n 0, 1) := by decide +kernel
theorem dX7_removeParagraph_25 : decode cX7_removeParagraph 25 = .ok (.getfield 12, 3) := by decide +kernel
theorem dX7_removeParagraph_28 : decode cX7_removeParagraph 28 = .ok (.dup, 1) := by decide +kernel
theorem dX7_removeParagraph_29 : decode cX7_removeParagraph 29 = .ok (.getfield 101, 3) := by decide +kernel
theorem dX7_removeParagraph_32 : decode cX7_removeParagraph 32 = .ok (.iconst 1, 1) := by decide +kernel
theorem dX7_removeParagraph_33 : decode cX7_removeParagraph 33 = .ok (.isub, 1) := by decide +kernel
theorem dX7_removeParagraph_34 : decode cX7_removeParagraph 34 = .ok (.putfield 101, 3) := by decide +kernel
theorem dX7_removeParagraph_37 : decode cX7_removeParagraph 37 = .ok (.iload_n 1, 1) := by decide +kernel
theorem dX7_removeParagraph_38 : decode cX7_removeParagraph 38 = .ok (.istore_n 3, 1) := by decide +kernel
theorem dX7_removeParagraph_39 : decode cX7_removeParagraph 39 = .ok (.iload_n 3, 1) := by decide +kernel
theorem dX7_removeParagraph_40 : decode cX7_removeParagraph 40 = .ok (.aload_n 0, 1) := by decide +kernel
theorem dX7_removeParagraph_41 : decode cX7_removeParagraph 41 = .ok (.getfield 12, 3) := by decide +kernel
theorem dX7_removeParagraph_44 : decode cX7_removeParagraph 44 = .ok (.getfield 101, 3) := by decide +kernel
theorem dX7_removeParagraph_47 : decode cX7_removeParagraph 47 = .ok (.if_icmp .ge 29, 3) := by decide +kernel
theorem dX7_removeParagraph_50 : decode cX7_removeParagraph 50 = .ok (.aload_n 0, 1) := by decide +kernel
theorem dX7_removeParagraph_51 : decode cX7_removeParagraph 51 = .ok (.getfield 12, 3) := by decide +kernel
theorem dX7_removeParagraph_54 : decode cX7_removeParagraph 54 = .ok (.getfield 104, 3) := by decide +kernel
theorem dX7_removeParagraph_57 : decode cX7_removeParagraph 57 = .ok (.iload_n 3, 1) := by decide +kernel
theorem dX7_removeParagraph_58 : decode cX7_removeParagraph 58 = .ok (.aload_n 0, 1) := by decide +kernel
theorem dX7_removeParagraph_59 : decode cX7_removeParagraph 59 = .ok (.getfield 12, 3) := by decide +kernel
theorem dX7_removeParagraph_62 : decode cX7_removeParagraph 62 = .ok (.getfield 104, 3) := by decide +kernel
theorem dX7_removeParagraph_65 : decode cX7_removeParagraph 65 = .ok (.iload_n 3, 1) := by decide +kernel
theorem dX7_removeParagraph_66 : decode cX7_removeParagraph 66 = .ok (.iconst 1, 1) := by decide +kernel
theorem dX7_removeParagraph_67 : decode cX7_removeParagraph 67 = .ok (.iadd, 1) := by decide +kernel
theorem dX7_removeParagraph_68 : decode cX7_removeParagraph 68 = .ok (.aaload, 1) := by decide +kernel
theorem dX7_removeParagraph_69 : decode cX7_removeParagraph 69 = .ok (.aastore, 1) := by decide +kernel
theorem dX7_removeParagraph_70 : decode cX7_removeParagraph 70 = .ok (.iinc 3 1, 3) := by decide +kernel
theorem dX7_removeParagraph_73 : decode cX7_removeParagraph 73 = .ok (.goto (-34), 3) := by decide +kernel
theorem dX7_removeParagraph_76 : decode cX7_removeParagraph 76 = .ok (.aload_n 0, 1) := by decide +kernel
theorem dX7_removeParagraph_77 : decode cX7_removeParagraph 77 = .ok (.getfield 12, 3) := by decide +kernel
theorem dX7_removeParagraph_80 : decode cX7_removeParagraph 80 = .ok (.getfield 104, 3) := by decide +kernel
theorem dX7_removeParagraph_83 : decode cX7_removeParagraph 83 = .ok (.aload_n 0, 1) := by decide +kernel
theorem dX7_removeParagraph_84 : decode cX7_removeParagraph 84 = .ok (.getfield 12, 3) := by decide +kernel
theorem dX7_removeParagraph_87 : decode cX7_removeParagraph 87 = .ok (.getfield 101, 3) := by decide +kernel
theorem dX7_removeParagraph_90 : decode cX7_removeParagraph 90 = .ok (.aload_n 2, 1) := by decide +kernel
theorem dX7_removeParagraph_91 : decode cX7_removeParagraph 91 = .ok (.aastore, 1) := by decide +kernel
theorem dX7_removeParagraph_92 : decode cX7_removeParagraph 92 = .ok (.aload_n 0, 1) := by decide +kernel
theorem dX7_removeParagraph_93 : decode cX7_removeParagraph 93 = .ok (.getfield 12, 3) := by decide +kernel
theorem dX7_removeParagraph_96 : decode cX7_removeParagraph 96 = .ok (.getfield 101, 3) := by decide +kernel
theorem dX7_removeParagraph_99 : decode cX7_removeParagraph 99 = .ok (.ireturn, 1) := by decide +kernel
theorem dX7_setStyle_0 : decode cX7_setStyle 0 = .ok (.aload_n 0, 1) := by decide +kernel
theorem dX7_setStyle_1 : decode cX7_setStyle 1 = .ok (.iload_n 1, 1) := by decide +kernel
theorem dX7_setStyle_2 : decode cX7_setStyle 2 = .ok (.invokevirtual 116, 3) := by decide +kernel
theorem dX7_setStyle_5 : decode cX7_setStyle 5 = .ok (.ifCond .eq 11, 3) := by decide +kernel
theorem dX7_setStyle_8 : decode cX7_setStyle 8 = .ok (.aload_n 0, 1) := by decide +kernel
theorem dX7_setStyle_9 : decode cX7_setStyle 9 = .ok (.iload_n 2, 1) := by decide +kernel
theorem dX7_setStyle_10 : decode cX7_setStyle 10 = .ok (.invokevirtual 52, 3) := by decide +kernel
theorem dX7_setStyle_13 : decode cX7_setStyle 13 = .ok (.ifCond .ne 5, 3) := by decide +kernel
theorem dX7_setStyle_16 : decode cX7_setStyle 16 = .ok (.iconst (-1), 1) := by decide +kernel
theorem dX7_setStyle_17 : decode cX7_setStyle 17 = .ok (.ireturn, 1) := by decide +kernel
theorem dX7_setStyle_18 : decode cX7_setStyle 18 = .ok (.aload_n 0, 1) := by decide +kernel
theorem dX7_setStyle_19 : decode cX7_setStyle 19 = .ok (.invokevirtual 42, 3) := by decide +kernel
theorem dX7_setStyle_22 : decode cX7_setStyle 22 = .ok (.aload_n 0, 1) := by decide +kernel
theorem dX7_setStyle_23 : decode cX7_setStyle 23 = .ok (.getfield 12, 3) := by decide +kernel
theorem dX7_setStyle_26 : decode cX7_setStyle 26 = .ok (.getfield 104, 3) := by decide +kernel
theorem dX7_setStyle_29 : decode cX7_setStyle 29 = .ok (.iload_n 1, 1) := by decide +kernel
theorem dX7_setStyle_30 : decode cX7_setStyle 30 = .ok (.aaload, 1) := by decide +kernel
theorem dX7_setStyle_31 : decode cX7_setStyle 31 = .ok (.getfield 108, 3) := by decide +kernel
theorem dX7_setStyle_34 : decode cX7_setStyle 34 = .ok (.istore_n 3, 1) := by decide +kernel
theorem dX7_setStyle_35 : decode cX7_setStyle 35 = .ok (.aload_n 0, 1) := by decide +kernel
theorem dX7_setStyle_36 : decode cX7_setStyle 36 = .ok (.getfield 12, 3) := by decide +kernel
theorem dX7_setStyle_39 : decode cX7_setStyle 39 = .ok (.getfield 104, 3) := by decide +kernel
theorem dX7_setStyle_42 : decode cX7_setStyle 42 = .ok (.iload_n 1, 1) := by decide +kernel
theorem dX7_setStyle_43 : decode cX7_setStyle 43 = .ok (.aaload, 1) := by decide +kernel
theorem dX7_setStyle_44 : decode cX7_setStyle 44 = .ok (.iload_n 2, 1) := by decide +kernel
theorem dX7_setStyle_45 : decode cX7_setStyle 45 = .ok (.putfield 108, 3) := by decide +kernel
theorem dX7_setStyle_48 : decode cX7_setStyle 48 = .ok (.iload_n 3, 1) := by decide +kernel
theorem dX7_setStyle_49 : decode cX7_setStyle 49 = .ok (.ireturn, 1) := by decide +kernel
theorem dX7_takeText_0 : decode cX7_takeText 0 = .ok (.aload_n 0, 1) := by decide +kernel
theorem dX7_takeText_1 : decode cX7_takeText 1 = .ok (.iload_n 1, 1) := by decide +kernel
theorem dX7_takeText_2 : decode cX7_takeText 2 = .ok (.invokevirtual 116, 3) := by decide +kernel
theorem dX7_takeText_5 : decode cX7_takeText 5 = .ok (.ifCond .ne 5, 3) := by decide +kernel
theorem dX7_takeText_8 : decode cX7_takeText 8 = .ok (.iconst (-1), 1) := by decide +kernel
theorem dX7_takeText_9 : decode cX7_takeText 9 = .ok (.ireturn, 1) := by decide +kernel
theorem dX7_takeText_10 : decode cX7_takeText 10 = .ok (.iconst 0, 1) := by decide +kernel
theorem dX7_takeText_11 : decode cX7_takeText 11 = .ok (.istore_n 2, 1) := by decide +kernel
theorem dX7_takeText_12 : decode cX7_takeText 12 = .ok (.iload_n 2, 1) := by decide +kernel
theorem dX7_takeText_13 : decode cX7_takeText 13 = .ok (.aload_n 0, 1) := by decide +kernel
theorem dX7_takeText_14 : decode cX7_takeText 14 = .ok (.getfield 86, 3) := by decide +kernel
theorem dX7_takeText_17 : decode cX7_takeText 17 = .ok (.if_icmp .ge 27, 3) := by decide +kernel
theorem dX7_takeText_20 : decode cX7_takeText 20 = .ok (.aload_n 0, 1) := by decide +kernel
theorem dX7_takeText_21 : decode cX7_takeText 21 = .ok (.getfield 20, 3) := by decide +kernel
theorem dX7_takeText_24 : decode cX7_takeText 24 = .ok (.iload_n 2, 1) := by decide +kernel
theorem dX7_takeText_25 : decode cX7_takeText 25 = .ok (.iaload, 1) := by decide +kernel
theorem dX7_takeText_26 : decode cX7_takeText 26 = .ok (.invokestatic 119, 3) := by decide +kernel
theorem dX7_takeText_29 : decode cX7_takeText 29 = .ok (.ifCond .ne 9, 3) := by decide +kernel
theorem dX7_takeText_32 : decode cX7_takeText 32 = .ok (.sipush (-2000), 3) := by decide +kernel
theorem dX7_takeText_35 : decode cX7_takeText 35 = .ok (.iload_n 2, 1) := by decide +kernel
theorem dX7_takeText_36 : decode cX7_takeText 36 = .ok (.isub, 1) := by decide +kernel
theorem dX7_takeText_37 : decode cX7_takeText 37 = .ok (.ireturn, 1) := by decide +kernel
theorem dX7_takeText_38 : decode cX7_takeText 38 = .ok (.iinc 2 1, 3) := by decide +kernel
theorem dX7_takeText_41 : decode cX7_takeText 41 = .ok (.goto (-29), 3) := by decide +kernel
theorem dX7_takeText_44 : decode cX7_takeText 44 = .ok (.aload_n 0, 1) := by decide +kernel
theorem dX7_takeText_45 : decode cX7_takeText 45 = .ok (.getfield 86, 3) := by decide +kernel
theorem dX7_takeText_48 : decode cX7_takeText 48 = .ok (.bipush 80, 2) := by decide +kernel
theorem dX7_takeText_50 : decode cX7_takeText 50 = .ok (.if_icmp .le 6, 3) := by decide +kernel
theorem dX7_takeText_53 : decode cX7_takeText 53 = .ok (.bipush (-3), 2) := by decide +kernel
theorem dX7_takeText_55 : decode cX7_takeText 55 = .ok (.ireturn, 1) := by decide +kernel
theorem dX7_takeText_56 : decode cX7_takeText 56 = .ok (.aload_n 0, 1) := by decide +kernel
theorem dX7_takeText_57 : decode cX7_takeText 57 = .ok (.invokevirtual 42, 3) := by decide +kernel
theorem dX7_takeText_60 : decode cX7_takeText 60 = .ok (.aload_n 0, 1) := by decide +kernel
theorem dX7_takeText_61 : decode cX7_takeText 61 = .ok (.getfield 12, 3) := by decide +kernel
theorem dX7_takeText_64 : decode cX7_takeText 64 = .ok (.getfield 104, 3) := by decide +kernel
theorem dX7_takeText_67 : decode cX7_takeText 67 = .ok (.iload_n 1, 1) := by decide +kernel
theorem dX7_takeText_68 : decode cX7_takeText 68 = .ok (.aaload, 1) := by decide +kernel
theorem dX7_takeText_69 : decode cX7_takeText 69 = .ok (.astore_n 2, 1) := by decide +kernel
theorem dX7_takeText_70 : decode cX7_takeText 70 = .ok (.aload_n 2, 1) := by decide +kernel
theorem dX7_takeText_71 : decode cX7_takeText 71 = .ok (.iconst 0, 1) := by decide +kernel
theorem dX7_takeText_72 : decode cX7_takeText 72 = .ok (.putfield 113, 3) := by decide +kernel
theorem dX7_takeText_75 : decode cX7_takeText 75 = .ok (.iconst 0, 1) := by decide +kernel
theorem dX7_takeText_76 : decode cX7_takeText 76 = .ok (.istore_n 3, 1) := by decide +kernel
theorem dX7_takeText_77 : decode cX7_takeText 77 = .ok (.iload_n 3, 1) := by decide +kernel
theorem dX7_takeText_78 : decode cX7_takeText 78 = .ok (.aload_n 0, 1) := by decide +kernel
theorem dX7_takeText_79 : decode cX7_takeText 79 = .ok (.getfield 86, 3) := by decide +kernel
theorem dX7_takeText_82 : decode cX7_takeText 82 = .ok (.if_icmp .ge 19, 3) := by decide +kernel
theorem dX7_takeText_85 : decode cX7_takeText 85 = .ok (.aload_n 2, 1) := by decide +kernel
theorem dX7_takeText_86 : decode cX7_takeText 86 = .ok (.aload_n 0, 1) := by decide +kernel
theorem dX7_takeText_87 : decode cX7_takeText 87 = .ok (.getfield 20, 3) := by decide +kernel
theorem dX7_takeText_90 : decode cX7_takeText 90 = .ok (.iload_n 3, 1) := by decide +kernel
theorem dX7_takeText_91 : decode cX7_takeText 91 = .ok (.iaload, 1) := by decide +kernel
theorem dX7_takeText_92 : decode cX7_takeText 92 = .ok (.invokevirtual 122, 3) := by decide +kernel
theorem dX7_takeText_95 : decode cX7_takeText 95 = .ok (.iinc 3 1, 3) := by decide +kernel
theorem dX7_takeText_98 : decode cX7_takeText 98 = .ok (.goto (-21), 3) := by decide +kernel
theorem dX7_takeText_101 : decode cX7_takeText 101 = .ok (.aload_n 0, 1) := by decide +kernel
theorem dX7_takeText_102 : decode cX7_takeText 102 = .ok (.iconst 0, 1) := by decide +kernel
theorem dX7_takeText_103 : decode cX7_takeText 103 = .ok (.putfield 86, 3) := by decide +kernel
theorem dX7_takeText_106 : decode cX7_takeText 106 = .ok (.aload_n 2, 1) := by decide +kernel
theorem dX7_takeText_107 : decode cX7_takeText 107 = .ok (.getfield 113, 3) := by decide +kernel
theorem dX7_takeText_110 : decode cX7_takeText 110 = .ok (.ireturn, 1) := by decide +kernel
theorem dX7_addWord_0 : decode cX7_addWord 0 = .ok (.aload_n 0, 1) := by decide +kernel
theorem dX7_addWord_1 : decode cX7_addWord 1 = .ok (.iload_n 1, 1) := by decide +kernel
theorem dX7_addWord_2 : decode cX7_addWord 2 = .ok (.invokevirtual 116, 3) := by decide +kernel
theorem dX7_addWord_5 : decode cX7_addWord 5 = .ok (.ifCond .eq 33, 3) := by decide +kernel
theorem dX7_addWord_8 : decode cX7_addWord 8 = .ok (.iload_n 2, 1) := by decide +kernel
theorem dX7_addWord_9 : decode cX7_addWord 9 = .ok (.iconst 0, 1) := by decide +kernel
theorem dX7_addWord_10 : decode cX7_addWord 10 = .ok (.iconst 1, 1) := by decide +kernel
theorem dX7_addWord_11 : decode cX7_addWord 11 = .ok (.invokestatic 38, 3) := by decide +kernel
theorem dX7_addWord_14 : decode cX7_addWord 14 = .ok (.ifCond .eq 24, 3) := by decide +kernel
theorem dX7_addWord_17 : decode cX7_addWord 17 = .ok (.iload_n 3, 1) := by decide +kernel
theorem dX7_addWord_18 : decode cX7_addWord 18 = .ok (.iconst 0, 1) := by decide +kernel
theorem dX7_addWord_19 : decode cX7_addWord 19 = .ok (.bipush 25, 2) := by decide +kernel
theorem dX7_addWord_21 : decode cX7_addWord 21 = .ok (.invokestatic 38, 3) := by decide +kernel
theorem dX7_addWord_24 : decode cX7_addWord 24 = .ok (.ifCond .eq 14, 3) := by decide +kernel
theorem dX7_addWord_27 : decode cX7_addWord 27 = .ok (.iload 4, 2) := by decide +kernel
theorem dX7_addWord_29 : decode cX7_addWord 29 = .ok (.iconst 1, 1) := by decide +kernel
theorem dX7_addWord_30 : decode cX7_addWord 30 = .ok (.bipush 30, 2) := by decide +kernel
theorem dX7_addWord_32 : decode cX7_addWord 32 = .ok (.invokestatic 38, 3) := by decide +kernel
theorem dX7_addWord_35 : decode cX7_addWord 35 = .ok (.ifCond .ne 5, 3) := by decide +kernel
theorem dX7_addWord_38 : decode cX7_addWord 38 = .ok (.iconst (-1), 1) := by decide +kernel
theorem dX7_addWord_39 : decode cX7_addWord 39 = .ok (.ireturn, 1) := by decide +kernel
theorem dX7_addWord_40 : decode cX7_addWord 40 = .ok (.aload_n 0, 1) := by decide +kernel
theorem dX7_addWord_41 : decode cX7_addWord 41 = .ok (.getfield 12, 3) := by decide +kernel
theorem dX7_addWord_44 : decode cX7_addWord 44 = .ok (.getfield 104, 3) := by decide +kernel
theorem dX7_addWord_47 : decode cX7_addWord 47 = .ok (.iload_n 1, 1) := by decide +kernel
theorem dX7_addWord_48 : decode cX7_addWord 48 = .ok (.aaload, 1) := by decide +kernel
theorem dX7_addWord_49 : decode cX7_addWord 49 = .ok (.astore 5, 2) := by decide +kernel
theorem dX7_addWord_51 : decode cX7_addWord 51 = .ok (.aload 5, 2) := by decide +kernel
theorem dX7_addWord_53 : decode cX7_addWord 53 = .ok (.getfield 113, 3) := by decide +kernel
theorem dX7_addWord_56 : decode cX7_addWord 56 = .ok (.iconst 1, 1) := by decide +kernel
theorem dX7_addWord_57 : decode cX7_addWord 57 = .ok (.iadd, 1) := by decide +kernel
theorem dX7_addWord_58 : decode cX7_addWord 58 = .ok (.iload 4, 2) := by decide +kernel
theorem dX7_addWord_60 : decode cX7_addWord 60 = .ok (.iadd, 1) := by decide +kernel
theorem dX7_addWord_61 : decode cX7_addWord 61 = .ok (.bipush 80, 2) := by decide +kernel
theorem dX7_addWord_63 : decode cX7_addWord 63 = .ok (.if_icmp .le 6, 3) := by decide +kernel
theorem dX7_addWord_66 : decode cX7_addWord 66 = .ok (.bipush (-3), 2) := by decide +kernel
theorem dX7_addWord_68 : decode cX7_addWord 68 = .ok (.ireturn, 1) := by decide +kernel
theorem dX7_addWord_69 : decode cX7_addWord 69 = .ok (.aload_n 0, 1) := by decide +kernel
theorem dX7_addWord_70 : decode cX7_addWord 70 = .ok (.invokevirtual 42, 3) := by decide +kernel
theorem dX7_addWord_73 : decode cX7_addWord 73 = .ok (.aload 5, 2) := by decide +kernel
theorem dX7_addWord_75 : decode cX7_addWord 75 = .ok (.iload_n 2, 1) := by decide +kernel
theorem dX7_addWord_76 : decode cX7_addWord 76 = .ok (.iconst 1, 1) := by decide +kernel
theorem dX7_addWord_77 : decode cX7_addWord 77 = .ok (.if_icmp .ne 8, 3) := by decide +kernel
theorem dX7_addWord_80 : decode cX7_addWord 80 = .ok (.bipush 9, 2) := by decide +kernel
theorem dX7_addWord_82 : decode cX7_addWord 82 = .ok (.goto 5, 3) := by decide +kernel
theorem dX7_addWord_85 : decode cX7_addWord 85 = .ok (.bipush 32, 2) := by decide +kernel
theorem dX7_addWord_87 : decode cX7_addWord 87 = .ok (.invokevirtual 122, 3) := by decide +kernel
theorem dX7_addWord_90 : decode cX7_addWord 90 = .ok (.iconst 0, 1) := by decide +kernel
theorem dX7_addWord_91 : decode cX7_addWord 91 = .ok (.istore 6, 2) := by decide +kernel
theorem dX7_addWord_93 : decode cX7_addWord 93 = .ok (.iload 6, 2) := by decide +kernel
theorem dX7_addWord_95 : decode cX7_addWord 95 = .ok (.iload 4, 2) := by decide +kernel
theorem dX7_addWord_97 : decode cX7_addWord 97 = .ok (.if_icmp .ge 18, 3) := by decide +kernel
theorem dX7_addWord_100 : decode cX7_addWord 100 = .ok (.aload 5, 2) := by decide +kernel
theorem dX7_addWord_102 : decode cX7_addWord 102 = .ok (.bipush 97, 2) := by decide +kernel
theorem dX7_addWord_104 : decode cX7_addWord 104 = .ok (.iload_n 3, 1) := by decide +kernel
theorem dX7_addWord_105 : decode cX7_addWord 105 = .ok (.iadd, 1) := by decide +kernel
theorem dX7_addWord_106 : decode cX7_addWord 106 = .ok (.invokevirtual 122, 3) := by decide +kernel
theorem dX7_addWord_109 : decode cX7_addWord 109 = .ok (.iinc 6 1, 3) := by decide +kernel
theorem dX7_addWord_112 : decode cX7_addWord 112 = .ok (.goto (-19), 3) := by decide +kernel
theorem dX7_addWord_115 : decode cX7_addWord 115 = .ok (.aload 5, 2) := by decide +kernel
theorem dX7_addWord_117 : decode cX7_addWord 117 = .ok (.getfield 113, 3) := by decide +kernel
theorem dX7_addWord_120 : decode cX7_addWord 120 = .ok (.ireturn, 1) := by decide +kernel
theorem dX7_addAmount_0 : decode cX7_addAmount 0 = .ok (.aload_n 0, 1) := by decide +kernel
theorem dX7_addAmount_1 : decode cX7_addAmount 1 = .ok (.iload_n 1, 1) := by decide +kernel
theorem dX7_addAmount_2 : decode cX7_addAmount 2 = .ok (.invokevirtual 116, 3) := by decide +kernel
theorem dX7_addAmount_5 : decode cX7_addAmount 5 = .ok (.ifCond .eq 13, 3) := by decide +kernel
theorem dX7_addAmount_8 : decode cX7_addAmount 8 = .ok (.iload_n 2, 1) := by decide +kernel
theorem dX7_addAmount_9 : decode cX7_addAmount 9 = .ok (.iconst 0, 1) := by decide +kernel
theorem dX7_addAmount_10 : decode cX7_addAmount 10 = .ok (.ldc 125, 2) := by decide +kernel
theorem dX7_addAmount_12 : decode cX7_addAmount 12 = .ok (.invokestatic 38, 3) := by decide +kernel
theorem dX7_addAmount_15 : decode cX7_addAmount 15 = .ok (.ifCond .ne 5, 3) := by decide +kernel
theorem dX7_addAmount_18 : decode cX7_addAmount 18 = .ok (.iconst (-1), 1) := by decide +kernel
theorem dX7_addAmount_19 : decode cX7_addAmount 19 = .ok (.ireturn, 1) := by decide +kernel
theorem dX7_addAmount_20 : decode cX7_addAmount 20 = .ok (.aload_n 0, 1) := by decide +kernel
theorem dX7_addAmount_21 : decode cX7_addAmount 21 = .ok (.getfield 12, 3) := by decide +kernel
theorem dX7_addAmount_24 : decode cX7_addAmount 24 = .ok (.getfield 104, 3) := by decide +kernel
theorem dX7_addAmount_27 : decode cX7_addAmount 27 = .ok (.iload_n 1, 1) := by decide +kernel
theorem dX7_addAmount_28 : decode cX7_addAmount 28 = .ok (.aaload, 1) := by decide +kernel
theorem dX7_addAmount_29 : decode cX7_addAmount 29 = .ok (.astore_n 3, 1) := by decide +kernel
theorem dX7_addAmount_30 : decode cX7_addAmount 30 = .ok (.iload_n 2, 1) := by decide +kernel
theorem dX7_addAmount_31 : decode cX7_addAmount 31 = .ok (.bipush 100, 2) := by decide +kernel
theorem dX7_addAmount_33 : decode cX7_addAmount 33 = .ok (.idiv, 1) := by decide +kernel
theorem dX7_addAmount_34 : decode cX7_addAmount 34 = .ok (.istore 4, 2) := by decide +kernel
theorem dX7_addAmount_36 : decode cX7_addAmount 36 = .ok (.aload_n 3, 1) := by decide +kernel
theorem dX7_addAmount_37 : decode cX7_addAmount 37 = .ok (.getfield 113, 3) := by decide +kernel
theorem dX7_addAmount_40 : decode cX7_addAmount 40 = .ok (.iconst 1, 1) := by decide +kernel
theorem dX7_addAmount_41 : decode cX7_addAmount 41 = .ok (.iadd, 1) := by decide +kernel
theorem dX7_addAmount_42 : decode cX7_addAmount 42 = .ok (.iload 4, 2) := by decide +kernel
theorem dX7_addAmount_44 : decode cX7_addAmount 44 = .ok (.invokestatic 126, 3) := by decide +kernel
theorem dX7_addAmount_47 : decode cX7_addAmount 47 = .ok (.iadd, 1) := by decide +kernel
theorem dX7_addAmount_48 : decode cX7_addAmount 48 = .ok (.iconst 3, 1) := by decide +kernel
theorem dX7_addAmount_49 : decode cX7_addAmount 49 = .ok (.iadd, 1) := by decide +kernel
theorem dX7_addAmount_50 : decode cX7_addAmount 50 = .ok (.bipush 80, 2) := by decide +kernel
theorem dX7_addAmount_52 : decode cX7_addAmount 52 = .ok (.if_icmp .le 6, 3) := by decide +kernel
theorem dX7_addAmount_55 : decode cX7_addAmount 55 = .ok (.bipush (-3), 2) := by decide +kernel
theorem dX7_addAmount_57 : decode cX7_addAmount 57 = .ok (.ireturn, 1) := by decide +kernel
theorem dX7_addAmount_58 : decode cX7_addAmount 58 = .ok (.aload_n 0, 1) := by decide +kernel
theorem dX7_addAmount_59 : decode cX7_addAmount 59 = .ok (.invokevirtual 42, 3) := by decide +kernel
theorem dX7_addAmount_62 : decode cX7_addAmount 62 = .ok (.aload_n 3, 1) := by decide +kernel
theorem dX7_addAmount_63 : decode cX7_addAmount 63 = .ok (.bipush 9, 2) := by decide +kernel
theorem dX7_addAmount_65 : decode cX7_addAmount 65 = .ok (.invokevirtual 122, 3) := by decide +kernel
theorem dX7_addAmount_68 : decode cX7_addAmount 68 = .ok (.sipush 10000, 3) := by decide +kernel
theorem dX7_addAmount_71 : decode cX7_addAmount 71 = .ok (.istore 5, 2) := by decide +kernel
theorem dX7_addAmount_73 : decode cX7_addAmount 73 = .ok (.iload 5, 2) := by decide +kernel
theorem dX7_addAmount_75 : decode cX7_addAmount 75 = .ok (.ifCond .le 41, 3) := by decide +kernel
theorem dX7_addAmount_78 : decode cX7_addAmount 78 = .ok (.iload 5, 2) := by decide +kernel
theorem dX7_addAmount_80 : decode cX7_addAmount 80 = .ok (.iconst 1, 1) := by decide +kernel
theorem dX7_addAmount_81 : decode cX7_addAmount 81 = .ok (.if_icmp .eq 10, 3) := by decide +kernel
theorem dX7_addAmount_84 : decode cX7_addAmount 84 = .ok (.iload 4, 2) := by decide +kernel
theorem dX7_addAmount_86 : decode cX7_addAmount 86 = .ok (.iload 5, 2) := by decide +kernel
theorem dX7_addAmount_88 : decode cX7_addAmount 88 = .ok (.if_icmp .lt 18, 3) := by decide +kernel
theorem dX7_addAmount_91 : decode cX7_addAmount 91 = .ok (.aload_n 3, 1) := by decide +kernel
theorem dX7_addAmount_92 : decode cX7_addAmount 92 = .ok (.bipush 48, 2) := by decide +kernel
theorem dX7_addAmount_94 : decode cX7_addAmount 94 = .ok (.iload 4, 2) := by decide +kernel
theorem dX7_addAmount_96 : decode cX7_addAmount 96 = .ok (.iload 5, 2) := by decide +kernel
theorem dX7_addAmount_98 : decode cX7_addAmount 98 = .ok (.idiv, 1) := by decide +kernel
theorem dX7_addAmount_99 : decode cX7_addAmount 99 = .ok (.bipush 10, 2) := by decide +kernel
theorem dX7_addAmount_101 : decode cX7_addAmount 101 = .ok (.irem, 1) := by decide +kernel
theorem dX7_addAmount_102 : decode cX7_addAmount 102 = .ok (.iadd, 1) := by decide +kernel
theorem dX7_addAmount_103 : decode cX7_addAmount 103 = .ok (.invokevirtual 122, 3) := by decide +kernel
theorem dX7_addAmount_106 : decode cX7_addAmount 106 = .ok (.iload 5, 2) := by decide +kernel
theorem dX7_addAmount_108 : decode cX7_addAmount 108 = .ok (.bipush 10, 2) := by decide +kernel
theorem dX7_addAmount_110 : decode cX7_addAmount 110 = .ok (.idiv, 1) := by decide +kernel
theorem dX7_addAmount_111 : decode cX7_addAmount 111 = .ok (.istore 5, 2) := by decide +kernel
theorem dX7_addAmount_113 : decode cX7_addAmount 113 = .ok (.goto (-40), 3) := by decide +kernel
theorem dX7_addAmount_116 : decode cX7_addAmount 116 = .ok (.aload_n 3, 1) := by decide +kernel
theorem dX7_addAmount_117 : decode cX7_addAmount 117 = .ok (.bipush 46, 2) := by decide +kernel
theorem dX7_addAmount_119 : decode cX7_addAmount 119 = .ok (.invokevirtual 122, 3) := by decide +kernel
theorem dX7_addAmount_122 : decode cX7_addAmount 122 = .ok (.aload_n 3, 1) := by decide +kernel
theorem dX7_addAmount_123 : decode cX7_addAmount 123 = .ok (.bipush 48, 2) := by decide +kernel
theorem dX7_addAmount_125 : decode cX7_addAmount 125 = .ok (.iload_n 2, 1) := by decide +kernel
theorem dX7_addAmount_126 : decode cX7_addAmount 126 = .ok (.bipush 10, 2) := by decide +kernel
theorem dX7_addAmount_128 : decode cX7_addAmount 128 = .ok (.idiv, 1) := by decide +kernel
theorem dX7_addAmount_129 : decode cX7_addAmount 129 = .ok (.bipush 10, 2) := by decide +kernel
theorem dX7_addAmount_131 : decode cX7_addAmount 131 = .ok (.irem, 1) := by decide +kernel
theorem dX7_addAmount_132 : decode cX7_addAmount 132 = .ok (.iadd, 1) := by decide +kernel
theorem dX7_addAmount_133 : decode cX7_addAmount 133 = .ok (.invokevirtual 122, 3) := by decide +kernel
theorem dX7_addAmount_136 : decode cX7_addAmount 136 = .ok (.aload_n 3, 1) := by decide +kernel
theorem dX7_addAmount_137 : decode cX7_addAmount 137 = .ok (.bipush 48, 2) := by decide +kernel
theorem dX7_addAmount_139 : decode cX7_addAmount 139 = .ok (.iload_n 2, 1) := by decide +kernel
theorem dX7_addAmount_140 : decode cX7_addAmount 140 = .ok (.bipush 10, 2) := by decide +kernel
theorem dX7_addAmount_142 : decode cX7_addAmount 142 = .ok (.irem, 1) := by decide +kernel
theorem dX7_addAmount_143 : decode cX7_addAmount 143 = .ok (.iadd, 1) := by decide +kernel
theorem dX7_addAmount_144 : decode cX7_addAmount 144 = .ok (.invokevirtual 122, 3) := by decide +kernel
theorem dX7_addAmount_147 : decode cX7_addAmount 147 = .ok (.aload_n 3, 1) := by decide +kernel
theorem dX7_addAmount_148 : decode cX7_addAmount 148 = .ok (.getfield 113, 3) := by decide +kernel
theorem dX7_addAmount_151 : decode cX7_addAmount 151 = .ok (.ireturn, 1) := by decide +kernel
theorem dX7_count_0 : decode cX7_count 0 = .ok (.iload_n 1, 1) := by decide +kernel
theorem dX7_count_1 : decode cX7_count 1 = .ok (.tableswitch 118 0 5 #[39, 47, 55, 63, 108, 113], 39) := by decide +kernel
theorem dX7_count_40 : decode cX7_count 40 = .ok (.aload_n 0, 1) := by decide +kernel
theorem dX7_count_41 : decode cX7_count 41 = .ok (.getfield 12, 3) := by decide +kernel
theorem dX7_count_44 : decode cX7_count 44 = .ok (.getfield 45, 3) := by decide +kernel
theorem dX7_count_47 : decode cX7_count 47 = .ok (.ireturn, 1) := by decide +kernel
theorem dX7_count_48 : decode cX7_count 48 = .ok (.aload_n 0, 1) := by decide +kernel
theorem dX7_count_49 : decode cX7_count 49 = .ok (.getfield 12, 3) := by decide +kernel
theorem dX7_count_52 : decode cX7_count 52 = .ok (.getfield 49, 3) := by decide +kernel
theorem dX7_count_55 : decode cX7_count 55 = .ok (.ireturn, 1) := by decide +kernel
theorem dX7_count_56 : decode cX7_count 56 = .ok (.aload_n 0, 1) := by decide +kernel
theorem dX7_count_57 : decode cX7_count 57 = .ok (.getfield 12, 3) := by decide +kernel
theorem dX7_count_60 : decode cX7_count 60 = .ok (.getfield 101, 3) := by decide +kernel
theorem dX7_count_63 : decode cX7_count 63 = .ok (.ireturn, 1) := by decide +kernel
theorem dX7_count_64 : decode cX7_count 64 = .ok (.iconst 0, 1) := by decide +kernel
theorem dX7_count_65 : decode cX7_count 65 = .ok (.istore_n 2, 1) := by decide +kernel
theorem dX7_count_66 : decode cX7_count 66 = .ok (.iconst 0, 1) := by decide +kernel
theorem dX7_count_67 : decode cX7_count 67 = .ok (.istore_n 3, 1) := by decide +kernel
theorem dX7_count_68 : decode cX7_count 68 = .ok (.iload_n 3, 1) := by decide +kernel
theorem dX7_count_69 : decode cX7_count 69 = .ok (.aload_n 0, 1) := by decide +kernel
theorem dX7_count_70 : decode cX7_count 70 = .ok (.getfield 12, 3) := by decide +kernel
theorem dX7_count_73 : decode cX7_count 73 = .ok (.getfield 101, 3) := by decide +kernel
theorem dX7_count_76 : decode cX7_count 76 = .ok (.if_icmp .ge 31, 3) := by decide +kernel
theorem dX7_count_79 : decode cX7_count 79 = .ok (.aload_n 0, 1) := by decide +kernel
theorem dX7_count_80 : decode cX7_count 80 = .ok (.iload_n 3, 1) := by decide +kernel
theorem dX7_count_81 : decode cX7_count 81 = .ok (.aload_n 0, 1) := by decide +kernel
theorem dX7_count_82 : decode cX7_count 82 = .ok (.getfield 12, 3) := by decide +kernel
theorem dX7_count_85 : decode cX7_count 85 = .ok (.getfield 45, 3) := by decide +kernel
theorem dX7_count_88 : decode cX7_count 88 = .ok (.invokevirtual 129, 3) := by decide +kernel
theorem dX7_count_91 : decode cX7_count 91 = .ok (.iload_n 2, 1) := by decide +kernel
theorem dX7_count_92 : decode cX7_count 92 = .ok (.aload_n 0, 1) := by decide +kernel
theorem dX7_count_93 : decode cX7_count 93 = .ok (.getfield 34, 3) := by decide +kernel
theorem dX7_count_96 : decode cX7_count 96 = .ok (.invokevirtual 133, 3) := by decide +kernel
theorem dX7_count_99 : decode cX7_count 99 = .ok (.iadd, 1) := by decide +kernel
theorem dX7_count_100 : decode cX7_count 100 = .ok (.istore_n 2, 1) := by decide +kernel
theorem dX7_count_101 : decode cX7_count 101 = .ok (.iinc 3 1, 3) := by decide +kernel
theorem dX7_count_104 : decode cX7_count 104 = .ok (.goto (-36), 3) := by decide +kernel
theorem dX7_count_107 : decode cX7_count 107 = .ok (.iload_n 2, 1) := by decide +kernel
theorem dX7_count_108 : decode cX7_count 108 = .ok (.ireturn, 1) := by decide +kernel
theorem dX7_count_109 : decode cX7_count 109 = .ok (.aload_n 0, 1) := by decide +kernel
theorem dX7_count_110 : decode cX7_count 110 = .ok (.getfield 86, 3) := by decide +kernel
theorem dX7_count_113 : decode cX7_count 113 = .ok (.ireturn, 1) := by decide +kernel
theorem dX7_count_114 : decode cX7_count 114 = .ok (.aload_n 0, 1) := by decide +kernel
theorem dX7_count_115 : decode cX7_count 115 = .ok (.getfield 137, 3) := by decide +kernel
theorem dX7_count_118 : decode cX7_count 118 = .ok (.ireturn, 1) := by decide +kernel
theorem dX7_count_119 : decode cX7_count 119 = .ok (.iconst (-1), 1) := by decide +kernel
theorem dX7_count_120 : decode cX7_count 120 = .ok (.ireturn, 1) := by decide +kernel
theorem dX7_style_0 : decode cX7_style 0 = .ok (.aload_n 0, 1) := by decide +kernel
theorem dX7_style_1 : decode cX7_style 1 = .ok (.iload_n 1, 1) := by decide +kernel
theorem dX7_style_2 : decode cX7_style 2 = .ok (.invokevirtual 52, 3) := by decide +kernel
theorem dX7_style_5 : decode cX7_style 5 = .ok (.ifCond .ne 5, 3) := by decide +kernel
theorem dX7_style_8 : decode cX7_style 8 = .ok (.iconst (-1), 1) := by decide +kernel
theorem dX7_style_9 : decode cX7_style 9 = .ok (.ireturn, 1) := by decide +kernel
theorem dX7_style_10 : decode cX7_style 10 = .ok (.aload_n 0, 1) := by decide +kernel
theorem dX7_style_11 : decode cX7_style 11 = .ok (.getfield 12, 3) := by decide +kernel
theorem dX7_style_14 : decode cX7_style 14 = .ok (.getfield 56, 3) := by decide +kernel
theorem dX7_style_17 : decode cX7_style 17 = .ok (.iload_n 1, 1) := by decide +kernel
theorem dX7_style_18 : decode cX7_style 18 = .ok (.aaload, 1) := by decide +kernel
theorem dX7_style_19 : decode cX7_style 19 = .ok (.astore_n 3, 1) := by decide +kernel
theorem dX7_style_20 : decode cX7_style 20 = .ok (.iload_n 2, 1) := by decide +kernel
theorem dX7_style_21 : decode cX7_style 21 = .ok (.tableswitch 63 0 3 #[31, 36, 41, 48], 31) := by decide +kernel
theorem dX7_style_52 : decode cX7_style 52 = .ok (.aload_n 3, 1) := by decide +kernel
theorem dX7_style_53 : decode cX7_style 53 = .ok (.getfield 60, 3) := by decide +kernel
theorem dX7_style_56 : decode cX7_style 56 = .ok (.ireturn, 1) := by decide +kernel
theorem dX7_style_57 : decode cX7_style 57 = .ok (.aload_n 3, 1) := by decide +kernel
theorem dX7_style_58 : decode cX7_style 58 = .ok (.getfield 65, 3) := by decide +kernel
theorem dX7_style_61 : decode cX7_style 61 = .ok (.ireturn, 1) := by decide +kernel
theorem dX7_style_62 : decode cX7_style 62 = .ok (.aload_n 3, 1) := by decide +kernel
theorem dX7_style_63 : decode cX7_style 63 = .ok (.bipush 81, 2) := by decide +kernel
theorem dX7_style_65 : decode cX7_style 65 = .ok (.invokevirtual 71, 3) := by decide +kernel
theorem dX7_style_68 : decode cX7_style 68 = .ok (.ireturn, 1) := by decide +kernel
theorem dX7_style_69 : decode cX7_style 69 = .ok (.aload_n 3, 1) := by decide +kernel
theorem dX7_style_70 : decode cX7_style 70 = .ok (.invokevirtual 140, 3) := by decide +kernel
theorem dX7_style_73 : decode cX7_style 73 = .ok (.aload_n 0, 1) := by decide +kernel
theorem dX7_style_74 : decode cX7_style 74 = .ok (.getfield 12, 3) := by decide +kernel
theorem dX7_style_77 : decode cX7_style 77 = .ok (.getfield 49, 3) := by decide +kernel
theorem dX7_style_80 : decode cX7_style 80 = .ok (.invokestatic 143, 3) := by decide +kernel
theorem dX7_style_83 : decode cX7_style 83 = .ok (.ireturn, 1) := by decide +kernel
theorem dX7_style_84 : decode cX7_style 84 = .ok (.iconst (-1), 1) := by decide +kernel
theorem dX7_style_85 : decode cX7_style 85 = .ok (.ireturn, 1) := by decide +kernel
theorem dX7_stop_0 : decode cX7_stop 0 = .ok (.aload_n 0, 1) := by decide +kernel
theorem dX7_stop_1 : decode cX7_stop 1 = .ok (.iload_n 1, 1) := by decide +kernel
theorem dX7_stop_2 : decode cX7_stop 2 = .ok (.invokevirtual 52, 3) := by decide +kernel
theorem dX7_stop_5 : decode cX7_stop 5 = .ok (.ifCond .eq 16, 3) := by decide +kernel
theorem dX7_stop_8 : decode cX7_stop 8 = .ok (.iload_n 2, 1) := by decide +kernel
theorem dX7_stop_9 : decode cX7_stop 9 = .ok (.ifCond .lt 12, 3) := by decide +kernel
theorem dX7_stop_12 : decode cX7_stop 12 = .ok (.iload_n 3, 1) := by decide +kernel
theorem dX7_stop_13 : decode cX7_stop 13 = .ok (.iconst 0, 1) := by decide +kernel
theorem dX7_stop_14 : decode cX7_stop 14 = .ok (.iconst 2, 1) := by decide +kernel
theorem dX7_stop_15 : decode cX7_stop 15 = .ok (.invokestatic 38, 3) := by decide +kernel
theorem dX7_stop_18 : decode cX7_stop 18 = .ok (.ifCond .ne 5, 3) := by decide +kernel
theorem dX7_stop_21 : decode cX7_stop 21 = .ok (.iconst (-1), 1) := by decide +kernel
theorem dX7_stop_22 : decode cX7_stop 22 = .ok (.ireturn, 1) := by decide +kernel
theorem dX7_stop_23 : decode cX7_stop 23 = .ok (.aload_n 0, 1) := by decide +kernel
theorem dX7_stop_24 : decode cX7_stop 24 = .ok (.getfield 12, 3) := by decide +kernel
theorem dX7_stop_27 : decode cX7_stop 27 = .ok (.getfield 56, 3) := by decide +kernel
theorem dX7_stop_30 : decode cX7_stop 30 = .ok (.iload_n 1, 1) := by decide +kernel
theorem dX7_stop_31 : decode cX7_stop 31 = .ok (.aaload, 1) := by decide +kernel
theorem dX7_stop_32 : decode cX7_stop 32 = .ok (.astore 4, 2) := by decide +kernel
theorem dX7_stop_34 : decode cX7_stop 34 = .ok (.aload 4, 2) := by decide +kernel
theorem dX7_stop_36 : decode cX7_stop 36 = .ok (.iload_n 2, 1) := by decide +kernel
theorem dX7_stop_37 : decode cX7_stop 37 = .ok (.invokevirtual 79, 3) := by decide +kernel
theorem dX7_stop_40 : decode cX7_stop 40 = .ok (.istore 5, 2) := by decide +kernel
theorem dX7_stop_42 : decode cX7_stop 42 = .ok (.iload 5, 2) := by decide +kernel
theorem dX7_stop_44 : decode cX7_stop 44 = .ok (.bipush (-9), 2) := by decide +kernel
theorem dX7_stop_46 : decode cX7_stop 46 = .ok (.if_icmp .eq 7, 3) := by decide +kernel
theorem dX7_stop_49 : decode cX7_stop 49 = .ok (.iload_n 3, 1) := by decide +kernel
theorem dX7_stop_50 : decode cX7_stop 50 = .ok (.ifCond .ne 6, 3) := by decide +kernel
theorem dX7_stop_53 : decode cX7_stop 53 = .ok (.iload 5, 2) := by decide +kernel
theorem dX7_stop_55 : decode cX7_stop 55 = .ok (.ireturn, 1) := by decide +kernel
theorem dX7_stop_56 : decode cX7_stop 56 = .ok (.iload_n 3, 1) := by decide +kernel
theorem dX7_stop_57 : decode cX7_stop 57 = .ok (.iconst 1, 1) := by decide +kernel
theorem dX7_stop_58 : decode cX7_stop 58 = .ok (.if_icmp .ne 13, 3) := by decide +kernel
theorem dX7_stop_61 : decode cX7_stop 61 = .ok (.aload 4, 2) := by decide +kernel
theorem dX7_stop_63 : decode cX7_stop 63 = .ok (.iload 5, 2) := by decide +kernel
theorem dX7_stop_65 : decode cX7_stop 65 = .ok (.invokevirtual 147, 3) := by decide +kernel
theorem dX7_stop_68 : decode cX7_stop 68 = .ok (.goto 10, 3) := by decide +kernel
theorem dX7_stop_71 : decode cX7_stop 71 = .ok (.aload 4, 2) := by decide +kernel
theorem dX7_stop_73 : decode cX7_stop 73 = .ok (.iload 5, 2) := by decide +kernel
theorem dX7_stop_75 : decode cX7_stop 75 = .ok (.invokevirtual 150, 3) := by decide +kernel
theorem dX7_stop_78 : decode cX7_stop 78 = .ok (.ireturn, 1) := by decide +kernel
theorem dX7_character_0 : decode cX7_character 0 = .ok (.aload_n 0, 1) := by decide +kernel
theorem dX7_character_1 : decode cX7_character 1 = .ok (.iload_n 1, 1) := by decide +kernel
theorem dX7_character_2 : decode cX7_character 2 = .ok (.invokevirtual 116, 3) := by decide +kernel
theorem dX7_character_5 : decode cX7_character 5 = .ok (.ifCond .eq 7, 3) := by decide +kernel
theorem dX7_character_8 : decode cX7_character 8 = .ok (.iload_n 2, 1) := by decide +kernel
theorem dX7_character_9 : decode cX7_character 9 = .ok (.ifCond .ge 5, 3) := by decide +kernel
theorem dX7_character_12 : decode cX7_character 12 = .ok (.iconst (-1), 1) := by decide +kernel
theorem dX7_character_13 : decode cX7_character 13 = .ok (.ireturn, 1) := by decide +kernel
theorem dX7_character_14 : decode cX7_character 14 = .ok (.aload_n 0, 1) := by decide +kernel
theorem dX7_character_15 : decode cX7_character 15 = .ok (.getfield 12, 3) := by decide +kernel
theorem dX7_character_18 : decode cX7_character 18 = .ok (.getfield 104, 3) := by decide +kernel
theorem dX7_character_21 : decode cX7_character 21 = .ok (.iload_n 1, 1) := by decide +kernel
theorem dX7_character_22 : decode cX7_character 22 = .ok (.aaload, 1) := by decide +kernel
theorem dX7_character_23 : decode cX7_character 23 = .ok (.iload_n 2, 1) := by decide +kernel
theorem dX7_character_24 : decode cX7_character 24 = .ok (.invokevirtual 153, 3) := by decide +kernel
theorem dX7_character_27 : decode cX7_character 27 = .ok (.ireturn, 1) := by decide +kernel
theorem dX7_lines_0 : decode cX7_lines 0 = .ok (.aload_n 0, 1) := by decide +kernel
theorem dX7_lines_1 : decode cX7_lines 1 = .ok (.iload_n 1, 1) := by decide +kernel
theorem dX7_lines_2 : decode cX7_lines 2 = .ok (.invokevirtual 116, 3) := by decide +kernel
theorem dX7_lines_5 : decode cX7_lines 5 = .ok (.ifCond .ne 5, 3) := by decide +kernel
theorem dX7_lines_8 : decode cX7_lines 8 = .ok (.iconst (-1), 1) := by decide +kernel
theorem dX7_lines_9 : decode cX7_lines 9 = .ok (.ireturn, 1) := by decide +kernel
theorem dX7_lines_10 : decode cX7_lines 10 = .ok (.aload_n 0, 1) := by decide +kernel
theorem dX7_lines_11 : decode cX7_lines 11 = .ok (.iload_n 1, 1) := by decide +kernel
theorem dX7_lines_12 : decode cX7_lines 12 = .ok (.aload_n 0, 1) := by decide +kernel
theorem dX7_lines_13 : decode cX7_lines 13 = .ok (.getfield 12, 3) := by decide +kernel
theorem dX7_lines_16 : decode cX7_lines 16 = .ok (.getfield 45, 3) := by decide +kernel
theorem dX7_lines_19 : decode cX7_lines 19 = .ok (.invokevirtual 129, 3) := by decide +kernel
theorem dX7_lines_22 : decode cX7_lines 22 = .ok (.aload_n 0, 1) := by decide +kernel
theorem dX7_lines_23 : decode cX7_lines 23 = .ok (.getfield 34, 3) := by decide +kernel
theorem dX7_lines_26 : decode cX7_lines 26 = .ok (.invokevirtual 133, 3) := by decide +kernel
theorem dX7_lines_29 : decode cX7_lines 29 = .ok (.ireturn, 1) := by decide +kernel
theorem dX7_cell_0 : decode cX7_cell 0 = .ok (.aload_n 0, 1) := by decide +kernel
theorem dX7_cell_1 : decode cX7_cell 1 = .ok (.iload_n 1, 1) := by decide +kernel
theorem dX7_cell_2 : decode cX7_cell 2 = .ok (.invokevirtual 116, 3) := by decide +kernel
theorem dX7_cell_5 : decode cX7_cell 5 = .ok (.ifCond .eq 24, 3) := by decide +kernel
theorem dX7_cell_8 : decode cX7_cell 8 = .ok (.iload_n 2, 1) := by decide +kernel
theorem dX7_cell_9 : decode cX7_cell 9 = .ok (.ifCond .lt 20, 3) := by decide +kernel
theorem dX7_cell_12 : decode cX7_cell 12 = .ok (.iload_n 3, 1) := by decide +kernel
theorem dX7_cell_13 : decode cX7_cell 13 = .ok (.iconst 0, 1) := by decide +kernel
theorem dX7_cell_14 : decode cX7_cell 14 = .ok (.aload_n 0, 1) := by decide +kernel
theorem dX7_cell_15 : decode cX7_cell 15 = .ok (.getfield 12, 3) := by decide +kernel
theorem dX7_cell_18 : decode cX7_cell 18 = .ok (.getfield 45, 3) := by decide +kernel
theorem dX7_cell_21 : decode cX7_cell 21 = .ok (.iconst 1, 1) := by decide +kernel
theorem dX7_cell_22 : decode cX7_cell 22 = .ok (.isub, 1) := by decide +kernel
theorem dX7_cell_23 : decode cX7_cell 23 = .ok (.invokestatic 38, 3) := by decide +kernel
theorem dX7_cell_26 : decode cX7_cell 26 = .ok (.ifCond .ne 5, 3) := by decide +kernel
theorem dX7_cell_29 : decode cX7_cell 29 = .ok (.iconst (-1), 1) := by decide +kernel
theorem dX7_cell_30 : decode cX7_cell 30 = .ok (.ireturn, 1) := by decide +kernel
theorem dX7_cell_31 : decode cX7_cell 31 = .ok (.aload_n 0, 1) := by decide +kernel
theorem dX7_cell_32 : decode cX7_cell 32 = .ok (.iload_n 1, 1) := by decide +kernel
theorem dX7_cell_33 : decode cX7_cell 33 = .ok (.aload_n 0, 1) := by decide +kernel
theorem dX7_cell_34 : decode cX7_cell 34 = .ok (.getfield 12, 3) := by decide +kernel
theorem dX7_cell_37 : decode cX7_cell 37 = .ok (.getfield 45, 3) := by decide +kernel
theorem dX7_cell_40 : decode cX7_cell 40 = .ok (.invokevirtual 129, 3) := by decide +kernel
theorem dX7_cell_43 : decode cX7_cell 43 = .ok (.iload_n 2, 1) := by decide +kernel
theorem dX7_cell_44 : decode cX7_cell 44 = .ok (.aload_n 0, 1) := by decide +kernel
theorem dX7_cell_45 : decode cX7_cell 45 = .ok (.getfield 34, 3) := by decide +kernel
theorem dX7_cell_48 : decode cX7_cell 48 = .ok (.invokevirtual 133, 3) := by decide +kernel
theorem dX7_cell_51 : decode cX7_cell 51 = .ok (.if_icmp .lt 6, 3) := by decide +kernel
theorem dX7_cell_54 : decode cX7_cell 54 = .ok (.bipush (-9), 2) := by decide +kernel
theorem dX7_cell_56 : decode cX7_cell 56 = .ok (.ireturn, 1) := by decide +kernel
theorem dX7_cell_57 : decode cX7_cell 57 = .ok (.aload_n 0, 1) := by decide +kernel
theorem dX7_cell_58 : decode cX7_cell 58 = .ok (.getfield 34, 3) := by decide +kernel
theorem dX7_cell_61 : decode cX7_cell 61 = .ok (.getfield 156, 3) := by decide +kernel
theorem dX7_cell_64 : decode cX7_cell 64 = .ok (.astore 4, 2) := by decide +kernel
theorem dX7_cell_66 : decode cX7_cell 66 = .ok (.aload 4, 2) := by decide +kernel
theorem dX7_cell_68 : decode cX7_cell 68 = .ok (.iload_n 2, 1) := by decide +kernel
theorem dX7_cell_69 : decode cX7_cell 69 = .ok (.iload_n 3, 1) := by decide +kernel
theorem dX7_cell_70 : decode cX7_cell 70 = .ok (.invokevirtual 160, 3) := by decide +kernel
theorem dX7_cell_73 : decode cX7_cell 73 = .ok (.istore 5, 2) := by decide +kernel
theorem dX7_cell_75 : decode cX7_cell 75 = .ok (.iload 5, 2) := by decide +kernel
theorem dX7_cell_77 : decode cX7_cell 77 = .ok (.iconst (-1), 1) := by decide +kernel
theorem dX7_cell_78 : decode cX7_cell 78 = .ok (.if_icmp .ne 24, 3) := by decide +kernel
theorem dX7_cell_81 : decode cX7_cell 81 = .ok (.aload_n 0, 1) := by decide +kernel
theorem dX7_cell_82 : decode cX7_cell 82 = .ok (.iload_n 1, 1) := by decide +kernel
theorem dX7_cell_83 : decode cX7_cell 83 = .ok (.invokevirtual 165, 3) := by decide +kernel
theorem dX7_cell_86 : decode cX7_cell 86 = .ok (.iload_n 3, 1) := by decide +kernel
theorem dX7_cell_87 : decode cX7_cell 87 = .ok (.invokevirtual 147, 3) := by decide +kernel
theorem dX7_cell_90 : decode cX7_cell 90 = .ok (.iconst 4, 1) := by decide +kernel
theorem dX7_cell_91 : decode cX7_cell 91 = .ok (.if_icmp .ne 8, 3) := by decide +kernel
theorem dX7_cell_94 : decode cX7_cell 94 = .ok (.bipush 124, 2) := by decide +kernel
theorem dX7_cell_96 : decode cX7_cell 96 = .ok (.goto 5, 3) := by decide +kernel
theorem dX7_cell_99 : decode cX7_cell 99 = .ok (.bipush 32, 2) := by decide +kernel
theorem dX7_cell_101 : decode cX7_cell 101 = .ok (.ireturn, 1) := by decide +kernel
theorem dX7_cell_102 : decode cX7_cell 102 = .ok (.aload 4, 2) := by decide +kernel
theorem dX7_cell_104 : decode cX7_cell 104 = .ok (.getfield 169, 3) := by decide +kernel
theorem dX7_cell_107 : decode cX7_cell 107 = .ok (.iload 5, 2) := by decide +kernel
theorem dX7_cell_109 : decode cX7_cell 109 = .ok (.iaload, 1) := by decide +kernel
theorem dX7_cell_110 : decode cX7_cell 110 = .ok (.ifCond .eq 15, 3) := by decide +kernel
theorem dX7_cell_113 : decode cX7_cell 113 = .ok (.aload 4, 2) := by decide +kernel
theorem dX7_cell_115 : decode cX7_cell 115 = .ok (.getfield 169, 3) := by decide +kernel
theorem dX7_cell_118 : decode cX7_cell 118 = .ok (.iload 5, 2) := by decide +kernel
theorem dX7_cell_120 : decode cX7_cell 120 = .ok (.iaload, 1) := by decide +kernel
theorem dX7_cell_121 : decode cX7_cell 121 = .ok (.invokestatic 172, 3) := by decide +kernel
theorem dX7_cell_124 : decode cX7_cell 124 = .ok (.ireturn, 1) := by decide +kernel
theorem dX7_cell_125 : decode cX7_cell 125 = .ok (.aload 4, 2) := by decide +kernel
theorem dX7_cell_127 : decode cX7_cell 127 = .ok (.getfield 175, 3) := by decide +kernel
theorem dX7_cell_130 : decode cX7_cell 130 = .ok (.iload 5, 2) := by decide +kernel
theorem dX7_cell_132 : decode cX7_cell 132 = .ok (.iaload, 1) := by decide +kernel
theorem dX7_cell_133 : decode cX7_cell 133 = .ok (.iload_n 3, 1) := by decide +kernel
theorem dX7_cell_134 : decode cX7_cell 134 = .ok (.iadd, 1) := by decide +kernel
theorem dX7_cell_135 : decode cX7_cell 135 = .ok (.aload 4, 2) := by decide +kernel
theorem dX7_cell_137 : decode cX7_cell 137 = .ok (.getfield 178, 3) := by decide +kernel
theorem dX7_cell_140 : decode cX7_cell 140 = .ok (.iload 5, 2) := by decide +kernel
theorem dX7_cell_142 : decode cX7_cell 142 = .ok (.iaload, 1) := by decide +kernel
theorem dX7_cell_143 : decode cX7_cell 143 = .ok (.isub, 1) := by decide +kernel
theorem dX7_cell_144 : decode cX7_cell 144 = .ok (.istore 6, 2) := by decide +kernel
theorem dX7_cell_146 : decode cX7_cell 146 = .ok (.aload_n 0, 1) := by decide +kernel
theorem dX7_cell_147 : decode cX7_cell 147 = .ok (.getfield 12, 3) := by decide +kernel
theorem dX7_cell_150 : decode cX7_cell 150 = .ok (.getfield 104, 3) := by decide +kernel
theorem dX7_cell_153 : decode cX7_cell 153 = .ok (.iload_n 1, 1) := by decide +kernel
theorem dX7_cell_154 : decode cX7_cell 154 = .ok (.aaload, 1) := by decide +kernel
theorem dX7_cell_155 : decode cX7_cell 155 = .ok (.iload 6, 2) := by decide +kernel
theorem dX7_cell_157 : decode cX7_cell 157 = .ok (.invokevirtual 153, 3) := by decide +kernel
theorem dX7_cell_160 : decode cX7_cell 160 = .ok (.ireturn, 1) := by decide +kernel
theorem dX7_field_0 : decode cX7_field 0 = .ok (.aload_n 0, 1) := by decide +kernel
theorem dX7_field_1 : decode cX7_field 1 = .ok (.iload_n 1, 1) := by decide +kernel
theorem dX7_field_2 : decode cX7_field 2 = .ok (.invokevirtual 116, 3) := by decide +kernel
theorem dX7_field_5 : decode cX7_field 5 = .ok (.ifCond .eq 16, 3) := by decide +kernel
theorem dX7_field_8 : decode cX7_field 8 = .ok (.iload_n 2, 1) := by decide +kernel
theorem dX7_field_9 : decode cX7_field 9 = .ok (.ifCond .lt 12, 3) := by decide +kernel
theorem dX7_field_12 : decode cX7_field 12 = .ok (.iload_n 3, 1) := by decide +kernel
theorem dX7_field_13 : decode cX7_field 13 = .ok (.iconst 0, 1) := by decide +kernel
theorem dX7_field_14 : decode cX7_field 14 = .ok (.iconst 5, 1) := by decide +kernel
theorem dX7_field_15 : decode cX7_field 15 = .ok (.invokestatic 38, 3) := by decide +kernel
theorem dX7_field_18 : decode cX7_field 18 = .ok (.ifCond .ne 5, 3) := by decide +kernel
theorem dX7_field_21 : decode cX7_field 21 = .ok (.iconst (-1), 1) := by decide +kernel
theorem dX7_field_22 : decode cX7_field 22 = .ok (.ireturn, 1) := by decide +kernel
theorem dX7_field_23 : decode cX7_field 23 = .ok (.aload_n 0, 1) := by decide +kernel
theorem dX7_field_24 : decode cX7_field 24 = .ok (.iload_n 1, 1) := by decide +kernel
theorem dX7_field_25 : decode cX7_field 25 = .ok (.aload_n 0, 1) := by decide +kernel
theorem dX7_field_26 : decode cX7_field 26 = .ok (.getfield 12, 3) := by decide +kernel
theorem dX7_field_29 : decode cX7_field 29 = .ok (.getfield 45, 3) := by decide +kernel
theorem dX7_field_32 : decode cX7_field 32 = .ok (.invokevirtual 129, 3) := by decide +kernel
theorem dX7_field_35 : decode cX7_field 35 = .ok (.iload_n 2, 1) := by decide +kernel
theorem dX7_field_36 : decode cX7_field 36 = .ok (.aload_n 0, 1) := by decide +kernel
theorem dX7_field_37 : decode cX7_field 37 = .ok (.getfield 34, 3) := by decide +kernel
theorem dX7_field_40 : decode cX7_field 40 = .ok (.getfield 180, 3) := by decide +kernel
theorem dX7_field_43 : decode cX7_field 43 = .ok (.getfield 184, 3) := by decide +kernel
theorem dX7_field_46 : decode cX7_field 46 = .ok (.if_icmp .ge 9, 3) := by decide +kernel
theorem dX7_field_49 : decode cX7_field 49 = .ok (.iload_n 2, 1) := by decide +kernel
theorem dX7_field_50 : decode cX7_field 50 = .ok (.bipush 81, 2) := by decide +kernel
theorem dX7_field_52 : decode cX7_field 52 = .ok (.if_icmp .lt 6, 3) := by decide +kernel
theorem dX7_field_55 : decode cX7_field 55 = .ok (.bipush (-9), 2) := by decide +kernel
theorem dX7_field_57 : decode cX7_field 57 = .ok (.ireturn, 1) := by decide +kernel
theorem dX7_field_58 : decode cX7_field 58 = .ok (.aload_n 0, 1) := by decide +kernel
theorem dX7_field_59 : decode cX7_field 59 = .ok (.getfield 34, 3) := by decide +kernel
theorem dX7_field_62 : decode cX7_field 62 = .ok (.getfield 189, 3) := by decide +kernel
theorem dX7_field_65 : decode cX7_field 65 = .ok (.iload_n 2, 1) := by decide +kernel
theorem dX7_field_66 : decode cX7_field 66 = .ok (.aaload, 1) := by decide +kernel
theorem dX7_field_67 : decode cX7_field 67 = .ok (.iload_n 3, 1) := by decide +kernel
theorem dX7_field_68 : decode cX7_field 68 = .ok (.iaload, 1) := by decide +kernel
theorem dX7_field_69 : decode cX7_field 69 = .ok (.ireturn, 1) := by decide +kernel
theorem dX7_holds_0 : decode cX7_holds 0 = .ok (.aload_n 0, 1) := by decide +kernel
theorem dX7_holds_1 : decode cX7_holds 1 = .ok (.iload_n 1, 1) := by decide +kernel
theorem dX7_holds_2 : decode cX7_holds 2 = .ok (.invokevirtual 116, 3) := by decide +kernel
theorem dX7_holds_5 : decode cX7_holds 5 = .ok (.ifCond .eq 12, 3) := by decide +kernel
theorem dX7_holds_8 : decode cX7_holds 8 = .ok (.iload_n 2, 1) := by decide +kernel
theorem dX7_holds_9 : decode cX7_holds 9 = .ok (.iconst 0, 1) := by decide +kernel
theorem dX7_holds_10 : decode cX7_holds 10 = .ok (.iconst 3, 1) := by decide +kernel
theorem dX7_holds_11 : decode cX7_holds 11 = .ok (.invokestatic 38, 3) := by decide +kernel
theorem dX7_holds_14 : decode cX7_holds 14 = .ok (.ifCond .ne 5, 3) := by decide +kernel
theorem dX7_holds_17 : decode cX7_holds 17 = .ok (.iconst (-1), 1) := by decide +kernel
theorem dX7_holds_18 : decode cX7_holds 18 = .ok (.ireturn, 1) := by decide +kernel
theorem dX7_holds_19 : decode cX7_holds 19 = .ok (.aload_n 0, 1) := by decide +kernel
theorem dX7_holds_20 : decode cX7_holds 20 = .ok (.iload_n 1, 1) := by decide +kernel
theorem dX7_holds_21 : decode cX7_holds 21 = .ok (.aload_n 0, 1) := by decide +kernel
theorem dX7_holds_22 : decode cX7_holds 22 = .ok (.getfield 12, 3) := by decide +kernel
theorem dX7_holds_25 : decode cX7_holds 25 = .ok (.getfield 45, 3) := by decide +kernel
theorem dX7_holds_28 : decode cX7_holds 28 = .ok (.invokevirtual 129, 3) := by decide +kernel
theorem dX7_holds_31 : decode cX7_holds 31 = .ok (.aload_n 0, 1) := by decide +kernel
theorem dX7_holds_32 : decode cX7_holds 32 = .ok (.getfield 34, 3) := by decide +kernel
theorem dX7_holds_35 : decode cX7_holds 35 = .ok (.getfield 156, 3) := by decide +kernel
theorem dX7_holds_38 : decode cX7_holds 38 = .ok (.iconst 0, 1) := by decide +kernel
theorem dX7_holds_39 : decode cX7_holds 39 = .ok (.invokevirtual 193, 3) := by decide +kernel
theorem dX7_holds_42 : decode cX7_holds 42 = .ok (.istore_n 3, 1) := by decide +kernel
theorem dX7_holds_43 : decode cX7_holds 43 = .ok (.aload_n 0, 1) := by decide +kernel
theorem dX7_holds_44 : decode cX7_holds 44 = .ok (.getfield 34, 3) := by decide +kernel
theorem dX7_holds_47 : decode cX7_holds 47 = .ok (.getfield 156, 3) := by decide +kernel
theorem dX7_holds_50 : decode cX7_holds 50 = .ok (.iconst 1, 1) := by decide +kernel
theorem dX7_holds_51 : decode cX7_holds 51 = .ok (.invokevirtual 193, 3) := by decide +kernel
theorem dX7_holds_54 : decode cX7_holds 54 = .ok (.istore 4, 2) := by decide +kernel
theorem dX7_holds_56 : decode cX7_holds 56 = .ok (.aload_n 0, 1) := by decide +kernel
theorem dX7_holds_57 : decode cX7_holds 57 = .ok (.getfield 34, 3) := by decide +kernel
theorem dX7_holds_60 : decode cX7_holds 60 = .ok (.aload_n 0, 1) := by decide +kernel
theorem dX7_holds_61 : decode cX7_holds 61 = .ok (.iload_n 1, 1) := by decide +kernel
theorem dX7_holds_62 : decode cX7_holds 62 = .ok (.invokevirtual 165, 3) := by decide +kernel
theorem dX7_holds_65 : decode cX7_holds 65 = .ok (.invokevirtual 197, 3) := by decide +kernel
theorem dX7_holds_68 : decode cX7_holds 68 = .ok (.istore 5, 2) := by decide +kernel
theorem dX7_holds_70 : decode cX7_holds 70 = .ok (.iload_n 2, 1) := by decide +kernel
theorem dX7_holds_71 : decode cX7_holds 71 = .ok (.tableswitch 33 0 2 #[25, 27, 30], 25) := by decide +kernel
theorem dX7_holds_96 : decode cX7_holds 96 = .ok (.iload_n 3, 1) := by decide +kernel
theorem dX7_holds_97 : decode cX7_holds 97 = .ok (.ireturn, 1) := by decide +kernel
theorem dX7_holds_98 : decode cX7_holds 98 = .ok (.iload 4, 2) := by decide +kernel
theorem dX7_holds_100 : decode cX7_holds 100 = .ok (.ireturn, 1) := by decide +kernel
theorem dX7_holds_101 : decode cX7_holds 101 = .ok (.iload 5, 2) := by decide +kernel
theorem dX7_holds_103 : decode cX7_holds 103 = .ok (.ireturn, 1) := by decide +kernel
theorem dX7_holds_104 : decode cX7_holds 104 = .ok (.aload_n 0, 1) := by decide +kernel
theorem dX7_holds_105 : decode cX7_holds 105 = .ok (.getfield 34, 3) := by decide +kernel
theorem dX7_holds_108 : decode cX7_holds 108 = .ok (.invokevirtual 133, 3) := by decide +kernel
theorem dX7_holds_111 : decode cX7_holds 111 = .ok (.aload_n 0, 1) := by decide +kernel
theorem dX7_holds_112 : decode cX7_holds 112 = .ok (.getfield 12, 3) := by decide +kernel
theorem dX7_holds_115 : decode cX7_holds 115 = .ok (.getfield 45, 3) := by decide +kernel
theorem dX7_holds_118 : decode cX7_holds 118 = .ok (.imul, 1) := by decide +kernel
theorem dX7_holds_119 : decode cX7_holds 119 = .ok (.iload_n 3, 1) := by decide +kernel
theorem dX7_holds_120 : decode cX7_holds 120 = .ok (.isub, 1) := by decide +kernel
theorem dX7_holds_121 : decode cX7_holds 121 = .ok (.iload 4, 2) := by decide +kernel
theorem dX7_holds_123 : decode cX7_holds 123 = .ok (.isub, 1) := by decide +kernel
theorem dX7_holds_124 : decode cX7_holds 124 = .ok (.iload 5, 2) := by decide +kernel
theorem dX7_holds_126 : decode cX7_holds 126 = .ok (.isub, 1) := by decide +kernel
theorem dX7_holds_127 : decode cX7_holds 127 = .ok (.ireturn, 1) := by decide +kernel
theorem dX7_linesWith_0 : decode cX7_linesWith 0 = .ok (.aload_n 0, 1) := by decide +kernel
theorem dX7_linesWith_1 : decode cX7_linesWith 1 = .ok (.iload_n 1, 1) := by decide +kernel
theorem dX7_linesWith_2 : decode cX7_linesWith 2 = .ok (.invokevirtual 116, 3) := by decide +kernel
theorem dX7_linesWith_5 : decode cX7_linesWith 5 = .ok (.ifCond .eq 14, 3) := by decide +kernel
theorem dX7_linesWith_8 : decode cX7_linesWith 8 = .ok (.iload_n 2, 1) := by decide +kernel
theorem dX7_linesWith_9 : decode cX7_linesWith 9 = .ok (.bipush 20, 2) := by decide +kernel
theorem dX7_linesWith_11 : decode cX7_linesWith 11 = .ok (.bipush 80, 2) := by decide +kernel
theorem dX7_linesWith_13 : decode cX7_linesWith 13 = .ok (.invokestatic 38, 3) := by decide +kernel
theorem dX7_linesWith_16 : decode cX7_linesWith 16 = .ok (.ifCond .ne 5, 3) := by decide +kernel
theorem dX7_linesWith_19 : decode cX7_linesWith 19 = .ok (.iconst (-1), 1) := by decide +kernel
theorem dX7_linesWith_20 : decode cX7_linesWith 20 = .ok (.ireturn, 1) := by decide +kernel
theorem dX7_linesWith_21 : decode cX7_linesWith 21 = .ok (.aload_n 0, 1) := by decide +kernel
theorem dX7_linesWith_22 : decode cX7_linesWith 22 = .ok (.iload_n 1, 1) := by decide +kernel
theorem dX7_linesWith_23 : decode cX7_linesWith 23 = .ok (.iload_n 2, 1) := by decide +kernel
theorem dX7_linesWith_24 : decode cX7_linesWith 24 = .ok (.invokevirtual 129, 3) := by decide +kernel
theorem dX7_linesWith_27 : decode cX7_linesWith 27 = .ok (.aload_n 0, 1) := by decide +kernel
theorem dX7_linesWith_28 : decode cX7_linesWith 28 = .ok (.getfield 34, 3) := by decide +kernel
theorem dX7_linesWith_31 : decode cX7_linesWith 31 = .ok (.invokevirtual 133, 3) := by decide +kernel
theorem dX7_linesWith_34 : decode cX7_linesWith 34 = .ok (.ireturn, 1) := by decide +kernel
theorem dX7_leastColumns_0 : decode cX7_leastColumns 0 = .ok (.aload_n 0, 1) := by decide +kernel
theorem dX7_leastColumns_1 : decode cX7_leastColumns 1 = .ok (.iload_n 1, 1) := by decide +kernel
theorem dX7_leastColumns_2 : decode cX7_leastColumns 2 = .ok (.invokevirtual 116, 3) := by decide +kernel
theorem dX7_leastColumns_5 : decode cX7_leastColumns 5 = .ok (.ifCond .eq 13, 3) := by decide +kernel
theorem dX7_leastColumns_8 : decode cX7_leastColumns 8 = .ok (.iload_n 2, 1) := by decide +kernel
theorem dX7_leastColumns_9 : decode cX7_leastColumns 9 = .ok (.iconst 1, 1) := by decide +kernel
theorem dX7_leastColumns_10 : decode cX7_leastColumns 10 = .ok (.bipush 99, 2) := by decide +kernel
theorem dX7_leastColumns_12 : decode cX7_leastColumns 12 = .ok (.invokestatic 38, 3) := by decide +kernel
theorem dX7_leastColumns_15 : decode cX7_leastColumns 15 = .ok (.ifCond .ne 5, 3) := by decide +kernel
theorem dX7_leastColumns_18 : decode cX7_leastColumns 18 = .ok (.iconst (-1), 1) := by decide +kernel
theorem dX7_leastColumns_19 : decode cX7_leastColumns 19 = .ok (.ireturn, 1) := by decide +kernel
theorem dX7_leastColumns_20 : decode cX7_leastColumns 20 = .ok (.bipush 20, 2) := by decide +kernel
theorem dX7_leastColumns_22 : decode cX7_leastColumns 22 = .ok (.istore_n 3, 1) := by decide +kernel
theorem dX7_leastColumns_23 : decode cX7_leastColumns 23 = .ok (.iload_n 3, 1) := by decide +kernel
theorem dX7_leastColumns_24 : decode cX7_leastColumns 24 = .ok (.bipush 80, 2) := by decide +kernel
theorem dX7_leastColumns_26 : decode cX7_leastColumns 26 = .ok (.if_icmp .gt 28, 3) := by decide +kernel
theorem dX7_leastColumns_29 : decode cX7_leastColumns 29 = .ok (.aload_n 0, 1) := by decide +kernel
theorem dX7_leastColumns_30 : decode cX7_leastColumns 30 = .ok (.iload_n 1, 1) := by decide +kernel
theorem dX7_leastColumns_31 : decode cX7_leastColumns 31 = .ok (.iload_n 3, 1) := by decide +kernel
theorem dX7_leastColumns_32 : decode cX7_leastColumns 32 = .ok (.invokevirtual 129, 3) := by decide +kernel
theorem dX7_leastColumns_35 : decode cX7_leastColumns 35 = .ok (.aload_n 0, 1) := by decide +kernel
theorem dX7_leastColumns_36 : decode cX7_leastColumns 36 = .ok (.getfield 34, 3) := by decide +kernel
theorem dX7_leastColumns_39 : decode cX7_leastColumns 39 = .ok (.invokevirtual 133, 3) := by decide +kernel
theorem dX7_leastColumns_42 : decode cX7_leastColumns 42 = .ok (.iload_n 2, 1) := by decide +kernel
theorem dX7_leastColumns_43 : decode cX7_leastColumns 43 = .ok (.if_icmp .gt 5, 3) := by decide +kernel
theorem dX7_leastColumns_46 : decode cX7_leastColumns 46 = .ok (.iload_n 3, 1) := by decide +kernel
theorem dX7_leastColumns_47 : decode cX7_leastColumns 47 = .ok (.ireturn, 1) := by decide +kernel
theorem dX7_leastColumns_48 : decode cX7_leastColumns 48 = .ok (.iinc 3 1, 3) := by decide +kernel
theorem dX7_leastColumns_51 : decode cX7_leastColumns 51 = .ok (.goto (-28), 3) := by decide +kernel
theorem dX7_leastColumns_54 : decode cX7_leastColumns 54 = .ok (.bipush (-9), 2) := by decide +kernel
theorem dX7_leastColumns_56 : decode cX7_leastColumns 56 = .ok (.ireturn, 1) := by decide +kernel
theorem dX7_undo_0 : decode cX7_undo 0 = .ok (.aload_n 0, 1) := by decide +kernel
theorem dX7_undo_1 : decode cX7_undo 1 = .ok (.getfield 137, 3) := by decide +kernel
theorem dX7_undo_4 : decode cX7_undo 4 = .ok (.iconst 1, 1) := by decide +kernel
theorem dX7_undo_5 : decode cX7_undo 5 = .ok (.if_icmp .ge 6, 3) := by decide +kernel
theorem dX7_undo_8 : decode cX7_undo 8 = .ok (.bipush (-2), 2) := by decide +kernel
theorem dX7_undo_10 : decode cX7_undo 10 = .ok (.ireturn, 1) := by decide +kernel
theorem dX7_undo_11 : decode cX7_undo 11 = .ok (.aload_n 0, 1) := by decide +kernel
theorem dX7_undo_12 : decode cX7_undo 12 = .ok (.dup, 1) := by decide +kernel
theorem dX7_undo_13 : decode cX7_undo 13 = .ok (.getfield 137, 3) := by decide +kernel
theorem dX7_undo_16 : decode cX7_undo 16 = .ok (.iconst 1, 1) := by decide +kernel
theorem dX7_undo_17 : decode cX7_undo 17 = .ok (.isub, 1) := by decide +kernel
theorem dX7_undo_18 : decode cX7_undo 18 = .ok (.putfield 137, 3) := by decide +kernel
theorem dX7_undo_21 : decode cX7_undo 21 = .ok (.aload_n 0, 1) := by decide +kernel
theorem dX7_undo_22 : decode cX7_undo 22 = .ok (.getfield 12, 3) := by decide +kernel
theorem dX7_undo_25 : decode cX7_undo 25 = .ok (.aload_n 0, 1) := by decide +kernel
theorem dX7_undo_26 : decode cX7_undo 26 = .ok (.getfield 16, 3) := by decide +kernel
theorem dX7_undo_29 : decode cX7_undo 29 = .ok (.aload_n 0, 1) := by decide +kernel
theorem dX7_undo_30 : decode cX7_undo 30 = .ok (.getfield 137, 3) := by decide +kernel
theorem dX7_undo_33 : decode cX7_undo 33 = .ok (.aaload, 1) := by decide +kernel
theorem dX7_undo_34 : decode cX7_undo 34 = .ok (.invokevirtual 201, 3) := by decide +kernel
theorem dX7_undo_37 : decode cX7_undo 37 = .ok (.aload_n 0, 1) := by decide +kernel
theorem dX7_undo_38 : decode cX7_undo 38 = .ok (.getfield 137, 3) := by decide +kernel
theorem dX7_undo_41 : decode cX7_undo 41 = .ok (.ireturn, 1) := by decide +kernel
theorem dX7_saveState_0 : decode cX7_saveState 0 = .ok (.aload_n 0, 1) := by decide +kernel
theorem dX7_saveState_1 : decode cX7_saveState 1 = .ok (.getfield 137, 3) := by decide +kernel
theorem dX7_saveState_4 : decode cX7_saveState 4 = .ok (.bipush 6, 2) := by decide +kernel
theorem dX7_saveState_6 : decode cX7_saveState 6 = .ok (.if_icmp .lt 50, 3) := by decide +kernel
theorem dX7_saveState_9 : decode cX7_saveState 9 = .ok (.aload_n 0, 1) := by decide +kernel
theorem dX7_saveState_10 : decode cX7_saveState 10 = .ok (.getfield 16, 3) := by decide +kernel
theorem dX7_saveState_13 : decode cX7_saveState 13 = .ok (.iconst 0, 1) := by decide +kernel
theorem dX7_saveState_14 : decode cX7_saveState 14 = .ok (.aaload, 1) := by decide +kernel
theorem dX7_saveState_15 : decode cX7_saveState 15 = .ok (.astore_n 1, 1) := by decide +kernel
theorem dX7_saveState_16 : decode cX7_saveState 16 = .ok (.iconst 1, 1) := by decide +kernel
theorem dX7_saveState_17 : decode cX7_saveState 17 = .ok (.istore_n 2, 1) := by decide +kernel
theorem dX7_saveState_18 : decode cX7_saveState 18 = .ok (.iload_n 2, 1) := by decide +kernel
theorem dX7_saveState_19 : decode cX7_saveState 19 = .ok (.bipush 6, 2) := by decide +kernel
theorem dX7_saveState_21 : decode cX7_saveState 21 = .ok (.if_icmp .ge 23, 3) := by decide +kernel
theorem dX7_saveState_24 : decode cX7_saveState 24 = .ok (.aload_n 0, 1) := by decide +kernel
theorem dX7_saveState_25 : decode cX7_saveState 25 = .ok (.getfield 16, 3) := by decide +kernel
theorem dX7_saveState_28 : decode cX7_saveState 28 = .ok (.iload_n 2, 1) := by decide +kernel
theorem dX7_saveState_29 : decode cX7_saveState 29 = .ok (.iconst 1, 1) := by decide +kernel
theorem dX7_saveState_30 : decode cX7_saveState 30 = .ok (.isub, 1) := by decide +kernel
theorem dX7_saveState_31 : decode cX7_saveState 31 = .ok (.aload_n 0, 1) := by decide +kernel
theorem dX7_saveState_32 : decode cX7_saveState 32 = .ok (.getfield 16, 3) := by decide +kernel
theorem dX7_saveState_35 : decode cX7_saveState 35 = .ok (.iload_n 2, 1) := by decide +kernel
theorem dX7_saveState_36 : decode cX7_saveState 36 = .ok (.aaload, 1) := by decide +kernel
theorem dX7_saveState_37 : decode cX7_saveState 37 = .ok (.aastore, 1) := by decide +kernel
theorem dX7_saveState_38 : decode cX7_saveState 38 = .ok (.iinc 2 1, 3) := by decide +kernel
theorem dX7_saveState_41 : decode cX7_saveState 41 = .ok (.goto (-23), 3) := by decide +kernel
theorem dX7_saveState_44 : decode cX7_saveState 44 = .ok (.aload_n 0, 1) := by decide +kernel
theorem dX7_saveState_45 : decode cX7_saveState 45 = .ok (.getfield 16, 3) := by decide +kernel
theorem dX7_saveState_48 : decode cX7_saveState 48 = .ok (.iconst 5, 1) := by decide +kernel
theorem dX7_saveState_49 : decode cX7_saveState 49 = .ok (.aload_n 1, 1) := by decide +kernel
theorem dX7_saveState_50 : decode cX7_saveState 50 = .ok (.aastore, 1) := by decide +kernel
theorem dX7_saveState_51 : decode cX7_saveState 51 = .ok (.aload_n 0, 1) := by decide +kernel
theorem dX7_saveState_52 : decode cX7_saveState 52 = .ok (.iconst 5, 1) := by decide +kernel
theorem dX7_saveState_53 : decode cX7_saveState 53 = .ok (.putfield 137, 3) := by decide +kernel
theorem dX7_saveState_56 : decode cX7_saveState 56 = .ok (.aload_n 0, 1) := by decide +kernel
theorem dX7_saveState_57 : decode cX7_saveState 57 = .ok (.getfield 16, 3) := by decide +kernel
theorem dX7_saveState_60 : decode cX7_saveState 60 = .ok (.aload_n 0, 1) := by decide +kernel
theorem dX7_saveState_61 : decode cX7_saveState 61 = .ok (.getfield 137, 3) := by decide +kernel
theorem dX7_saveState_64 : decode cX7_saveState 64 = .ok (.aaload, 1) := by decide +kernel
theorem dX7_saveState_65 : decode cX7_saveState 65 = .ok (.aload_n 0, 1) := by decide +kernel
theorem dX7_saveState_66 : decode cX7_saveState 66 = .ok (.getfield 12, 3) := by decide +kernel
theorem dX7_saveState_69 : decode cX7_saveState 69 = .ok (.invokevirtual 201, 3) := by decide +kernel
theorem dX7_saveState_72 : decode cX7_saveState 72 = .ok (.aload_n 0, 1) := by decide +kernel
theorem dX7_saveState_73 : decode cX7_saveState 73 = .ok (.dup, 1) := by decide +kernel
theorem dX7_saveState_74 : decode cX7_saveState 74 = .ok (.getfield 137, 3) := by decide +kernel
theorem dX7_saveState_77 : decode cX7_saveState 77 = .ok (.iconst 1, 1) := by decide +kernel
theorem dX7_saveState_78 : decode cX7_saveState 78 = .ok (.iadd, 1) := by decide +kernel
theorem dX7_saveState_79 : decode cX7_saveState 79 = .ok (.putfield 137, 3) := by decide +kernel
theorem dX7_saveState_82 : decode cX7_saveState 82 = .ok (.return_, 1) := by decide +kernel
theorem dX7_isStyle_0 : decode cX7_isStyle 0 = .ok (.iload_n 1, 1) := by decide +kernel
theorem dX7_isStyle_1 : decode cX7_isStyle 1 = .ok (.iconst 0, 1) := by decide +kernel
theorem dX7_isStyle_2 : decode cX7_isStyle 2 = .ok (.iconst 3, 1) := by decide +kernel
theorem dX7_isStyle_3 : decode cX7_isStyle 3 = .ok (.invokestatic 38, 3) := by decide +kernel
theorem dX7_isStyle_6 : decode cX7_isStyle 6 = .ok (.ireturn, 1) := by decide +kernel
theorem dX7_isParagraph_0 : decode cX7_isParagraph 0 = .ok (.iload_n 1, 1) := by decide +kernel
theorem dX7_isParagraph_1 : decode cX7_isParagraph 1 = .ok (.iconst 0, 1) := by decide +kernel
theorem dX7_isParagraph_2 : decode cX7_isParagraph 2 = .ok (.aload_n 0, 1) := by decide +kernel
theorem dX7_isParagraph_3 : decode cX7_isParagraph 3 = .ok (.getfield 12, 3) := by decide +kernel
theorem dX7_isParagraph_6 : decode cX7_isParagraph 6 = .ok (.getfield 101, 3) := by decide +kernel
theorem dX7_isParagraph_9 : decode cX7_isParagraph 9 = .ok (.iconst 1, 1) := by decide +kernel
theorem dX7_isParagraph_10 : decode cX7_isParagraph 10 = .ok (.isub, 1) := by decide +kernel
theorem dX7_isParagraph_11 : decode cX7_isParagraph 11 = .ok (.invokestatic 38, 3) := by decide +kernel
theorem dX7_isParagraph_14 : decode cX7_isParagraph 14 = .ok (.ireturn, 1) := by decide +kernel
theorem dX7_styleOf_0 : decode cX7_styleOf 0 = .ok (.aload_n 0, 1) := by decide +kernel
theorem dX7_styleOf_1 : decode cX7_styleOf 1 = .ok (.getfield 12, 3) := by decide +kernel
theorem dX7_styleOf_4 : decode cX7_styleOf 4 = .ok (.getfield 56, 3) := by decide +kernel
theorem dX7_styleOf_7 : decode cX7_styleOf 7 = .ok (.aload_n 0, 1) := by decide +kernel
theorem dX7_styleOf_8 : decode cX7_styleOf 8 = .ok (.getfield 12, 3) := by decide +kernel
theorem dX7_styleOf_11 : decode cX7_styleOf 11 = .ok (.getfield 104, 3) := by decide +kernel
theorem dX7_styleOf_14 : decode cX7_styleOf 14 = .ok (.iload_n 1, 1) := by decide +kernel
theorem dX7_styleOf_15 : decode cX7_styleOf 15 = .ok (.aaload, 1) := by decide +kernel
theorem dX7_styleOf_16 : decode cX7_styleOf 16 = .ok (.getfield 108, 3) := by decide +kernel
theorem dX7_styleOf_19 : decode cX7_styleOf 19 = .ok (.aaload, 1) := by decide +kernel
theorem dX7_styleOf_20 : decode cX7_styleOf 20 = .ok (.areturn, 1) := by decide +kernel
theorem dX7_layOut_0 : decode cX7_layOut 0 = .ok (.aload_n 0, 1) := by decide +kernel
theorem dX7_layOut_1 : decode cX7_layOut 1 = .ok (.getfield 34, 3) := by decide +kernel
theorem dX7_layOut_4 : decode cX7_layOut 4 = .ok (.aload_n 0, 1) := by decide +kernel
theorem dX7_layOut_5 : decode cX7_layOut 5 = .ok (.getfield 12, 3) := by decide +kernel
theorem dX7_layOut_8 : decode cX7_layOut 8 = .ok (.getfield 104, 3) := by decide +kernel
theorem dX7_layOut_11 : decode cX7_layOut 11 = .ok (.iload_n 1, 1) := by decide +kernel
theorem dX7_layOut_12 : decode cX7_layOut 12 = .ok (.aaload, 1) := by decide +kernel
theorem dX7_layOut_13 : decode cX7_layOut 13 = .ok (.aload_n 0, 1) := by decide +kernel
theorem dX7_layOut_14 : decode cX7_layOut 14 = .ok (.iload_n 1, 1) := by decide +kernel
theorem dX7_layOut_15 : decode cX7_layOut 15 = .ok (.invokevirtual 165, 3) := by decide +kernel
theorem dX7_layOut_18 : decode cX7_layOut 18 = .ok (.iload_n 2, 1) := by decide +kernel
theorem dX7_layOut_19 : decode cX7_layOut 19 = .ok (.aload_n 0, 1) := by decide +kernel
theorem dX7_layOut_20 : decode cX7_layOut 20 = .ok (.getfield 12, 3) := by decide +kernel
theorem dX7_layOut_23 : decode cX7_layOut 23 = .ok (.getfield 49, 3) := by decide +kernel
theorem dX7_layOut_26 : decode cX7_layOut 26 = .ok (.invokevirtual 205, 3) := by decide +kernel
theorem dX7_layOut_29 : decode cX7_layOut 29 = .ok (.return_, 1) := by decide +kernel
theorem dX7_isWithin_0 : decode cX7_isWithin 0 = .ok (.iload_n 0, 1) := by decide +kernel
theorem dX7_isWithin_1 : decode cX7_isWithin 1 = .ok (.iload_n 1, 1) := by decide +kernel
theorem dX7_isWithin_2 : decode cX7_isWithin 2 = .ok (.if_icmp .lt 12, 3) := by decide +kernel
theorem dX7_isWithin_5 : decode cX7_isWithin 5 = .ok (.iload_n 0, 1) := by decide +kernel
theorem dX7_isWithin_6 : decode cX7_isWithin 6 = .ok (.iload_n 2, 1) := by decide +kernel
theorem dX7_isWithin_7 : decode cX7_isWithin 7 = .ok (.if_icmp .gt 7, 3) := by decide +kernel
theorem dX7_isWithin_10 : decode cX7_isWithin 10 = .ok (.iconst 1, 1) := by decide +kernel
theorem dX7_isWithin_11 : decode cX7_isWithin 11 = .ok (.goto 4, 3) := by decide +kernel
theorem dX7_isWithin_14 : decode cX7_isWithin 14 = .ok (.iconst 0, 1) := by decide +kernel
theorem dX7_isWithin_15 : decode cX7_isWithin 15 = .ok (.ireturn, 1) := by decide +kernel
theorem dX7_isDigit_0 : decode cX7_isDigit 0 = .ok (.iload_n 0, 1) := by decide +kernel
theorem dX7_isDigit_1 : decode cX7_isDigit 1 = .ok (.bipush 48, 2) := by decide +kernel
theorem dX7_isDigit_3 : decode cX7_isDigit 3 = .ok (.bipush 57, 2) := by decide +kernel
theorem dX7_isDigit_5 : decode cX7_isDigit 5 = .ok (.invokestatic 38, 3) := by decide +kernel
theorem dX7_isDigit_8 : decode cX7_isDigit 8 = .ok (.ireturn, 1) := by decide +kernel
theorem dX7_isParagraphCharacter_0 : decode cX7_isParagraphCharacter 0 = .ok (.iload_n 0, 1) := by decide +kernel
theorem dX7_isParagraphCharacter_1 : decode cX7_isParagraphCharacter 1 = .ok (.bipush 97, 2) := by decide +kernel
theorem dX7_isParagraphCharacter_3 : decode cX7_isParagraphCharacter 3 = .ok (.bipush 122, 2) := by decide +kernel
theorem dX7_isParagraphCharacter_5 : decode cX7_isParagraphCharacter 5 = .ok (.invokestatic 38, 3) := by decide +kernel
theorem dX7_isParagraphCharacter_8 : decode cX7_isParagraphCharacter 8 = .ok (.ifCond .ne 34, 3) := by decide +kernel
theorem dX7_isParagraphCharacter_11 : decode cX7_isParagraphCharacter 11 = .ok (.iload_n 0, 1) := by decide +kernel
theorem dX7_isParagraphCharacter_12 : decode cX7_isParagraphCharacter 12 = .ok (.invokestatic 209, 3) := by decide +kernel
theorem dX7_isParagraphCharacter_15 : decode cX7_isParagraphCharacter 15 = .ok (.ifCond .ne 27, 3) := by decide +kernel
theorem dX7_isParagraphCharacter_18 : decode cX7_isParagraphCharacter 18 = .ok (.iload_n 0, 1) := by decide +kernel
theorem dX7_isParagraphCharacter_19 : decode cX7_isParagraphCharacter 19 = .ok (.bipush 46, 2) := by decide +kernel
theorem dX7_isParagraphCharacter_21 : decode cX7_isParagraphCharacter 21 = .ok (.if_icmp .eq 21, 3) := by decide +kernel
theorem dX7_isParagraphCharacter_24 : decode cX7_isParagraphCharacter 24 = .ok (.iload_n 0, 1) := by decide +kernel
theorem dX7_isParagraphCharacter_25 : decode cX7_isParagraphCharacter 25 = .ok (.bipush 44, 2) := by decide +kernel
theorem dX7_isParagraphCharacter_27 : decode cX7_isParagraphCharacter 27 = .ok (.if_icmp .eq 15, 3) := by decide +kernel
theorem dX7_isParagraphCharacter_30 : decode cX7_isParagraphCharacter 30 = .ok (.iload_n 0, 1) := by decide +kernel
theorem dX7_isParagraphCharacter_31 : decode cX7_isParagraphCharacter 31 = .ok (.bipush 32, 2) := by decide +kernel
theorem dX7_isParagraphCharacter_33 : decode cX7_isParagraphCharacter 33 = .ok (.if_icmp .eq 9, 3) := by decide +kernel
theorem dX7_isParagraphCharacter_36 : decode cX7_isParagraphCharacter 36 = .ok (.iload_n 0, 1) := by decide +kernel
theorem dX7_isParagraphCharacter_37 : decode cX7_isParagraphCharacter 37 = .ok (.bipush 9, 2) := by decide +kernel
theorem dX7_isParagraphCharacter_39 : decode cX7_isParagraphCharacter 39 = .ok (.if_icmp .ne 7, 3) := by decide +kernel
theorem dX7_isParagraphCharacter_42 : decode cX7_isParagraphCharacter 42 = .ok (.iconst 1, 1) := by decide +kernel
theorem dX7_isParagraphCharacter_43 : decode cX7_isParagraphCharacter 43 = .ok (.goto 4, 3) := by decide +kernel
theorem dX7_isParagraphCharacter_46 : decode cX7_isParagraphCharacter 46 = .ok (.iconst 0, 1) := by decide +kernel
theorem dX7_isParagraphCharacter_47 : decode cX7_isParagraphCharacter 47 = .ok (.ireturn, 1) := by decide +kernel
theorem dX7_digitsOf_0 : decode cX7_digitsOf 0 = .ok (.iconst 1, 1) := by decide +kernel
theorem dX7_digitsOf_1 : decode cX7_digitsOf 1 = .ok (.istore_n 1, 1) := by decide +kernel
theorem dX7_digitsOf_2 : decode cX7_digitsOf 2 = .ok (.sipush 10000, 3) := by decide +kernel
theorem dX7_digitsOf_5 : decode cX7_digitsOf 5 = .ok (.istore_n 2, 1) := by decide +kernel
theorem dX7_digitsOf_6 : decode cX7_digitsOf 6 = .ok (.iload_n 2, 1) := by decide +kernel
theorem dX7_digitsOf_7 : decode cX7_digitsOf 7 = .ok (.iconst 1, 1) := by decide +kernel
theorem dX7_digitsOf_8 : decode cX7_digitsOf 8 = .ok (.if_icmp .le 19, 3) := by decide +kernel
theorem dX7_digitsOf_11 : decode cX7_digitsOf 11 = .ok (.iload_n 0, 1) := by decide +kernel
theorem dX7_digitsOf_12 : decode cX7_digitsOf 12 = .ok (.iload_n 2, 1) := by decide +kernel
theorem dX7_digitsOf_13 : decode cX7_digitsOf 13 = .ok (.if_icmp .lt 6, 3) := by decide +kernel
theorem dX7_digitsOf_16 : decode cX7_digitsOf 16 = .ok (.iinc 1 1, 3) := by decide +kernel
theorem dX7_digitsOf_19 : decode cX7_digitsOf 19 = .ok (.iload_n 2, 1) := by decide +kernel
theorem dX7_digitsOf_20 : decode cX7_digitsOf 20 = .ok (.bipush 10, 2) := by decide +kernel
theorem dX7_digitsOf_22 : decode cX7_digitsOf 22 = .ok (.idiv, 1) := by decide +kernel
theorem dX7_digitsOf_23 : decode cX7_digitsOf 23 = .ok (.istore_n 2, 1) := by decide +kernel
theorem dX7_digitsOf_24 : decode cX7_digitsOf 24 = .ok (.goto (-18), 3) := by decide +kernel
theorem dX7_digitsOf_27 : decode cX7_digitsOf 27 = .ok (.iload_n 1, 1) := by decide +kernel
theorem dX7_digitsOf_28 : decode cX7_digitsOf 28 = .ok (.ireturn, 1) := by decide +kernel
theorem dX7_multipleBehind_0 : decode cX7_multipleBehind 0 = .ok (.iconst 1, 1) := by decide +kernel
theorem dX7_multipleBehind_1 : decode cX7_multipleBehind 1 = .ok (.iload_n 1, 1) := by decide +kernel
theorem dX7_multipleBehind_2 : decode cX7_multipleBehind 2 = .ok (.invokestatic 212, 3) := by decide +kernel
theorem dX7_multipleBehind_5 : decode cX7_multipleBehind 5 = .ok (.istore_n 2, 1) := by decide +kernel
theorem dX7_multipleBehind_6 : decode cX7_multipleBehind 6 = .ok (.iload_n 0, 1) := by decide +kernel
theorem dX7_multipleBehind_7 : decode cX7_multipleBehind 7 = .ok (.iload_n 2, 1) := by decide +kernel
theorem dX7_multipleBehind_8 : decode cX7_multipleBehind 8 = .ok (.idiv, 1) := by decide +kernel
theorem dX7_multipleBehind_9 : decode cX7_multipleBehind 9 = .ok (.iconst 1, 1) := by decide +kernel
theorem dX7_multipleBehind_10 : decode cX7_multipleBehind 10 = .ok (.iadd, 1) := by decide +kernel
theorem dX7_multipleBehind_11 : decode cX7_multipleBehind 11 = .ok (.iload_n 2, 1) := by decide +kernel
theorem dX7_multipleBehind_12 : decode cX7_multipleBehind 12 = .ok (.imul, 1) := by decide +kernel
theorem dX7_multipleBehind_13 : decode cX7_multipleBehind 13 = .ok (.ireturn, 1) := by decide +kernel
theorem dX7_leaderCharacter_0 : decode cX7_leaderCharacter 0 = .ok (.iload_n 0, 1) := by decide +kernel
theorem dX7_leaderCharacter_1 : decode cX7_leaderCharacter 1 = .ok (.tableswitch 36 1 3 #[27, 30, 33], 27) := by decide +kernel
theorem dX7_leaderCharacter_28 : decode cX7_leaderCharacter 28 = .ok (.bipush 46, 2) := by decide +kernel
theorem dX7_leaderCharacter_30 : decode cX7_leaderCharacter 30 = .ok (.ireturn, 1) := by decide +kernel
theorem dX7_leaderCharacter_31 : decode cX7_leaderCharacter 31 = .ok (.bipush 45, 2) := by decide +kernel
theorem dX7_leaderCharacter_33 : decode cX7_leaderCharacter 33 = .ok (.ireturn, 1) := by decide +kernel
theorem dX7_leaderCharacter_34 : decode cX7_leaderCharacter 34 = .ok (.bipush 95, 2) := by decide +kernel
theorem dX7_leaderCharacter_36 : decode cX7_leaderCharacter 36 = .ok (.ireturn, 1) := by decide +kernel
theorem dX7_leaderCharacter_37 : decode cX7_leaderCharacter 37 = .ok (.bipush 32, 2) := by decide +kernel
theorem dX7_leaderCharacter_39 : decode cX7_leaderCharacter 39 = .ok (.ireturn, 1) := by decide +kernel
theorem dX8_init_0 : decode cX8_init 0 = .ok (.aload_n 0, 1) := by decide +kernel
theorem dX8_init_1 : decode cX8_init 1 = .ok (.invokespecial 1, 3) := by decide +kernel
theorem dX8_init_4 : decode cX8_init 4 = .ok (.aload_n 0, 1) := by decide +kernel
theorem dX8_init_5 : decode cX8_init 5 = .ok (.sipush 767, 3) := by decide +kernel
theorem dX8_init_8 : decode cX8_init 8 = .ok (.newarray .int, 2) := by decide +kernel
theorem dX8_init_10 : decode cX8_init 10 = .ok (.putfield 7, 3) := by decide +kernel
theorem dX8_init_13 : decode cX8_init 13 = .ok (.aload_n 0, 1) := by decide +kernel
theorem dX8_init_14 : decode cX8_init 14 = .ok (.sipush 4602, 3) := by decide +kernel
theorem dX8_init_17 : decode cX8_init 17 = .ok (.newarray .int, 2) := by decide +kernel
theorem dX8_init_19 : decode cX8_init 19 = .ok (.putfield 13, 3) := by decide +kernel
theorem dX8_init_22 : decode cX8_init 22 = .ok (.aload_n 0, 1) := by decide +kernel
theorem dX8_init_23 : decode cX8_init 23 = .ok (.bipush 100, 2) := by decide +kernel
theorem dX8_init_25 : decode cX8_init 25 = .ok (.newarray .byte, 2) := by decide +kernel
theorem dX8_init_27 : decode cX8_init 27 = .ok (.putfield 16, 3) := by decide +kernel
theorem dX8_init_30 : decode cX8_init 30 = .ok (.aload_n 0, 1) := by decide +kernel
theorem dX8_init_31 : decode cX8_init 31 = .ok (.bipush 24, 2) := by decide +kernel
theorem dX8_init_33 : decode cX8_init 33 = .ok (.newarray .int, 2) := by decide +kernel
theorem dX8_init_35 : decode cX8_init 35 = .ok (.putfield 20, 3) := by decide +kernel
theorem dX8_init_38 : decode cX8_init 38 = .ok (.aload_n 0, 1) := by decide +kernel
theorem dX8_init_39 : decode cX8_init 39 = .ok (.sipush 6800, 3) := by decide +kernel
theorem dX8_init_42 : decode cX8_init 42 = .ok (.newarray .byte, 2) := by decide +kernel
theorem dX8_init_44 : decode cX8_init 44 = .ok (.putfield 23, 3) := by decide +kernel
theorem dX8_init_47 : decode cX8_init 47 = .ok (.aload_n 0, 1) := by decide +kernel
theorem dX8_init_48 : decode cX8_init 48 = .ok (.sipush 6800, 3) := by decide +kernel
theorem dX8_init_51 : decode cX8_init 51 = .ok (.newarray .byte, 2) := by decide +kernel
theorem dX8_init_53 : decode cX8_init 53 = .ok (.putfield 26, 3) := by decide +kernel
theorem dX8_init_56 : decode cX8_init 56 = .ok (.aload_n 0, 1) := by decide +kernel
theorem dX8_init_57 : decode cX8_init 57 = .ok (.sipush 486, 3) := by decide +kernel
theorem dX8_init_60 : decode cX8_init 60 = .ok (.newarray .int, 2) := by decide +kernel
theorem dX8_init_62 : decode cX8_init 62 = .ok (.putfield 29, 3) := by decide +kernel
theorem dX8_init_65 : decode cX8_init 65 = .ok (.aload_n 0, 1) := by decide +kernel
theorem dX8_init_66 : decode cX8_init 66 = .ok (.getfield 7, 3) := by decide +kernel
theorem dX8_init_69 : decode cX8_init 69 = .ok (.iconst 0, 1) := by decide +kernel
theorem dX8_init_70 : decode cX8_init 70 = .ok (.bipush 40, 2) := by decide +kernel
theorem dX8_init_72 : decode cX8_init 72 = .ok (.iastore, 1) := by decide +kernel
theorem dX8_init_73 : decode cX8_init 73 = .ok (.aload_n 0, 1) := by decide +kernel
theorem dX8_init_74 : decode cX8_init 74 = .ok (.getfield 7, 3) := by decide +kernel
theorem dX8_init_77 : decode cX8_init 77 = .ok (.iconst 1, 1) := by decide +kernel
theorem dX8_init_78 : decode cX8_init 78 = .ok (.bipush 8, 2) := by decide +kernel
theorem dX8_init_80 : decode cX8_init 80 = .ok (.iastore, 1) := by decide +kernel
theorem dX8_init_81 : decode cX8_init 81 = .ok (.iconst 0, 1) := by decide +kernel
theorem dX8_init_82 : decode cX8_init 82 = .ok (.istore_n 1, 1) := by decide +kernel
theorem dX8_init_83 : decode cX8_init 83 = .ok (.iload_n 1, 1) := by decide +kernel
theorem dX8_init_84 : decode cX8_init 84 = .ok (.iconst 4, 1) := by decide +kernel
theorem dX8_init_85 : decode cX8_init 85 = .ok (.if_icmp .ge 23, 3) := by decide +kernel
theorem dX8_init_88 : decode cX8_init 88 = .ok (.aload_n 0, 1) := by decide +kernel
theorem dX8_init_89 : decode cX8_init 89 = .ok (.getfield 7, 3) := by decide +kernel
theorem dX8_init_92 : decode cX8_init 92 = .ok (.iconst 3, 1) := by decide +kernel
theorem dX8_init_93 : decode cX8_init 93 = .ok (.bipush 27, 2) := by decide +kernel
theorem dX8_init_95 : decode cX8_init 95 = .ok (.iload_n 1, 1) := by decide +kernel
theorem dX8_init_96 : decode cX8_init 96 = .ok (.imul, 1) := by decide +kernel
theorem dX8_init_97 : decode cX8_init 97 = .ok (.iadd, 1) := by decide +kernel
theorem dX8_init_98 : decode cX8_init 98 = .ok (.iconst 1, 1) := by decide +kernel
theorem dX8_init_99 : decode cX8_init 99 = .ok (.iadd, 1) := by decide +kernel
theorem dX8_init_100 : decode cX8_init 100 = .ok (.iconst 4, 1) := by decide +kernel
theorem dX8_init_101 : decode cX8_init 101 = .ok (.iastore, 1) := by decide +kernel
theorem dX8_init_102 : decode cX8_init 102 = .ok (.iinc 1 1, 3) := by decide +kernel
theorem dX8_init_105 : decode cX8_init 105 = .ok (.goto (-22), 3) := by decide +kernel
theorem dX8_init_108 : decode cX8_init 108 = .ok (.return_, 1) := by decide +kernel
theorem dX8_in_0 : decode cX8_in 0 = .ok (.iload_n 0, 1) := by decide +kernel
theorem dX8_in_1 : decode cX8_in 1 = .ok (.iload_n 1, 1) := by decide +kernel
theorem dX8_in_2 : decode cX8_in 2 = .ok (.if_icmp .lt 12, 3) := by decide +kernel
theorem dX8_in_5 : decode cX8_in 5 = .ok (.iload_n 0, 1) := by decide +kernel
theorem dX8_in_6 : decode cX8_in 6 = .ok (.iload_n 2, 1) := by decide +kernel
theorem dX8_in_7 : decode cX8_in 7 = .ok (.if_icmp .gt 7, 3) := by decide +kernel
theorem dX8_in_10 : decode cX8_in 10 = .ok (.iconst 1, 1) := by decide +kernel
theorem dX8_in_11 : decode cX8_in 11 = .ok (.goto 4, 3) := by decide +kernel
theorem dX8_in_14 : decode cX8_in 14 = .ok (.iconst 0, 1) := by decide +kernel
theorem dX8_in_15 : decode cX8_in 15 = .ok (.ireturn, 1) := by decide +kernel
theorem dX8_lesser_0 : decode cX8_lesser 0 = .ok (.iload_n 0, 1) := by decide +kernel
theorem dX8_lesser_1 : decode cX8_lesser 1 = .ok (.iload_n 1, 1) := by decide +kernel
theorem dX8_lesser_2 : decode cX8_lesser 2 = .ok (.if_icmp .ge 7, 3) := by decide +kernel
theorem dX8_lesser_5 : decode cX8_lesser 5 = .ok (.iload_n 0, 1) := by decide +kernel
theorem dX8_lesser_6 : decode cX8_lesser 6 = .ok (.goto 4, 3) := by decide +kernel
theorem dX8_lesser_9 : decode cX8_lesser 9 = .ok (.iload_n 1, 1) := by decide +kernel
theorem dX8_lesser_10 : decode cX8_lesser 10 = .ok (.ireturn, 1) := by decide +kernel
theorem dX8_notes_0 : decode cX8_notes 0 = .ok (.aload_n 0, 1) := by decide +kernel
theorem dX8_notes_1 : decode cX8_notes 1 = .ok (.getfield 32, 3) := by decide +kernel
theorem dX8_notes_4 : decode cX8_notes 4 = .ok (.bipush 6, 2) := by decide +kernel
theorem dX8_notes_6 : decode cX8_notes 6 = .ok (.if_icmp .ne 44, 3) := by decide +kernel
theorem dX8_notes_9 : decode cX8_notes 9 = .ok (.iconst 0, 1) := by decide +kernel
theorem dX8_notes_10 : decode cX8_notes 10 = .ok (.istore_n 1, 1) := by decide +kernel
theorem dX8_notes_11 : decode cX8_notes 11 = .ok (.iload_n 1, 1) := by decide +kernel
theorem dX8_notes_12 : decode cX8_notes 12 = .ok (.sipush 3835, 3) := by decide +kernel
theorem dX8_notes_15 : decode cX8_notes 15 = .ok (.if_icmp .ge 25, 3) := by decide +kernel
theorem dX8_notes_18 : decode cX8_notes 18 = .ok (.aload_n 0, 1) := by decide +kernel
theorem dX8_notes_19 : decode cX8_notes 19 = .ok (.getfield 13, 3) := by decide +kernel
theorem dX8_notes_22 : decode cX8_notes 22 = .ok (.iload_n 1, 1) := by decide +kernel
theorem dX8_notes_23 : decode cX8_notes 23 = .ok (.aload_n 0, 1) := by decide +kernel
theorem dX8_notes_24 : decode cX8_notes 24 = .ok (.getfield 13, 3) := by decide +kernel
theorem dX8_notes_27 : decode cX8_notes 27 = .ok (.iload_n 1, 1) := by decide +kernel
theorem dX8_notes_28 : decode cX8_notes 28 = .ok (.sipush 767, 3) := by decide +kernel
theorem dX8_notes_31 : decode cX8_notes 31 = .ok (.iadd, 1) := by decide +kernel
theorem dX8_notes_32 : decode cX8_notes 32 = .ok (.iaload, 1) := by decide +kernel
theorem dX8_notes_33 : decode cX8_notes 33 = .ok (.iastore, 1) := by decide +kernel
theorem dX8_notes_34 : decode cX8_notes 34 = .ok (.iinc 1 1, 3) := by decide +kernel
theorem dX8_notes_37 : decode cX8_notes 37 = .ok (.goto (-26), 3) := by decide +kernel
theorem dX8_notes_40 : decode cX8_notes 40 = .ok (.aload_n 0, 1) := by decide +kernel
theorem dX8_notes_41 : decode cX8_notes 41 = .ok (.dup, 1) := by decide +kernel
theorem dX8_notes_42 : decode cX8_notes 42 = .ok (.getfield 32, 3) := by decide +kernel
theorem dX8_notes_45 : decode cX8_notes 45 = .ok (.iconst 1, 1) := by decide +kernel
theorem dX8_notes_46 : decode cX8_notes 46 = .ok (.isub, 1) := by decide +kernel
theorem dX8_notes_47 : decode cX8_notes 47 = .ok (.putfield 32, 3) := by decide +kernel
theorem dX8_notes_50 : decode cX8_notes 50 = .ok (.iconst 0, 1) := by decide +kernel
theorem dX8_notes_51 : decode cX8_notes 51 = .ok (.istore_n 1, 1) := by decide +kernel
theorem dX8_notes_52 : decode cX8_notes 52 = .ok (.iload_n 1, 1) := by decide +kernel
theorem dX8_notes_53 : decode cX8_notes 53 = .ok (.sipush 767, 3) := by decide +kernel
theorem dX8_notes_56 : decode cX8_notes 56 = .ok (.if_icmp .ge 30, 3) := by decide +kernel
theorem dX8_notes_59 : decode cX8_notes 59 = .ok (.aload_n 0, 1) := by decide +kernel
theorem dX8_notes_60 : decode cX8_notes 60 = .ok (.getfield 13, 3) := by decide +kernel
theorem dX8_notes_63 : decode cX8_notes 63 = .ok (.sipush 767, 3) := by decide +kernel
theorem dX8_notes_66 : decode cX8_notes 66 = .ok (.aload_n 0, 1) := by decide +kernel
theorem dX8_notes_67 : decode cX8_notes 67 = .ok (.getfield 32, 3) := by decide +kernel
theorem dX8_notes_70 : decode cX8_notes 70 = .ok (.imul, 1) := by decide +kernel
theorem dX8_notes_71 : decode cX8_notes 71 = .ok (.iload_n 1, 1) := by decide +kernel
theorem dX8_notes_72 : decode cX8_notes 72 = .ok (.iadd, 1) := by decide +kernel
theorem dX8_notes_73 : decode cX8_notes 73 = .ok (.aload_n 0, 1) := by decide +kernel
theorem dX8_notes_74 : decode cX8_notes 74 = .ok (.getfield 7, 3) := by decide +kernel
theorem dX8_notes_77 : decode cX8_notes 77 = .ok (.iload_n 1, 1) := by decide +kernel
theorem dX8_notes_78 : decode cX8_notes 78 = .ok (.iaload, 1) := by decide +kernel
theorem dX8_notes_79 : decode cX8_notes 79 = .ok (.iastore, 1) := by decide +kernel
theorem dX8_notes_80 : decode cX8_notes 80 = .ok (.iinc 1 1, 3) := by decide +kernel
theorem dX8_notes_83 : decode cX8_notes 83 = .ok (.goto (-31), 3) := by decide +kernel
theorem dX8_notes_86 : decode cX8_notes 86 = .ok (.aload_n 0, 1) := by decide +kernel
theorem dX8_notes_87 : decode cX8_notes 87 = .ok (.dup, 1) := by decide +kernel
theorem dX8_notes_88 : decode cX8_notes 88 = .ok (.getfield 32, 3) := by decide +kernel
theorem dX8_notes_91 : decode cX8_notes 91 = .ok (.iconst 1, 1) := by decide +kernel
theorem dX8_notes_92 : decode cX8_notes 92 = .ok (.iadd, 1) := by decide +kernel
theorem dX8_notes_93 : decode cX8_notes 93 = .ok (.putfield 32, 3) := by decide +kernel
theorem dX8_notes_96 : decode cX8_notes 96 = .ok (.return_, 1) := by decide +kernel
theorem dX8_undo_0 : decode cX8_undo 0 = .ok (.aload_n 0, 1) := by decide +kernel
theorem dX8_undo_1 : decode cX8_undo 1 = .ok (.getfield 32, 3) := by decide +kernel
theorem dX8_undo_4 : decode cX8_undo 4 = .ok (.ifCond .ne 6, 3) := by decide +kernel
theorem dX8_undo_7 : decode cX8_undo 7 = .ok (.bipush (-2), 2) := by decide +kernel
theorem dX8_undo_9 : decode cX8_undo 9 = .ok (.ireturn, 1) := by decide +kernel
theorem dX8_undo_10 : decode cX8_undo 10 = .ok (.aload_n 0, 1) := by decide +kernel
theorem dX8_undo_11 : decode cX8_undo 11 = .ok (.dup, 1) := by decide +kernel
theorem dX8_undo_12 : decode cX8_undo 12 = .ok (.getfield 32, 3) := by decide +kernel
theorem dX8_undo_15 : decode cX8_undo 15 = .ok (.iconst 1, 1) := by decide +kernel
theorem dX8_undo_16 : decode cX8_undo 16 = .ok (.isub, 1) := by decide +kernel
theorem dX8_undo_17 : decode cX8_undo 17 = .ok (.putfield 32, 3) := by decide +kernel
theorem dX8_undo_20 : decode cX8_undo 20 = .ok (.iconst 0, 1) := by decide +kernel
theorem dX8_undo_21 : decode cX8_undo 21 = .ok (.istore_n 1, 1) := by decide +kernel
theorem dX8_undo_22 : decode cX8_undo 22 = .ok (.iload_n 1, 1) := by decide +kernel
theorem dX8_undo_23 : decode cX8_undo 23 = .ok (.sipush 767, 3) := by decide +kernel
theorem dX8_undo_26 : decode cX8_undo 26 = .ok (.if_icmp .ge 30, 3) := by decide +kernel
theorem dX8_undo_29 : decode cX8_undo 29 = .ok (.aload_n 0, 1) := by decide +kernel
theorem dX8_undo_30 : decode cX8_undo 30 = .ok (.getfield 7, 3) := by decide +kernel
theorem dX8_undo_33 : decode cX8_undo 33 = .ok (.iload_n 1, 1) := by decide +kernel
theorem dX8_undo_34 : decode cX8_undo 34 = .ok (.aload_n 0, 1) := by decide +kernel
theorem dX8_undo_35 : decode cX8_undo 35 = .ok (.getfield 13, 3) := by decide +kernel
theorem dX8_undo_38 : decode cX8_undo 38 = .ok (.sipush 767, 3) := by decide +kernel
theorem dX8_undo_41 : decode cX8_undo 41 = .ok (.aload_n 0, 1) := by decide +kernel
theorem dX8_undo_42 : decode cX8_undo 42 = .ok (.getfield 32, 3) := by decide +kernel
theorem dX8_undo_45 : decode cX8_undo 45 = .ok (.imul, 1) := by decide +kernel
theorem dX8_undo_46 : decode cX8_undo 46 = .ok (.iload_n 1, 1) := by decide +kernel
theorem dX8_undo_47 : decode cX8_undo 47 = .ok (.iadd, 1) := by decide +kernel
theorem dX8_undo_48 : decode cX8_undo 48 = .ok (.iaload, 1) := by decide +kernel
theorem dX8_undo_49 : decode cX8_undo 49 = .ok (.iastore, 1) := by decide +kernel
theorem dX8_undo_50 : decode cX8_undo 50 = .ok (.iinc 1 1, 3) := by decide +kernel
theorem dX8_undo_53 : decode cX8_undo 53 = .ok (.goto (-31), 3) := by decide +kernel
theorem dX8_undo_56 : decode cX8_undo 56 = .ok (.aload_n 0, 1) := by decide +kernel
theorem dX8_undo_57 : decode cX8_undo 57 = .ok (.getfield 32, 3) := by decide +kernel
theorem dX8_undo_60 : decode cX8_undo 60 = .ok (.ireturn, 1) := by decide +kernel
theorem dX8_isStyle_0 : decode cX8_isStyle 0 = .ok (.iload_n 0, 1) := by decide +kernel
theorem dX8_isStyle_1 : decode cX8_isStyle 1 = .ok (.iconst 0, 1) := by decide +kernel
theorem dX8_isStyle_2 : decode cX8_isStyle 2 = .ok (.iconst 3, 1) := by decide +kernel
theorem dX8_isStyle_3 : decode cX8_isStyle 3 = .ok (.invokestatic 36, 3) := by decide +kernel
theorem dX8_isStyle_6 : decode cX8_isStyle 6 = .ok (.ireturn, 1) := by decide +kernel
theorem dX8_placeOf_0 : decode cX8_placeOf 0 = .ok (.iconst 3, 1) := by decide +kernel
theorem dX8_placeOf_1 : decode cX8_placeOf 1 = .ok (.bipush 27, 2) := by decide +kernel
theorem dX8_placeOf_3 : decode cX8_placeOf 3 = .ok (.iload_n 0, 1) := by decide +kernel
theorem dX8_placeOf_4 : decode cX8_placeOf 4 = .ok (.imul, 1) := by decide +kernel
theorem dX8_placeOf_5 : decode cX8_placeOf 5 = .ok (.iadd, 1) := by decide +kernel
theorem dX8_placeOf_6 : decode cX8_placeOf 6 = .ok (.iload_n 1, 1) := by decide +kernel
theorem dX8_placeOf_7 : decode cX8_placeOf 7 = .ok (.iadd, 1) := by decide +kernel
theorem dX8_placeOf_8 : decode cX8_placeOf 8 = .ok (.ireturn, 1) := by decide +kernel
theorem dX8_of_0 : decode cX8_of 0 = .ok (.aload_n 0, 1) := by decide +kernel
theorem dX8_of_1 : decode cX8_of 1 = .ok (.getfield 7, 3) := by decide +kernel
theorem dX8_of_4 : decode cX8_of 4 = .ok (.iload_n 1, 1) := by decide +kernel
theorem dX8_of_5 : decode cX8_of 5 = .ok (.iload_n 2, 1) := by decide +kernel
theorem dX8_of_6 : decode cX8_of 6 = .ok (.invokestatic 40, 3) := by decide +kernel
theorem dX8_of_9 : decode cX8_of 9 = .ok (.iaload, 1) := by decide +kernel
theorem dX8_of_10 : decode cX8_of 10 = .ok (.ireturn, 1) := by decide +kernel
theorem dX8_stopOf_0 : decode cX8_stopOf 0 = .ok (.aload_n 0, 1) := by decide +kernel
theorem dX8_stopOf_1 : decode cX8_stopOf 1 = .ok (.iload_n 1, 1) := by decide +kernel
theorem dX8_stopOf_2 : decode cX8_stopOf 2 = .ok (.iconst 3, 1) := by decide +kernel
theorem dX8_stopOf_3 : decode cX8_stopOf 3 = .ok (.iconst 3, 1) := by decide +kernel
theorem dX8_stopOf_4 : decode cX8_stopOf 4 = .ok (.iload_n 2, 1) := by decide +kernel
theorem dX8_stopOf_5 : decode cX8_stopOf 5 = .ok (.imul, 1) := by decide +kernel
theorem dX8_stopOf_6 : decode cX8_stopOf 6 = .ok (.iadd, 1) := by decide +kernel
theorem dX8_stopOf_7 : decode cX8_stopOf 7 = .ok (.iload_n 3, 1) := by decide +kernel
theorem dX8_stopOf_8 : decode cX8_stopOf 8 = .ok (.iadd, 1) := by decide +kernel
theorem dX8_stopOf_9 : decode cX8_stopOf 9 = .ok (.invokevirtual 44, 3) := by decide +kernel
theorem dX8_stopOf_12 : decode cX8_stopOf 12 = .ok (.ireturn, 1) := by decide +kernel
theorem dX8_setNumber_0 : decode cX8_setNumber 0 = .ok (.iload_n 1, 1) := by decide +kernel
theorem dX8_setNumber_1 : decode cX8_setNumber 1 = .ok (.iconst 0, 1) := by decide +kernel
theorem dX8_setNumber_2 : decode cX8_setNumber 2 = .ok (.iconst 1, 1) := by decide +kernel
theorem dX8_setNumber_3 : decode cX8_setNumber 3 = .ok (.invokestatic 36, 3) := by decide +kernel
theorem dX8_setNumber_6 : decode cX8_setNumber 6 = .ok (.ifCond .eq 31, 3) := by decide +kernel
theorem dX8_setNumber_9 : decode cX8_setNumber 9 = .ok (.iload_n 2, 1) := by decide +kernel
theorem dX8_setNumber_10 : decode cX8_setNumber 10 = .ok (.iload_n 1, 1) := by decide +kernel
theorem dX8_setNumber_11 : decode cX8_setNumber 11 = .ok (.ifCond .ne 8, 3) := by decide +kernel
theorem dX8_setNumber_14 : decode cX8_setNumber 14 = .ok (.bipush 20, 2) := by decide +kernel
theorem dX8_setNumber_16 : decode cX8_setNumber 16 = .ok (.goto 4, 3) := by decide +kernel
theorem dX8_setNumber_19 : decode cX8_setNumber 19 = .ok (.iconst 2, 1) := by decide +kernel
theorem dX8_setNumber_20 : decode cX8_setNumber 20 = .ok (.iload_n 1, 1) := by decide +kernel
theorem dX8_setNumber_21 : decode cX8_setNumber 21 = .ok (.ifCond .ne 8, 3) := by decide +kernel
theorem dX8_setNumber_24 : decode cX8_setNumber 24 = .ok (.bipush 80, 2) := by decide +kernel
theorem dX8_setNumber_26 : decode cX8_setNumber 26 = .ok (.goto 5, 3) := by decide +kernel
theorem dX8_setNumber_29 : decode cX8_setNumber 29 = .ok (.bipush 20, 2) := by decide +kernel
theorem dX8_setNumber_31 : decode cX8_setNumber 31 = .ok (.invokestatic 36, 3) := by decide +kernel
theorem dX8_setNumber_34 : decode cX8_setNumber 34 = .ok (.ifCond .ne 5, 3) := by decide +kernel
theorem dX8_setNumber_37 : decode cX8_setNumber 37 = .ok (.iconst (-1), 1) := by decide +kernel
theorem dX8_setNumber_38 : decode cX8_setNumber 38 = .ok (.ireturn, 1) := by decide +kernel
theorem dX8_setNumber_39 : decode cX8_setNumber 39 = .ok (.aload_n 0, 1) := by decide +kernel
theorem dX8_setNumber_40 : decode cX8_setNumber 40 = .ok (.invokevirtual 47, 3) := by decide +kernel
theorem dX8_setNumber_43 : decode cX8_setNumber 43 = .ok (.aload_n 0, 1) := by decide +kernel
theorem dX8_setNumber_44 : decode cX8_setNumber 44 = .ok (.getfield 7, 3) := by decide +kernel
theorem dX8_setNumber_47 : decode cX8_setNumber 47 = .ok (.iload_n 1, 1) := by decide +kernel
theorem dX8_setNumber_48 : decode cX8_setNumber 48 = .ok (.iaload, 1) := by decide +kernel
theorem dX8_setNumber_49 : decode cX8_setNumber 49 = .ok (.istore_n 3, 1) := by decide +kernel
theorem dX8_setNumber_50 : decode cX8_setNumber 50 = .ok (.aload_n 0, 1) := by decide +kernel
theorem dX8_setNumber_51 : decode cX8_setNumber 51 = .ok (.getfield 7, 3) := by decide +kernel
theorem dX8_setNumber_54 : decode cX8_setNumber 54 = .ok (.iload_n 1, 1) := by decide +kernel
theorem dX8_setNumber_55 : decode cX8_setNumber 55 = .ok (.iload_n 2, 1) := by decide +kernel
theorem dX8_setNumber_56 : decode cX8_setNumber 56 = .ok (.iastore, 1) := by decide +kernel
theorem dX8_setNumber_57 : decode cX8_setNumber 57 = .ok (.iload_n 3, 1) := by decide +kernel
theorem dX8_setNumber_58 : decode cX8_setNumber 58 = .ok (.ireturn, 1) := by decide +kernel
theorem dX8_setIndent_0 : decode cX8_setIndent 0 = .ok (.iload_n 1, 1) := by decide +kernel
theorem dX8_setIndent_1 : decode cX8_setIndent 1 = .ok (.invokestatic 50, 3) := by decide +kernel
theorem dX8_setIndent_4 : decode cX8_setIndent 4 = .ok (.ifCond .eq 22, 3) := by decide +kernel
theorem dX8_setIndent_7 : decode cX8_setIndent 7 = .ok (.iload_n 2, 1) := by decide +kernel
theorem dX8_setIndent_8 : decode cX8_setIndent 8 = .ok (.iconst 0, 1) := by decide +kernel
theorem dX8_setIndent_9 : decode cX8_setIndent 9 = .ok (.iconst 1, 1) := by decide +kernel
theorem dX8_setIndent_10 : decode cX8_setIndent 10 = .ok (.invokestatic 36, 3) := by decide +kernel
theorem dX8_setIndent_13 : decode cX8_setIndent 13 = .ok (.ifCond .eq 13, 3) := by decide +kernel
theorem dX8_setIndent_16 : decode cX8_setIndent 16 = .ok (.iload_n 3, 1) := by decide +kernel
theorem dX8_setIndent_17 : decode cX8_setIndent 17 = .ok (.iconst 0, 1) := by decide +kernel
theorem dX8_setIndent_18 : decode cX8_setIndent 18 = .ok (.bipush 19, 2) := by decide +kernel
theorem dX8_setIndent_20 : decode cX8_setIndent 20 = .ok (.invokestatic 36, 3) := by decide +kernel
theorem dX8_setIndent_23 : decode cX8_setIndent 23 = .ok (.ifCond .ne 5, 3) := by decide +kernel
theorem dX8_setIndent_26 : decode cX8_setIndent 26 = .ok (.iconst (-1), 1) := by decide +kernel
theorem dX8_setIndent_27 : decode cX8_setIndent 27 = .ok (.ireturn, 1) := by decide +kernel
theorem dX8_setIndent_28 : decode cX8_setIndent 28 = .ok (.aload_n 0, 1) := by decide +kernel
theorem dX8_setIndent_29 : decode cX8_setIndent 29 = .ok (.invokevirtual 47, 3) := by decide +kernel
theorem dX8_setIndent_32 : decode cX8_setIndent 32 = .ok (.aload_n 0, 1) := by decide +kernel
theorem dX8_setIndent_33 : decode cX8_setIndent 33 = .ok (.iload_n 1, 1) := by decide +kernel
theorem dX8_setIndent_34 : decode cX8_setIndent 34 = .ok (.iload_n 2, 1) := by decide +kernel
theorem dX8_setIndent_35 : decode cX8_setIndent 35 = .ok (.invokevirtual 44, 3) := by decide +kernel
theorem dX8_setIndent_38 : decode cX8_setIndent 38 = .ok (.istore 4, 2) := by decide +kernel
theorem dX8_setIndent_40 : decode cX8_setIndent 40 = .ok (.aload_n 0, 1) := by decide +kernel
theorem dX8_setIndent_41 : decode cX8_setIndent 41 = .ok (.getfield 7, 3) := by decide +kernel
theorem dX8_setIndent_44 : decode cX8_setIndent 44 = .ok (.iload_n 1, 1) := by decide +kernel
theorem dX8_setIndent_45 : decode cX8_setIndent 45 = .ok (.iload_n 2, 1) := by decide +kernel
theorem dX8_setIndent_46 : decode cX8_setIndent 46 = .ok (.invokestatic 40, 3) := by decide +kernel
theorem dX8_setIndent_49 : decode cX8_setIndent 49 = .ok (.iload_n 3, 1) := by decide +kernel
theorem dX8_setIndent_50 : decode cX8_setIndent 50 = .ok (.iastore, 1) := by decide +kernel
theorem dX8_setIndent_51 : decode cX8_setIndent 51 = .ok (.iload 4, 2) := by decide +kernel
theorem dX8_setIndent_53 : decode cX8_setIndent 53 = .ok (.ireturn, 1) := by decide +kernel
theorem dX8_puts_0 : decode cX8_puts 0 = .ok (.iconst 0, 1) := by decide +kernel
theorem dX8_puts_1 : decode cX8_puts 1 = .ok (.istore 5, 2) := by decide +kernel
theorem dX8_puts_3 : decode cX8_puts 3 = .ok (.iload 5, 2) := by decide +kernel
theorem dX8_puts_5 : decode cX8_puts 5 = .ok (.aload_n 0, 1) := by decide +kernel
theorem dX8_puts_6 : decode cX8_puts 6 = .ok (.iload_n 1, 1) := by decide +kernel
theorem dX8_puts_7 : decode cX8_puts 7 = .ok (.iconst 2, 1) := by decide +kernel
theorem dX8_puts_8 : decode cX8_puts 8 = .ok (.invokevirtual 44, 3) := by decide +kernel
theorem dX8_puts_11 : decode cX8_puts 11 = .ok (.if_icmp .ge 21, 3) := by decide +kernel
theorem dX8_puts_14 : decode cX8_puts 14 = .ok (.aload_n 0, 1) := by decide +kernel
theorem dX8_puts_15 : decode cX8_puts 15 = .ok (.iload_n 1, 1) := by decide +kernel
theorem dX8_puts_16 : decode cX8_puts 16 = .ok (.iload 5, 2) := by decide +kernel
theorem dX8_puts_18 : decode cX8_puts 18 = .ok (.iconst 0, 1) := by decide +kernel
theorem dX8_puts_19 : decode cX8_puts 19 = .ok (.invokevirtual 54, 3) := by decide +kernel
theorem dX8_puts_22 : decode cX8_puts 22 = .ok (.iload_n 2, 1) := by decide +kernel
theorem dX8_puts_23 : decode cX8_puts 23 = .ok (.if_icmp .ge 9, 3) := by decide +kernel
theorem dX8_puts_26 : decode cX8_puts 26 = .ok (.iinc 5 1, 3) := by decide +kernel
theorem dX8_puts_29 : decode cX8_puts 29 = .ok (.goto (-26), 3) := by decide +kernel
theorem dX8_puts_32 : decode cX8_puts 32 = .ok (.iload 5, 2) := by decide +kernel
theorem dX8_puts_34 : decode cX8_puts 34 = .ok (.aload_n 0, 1) := by decide +kernel
theorem dX8_puts_35 : decode cX8_puts 35 = .ok (.iload_n 1, 1) := by decide +kernel
theorem dX8_puts_36 : decode cX8_puts 36 = .ok (.iconst 2, 1) := by decide +kernel
theorem dX8_puts_37 : decode cX8_puts 37 = .ok (.invokevirtual 44, 3) := by decide +kernel
theorem dX8_puts_40 : decode cX8_puts 40 = .ok (.if_icmp .ge 19, 3) := by decide +kernel
theorem dX8_puts_43 : decode cX8_puts 43 = .ok (.aload_n 0, 1) := by decide +kernel
theorem dX8_puts_44 : decode cX8_puts 44 = .ok (.iload_n 1, 1) := by decide +kernel
theorem dX8_puts_45 : decode cX8_puts 45 = .ok (.iload 5, 2) := by decide +kernel
theorem dX8_puts_47 : decode cX8_puts 47 = .ok (.iconst 0, 1) := by decide +kernel
theorem dX8_puts_48 : decode cX8_puts 48 = .ok (.invokevirtual 54, 3) := by decide +kernel
theorem dX8_puts_51 : decode cX8_puts 51 = .ok (.iload_n 2, 1) := by decide +kernel
theorem dX8_puts_52 : decode cX8_puts 52 = .ok (.if_icmp .ne 7, 3) := by decide +kernel
theorem dX8_puts_55 : decode cX8_puts 55 = .ok (.iconst 1, 1) := by decide +kernel
theorem dX8_puts_56 : decode cX8_puts 56 = .ok (.goto 4, 3) := by decide +kernel
theorem dX8_puts_59 : decode cX8_puts 59 = .ok (.iconst 0, 1) := by decide +kernel
theorem dX8_puts_60 : decode cX8_puts 60 = .ok (.istore 6, 2) := by decide +kernel
theorem dX8_puts_62 : decode cX8_puts 62 = .ok (.iload 6, 2) := by decide +kernel
theorem dX8_puts_64 : decode cX8_puts 64 = .ok (.ifCond .ne 74, 3) := by decide +kernel
theorem dX8_puts_67 : decode cX8_puts 67 = .ok (.iconst 3, 1) := by decide +kernel
theorem dX8_puts_68 : decode cX8_puts 68 = .ok (.aload_n 0, 1) := by decide +kernel
theorem dX8_puts_69 : decode cX8_puts 69 = .ok (.iload_n 1, 1) := by decide +kernel
theorem dX8_puts_70 : decode cX8_puts 70 = .ok (.iconst 2, 1) := by decide +kernel
theorem dX8_puts_71 : decode cX8_puts 71 = .ok (.invokevirtual 44, 3) := by decide +kernel
theorem dX8_puts_74 : decode cX8_puts 74 = .ok (.imul, 1) := by decide +kernel
theorem dX8_puts_75 : decode cX8_puts 75 = .ok (.iconst 2, 1) := by decide +kernel
theorem dX8_puts_76 : decode cX8_puts 76 = .ok (.iadd, 1) := by decide +kernel
theorem dX8_puts_77 : decode cX8_puts 77 = .ok (.istore 7, 2) := by decide +kernel
theorem dX8_puts_79 : decode cX8_puts 79 = .ok (.iload 7, 2) := by decide +kernel
theorem dX8_puts_81 : decode cX8_puts 81 = .ok (.iconst 3, 1) := by decide +kernel
theorem dX8_puts_82 : decode cX8_puts 82 = .ok (.iload 5, 2) := by decide +kernel
theorem dX8_puts_84 : decode cX8_puts 84 = .ok (.imul, 1) := by decide +kernel
theorem dX8_puts_85 : decode cX8_puts 85 = .ok (.iconst 3, 1) := by decide +kernel
theorem dX8_puts_86 : decode cX8_puts 86 = .ok (.iadd, 1) := by decide +kernel
theorem dX8_puts_87 : decode cX8_puts 87 = .ok (.if_icmp .lt 37, 3) := by decide +kernel
theorem dX8_puts_90 : decode cX8_puts 90 = .ok (.aload_n 0, 1) := by decide +kernel
theorem dX8_puts_91 : decode cX8_puts 91 = .ok (.getfield 7, 3) := by decide +kernel
theorem dX8_puts_94 : decode cX8_puts 94 = .ok (.iload_n 1, 1) := by decide +kernel
theorem dX8_puts_95 : decode cX8_puts 95 = .ok (.iconst 3, 1) := by decide +kernel
theorem dX8_puts_96 : decode cX8_puts 96 = .ok (.iload 7, 2) := by decide +kernel
theorem dX8_puts_98 : decode cX8_puts 98 = .ok (.iadd, 1) := by decide +kernel
theorem dX8_puts_99 : decode cX8_puts 99 = .ok (.invokestatic 40, 3) := by decide +kernel
theorem dX8_puts_102 : decode cX8_puts 102 = .ok (.aload_n 0, 1) := by decide +kernel
theorem dX8_puts_103 : decode cX8_puts 103 = .ok (.getfield 7, 3) := by decide +kernel
theorem dX8_puts_106 : decode cX8_puts 106 = .ok (.iload_n 1, 1) := by decide +kernel
theorem dX8_puts_107 : decode cX8_puts 107 = .ok (.iconst 3, 1) := by decide +kernel
theorem dX8_puts_108 : decode cX8_puts 108 = .ok (.iload 7, 2) := by decide +kernel
theorem dX8_puts_110 : decode cX8_puts 110 = .ok (.iadd, 1) := by decide +kernel
theorem dX8_puts_111 : decode cX8_puts 111 = .ok (.iconst 3, 1) := by decide +kernel
theorem dX8_puts_112 : decode cX8_puts 112 = .ok (.isub, 1) := by decide +kernel
theorem dX8_puts_113 : decode cX8_puts 113 = .ok (.invokestatic 40, 3) := by decide +kernel
theorem dX8_puts_116 : decode cX8_puts 116 = .ok (.iaload, 1) := by decide +kernel
theorem dX8_puts_117 : decode cX8_puts 117 = .ok (.iastore, 1) := by decide +kernel
theorem dX8_puts_118 : decode cX8_puts 118 = .ok (.iinc 7 (-1), 3) := by decide +kernel
theorem dX8_puts_121 : decode cX8_puts 121 = .ok (.goto (-42), 3) := by decide +kernel
theorem dX8_puts_124 : decode cX8_puts 124 = .ok (.aload_n 0, 1) := by decide +kernel
theorem dX8_puts_125 : decode cX8_puts 125 = .ok (.getfield 7, 3) := by decide +kernel
theorem dX8_puts_128 : decode cX8_puts 128 = .ok (.iload_n 1, 1) := by decide +kernel
theorem dX8_puts_129 : decode cX8_puts 129 = .ok (.iconst 2, 1) := by decide +kernel
theorem dX8_puts_130 : decode cX8_puts 130 = .ok (.invokestatic 40, 3) := by decide +kernel
theorem dX8_puts_133 : decode cX8_puts 133 = .ok (.dup2, 1) := by decide +kernel
theorem dX8_puts_134 : decode cX8_puts 134 = .ok (.iaload, 1) := by decide +kernel
theorem dX8_puts_135 : decode cX8_puts 135 = .ok (.iconst 1, 1) := by decide +kernel
theorem dX8_puts_136 : decode cX8_puts 136 = .ok (.iadd, 1) := by decide +kernel
theorem dX8_puts_137 : decode cX8_puts 137 = .ok (.iastore, 1) := by decide +kernel
theorem dX8_puts_138 : decode cX8_puts 138 = .ok (.aload_n 0, 1) := by decide +kernel
theorem dX8_puts_139 : decode cX8_puts 139 = .ok (.getfield 7, 3) := by decide +kernel
theorem dX8_puts_142 : decode cX8_puts 142 = .ok (.iload_n 1, 1) := by decide +kernel
theorem dX8_puts_143 : decode cX8_puts 143 = .ok (.iconst 3, 1) := by decide +kernel
theorem dX8_puts_144 : decode cX8_puts 144 = .ok (.iconst 3, 1) := by decide +kernel
theorem dX8_puts_145 : decode cX8_puts 145 = .ok (.iload 5, 2) := by decide +kernel
theorem dX8_puts_147 : decode cX8_puts 147 = .ok (.imul, 1) := by decide +kernel
theorem dX8_puts_148 : decode cX8_puts 148 = .ok (.iadd, 1) := by decide +kernel
theorem dX8_puts_149 : decode cX8_puts 149 = .ok (.invokestatic 40, 3) := by decide +kernel
theorem dX8_puts_152 : decode cX8_puts 152 = .ok (.iload_n 2, 1) := by decide +kernel
theorem dX8_puts_153 : decode cX8_puts 153 = .ok (.iastore, 1) := by decide +kernel
theorem dX8_puts_154 : decode cX8_puts 154 = .ok (.aload_n 0, 1) := by decide +kernel
theorem dX8_puts_155 : decode cX8_puts 155 = .ok (.getfield 7, 3) := by decide +kernel
theorem dX8_puts_158 : decode cX8_puts 158 = .ok (.iload_n 1, 1) := by decide +kernel
theorem dX8_puts_159 : decode cX8_puts 159 = .ok (.iconst 3, 1) := by decide +kernel
theorem dX8_puts_160 : decode cX8_puts 160 = .ok (.iconst 3, 1) := by decide +kernel
theorem dX8_puts_161 : decode cX8_puts 161 = .ok (.iload 5, 2) := by decide +kernel
theorem dX8_puts_163 : decode cX8_puts 163 = .ok (.imul, 1) := by decide +kernel
theorem dX8_puts_164 : decode cX8_puts 164 = .ok (.iadd, 1) := by decide +kernel
theorem dX8_puts_165 : decode cX8_puts 165 = .ok (.iconst 1, 1) := by decide +kernel
theorem dX8_puts_166 : decode cX8_puts 166 = .ok (.iadd, 1) := by decide +kernel
theorem dX8_puts_167 : decode cX8_puts 167 = .ok (.invokestatic 40, 3) := by decide +kernel
theorem dX8_puts_170 : decode cX8_puts 170 = .ok (.iload_n 3, 1) := by decide +kernel
theorem dX8_puts_171 : decode cX8_puts 171 = .ok (.iastore, 1) := by decide +kernel
theorem dX8_puts_172 : decode cX8_puts 172 = .ok (.aload_n 0, 1) := by decide +kernel
theorem dX8_puts_173 : decode cX8_puts 173 = .ok (.getfield 7, 3) := by decide +kernel
theorem dX8_puts_176 : decode cX8_puts 176 = .ok (.iload_n 1, 1) := by decide +kernel
theorem dX8_puts_177 : decode cX8_puts 177 = .ok (.iconst 3, 1) := by decide +kernel
theorem dX8_puts_178 : decode cX8_puts 178 = .ok (.iconst 3, 1) := by decide +kernel
theorem dX8_puts_179 : decode cX8_puts 179 = .ok (.iload 5, 2) := by decide +kernel
theorem dX8_puts_181 : decode cX8_puts 181 = .ok (.imul, 1) := by decide +kernel
theorem dX8_puts_182 : decode cX8_puts 182 = .ok (.iadd, 1) := by decide +kernel
theorem dX8_puts_183 : decode cX8_puts 183 = .ok (.iconst 2, 1) := by decide +kernel
theorem dX8_puts_184 : decode cX8_puts 184 = .ok (.iadd, 1) := by decide +kernel
theorem dX8_puts_185 : decode cX8_puts 185 = .ok (.invokestatic 40, 3) := by decide +kernel
theorem dX8_puts_188 : decode cX8_puts 188 = .ok (.iload 4, 2) := by decide +kernel
theorem dX8_puts_190 : decode cX8_puts 190 = .ok (.iastore, 1) := by decide +kernel
theorem dX8_puts_191 : decode cX8_puts 191 = .ok (.iload 5, 2) := by decide +kernel
theorem dX8_puts_193 : decode cX8_puts 193 = .ok (.ireturn, 1) := by decide +kernel
theorem dX8_hasStop_0 : decode cX8_hasStop 0 = .ok (.iconst 0, 1) := by decide +kernel
theorem dX8_hasStop_1 : decode cX8_hasStop 1 = .ok (.istore_n 3, 1) := by decide +kernel
theorem dX8_hasStop_2 : decode cX8_hasStop 2 = .ok (.iconst 0, 1) := by decide +kernel
theorem dX8_hasStop_3 : decode cX8_hasStop 3 = .ok (.istore 4, 2) := by decide +kernel
theorem dX8_hasStop_5 : decode cX8_hasStop 5 = .ok (.iload 4, 2) := by decide +kernel
theorem dX8_hasStop_7 : decode cX8_hasStop 7 = .ok (.aload_n 0, 1) := by decide +kernel
theorem dX8_hasStop_8 : decode cX8_hasStop 8 = .ok (.iload_n 1, 1) := by decide +kernel
theorem dX8_hasStop_9 : decode cX8_hasStop 9 = .ok (.iconst 2, 1) := by decide +kernel
theorem dX8_hasStop_10 : decode cX8_hasStop 10 = .ok (.invokevirtual 44, 3) := by decide +kernel
theorem dX8_hasStop_13 : decode cX8_hasStop 13 = .ok (.if_icmp .ge 31, 3) := by decide +kernel
theorem dX8_hasStop_16 : decode cX8_hasStop 16 = .ok (.iload_n 3, 1) := by decide +kernel
theorem dX8_hasStop_17 : decode cX8_hasStop 17 = .ok (.ifCond .ne 15, 3) := by decide +kernel
theorem dX8_hasStop_20 : decode cX8_hasStop 20 = .ok (.aload_n 0, 1) := by decide +kernel
theorem dX8_hasStop_21 : decode cX8_hasStop 21 = .ok (.iload_n 1, 1) := by decide +kernel
theorem dX8_hasStop_22 : decode cX8_hasStop 22 = .ok (.iload 4, 2) := by decide +kernel
theorem dX8_hasStop_24 : decode cX8_hasStop 24 = .ok (.iconst 0, 1) := by decide +kernel
theorem dX8_hasStop_25 : decode cX8_hasStop 25 = .ok (.invokevirtual 54, 3) := by decide +kernel
theorem dX8_hasStop_28 : decode cX8_hasStop 28 = .ok (.iload_n 2, 1) := by decide +kernel
theorem dX8_hasStop_29 : decode cX8_hasStop 29 = .ok (.if_icmp .ne 7, 3) := by decide +kernel
theorem dX8_hasStop_32 : decode cX8_hasStop 32 = .ok (.iconst 1, 1) := by decide +kernel
theorem dX8_hasStop_33 : decode cX8_hasStop 33 = .ok (.goto 4, 3) := by decide +kernel
theorem dX8_hasStop_36 : decode cX8_hasStop 36 = .ok (.iconst 0, 1) := by decide +kernel
theorem dX8_hasStop_37 : decode cX8_hasStop 37 = .ok (.istore_n 3, 1) := by decide +kernel
theorem dX8_hasStop_38 : decode cX8_hasStop 38 = .ok (.iinc 4 1, 3) := by decide +kernel
theorem dX8_hasStop_41 : decode cX8_hasStop 41 = .ok (.goto (-36), 3) := by decide +kernel
theorem dX8_hasStop_44 : decode cX8_hasStop 44 = .ok (.iload_n 3, 1) := by decide +kernel
theorem dX8_hasStop_45 : decode cX8_hasStop 45 = .ok (.ireturn, 1) := by decide +kernel
theorem dX8_setStop_0 : decode cX8_setStop 0 = .ok (.iload_n 1, 1) := by decide +kernel
theorem dX8_setStop_1 : decode cX8_setStop 1 = .ok (.invokestatic 50, 3) := by decide +kernel
theorem dX8_setStop_4 : decode cX8_setStop 4 = .ok (.ifCond .eq 41, 3) := by decide +kernel
theorem dX8_setStop_7 : decode cX8_setStop 7 = .ok (.iload_n 2, 1) := by decide +kernel
theorem dX8_setStop_8 : decode cX8_setStop 8 = .ok (.iconst 1, 1) := by decide +kernel
theorem dX8_setStop_9 : decode cX8_setStop 9 = .ok (.bipush 80, 2) := by decide +kernel
theorem dX8_setStop_11 : decode cX8_setStop 11 = .ok (.invokestatic 36, 3) := by decide +kernel
theorem dX8_setStop_14 : decode cX8_setStop 14 = .ok (.ifCond .eq 31, 3) := by decide +kernel
theorem dX8_setStop_17 : decode cX8_setStop 17 = .ok (.iload_n 3, 1) := by decide +kernel
theorem dX8_setStop_18 : decode cX8_setStop 18 = .ok (.iconst 0, 1) := by decide +kernel
theorem dX8_setStop_19 : decode cX8_setStop 19 = .ok (.iconst 4, 1) := by decide +kernel
theorem dX8_setStop_20 : decode cX8_setStop 20 = .ok (.invokestatic 36, 3) := by decide +kernel
theorem dX8_setStop_23 : decode cX8_setStop 23 = .ok (.ifCond .eq 22, 3) := by decide +kernel
theorem dX8_setStop_26 : decode cX8_setStop 26 = .ok (.iload 4, 2) := by decide +kernel
theorem dX8_setStop_28 : decode cX8_setStop 28 = .ok (.iconst 0, 1) := by decide +kernel
theorem dX8_setStop_29 : decode cX8_setStop 29 = .ok (.iload_n 3, 1) := by decide +kernel
theorem dX8_setStop_30 : decode cX8_setStop 30 = .ok (.iconst 4, 1) := by decide +kernel
theorem dX8_setStop_31 : decode cX8_setStop 31 = .ok (.if_icmp .ne 7, 3) := by decide +kernel
theorem dX8_setStop_34 : decode cX8_setStop 34 = .ok (.iconst 0, 1) := by decide +kernel
theorem dX8_setStop_35 : decode cX8_setStop 35 = .ok (.goto 4, 3) := by decide +kernel
theorem dX8_setStop_38 : decode cX8_setStop 38 = .ok (.iconst 3, 1) := by decide +kernel
theorem dX8_setStop_39 : decode cX8_setStop 39 = .ok (.invokestatic 36, 3) := by decide +kernel
theorem dX8_setStop_42 : decode cX8_setStop 42 = .ok (.ifCond .ne 5, 3) := by decide +kernel
theorem dX8_setStop_45 : decode cX8_setStop 45 = .ok (.iconst (-1), 1) := by decide +kernel
theorem dX8_setStop_46 : decode cX8_setStop 46 = .ok (.ireturn, 1) := by decide +kernel
theorem dX8_setStop_47 : decode cX8_setStop 47 = .ok (.aload_n 0, 1) := by decide +kernel
theorem dX8_setStop_48 : decode cX8_setStop 48 = .ok (.iload_n 1, 1) := by decide +kernel
theorem dX8_setStop_49 : decode cX8_setStop 49 = .ok (.iconst 2, 1) := by decide +kernel
theorem dX8_setStop_50 : decode cX8_setStop 50 = .ok (.invokevirtual 44, 3) := by decide +kernel
theorem dX8_setStop_53 : decode cX8_setStop 53 = .ok (.bipush 8, 2) := by decide +kernel
theorem dX8_setStop_55 : decode cX8_setStop 55 = .ok (.if_icmp .ne 15, 3) := by decide +kernel
theorem dX8_setStop_58 : decode cX8_setStop 58 = .ok (.aload_n 0, 1) := by decide +kernel
theorem dX8_setStop_59 : decode cX8_setStop 59 = .ok (.iload_n 1, 1) := by decide +kernel
theorem dX8_setStop_60 : decode cX8_setStop 60 = .ok (.iload_n 2, 1) := by decide +kernel
theorem dX8_setStop_61 : decode cX8_setStop 61 = .ok (.invokevirtual 58, 3) := by decide +kernel
theorem dX8_setStop_64 : decode cX8_setStop 64 = .ok (.ifCond .ne 6, 3) := by decide +kernel
theorem dX8_setStop_67 : decode cX8_setStop 67 = .ok (.bipush (-3), 2) := by decide +kernel
theorem dX8_setStop_69 : decode cX8_setStop 69 = .ok (.ireturn, 1) := by decide +kernel
theorem dX8_setStop_70 : decode cX8_setStop 70 = .ok (.aload_n 0, 1) := by decide +kernel
theorem dX8_setStop_71 : decode cX8_setStop 71 = .ok (.invokevirtual 47, 3) := by decide +kernel
theorem dX8_setStop_74 : decode cX8_setStop 74 = .ok (.aload_n 0, 1) := by decide +kernel
theorem dX8_setStop_75 : decode cX8_setStop 75 = .ok (.iload_n 1, 1) := by decide +kernel
theorem dX8_setStop_76 : decode cX8_setStop 76 = .ok (.iload_n 2, 1) := by decide +kernel
theorem dX8_setStop_77 : decode cX8_setStop 77 = .ok (.iload_n 3, 1) := by decide +kernel
theorem dX8_setStop_78 : decode cX8_setStop 78 = .ok (.iload 4, 2) := by decide +kernel
theorem dX8_setStop_80 : decode cX8_setStop 80 = .ok (.invokevirtual 62, 3) := by decide +kernel
theorem dX8_setStop_83 : decode cX8_setStop 83 = .ok (.ireturn, 1) := by decide +kernel
theorem dX8_removeStop_0 : decode cX8_removeStop 0 = .ok (.iload_n 1, 1) := by decide +kernel
theorem dX8_removeStop_1 : decode cX8_removeStop 1 = .ok (.invokestatic 50, 3) := by decide +kernel
theorem dX8_removeStop_4 : decode cX8_removeStop 4 = .ok (.ifCond .eq 19, 3) := by decide +kernel
theorem dX8_removeStop_7 : decode cX8_removeStop 7 = .ok (.iload_n 2, 1) := by decide +kernel
theorem dX8_removeStop_8 : decode cX8_removeStop 8 = .ok (.iconst 0, 1) := by decide +kernel
theorem dX8_removeStop_9 : decode cX8_removeStop 9 = .ok (.aload_n 0, 1) := by decide +kernel
theorem dX8_removeStop_10 : decode cX8_removeStop 10 = .ok (.iload_n 1, 1) := by decide +kernel
theorem dX8_removeStop_11 : decode cX8_removeStop 11 = .ok (.iconst 2, 1) := by decide +kernel
theorem dX8_removeStop_12 : decode cX8_removeStop 12 = .ok (.invokevirtual 44, 3) := by decide +kernel
theorem dX8_removeStop_15 : decode cX8_removeStop 15 = .ok (.iconst 1, 1) := by decide +kernel
theorem dX8_removeStop_16 : decode cX8_removeStop 16 = .ok (.isub, 1) := by decide +kernel
theorem dX8_removeStop_17 : decode cX8_removeStop 17 = .ok (.invokestatic 36, 3) := by decide +kernel
theorem dX8_removeStop_20 : decode cX8_removeStop 20 = .ok (.ifCond .ne 5, 3) := by decide +kernel
theorem dX8_removeStop_23 : decode cX8_removeStop 23 = .ok (.iconst (-1), 1) := by decide +kernel
theorem dX8_removeStop_24 : decode cX8_removeStop 24 = .ok (.ireturn, 1) := by decide +kernel
theorem dX8_removeStop_25 : decode cX8_removeStop 25 = .ok (.aload_n 0, 1) := by decide +kernel
theorem dX8_removeStop_26 : decode cX8_removeStop 26 = .ok (.invokevirtual 47, 3) := by decide +kernel
theorem dX8_removeStop_29 : decode cX8_removeStop 29 = .ok (.aload_n 0, 1) := by decide +kernel
theorem dX8_removeStop_30 : decode cX8_removeStop 30 = .ok (.getfield 7, 3) := by decide +kernel
theorem dX8_removeStop_33 : decode cX8_removeStop 33 = .ok (.iload_n 1, 1) := by decide +kernel
theorem dX8_removeStop_34 : decode cX8_removeStop 34 = .ok (.iconst 2, 1) := by decide +kernel
theorem dX8_removeStop_35 : decode cX8_removeStop 35 = .ok (.invokestatic 40, 3) := by decide +kernel
theorem dX8_removeStop_38 : decode cX8_removeStop 38 = .ok (.dup2, 1) := by decide +kernel
theorem dX8_removeStop_39 : decode cX8_removeStop 39 = .ok (.iaload, 1) := by decide +kernel
theorem dX8_removeStop_40 : decode cX8_removeStop 40 = .ok (.iconst 1, 1) := by decide +kernel
theorem dX8_removeStop_41 : decode cX8_removeStop 41 = .ok (.isub, 1) := by decide +kernel
theorem dX8_removeStop_42 : decode cX8_removeStop 42 = .ok (.iastore, 1) := by decide +kernel
theorem dX8_removeStop_43 : decode cX8_removeStop 43 = .ok (.iconst 3, 1) := by decide +kernel
theorem dX8_removeStop_44 : decode cX8_removeStop 44 = .ok (.iload_n 2, 1) := by decide +kernel
theorem dX8_removeStop_45 : decode cX8_removeStop 45 = .ok (.imul, 1) := by decide +kernel
theorem dX8_removeStop_46 : decode cX8_removeStop 46 = .ok (.istore_n 3, 1) := by decide +kernel
theorem dX8_removeStop_47 : decode cX8_removeStop 47 = .ok (.iload_n 3, 1) := by decide +kernel
theorem dX8_removeStop_48 : decode cX8_removeStop 48 = .ok (.iconst 3, 1) := by decide +kernel
theorem dX8_removeStop_49 : decode cX8_removeStop 49 = .ok (.aload_n 0, 1) := by decide +kernel
theorem dX8_removeStop_50 : decode cX8_removeStop 50 = .ok (.iload_n 1, 1) := by decide +kernel
theorem dX8_removeStop_51 : decode cX8_removeStop 51 = .ok (.iconst 2, 1) := by decide +kernel
theorem dX8_removeStop_52 : decode cX8_removeStop 52 = .ok (.invokevirtual 44, 3) := by decide +kernel
theorem dX8_removeStop_55 : decode cX8_removeStop 55 = .ok (.imul, 1) := by decide +kernel
theorem dX8_removeStop_56 : decode cX8_removeStop 56 = .ok (.if_icmp .ge 35, 3) := by decide +kernel
theorem dX8_removeStop_59 : decode cX8_removeStop 59 = .ok (.aload_n 0, 1) := by decide +kernel
theorem dX8_removeStop_60 : decode cX8_removeStop 60 = .ok (.getfield 7, 3) := by decide +kernel
theorem dX8_removeStop_63 : decode cX8_removeStop 63 = .ok (.iload_n 1, 1) := by decide +kernel
theorem dX8_removeStop_64 : decode cX8_removeStop 64 = .ok (.iconst 3, 1) := by decide +kernel
theorem dX8_removeStop_65 : decode cX8_removeStop 65 = .ok (.iload_n 3, 1) := by decide +kernel
theorem dX8_removeStop_66 : decode cX8_removeStop 66 = .ok (.iadd, 1) := by decide +kernel
theorem dX8_removeStop_67 : decode cX8_removeStop 67 = .ok (.invokestatic 40, 3) := by decide +kernel
theorem dX8_removeStop_70 : decode cX8_removeStop 70 = .ok (.aload_n 0, 1) := by decide +kernel
theorem dX8_removeStop_71 : decode cX8_removeStop 71 = .ok (.getfield 7, 3) := by decide +kernel
theorem dX8_removeStop_74 : decode cX8_removeStop 74 = .ok (.iload_n 1, 1) := by decide +kernel
theorem dX8_removeStop_75 : decode cX8_removeStop 75 = .ok (.iconst 3, 1) := by decide +kernel
theorem dX8_removeStop_76 : decode cX8_removeStop 76 = .ok (.iload_n 3, 1) := by decide +kernel
theorem dX8_removeStop_77 : decode cX8_removeStop 77 = .ok (.iadd, 1) := by decide +kernel
theorem dX8_removeStop_78 : decode cX8_removeStop 78 = .ok (.iconst 3, 1) := by decide +kernel
theorem dX8_removeStop_79 : decode cX8_removeStop 79 = .ok (.iadd, 1) := by decide +kernel
theorem dX8_removeStop_80 : decode cX8_removeStop 80 = .ok (.invokestatic 40, 3) := by decide +kernel
theorem dX8_removeStop_83 : decode cX8_removeStop 83 = .ok (.iaload, 1) := by decide +kernel
theorem dX8_removeStop_84 : decode cX8_removeStop 84 = .ok (.iastore, 1) := by decide +kernel
theorem dX8_removeStop_85 : decode cX8_removeStop 85 = .ok (.iinc 3 1, 3) := by decide +kernel
theorem dX8_removeStop_88 : decode cX8_removeStop 88 = .ok (.goto (-41), 3) := by decide +kernel
theorem dX8_removeStop_91 : decode cX8_removeStop 91 = .ok (.aload_n 0, 1) := by decide +kernel
theorem dX8_removeStop_92 : decode cX8_removeStop 92 = .ok (.iload_n 1, 1) := by decide +kernel
theorem dX8_removeStop_93 : decode cX8_removeStop 93 = .ok (.iconst 2, 1) := by decide +kernel
theorem dX8_removeStop_94 : decode cX8_removeStop 94 = .ok (.invokevirtual 44, 3) := by decide +kernel
theorem dX8_removeStop_97 : decode cX8_removeStop 97 = .ok (.ireturn, 1) := by decide +kernel
theorem dX8_appendCharacter_0 : decode cX8_appendCharacter 0 = .ok (.iload_n 1, 1) := by decide +kernel
theorem dX8_appendCharacter_1 : decode cX8_appendCharacter 1 = .ok (.iconst 0, 1) := by decide +kernel
theorem dX8_appendCharacter_2 : decode cX8_appendCharacter 2 = .ok (.sipush 255, 3) := by decide +kernel
theorem dX8_appendCharacter_5 : decode cX8_appendCharacter 5 = .ok (.invokestatic 36, 3) := by decide +kernel
theorem dX8_appendCharacter_8 : decode cX8_appendCharacter 8 = .ok (.ifCond .ne 5, 3) := by decide +kernel
theorem dX8_appendCharacter_11 : decode cX8_appendCharacter 11 = .ok (.iconst (-1), 1) := by decide +kernel
theorem dX8_appendCharacter_12 : decode cX8_appendCharacter 12 = .ok (.ireturn, 1) := by decide +kernel
theorem dX8_appendCharacter_13 : decode cX8_appendCharacter 13 = .ok (.aload_n 0, 1) := by decide +kernel
theorem dX8_appendCharacter_14 : decode cX8_appendCharacter 14 = .ok (.getfield 66, 3) := by decide +kernel
theorem dX8_appendCharacter_17 : decode cX8_appendCharacter 17 = .ok (.bipush 100, 2) := by decide +kernel
theorem dX8_appendCharacter_19 : decode cX8_appendCharacter 19 = .ok (.if_icmp .ne 6, 3) := by decide +kernel
theorem dX8_appendCharacter_22 : decode cX8_appendCharacter 22 = .ok (.bipush (-3), 2) := by decide +kernel
theorem dX8_appendCharacter_24 : decode cX8_appendCharacter 24 = .ok (.ireturn, 1) := by decide +kernel
theorem dX8_appendCharacter_25 : decode cX8_appendCharacter 25 = .ok (.aload_n 0, 1) := by decide +kernel
theorem dX8_appendCharacter_26 : decode cX8_appendCharacter 26 = .ok (.getfield 16, 3) := by decide +kernel
theorem dX8_appendCharacter_29 : decode cX8_appendCharacter 29 = .ok (.aload_n 0, 1) := by decide +kernel
theorem dX8_appendCharacter_30 : decode cX8_appendCharacter 30 = .ok (.getfield 66, 3) := by decide +kernel
theorem dX8_appendCharacter_33 : decode cX8_appendCharacter 33 = .ok (.iload_n 1, 1) := by decide +kernel
theorem dX8_appendCharacter_34 : decode cX8_appendCharacter 34 = .ok (.i2b, 1) := by decide +kernel
theorem dX8_appendCharacter_35 : decode cX8_appendCharacter 35 = .ok (.bastore, 1) := by decide +kernel
theorem dX8_appendCharacter_36 : decode cX8_appendCharacter 36 = .ok (.aload_n 0, 1) := by decide +kernel
theorem dX8_appendCharacter_37 : decode cX8_appendCharacter 37 = .ok (.dup, 1) := by decide +kernel
theorem dX8_appendCharacter_38 : decode cX8_appendCharacter 38 = .ok (.getfield 66, 3) := by decide +kernel
theorem dX8_appendCharacter_41 : decode cX8_appendCharacter 41 = .ok (.iconst 1, 1) := by decide +kernel
theorem dX8_appendCharacter_42 : decode cX8_appendCharacter 42 = .ok (.iadd, 1) := by decide +kernel
theorem dX8_appendCharacter_43 : decode cX8_appendCharacter 43 = .ok (.putfield 66, 3) := by decide +kernel
theorem dX8_appendCharacter_46 : decode cX8_appendCharacter 46 = .ok (.aload_n 0, 1) := by decide +kernel
theorem dX8_appendCharacter_47 : decode cX8_appendCharacter 47 = .ok (.getfield 66, 3) := by decide +kernel
theorem dX8_appendCharacter_50 : decode cX8_appendCharacter 50 = .ok (.ireturn, 1) := by decide +kernel
theorem dX8_clearText_0 : decode cX8_clearText 0 = .ok (.aload_n 0, 1) := by decide +kernel
theorem dX8_clearText_1 : decode cX8_clearText 1 = .ok (.getfield 66, 3) := by decide +kernel
theorem dX8_clearText_4 : decode cX8_clearText 4 = .ok (.istore_n 1, 1) := by decide +kernel
theorem dX8_clearText_5 : decode cX8_clearText 5 = .ok (.aload_n 0, 1) := by decide +kernel
theorem dX8_clearText_6 : decode cX8_clearText 6 = .ok (.iconst 0, 1) := by decide +kernel
theorem dX8_clearText_7 : decode cX8_clearText 7 = .ok (.putfield 66, 3) := by decide +kernel
theorem dX8_clearText_10 : decode cX8_clearText 10 = .ok (.iload_n 1, 1) := by decide +kernel
theorem dX8_clearText_11 : decode cX8_clearText 11 = .ok (.ireturn, 1) := by decide +kernel
theorem dX8_here_0 : decode cX8_here 0 = .ok (.aload_n 0, 1) := by decide +kernel
theorem dX8_here_1 : decode cX8_here 1 = .ok (.getfield 69, 3) := by decide +kernel
theorem dX8_here_4 : decode cX8_here 4 = .ok (.aload_n 0, 1) := by decide +kernel
theorem dX8_here_5 : decode cX8_here 5 = .ok (.getfield 66, 3) := by decide +kernel
theorem dX8_here_8 : decode cX8_here 8 = .ok (.if_icmp .ge 30, 3) := by decide +kernel
theorem dX8_here_11 : decode cX8_here 11 = .ok (.aload_n 0, 1) := by decide +kernel
theorem dX8_here_12 : decode cX8_here 12 = .ok (.getfield 16, 3) := by decide +kernel
theorem dX8_here_15 : decode cX8_here 15 = .ok (.aload_n 0, 1) := by decide +kernel
theorem dX8_here_16 : decode cX8_here 16 = .ok (.getfield 69, 3) := by decide +kernel
theorem dX8_here_19 : decode cX8_here 19 = .ok (.baload, 1) := by decide +kernel
theorem dX8_here_20 : decode cX8_here 20 = .ok (.bipush 32, 2) := by decide +kernel
theorem dX8_here_22 : decode cX8_here 22 = .ok (.if_icmp .ne 16, 3) := by decide +kernel
theorem dX8_here_25 : decode cX8_here 25 = .ok (.aload_n 0, 1) := by decide +kernel
theorem dX8_here_26 : decode cX8_here 26 = .ok (.dup, 1) := by decide +kernel
theorem dX8_here_27 : decode cX8_here 27 = .ok (.getfield 69, 3) := by decide +kernel
theorem dX8_here_30 : decode cX8_here 30 = .ok (.iconst 1, 1) := by decide +kernel
theorem dX8_here_31 : decode cX8_here 31 = .ok (.iadd, 1) := by decide +kernel
theorem dX8_here_32 : decode cX8_here 32 = .ok (.putfield 69, 3) := by decide +kernel
theorem dX8_here_35 : decode cX8_here 35 = .ok (.goto (-35), 3) := by decide +kernel
theorem dX8_here_38 : decode cX8_here 38 = .ok (.aload_n 0, 1) := by decide +kernel
theorem dX8_here_39 : decode cX8_here 39 = .ok (.getfield 69, 3) := by decide +kernel
theorem dX8_here_42 : decode cX8_here 42 = .ok (.aload_n 0, 1) := by decide +kernel
theorem dX8_here_43 : decode cX8_here 43 = .ok (.getfield 66, 3) := by decide +kernel
theorem dX8_here_46 : decode cX8_here 46 = .ok (.if_icmp .ge 19, 3) := by decide +kernel
theorem dX8_here_49 : decode cX8_here 49 = .ok (.aload_n 0, 1) := by decide +kernel
theorem dX8_here_50 : decode cX8_here 50 = .ok (.getfield 16, 3) := by decide +kernel
theorem dX8_here_53 : decode cX8_here 53 = .ok (.aload_n 0, 1) := by decide +kernel
theorem dX8_here_54 : decode cX8_here 54 = .ok (.getfield 69, 3) := by decide +kernel
theorem dX8_here_57 : decode cX8_here 57 = .ok (.baload, 1) := by decide +kernel
theorem dX8_here_58 : decode cX8_here 58 = .ok (.sipush 255, 3) := by decide +kernel
theorem dX8_here_61 : decode cX8_here 61 = .ok (.iand, 1) := by decide +kernel
theorem dX8_here_62 : decode cX8_here 62 = .ok (.goto 4, 3) := by decide +kernel
theorem dX8_here_65 : decode cX8_here 65 = .ok (.iconst (-1), 1) := by decide +kernel
theorem dX8_here_66 : decode cX8_here 66 = .ok (.ireturn, 1) := by decide +kernel
theorem dX8_kindOf_0 : decode cX8_kindOf 0 = .ok (.iload_n 0, 1) := by decide +kernel
theorem dX8_kindOf_1 : decode cX8_kindOf 1 = .ok (.bipush 108, 2) := by decide +kernel
theorem dX8_kindOf_3 : decode cX8_kindOf 3 = .ok (.if_icmp .ne 7, 3) := by decide +kernel
theorem dX8_kindOf_6 : decode cX8_kindOf 6 = .ok (.iconst 0, 1) := by decide +kernel
theorem dX8_kindOf_7 : decode cX8_kindOf 7 = .ok (.goto 45, 3) := by decide +kernel
theorem dX8_kindOf_10 : decode cX8_kindOf 10 = .ok (.iload_n 0, 1) := by decide +kernel
theorem dX8_kindOf_11 : decode cX8_kindOf 11 = .ok (.bipush 114, 2) := by decide +kernel
theorem dX8_kindOf_13 : decode cX8_kindOf 13 = .ok (.if_icmp .ne 7, 3) := by decide +kernel
theorem dX8_kindOf_16 : decode cX8_kindOf 16 = .ok (.iconst 1, 1) := by decide +kernel
theorem dX8_kindOf_17 : decode cX8_kindOf 17 = .ok (.goto 35, 3) := by decide +kernel
theorem dX8_kindOf_20 : decode cX8_kindOf 20 = .ok (.iload_n 0, 1) := by decide +kernel
theorem dX8_kindOf_21 : decode cX8_kindOf 21 = .ok (.bipush 109, 2) := by decide +kernel
theorem dX8_kindOf_23 : decode cX8_kindOf 23 = .ok (.if_icmp .ne 7, 3) := by decide +kernel
theorem dX8_kindOf_26 : decode cX8_kindOf 26 = .ok (.iconst 2, 1) := by decide +kernel
theorem dX8_kindOf_27 : decode cX8_kindOf 27 = .ok (.goto 25, 3) := by decide +kernel
theorem dX8_kindOf_30 : decode cX8_kindOf 30 = .ok (.iload_n 0, 1) := by decide +kernel
theorem dX8_kindOf_31 : decode cX8_kindOf 31 = .ok (.bipush 112, 2) := by decide +kernel
theorem dX8_kindOf_33 : decode cX8_kindOf 33 = .ok (.if_icmp .ne 7, 3) := by decide +kernel
theorem dX8_kindOf_36 : decode cX8_kindOf 36 = .ok (.iconst 3, 1) := by decide +kernel
theorem dX8_kindOf_37 : decode cX8_kindOf 37 = .ok (.goto 15, 3) := by decide +kernel
theorem dX8_kindOf_40 : decode cX8_kindOf 40 = .ok (.iload_n 0, 1) := by decide +kernel
theorem dX8_kindOf_41 : decode cX8_kindOf 41 = .ok (.bipush 98, 2) := by decide +kernel
theorem dX8_kindOf_43 : decode cX8_kindOf 43 = .ok (.if_icmp .ne 7, 3) := by decide +kernel
theorem dX8_kindOf_46 : decode cX8_kindOf 46 = .ok (.iconst 4, 1) := by decide +kernel
theorem dX8_kindOf_47 : decode cX8_kindOf 47 = .ok (.goto 5, 3) := by decide +kernel
theorem dX8_kindOf_50 : decode cX8_kindOf 50 = .ok (.bipush (-9), 2) := by decide +kernel
theorem dX8_kindOf_52 : decode cX8_kindOf 52 = .ok (.ireturn, 1) := by decide +kernel
theorem dX8_leaderOf_0 : decode cX8_leaderOf 0 = .ok (.iload_n 0, 1) := by decide +kernel
theorem dX8_leaderOf_1 : decode cX8_leaderOf 1 = .ok (.bipush 46, 2) := by decide +kernel
theorem dX8_leaderOf_3 : decode cX8_leaderOf 3 = .ok (.if_icmp .ne 7, 3) := by decide +kernel
theorem dX8_leaderOf_6 : decode cX8_leaderOf 6 = .ok (.iconst 1, 1) := by decide +kernel
theorem dX8_leaderOf_7 : decode cX8_leaderOf 7 = .ok (.goto 24, 3) := by decide +kernel
theorem dX8_leaderOf_10 : decode cX8_leaderOf 10 = .ok (.iload_n 0, 1) := by decide +kernel
theorem dX8_leaderOf_11 : decode cX8_leaderOf 11 = .ok (.bipush 45, 2) := by decide +kernel
theorem dX8_leaderOf_13 : decode cX8_leaderOf 13 = .ok (.if_icmp .ne 7, 3) := by decide +kernel
theorem dX8_leaderOf_16 : decode cX8_leaderOf 16 = .ok (.iconst 2, 1) := by decide +kernel
theorem dX8_leaderOf_17 : decode cX8_leaderOf 17 = .ok (.goto 14, 3) := by decide +kernel
theorem dX8_leaderOf_20 : decode cX8_leaderOf 20 = .ok (.iload_n 0, 1) := by decide +kernel
theorem dX8_leaderOf_21 : decode cX8_leaderOf 21 = .ok (.bipush 95, 2) := by decide +kernel
theorem dX8_leaderOf_23 : decode cX8_leaderOf 23 = .ok (.if_icmp .ne 7, 3) := by decide +kernel
theorem dX8_leaderOf_26 : decode cX8_leaderOf 26 = .ok (.iconst 3, 1) := by decide +kernel
theorem dX8_leaderOf_27 : decode cX8_leaderOf 27 = .ok (.goto 4, 3) := by decide +kernel
theorem dX8_leaderOf_30 : decode cX8_leaderOf 30 = .ok (.iconst 0, 1) := by decide +kernel
theorem dX8_leaderOf_31 : decode cX8_leaderOf 31 = .ok (.ireturn, 1) := by decide +kernel
theorem dX8_isTold_0 : decode cX8_isTold 0 = .ok (.iconst 0, 1) := by decide +kernel
theorem dX8_isTold_1 : decode cX8_isTold 1 = .ok (.istore_n 2, 1) := by decide +kernel
theorem dX8_isTold_2 : decode cX8_isTold 2 = .ok (.iconst 0, 1) := by decide +kernel
theorem dX8_isTold_3 : decode cX8_isTold 3 = .ok (.istore_n 3, 1) := by decide +kernel
theorem dX8_isTold_4 : decode cX8_isTold 4 = .ok (.iload_n 3, 1) := by decide +kernel
theorem dX8_isTold_5 : decode cX8_isTold 5 = .ok (.aload_n 0, 1) := by decide +kernel
theorem dX8_isTold_6 : decode cX8_isTold 6 = .ok (.getfield 72, 3) := by decide +kernel
theorem dX8_isTold_9 : decode cX8_isTold 9 = .ok (.if_icmp .ge 31, 3) := by decide +kernel
theorem dX8_isTold_12 : decode cX8_isTold 12 = .ok (.iload_n 2, 1) := by decide +kernel
theorem dX8_isTold_13 : decode cX8_isTold 13 = .ok (.ifCond .ne 15, 3) := by decide +kernel
theorem dX8_isTold_16 : decode cX8_isTold 16 = .ok (.aload_n 0, 1) := by decide +kernel
theorem dX8_isTold_17 : decode cX8_isTold 17 = .ok (.getfield 20, 3) := by decide +kernel
theorem dX8_isTold_20 : decode cX8_isTold 20 = .ok (.iconst 3, 1) := by decide +kernel
theorem dX8_isTold_21 : decode cX8_isTold 21 = .ok (.iload_n 3, 1) := by decide +kernel
theorem dX8_isTold_22 : decode cX8_isTold 22 = .ok (.imul, 1) := by decide +kernel
theorem dX8_isTold_23 : decode cX8_isTold 23 = .ok (.iaload, 1) := by decide +kernel
theorem dX8_isTold_24 : decode cX8_isTold 24 = .ok (.iload_n 1, 1) := by decide +kernel
theorem dX8_isTold_25 : decode cX8_isTold 25 = .ok (.if_icmp .ne 7, 3) := by decide +kernel
theorem dX8_isTold_28 : decode cX8_isTold 28 = .ok (.iconst 1, 1) := by decide +kernel
theorem dX8_isTold_29 : decode cX8_isTold 29 = .ok (.goto 4, 3) := by decide +kernel
theorem dX8_isTold_32 : decode cX8_isTold 32 = .ok (.iconst 0, 1) := by decide +kernel
theorem dX8_isTold_33 : decode cX8_isTold 33 = .ok (.istore_n 2, 1) := by decide +kernel
theorem dX8_isTold_34 : decode cX8_isTold 34 = .ok (.iinc 3 1, 3) := by decide +kernel
theorem dX8_isTold_37 : decode cX8_isTold 37 = .ok (.goto (-33), 3) := by decide +kernel
theorem dX8_isTold_40 : decode cX8_isTold 40 = .ok (.iload_n 2, 1) := by decide +kernel
theorem dX8_isTold_41 : decode cX8_isTold 41 = .ok (.ireturn, 1) := by decide +kernel
theorem dX8_readsItem_0 : decode cX8_readsItem 0 = .ok (.aload_n 0, 1) := by decide +kernel
theorem dX8_readsItem_1 : decode cX8_readsItem 1 = .ok (.invokevirtual 75, 3) := by decide +kernel
theorem dX8_readsItem_4 : decode cX8_readsItem 4 = .ok (.invokestatic 79, 3) := by decide +kernel
theorem dX8_readsItem_7 : decode cX8_readsItem 7 = .ok (.istore_n 1, 1) := by decide +kernel
theorem dX8_readsItem_8 : decode cX8_readsItem 8 = .ok (.iload_n 1, 1) := by decide +kernel
theorem dX8_readsItem_9 : decode cX8_readsItem 9 = .ok (.bipush (-9), 2) := by decide +kernel
theorem dX8_readsItem_11 : decode cX8_readsItem 11 = .ok (.if_icmp .eq 12, 3) := by decide +kernel
theorem dX8_readsItem_14 : decode cX8_readsItem 14 = .ok (.aload_n 0, 1) := by decide +kernel
theorem dX8_readsItem_15 : decode cX8_readsItem 15 = .ok (.getfield 72, 3) := by decide +kernel
theorem dX8_readsItem_18 : decode cX8_readsItem 18 = .ok (.bipush 8, 2) := by decide +kernel
theorem dX8_readsItem_20 : decode cX8_readsItem 20 = .ok (.if_icmp .ne 5, 3) := by decide +kernel
theorem dX8_readsItem_23 : decode cX8_readsItem 23 = .ok (.iconst 0, 1) := by decide +kernel
theorem dX8_readsItem_24 : decode cX8_readsItem 24 = .ok (.ireturn, 1) := by decide +kernel
theorem dX8_readsItem_25 : decode cX8_readsItem 25 = .ok (.aload_n 0, 1) := by decide +kernel
theorem dX8_readsItem_26 : decode cX8_readsItem 26 = .ok (.dup, 1) := by decide +kernel
theorem dX8_readsItem_27 : decode cX8_readsItem 27 = .ok (.getfield 69, 3) := by decide +kernel
theorem dX8_readsItem_30 : decode cX8_readsItem 30 = .ok (.iconst 1, 1) := by decide +kernel
theorem dX8_readsItem_31 : decode cX8_readsItem 31 = .ok (.iadd, 1) := by decide +kernel
theorem dX8_readsItem_32 : decode cX8_readsItem 32 = .ok (.putfield 69, 3) := by decide +kernel
theorem dX8_readsItem_35 : decode cX8_readsItem 35 = .ok (.aload_n 0, 1) := by decide +kernel
theorem dX8_readsItem_36 : decode cX8_readsItem 36 = .ok (.invokevirtual 75, 3) := by decide +kernel
theorem dX8_readsItem_39 : decode cX8_readsItem 39 = .ok (.bipush 49, 2) := by decide +kernel
theorem dX8_readsItem_41 : decode cX8_readsItem 41 = .ok (.bipush 57, 2) := by decide +kernel
theorem dX8_readsItem_43 : decode cX8_readsItem 43 = .ok (.invokestatic 36, 3) := by decide +kernel
theorem dX8_readsItem_46 : decode cX8_readsItem 46 = .ok (.ifCond .ne 5, 3) := by decide +kernel
theorem dX8_readsItem_49 : decode cX8_readsItem 49 = .ok (.iconst 0, 1) := by decide +kernel
theorem dX8_readsItem_50 : decode cX8_readsItem 50 = .ok (.ireturn, 1) := by decide +kernel
theorem dX8_readsItem_51 : decode cX8_readsItem 51 = .ok (.aload_n 0, 1) := by decide +kernel
theorem dX8_readsItem_52 : decode cX8_readsItem 52 = .ok (.getfield 69, 3) := by decide +kernel
theorem dX8_readsItem_55 : decode cX8_readsItem 55 = .ok (.istore_n 2, 1) := by decide +kernel
theorem dX8_readsItem_56 : decode cX8_readsItem 56 = .ok (.aload_n 0, 1) := by decide +kernel
theorem dX8_readsItem_57 : decode cX8_readsItem 57 = .ok (.getfield 16, 3) := by decide +kernel
theorem dX8_readsItem_60 : decode cX8_readsItem 60 = .ok (.aload_n 0, 1) := by decide +kernel
theorem dX8_readsItem_61 : decode cX8_readsItem 61 = .ok (.getfield 69, 3) := by decide +kernel
theorem dX8_readsItem_64 : decode cX8_readsItem 64 = .ok (.baload, 1) := by decide +kernel
theorem dX8_readsItem_65 : decode cX8_readsItem 65 = .ok (.bipush 48, 2) := by decide +kernel
theorem dX8_readsItem_67 : decode cX8_readsItem 67 = .ok (.isub, 1) := by decide +kernel
theorem dX8_readsItem_68 : decode cX8_readsItem 68 = .ok (.istore_n 3, 1) := by decide +kernel
theorem dX8_readsItem_69 : decode cX8_readsItem 69 = .ok (.aload_n 0, 1) := by decide +kernel
theorem dX8_readsItem_70 : decode cX8_readsItem 70 = .ok (.dup, 1) := by decide +kernel
theorem dX8_readsItem_71 : decode cX8_readsItem 71 = .ok (.getfield 69, 3) := by decide +kernel
theorem dX8_readsItem_74 : decode cX8_readsItem 74 = .ok (.iconst 1, 1) := by decide +kernel
theorem dX8_readsItem_75 : decode cX8_readsItem 75 = .ok (.iadd, 1) := by decide +kernel
theorem dX8_readsItem_76 : decode cX8_readsItem 76 = .ok (.putfield 69, 3) := by decide +kernel
theorem dX8_readsItem_79 : decode cX8_readsItem 79 = .ok (.aload_n 0, 1) := by decide +kernel
theorem dX8_readsItem_80 : decode cX8_readsItem 80 = .ok (.getfield 69, 3) := by decide +kernel
theorem dX8_readsItem_83 : decode cX8_readsItem 83 = .ok (.aload_n 0, 1) := by decide +kernel
theorem dX8_readsItem_84 : decode cX8_readsItem 84 = .ok (.getfield 66, 3) := by decide +kernel
theorem dX8_readsItem_87 : decode cX8_readsItem 87 = .ok (.if_icmp .ge 50, 3) := by decide +kernel
theorem dX8_readsItem_90 : decode cX8_readsItem 90 = .ok (.aload_n 0, 1) := by decide +kernel
theorem dX8_readsItem_91 : decode cX8_readsItem 91 = .ok (.getfield 16, 3) := by decide +kernel
theorem dX8_readsItem_94 : decode cX8_readsItem 94 = .ok (.aload_n 0, 1) := by decide +kernel
theorem dX8_readsItem_95 : decode cX8_readsItem 95 = .ok (.getfield 69, 3) := by decide +kernel
theorem dX8_readsItem_98 : decode cX8_readsItem 98 = .ok (.baload, 1) := by decide +kernel
theorem dX8_readsItem_99 : decode cX8_readsItem 99 = .ok (.bipush 48, 2) := by decide +kernel
theorem dX8_readsItem_101 : decode cX8_readsItem 101 = .ok (.bipush 57, 2) := by decide +kernel
theorem dX8_readsItem_103 : decode cX8_readsItem 103 = .ok (.invokestatic 36, 3) := by decide +kernel
theorem dX8_readsItem_106 : decode cX8_readsItem 106 = .ok (.ifCond .eq 31, 3) := by decide +kernel
theorem dX8_readsItem_109 : decode cX8_readsItem 109 = .ok (.bipush 10, 2) := by decide +kernel
theorem dX8_readsItem_111 : decode cX8_readsItem 111 = .ok (.iload_n 3, 1) := by decide +kernel
theorem dX8_readsItem_112 : decode cX8_readsItem 112 = .ok (.imul, 1) := by decide +kernel
theorem dX8_readsItem_113 : decode cX8_readsItem 113 = .ok (.aload_n 0, 1) := by decide +kernel
theorem dX8_readsItem_114 : decode cX8_readsItem 114 = .ok (.getfield 16, 3) := by decide +kernel
theorem dX8_readsItem_117 : decode cX8_readsItem 117 = .ok (.aload_n 0, 1) := by decide +kernel
theorem dX8_readsItem_118 : decode cX8_readsItem 118 = .ok (.getfield 69, 3) := by decide +kernel
theorem dX8_readsItem_121 : decode cX8_readsItem 121 = .ok (.baload, 1) := by decide +kernel
theorem dX8_readsItem_122 : decode cX8_readsItem 122 = .ok (.iadd, 1) := by decide +kernel
theorem dX8_readsItem_123 : decode cX8_readsItem 123 = .ok (.bipush 48, 2) := by decide +kernel
theorem dX8_readsItem_125 : decode cX8_readsItem 125 = .ok (.isub, 1) := by decide +kernel
theorem dX8_readsItem_126 : decode cX8_readsItem 126 = .ok (.istore_n 3, 1) := by decide +kernel
theorem dX8_readsItem_127 : decode cX8_readsItem 127 = .ok (.aload_n 0, 1) := by decide +kernel
theorem dX8_readsItem_128 : decode cX8_readsItem 128 = .ok (.dup, 1) := by decide +kernel
theorem dX8_readsItem_129 : decode cX8_readsItem 129 = .ok (.getfield 69, 3) := by decide +kernel
theorem dX8_readsItem_132 : decode cX8_readsItem 132 = .ok (.iconst 1, 1) := by decide +kernel
theorem dX8_readsItem_133 : decode cX8_readsItem 133 = .ok (.iadd, 1) := by decide +kernel
theorem dX8_readsItem_134 : decode cX8_readsItem 134 = .ok (.putfield 69, 3) := by decide +kernel
theorem dX8_readsItem_137 : decode cX8_readsItem 137 = .ok (.iload_n 3, 1) := by decide +kernel
theorem dX8_readsItem_138 : decode cX8_readsItem 138 = .ok (.bipush 80, 2) := by decide +kernel
theorem dX8_readsItem_140 : decode cX8_readsItem 140 = .ok (.if_icmp .gt 11, 3) := by decide +kernel
theorem dX8_readsItem_143 : decode cX8_readsItem 143 = .ok (.aload_n 0, 1) := by decide +kernel
theorem dX8_readsItem_144 : decode cX8_readsItem 144 = .ok (.iload_n 3, 1) := by decide +kernel
theorem dX8_readsItem_145 : decode cX8_readsItem 145 = .ok (.invokevirtual 83, 3) := by decide +kernel
theorem dX8_readsItem_148 : decode cX8_readsItem 148 = .ok (.ifCond .eq 10, 3) := by decide +kernel
theorem dX8_readsItem_151 : decode cX8_readsItem 151 = .ok (.aload_n 0, 1) := by decide +kernel
theorem dX8_readsItem_152 : decode cX8_readsItem 152 = .ok (.iload_n 2, 1) := by decide +kernel
theorem dX8_readsItem_153 : decode cX8_readsItem 153 = .ok (.putfield 69, 3) := by decide +kernel
theorem dX8_readsItem_156 : decode cX8_readsItem 156 = .ok (.iconst 0, 1) := by decide +kernel
theorem dX8_readsItem_157 : decode cX8_readsItem 157 = .ok (.ireturn, 1) := by decide +kernel
theorem dX8_readsItem_158 : decode cX8_readsItem 158 = .ok (.iload_n 1, 1) := by decide +kernel
theorem dX8_readsItem_159 : decode cX8_readsItem 159 = .ok (.iconst 4, 1) := by decide +kernel
theorem dX8_readsItem_160 : decode cX8_readsItem 160 = .ok (.if_icmp .ne 7, 3) := by decide +kernel
theorem dX8_readsItem_163 : decode cX8_readsItem 163 = .ok (.iconst 0, 1) := by decide +kernel
theorem dX8_readsItem_164 : decode cX8_readsItem 164 = .ok (.goto 10, 3) := by decide +kernel
theorem dX8_readsItem_167 : decode cX8_readsItem 167 = .ok (.aload_n 0, 1) := by decide +kernel
theorem dX8_readsItem_168 : decode cX8_readsItem 168 = .ok (.invokevirtual 75, 3) := by decide +kernel
theorem dX8_readsItem_171 : decode cX8_readsItem 171 = .ok (.invokestatic 86, 3) := by decide +kernel
theorem dX8_readsItem_174 : decode cX8_readsItem 174 = .ok (.istore 4, 2) := by decide +kernel
theorem dX8_readsItem_176 : decode cX8_readsItem 176 = .ok (.aload_n 0, 1) := by decide +kernel
theorem dX8_readsItem_177 : decode cX8_readsItem 177 = .ok (.dup, 1) := by decide +kernel
theorem dX8_readsItem_178 : decode cX8_readsItem 178 = .ok (.getfield 69, 3) := by decide +kernel
theorem dX8_readsItem_181 : decode cX8_readsItem 181 = .ok (.iload 4, 2) := by decide +kernel
theorem dX8_readsItem_183 : decode cX8_readsItem 183 = .ok (.ifCond .le 7, 3) := by decide +kernel
theorem dX8_readsItem_186 : decode cX8_readsItem 186 = .ok (.iconst 1, 1) := by decide +kernel
theorem dX8_readsItem_187 : decode cX8_readsItem 187 = .ok (.goto 4, 3) := by decide +kernel
theorem dX8_readsItem_190 : decode cX8_readsItem 190 = .ok (.iconst 0, 1) := by decide +kernel
theorem dX8_readsItem_191 : decode cX8_readsItem 191 = .ok (.iadd, 1) := by decide +kernel
theorem dX8_readsItem_192 : decode cX8_readsItem 192 = .ok (.putfield 69, 3) := by decide +kernel
theorem dX8_readsItem_195 : decode cX8_readsItem 195 = .ok (.aload_n 0, 1) := by decide +kernel
theorem dX8_readsItem_196 : decode cX8_readsItem 196 = .ok (.invokevirtual 75, 3) := by decide +kernel
theorem dX8_readsItem_199 : decode cX8_readsItem 199 = .ok (.bipush 59, 2) := by decide +kernel
theorem dX8_readsItem_201 : decode cX8_readsItem 201 = .ok (.if_icmp .eq 5, 3) := by decide +kernel
theorem dX8_readsItem_204 : decode cX8_readsItem 204 = .ok (.iconst 0, 1) := by decide +kernel
theorem dX8_readsItem_205 : decode cX8_readsItem 205 = .ok (.ireturn, 1) := by decide +kernel
theorem dX8_readsItem_206 : decode cX8_readsItem 206 = .ok (.aload_n 0, 1) := by decide +kernel
theorem dX8_readsItem_207 : decode cX8_readsItem 207 = .ok (.dup, 1) := by decide +kernel
theorem dX8_readsItem_208 : decode cX8_readsItem 208 = .ok (.getfield 69, 3) := by decide +kernel
theorem dX8_readsItem_211 : decode cX8_readsItem 211 = .ok (.iconst 1, 1) := by decide +kernel
theorem dX8_readsItem_212 : decode cX8_readsItem 212 = .ok (.iadd, 1) := by decide +kernel
theorem dX8_readsItem_213 : decode cX8_readsItem 213 = .ok (.putfield 69, 3) := by decide +kernel
theorem dX8_readsItem_216 : decode cX8_readsItem 216 = .ok (.aload_n 0, 1) := by decide +kernel
theorem dX8_readsItem_217 : decode cX8_readsItem 217 = .ok (.getfield 20, 3) := by decide +kernel
theorem dX8_readsItem_220 : decode cX8_readsItem 220 = .ok (.iconst 3, 1) := by decide +kernel
theorem dX8_readsItem_221 : decode cX8_readsItem 221 = .ok (.aload_n 0, 1) := by decide +kernel
theorem dX8_readsItem_222 : decode cX8_readsItem 222 = .ok (.getfield 72, 3) := by decide +kernel
theorem dX8_readsItem_225 : decode cX8_readsItem 225 = .ok (.imul, 1) := by decide +kernel
theorem dX8_readsItem_226 : decode cX8_readsItem 226 = .ok (.iload_n 3, 1) := by decide +kernel
theorem dX8_readsItem_227 : decode cX8_readsItem 227 = .ok (.iastore, 1) := by decide +kernel
theorem dX8_readsItem_228 : decode cX8_readsItem 228 = .ok (.aload_n 0, 1) := by decide +kernel
theorem dX8_readsItem_229 : decode cX8_readsItem 229 = .ok (.getfield 20, 3) := by decide +kernel
theorem dX8_readsItem_232 : decode cX8_readsItem 232 = .ok (.iconst 3, 1) := by decide +kernel
theorem dX8_readsItem_233 : decode cX8_readsItem 233 = .ok (.aload_n 0, 1) := by decide +kernel
theorem dX8_readsItem_234 : decode cX8_readsItem 234 = .ok (.getfield 72, 3) := by decide +kernel
theorem dX8_readsItem_237 : decode cX8_readsItem 237 = .ok (.imul, 1) := by decide +kernel
theorem dX8_readsItem_238 : decode cX8_readsItem 238 = .ok (.iconst 1, 1) := by decide +kernel
theorem dX8_readsItem_239 : decode cX8_readsItem 239 = .ok (.iadd, 1) := by decide +kernel
theorem dX8_readsItem_240 : decode cX8_readsItem 240 = .ok (.iload_n 1, 1) := by decide +kernel
theorem dX8_readsItem_241 : decode cX8_readsItem 241 = .ok (.iastore, 1) := by decide +kernel
theorem dX8_readsItem_242 : decode cX8_readsItem 242 = .ok (.aload_n 0, 1) := by decide +kernel
theorem dX8_readsItem_243 : decode cX8_readsItem 243 = .ok (.getfield 20, 3) := by decide +kernel
theorem dX8_readsItem_246 : decode cX8_readsItem 246 = .ok (.iconst 3, 1) := by decide +kernel
theorem dX8_readsItem_247 : decode cX8_readsItem 247 = .ok (.aload_n 0, 1) := by decide +kernel
theorem dX8_readsItem_248 : decode cX8_readsItem 248 = .ok (.getfield 72, 3) := by decide +kernel
theorem dX8_readsItem_251 : decode cX8_readsItem 251 = .ok (.imul, 1) := by decide +kernel
theorem dX8_readsItem_252 : decode cX8_readsItem 252 = .ok (.iconst 2, 1) := by decide +kernel
theorem dX8_readsItem_253 : decode cX8_readsItem 253 = .ok (.iadd, 1) := by decide +kernel
theorem dX8_readsItem_254 : decode cX8_readsItem 254 = .ok (.iload 4, 2) := by decide +kernel
theorem dX8_readsItem_256 : decode cX8_readsItem 256 = .ok (.iastore, 1) := by decide +kernel
theorem dX8_readsItem_257 : decode cX8_readsItem 257 = .ok (.aload_n 0, 1) := by decide +kernel
theorem dX8_readsItem_258 : decode cX8_readsItem 258 = .ok (.dup, 1) := by decide +kernel
theorem dX8_readsItem_259 : decode cX8_readsItem 259 = .ok (.getfield 72, 3) := by decide +kernel
theorem dX8_readsItem_262 : decode cX8_readsItem 262 = .ok (.iconst 1, 1) := by decide +kernel
theorem dX8_readsItem_263 : decode cX8_readsItem 263 = .ok (.iadd, 1) := by decide +kernel
theorem dX8_readsItem_264 : decode cX8_readsItem 264 = .ok (.putfield 72, 3) := by decide +kernel
theorem dX8_readsItem_267 : decode cX8_readsItem 267 = .ok (.iconst 1, 1) := by decide +kernel
theorem dX8_readsItem_268 : decode cX8_readsItem 268 = .ok (.ireturn, 1) := by decide +kernel
theorem dX8_loadStops_0 : decode cX8_loadStops 0 = .ok (.iload_n 1, 1) := by decide +kernel
theorem dX8_loadStops_1 : decode cX8_loadStops 1 = .ok (.invokestatic 50, 3) := by decide +kernel
theorem dX8_loadStops_4 : decode cX8_loadStops 4 = .ok (.ifCond .ne 5, 3) := by decide +kernel
theorem dX8_loadStops_7 : decode cX8_loadStops 7 = .ok (.iconst (-1), 1) := by decide +kernel
theorem dX8_loadStops_8 : decode cX8_loadStops 8 = .ok (.ireturn, 1) := by decide +kernel
theorem dX8_loadStops_9 : decode cX8_loadStops 9 = .ok (.aload_n 0, 1) := by decide +kernel
theorem dX8_loadStops_10 : decode cX8_loadStops 10 = .ok (.iconst 0, 1) := by decide +kernel
theorem dX8_loadStops_11 : decode cX8_loadStops 11 = .ok (.putfield 69, 3) := by decide +kernel
theorem dX8_loadStops_14 : decode cX8_loadStops 14 = .ok (.aload_n 0, 1) := by decide +kernel
theorem dX8_loadStops_15 : decode cX8_loadStops 15 = .ok (.iconst 0, 1) := by decide +kernel
theorem dX8_loadStops_16 : decode cX8_loadStops 16 = .ok (.putfield 72, 3) := by decide +kernel
theorem dX8_loadStops_19 : decode cX8_loadStops 19 = .ok (.iconst 1, 1) := by decide +kernel
theorem dX8_loadStops_20 : decode cX8_loadStops 20 = .ok (.istore_n 2, 1) := by decide +kernel
theorem dX8_loadStops_21 : decode cX8_loadStops 21 = .ok (.iload_n 2, 1) := by decide +kernel
theorem dX8_loadStops_22 : decode cX8_loadStops 22 = .ok (.ifCond .eq 18, 3) := by decide +kernel
theorem dX8_loadStops_25 : decode cX8_loadStops 25 = .ok (.aload_n 0, 1) := by decide +kernel
theorem dX8_loadStops_26 : decode cX8_loadStops 26 = .ok (.invokevirtual 75, 3) := by decide +kernel
theorem dX8_loadStops_29 : decode cX8_loadStops 29 = .ok (.ifCond .lt 11, 3) := by decide +kernel
theorem dX8_loadStops_32 : decode cX8_loadStops 32 = .ok (.aload_n 0, 1) := by decide +kernel
theorem dX8_loadStops_33 : decode cX8_loadStops 33 = .ok (.invokevirtual 89, 3) := by decide +kernel
theorem dX8_loadStops_36 : decode cX8_loadStops 36 = .ok (.istore_n 2, 1) := by decide +kernel
theorem dX8_loadStops_37 : decode cX8_loadStops 37 = .ok (.goto (-16), 3) := by decide +kernel
theorem dX8_loadStops_40 : decode cX8_loadStops 40 = .ok (.iload_n 2, 1) := by decide +kernel
theorem dX8_loadStops_41 : decode cX8_loadStops 41 = .ok (.ifCond .ne 12, 3) := by decide +kernel
theorem dX8_loadStops_44 : decode cX8_loadStops 44 = .ok (.sipush (-1000), 3) := by decide +kernel
theorem dX8_loadStops_47 : decode cX8_loadStops 47 = .ok (.aload_n 0, 1) := by decide +kernel
theorem dX8_loadStops_48 : decode cX8_loadStops 48 = .ok (.getfield 69, 3) := by decide +kernel
theorem dX8_loadStops_51 : decode cX8_loadStops 51 = .ok (.isub, 1) := by decide +kernel
theorem dX8_loadStops_52 : decode cX8_loadStops 52 = .ok (.ireturn, 1) := by decide +kernel
theorem dX8_loadStops_53 : decode cX8_loadStops 53 = .ok (.aload_n 0, 1) := by decide +kernel
theorem dX8_loadStops_54 : decode cX8_loadStops 54 = .ok (.invokevirtual 47, 3) := by decide +kernel
theorem dX8_loadStops_57 : decode cX8_loadStops 57 = .ok (.aload_n 0, 1) := by decide +kernel
theorem dX8_loadStops_58 : decode cX8_loadStops 58 = .ok (.getfield 7, 3) := by decide +kernel
theorem dX8_loadStops_61 : decode cX8_loadStops 61 = .ok (.iload_n 1, 1) := by decide +kernel
theorem dX8_loadStops_62 : decode cX8_loadStops 62 = .ok (.iconst 2, 1) := by decide +kernel
theorem dX8_loadStops_63 : decode cX8_loadStops 63 = .ok (.invokestatic 40, 3) := by decide +kernel
theorem dX8_loadStops_66 : decode cX8_loadStops 66 = .ok (.iconst 0, 1) := by decide +kernel
theorem dX8_loadStops_67 : decode cX8_loadStops 67 = .ok (.iastore, 1) := by decide +kernel
theorem dX8_loadStops_68 : decode cX8_loadStops 68 = .ok (.iconst 0, 1) := by decide +kernel
theorem dX8_loadStops_69 : decode cX8_loadStops 69 = .ok (.istore_n 3, 1) := by decide +kernel
theorem dX8_loadStops_70 : decode cX8_loadStops 70 = .ok (.iconst 0, 1) := by decide +kernel
theorem dX8_loadStops_71 : decode cX8_loadStops 71 = .ok (.istore 4, 2) := by decide +kernel
theorem dX8_loadStops_73 : decode cX8_loadStops 73 = .ok (.iload 4, 2) := by decide +kernel
theorem dX8_loadStops_75 : decode cX8_loadStops 75 = .ok (.aload_n 0, 1) := by decide +kernel
theorem dX8_loadStops_76 : decode cX8_loadStops 76 = .ok (.getfield 72, 3) := by decide +kernel
theorem dX8_loadStops_79 : decode cX8_loadStops 79 = .ok (.if_icmp .ge 56, 3) := by decide +kernel
theorem dX8_loadStops_82 : decode cX8_loadStops 82 = .ok (.iload_n 3, 1) := by decide +kernel
theorem dX8_loadStops_83 : decode cX8_loadStops 83 = .ok (.aload_n 0, 1) := by decide +kernel
theorem dX8_loadStops_84 : decode cX8_loadStops 84 = .ok (.iload_n 1, 1) := by decide +kernel
theorem dX8_loadStops_85 : decode cX8_loadStops 85 = .ok (.aload_n 0, 1) := by decide +kernel
theorem dX8_loadStops_86 : decode cX8_loadStops 86 = .ok (.getfield 20, 3) := by decide +kernel
theorem dX8_loadStops_89 : decode cX8_loadStops 89 = .ok (.iconst 3, 1) := by decide +kernel
theorem dX8_loadStops_90 : decode cX8_loadStops 90 = .ok (.iload 4, 2) := by decide +kernel
theorem dX8_loadStops_92 : decode cX8_loadStops 92 = .ok (.imul, 1) := by decide +kernel
theorem dX8_loadStops_93 : decode cX8_loadStops 93 = .ok (.iaload, 1) := by decide +kernel
theorem dX8_loadStops_94 : decode cX8_loadStops 94 = .ok (.aload_n 0, 1) := by decide +kernel
theorem dX8_loadStops_95 : decode cX8_loadStops 95 = .ok (.getfield 20, 3) := by decide +kernel
theorem dX8_loadStops_98 : decode cX8_loadStops 98 = .ok (.iconst 3, 1) := by decide +kernel
theorem dX8_loadStops_99 : decode cX8_loadStops 99 = .ok (.iload 4, 2) := by decide +kernel
theorem dX8_loadStops_101 : decode cX8_loadStops 101 = .ok (.imul, 1) := by decide +kernel
theorem dX8_loadStops_102 : decode cX8_loadStops 102 = .ok (.iconst 1, 1) := by decide +kernel
theorem dX8_loadStops_103 : decode cX8_loadStops 103 = .ok (.iadd, 1) := by decide +kernel
theorem dX8_loadStops_104 : decode cX8_loadStops 104 = .ok (.iaload, 1) := by decide +kernel
theorem dX8_loadStops_105 : decode cX8_loadStops 105 = .ok (.aload_n 0, 1) := by decide +kernel
theorem dX8_loadStops_106 : decode cX8_loadStops 106 = .ok (.getfield 20, 3) := by decide +kernel
theorem dX8_loadStops_109 : decode cX8_loadStops 109 = .ok (.iconst 3, 1) := by decide +kernel
theorem dX8_loadStops_110 : decode cX8_loadStops 110 = .ok (.iload 4, 2) := by decide +kernel
theorem dX8_loadStops_112 : decode cX8_loadStops 112 = .ok (.imul, 1) := by decide +kernel
theorem dX8_loadStops_113 : decode cX8_loadStops 113 = .ok (.iconst 2, 1) := by decide +kernel
theorem dX8_loadStops_114 : decode cX8_loadStops 114 = .ok (.iadd, 1) := by decide +kernel
theorem dX8_loadStops_115 : decode cX8_loadStops 115 = .ok (.iaload, 1) := by decide +kernel
theorem dX8_loadStops_116 : decode cX8_loadStops 116 = .ok (.invokevirtual 62, 3) := by decide +kernel
theorem dX8_loadStops_119 : decode cX8_loadStops 119 = .ok (.ifCond .lt 7, 3) := by decide +kernel
theorem dX8_loadStops_122 : decode cX8_loadStops 122 = .ok (.iconst 1, 1) := by decide +kernel
theorem dX8_loadStops_123 : decode cX8_loadStops 123 = .ok (.goto 4, 3) := by decide +kernel
theorem dX8_loadStops_126 : decode cX8_loadStops 126 = .ok (.iconst 0, 1) := by decide +kernel
theorem dX8_loadStops_127 : decode cX8_loadStops 127 = .ok (.iadd, 1) := by decide +kernel
theorem dX8_loadStops_128 : decode cX8_loadStops 128 = .ok (.istore_n 3, 1) := by decide +kernel
theorem dX8_loadStops_129 : decode cX8_loadStops 129 = .ok (.iinc 4 1, 3) := by decide +kernel
theorem dX8_loadStops_132 : decode cX8_loadStops 132 = .ok (.goto (-59), 3) := by decide +kernel
theorem dX8_loadStops_135 : decode cX8_loadStops 135 = .ok (.aload_n 0, 1) := by decide +kernel
theorem dX8_loadStops_136 : decode cX8_loadStops 136 = .ok (.iconst 0, 1) := by decide +kernel
theorem dX8_loadStops_137 : decode cX8_loadStops 137 = .ok (.putfield 66, 3) := by decide +kernel
theorem dX8_loadStops_140 : decode cX8_loadStops 140 = .ok (.iload_n 3, 1) := by decide +kernel
theorem dX8_loadStops_141 : decode cX8_loadStops 141 = .ok (.ireturn, 1) := by decide +kernel
theorem dX8_isParagraph_0 : decode cX8_isParagraph 0 = .ok (.iload_n 1, 1) := by decide +kernel
theorem dX8_isParagraph_1 : decode cX8_isParagraph 1 = .ok (.iconst 0, 1) := by decide +kernel
theorem dX8_isParagraph_2 : decode cX8_isParagraph 2 = .ok (.aload_n 0, 1) := by decide +kernel
theorem dX8_isParagraph_3 : decode cX8_isParagraph 3 = .ok (.getfield 7, 3) := by decide +kernel
theorem dX8_isParagraph_6 : decode cX8_isParagraph 6 = .ok (.iconst 2, 1) := by decide +kernel
theorem dX8_isParagraph_7 : decode cX8_isParagraph 7 = .ok (.iaload, 1) := by decide +kernel
theorem dX8_isParagraph_8 : decode cX8_isParagraph 8 = .ok (.iconst 1, 1) := by decide +kernel
theorem dX8_isParagraph_9 : decode cX8_isParagraph 9 = .ok (.isub, 1) := by decide +kernel
theorem dX8_isParagraph_10 : decode cX8_isParagraph 10 = .ok (.invokestatic 36, 3) := by decide +kernel
theorem dX8_isParagraph_13 : decode cX8_isParagraph 13 = .ok (.ireturn, 1) := by decide +kernel
theorem dX8_own_0 : decode cX8_own 0 = .ok (.bipush 111, 2) := by decide +kernel
theorem dX8_own_2 : decode cX8_own 2 = .ok (.bipush 82, 2) := by decide +kernel
theorem dX8_own_4 : decode cX8_own 4 = .ok (.iload_n 0, 1) := by decide +kernel
theorem dX8_own_5 : decode cX8_own 5 = .ok (.imul, 1) := by decide +kernel
theorem dX8_own_6 : decode cX8_own 6 = .ok (.iadd, 1) := by decide +kernel
theorem dX8_own_7 : decode cX8_own 7 = .ok (.ireturn, 1) := by decide +kernel
theorem dX8_addParagraph_0 : decode cX8_addParagraph 0 = .ok (.iload_n 1, 1) := by decide +kernel
theorem dX8_addParagraph_1 : decode cX8_addParagraph 1 = .ok (.invokestatic 50, 3) := by decide +kernel
theorem dX8_addParagraph_4 : decode cX8_addParagraph 4 = .ok (.ifCond .ne 5, 3) := by decide +kernel
theorem dX8_addParagraph_7 : decode cX8_addParagraph 7 = .ok (.iconst (-1), 1) := by decide +kernel
theorem dX8_addParagraph_8 : decode cX8_addParagraph 8 = .ok (.ireturn, 1) := by decide +kernel
theorem dX8_addParagraph_9 : decode cX8_addParagraph 9 = .ok (.aload_n 0, 1) := by decide +kernel
theorem dX8_addParagraph_10 : decode cX8_addParagraph 10 = .ok (.getfield 7, 3) := by decide +kernel
theorem dX8_addParagraph_13 : decode cX8_addParagraph 13 = .ok (.iconst 2, 1) := by decide +kernel
theorem dX8_addParagraph_14 : decode cX8_addParagraph 14 = .ok (.iaload, 1) := by decide +kernel
theorem dX8_addParagraph_15 : decode cX8_addParagraph 15 = .ok (.bipush 8, 2) := by decide +kernel
theorem dX8_addParagraph_17 : decode cX8_addParagraph 17 = .ok (.if_icmp .ne 6, 3) := by decide +kernel
theorem dX8_addParagraph_20 : decode cX8_addParagraph 20 = .ok (.bipush (-3), 2) := by decide +kernel
theorem dX8_addParagraph_22 : decode cX8_addParagraph 22 = .ok (.ireturn, 1) := by decide +kernel
theorem dX8_addParagraph_23 : decode cX8_addParagraph 23 = .ok (.aload_n 0, 1) := by decide +kernel
theorem dX8_addParagraph_24 : decode cX8_addParagraph 24 = .ok (.invokevirtual 47, 3) := by decide +kernel
theorem dX8_addParagraph_27 : decode cX8_addParagraph 27 = .ok (.aload_n 0, 1) := by decide +kernel
theorem dX8_addParagraph_28 : decode cX8_addParagraph 28 = .ok (.getfield 7, 3) := by decide +kernel
theorem dX8_addParagraph_31 : decode cX8_addParagraph 31 = .ok (.aload_n 0, 1) := by decide +kernel
theorem dX8_addParagraph_32 : decode cX8_addParagraph 32 = .ok (.getfield 7, 3) := by decide +kernel
theorem dX8_addParagraph_35 : decode cX8_addParagraph 35 = .ok (.iconst 2, 1) := by decide +kernel
theorem dX8_addParagraph_36 : decode cX8_addParagraph 36 = .ok (.iaload, 1) := by decide +kernel
theorem dX8_addParagraph_37 : decode cX8_addParagraph 37 = .ok (.invokestatic 93, 3) := by decide +kernel
theorem dX8_addParagraph_40 : decode cX8_addParagraph 40 = .ok (.iload_n 1, 1) := by decide +kernel
theorem dX8_addParagraph_41 : decode cX8_addParagraph 41 = .ok (.iastore, 1) := by decide +kernel
theorem dX8_addParagraph_42 : decode cX8_addParagraph 42 = .ok (.aload_n 0, 1) := by decide +kernel
theorem dX8_addParagraph_43 : decode cX8_addParagraph 43 = .ok (.getfield 7, 3) := by decide +kernel
theorem dX8_addParagraph_46 : decode cX8_addParagraph 46 = .ok (.aload_n 0, 1) := by decide +kernel
theorem dX8_addParagraph_47 : decode cX8_addParagraph 47 = .ok (.getfield 7, 3) := by decide +kernel
theorem dX8_addParagraph_50 : decode cX8_addParagraph 50 = .ok (.iconst 2, 1) := by decide +kernel
theorem dX8_addParagraph_51 : decode cX8_addParagraph 51 = .ok (.iaload, 1) := by decide +kernel
theorem dX8_addParagraph_52 : decode cX8_addParagraph 52 = .ok (.invokestatic 93, 3) := by decide +kernel
theorem dX8_addParagraph_55 : decode cX8_addParagraph 55 = .ok (.iconst 1, 1) := by decide +kernel
theorem dX8_addParagraph_56 : decode cX8_addParagraph 56 = .ok (.iadd, 1) := by decide +kernel
theorem dX8_addParagraph_57 : decode cX8_addParagraph 57 = .ok (.iconst 0, 1) := by decide +kernel
theorem dX8_addParagraph_58 : decode cX8_addParagraph 58 = .ok (.iastore, 1) := by decide +kernel
theorem dX8_addParagraph_59 : decode cX8_addParagraph 59 = .ok (.aload_n 0, 1) := by decide +kernel
theorem dX8_addParagraph_60 : decode cX8_addParagraph 60 = .ok (.getfield 7, 3) := by decide +kernel
theorem dX8_addParagraph_63 : decode cX8_addParagraph 63 = .ok (.iconst 2, 1) := by decide +kernel
theorem dX8_addParagraph_64 : decode cX8_addParagraph 64 = .ok (.dup2, 1) := by decide +kernel
theorem dX8_addParagraph_65 : decode cX8_addParagraph 65 = .ok (.iaload, 1) := by decide +kernel
theorem dX8_addParagraph_66 : decode cX8_addParagraph 66 = .ok (.iconst 1, 1) := by decide +kernel
theorem dX8_addParagraph_67 : decode cX8_addParagraph 67 = .ok (.iadd, 1) := by decide +kernel
theorem dX8_addParagraph_68 : decode cX8_addParagraph 68 = .ok (.iastore, 1) := by decide +kernel
theorem dX8_addParagraph_69 : decode cX8_addParagraph 69 = .ok (.aload_n 0, 1) := by decide +kernel
theorem dX8_addParagraph_70 : decode cX8_addParagraph 70 = .ok (.getfield 7, 3) := by decide +kernel
theorem dX8_addParagraph_73 : decode cX8_addParagraph 73 = .ok (.iconst 2, 1) := by decide +kernel
theorem dX8_addParagraph_74 : decode cX8_addParagraph 74 = .ok (.iaload, 1) := by decide +kernel
theorem dX8_addParagraph_75 : decode cX8_addParagraph 75 = .ok (.iconst 1, 1) := by decide +kernel
theorem dX8_addParagraph_76 : decode cX8_addParagraph 76 = .ok (.isub, 1) := by decide +kernel
theorem dX8_addParagraph_77 : decode cX8_addParagraph 77 = .ok (.ireturn, 1) := by decide +kernel
theorem dX8_removeParagraph_0 : decode cX8_removeParagraph 0 = .ok (.aload_n 0, 1) := by decide +kernel
theorem dX8_removeParagraph_1 : decode cX8_removeParagraph 1 = .ok (.iload_n 1, 1) := by decide +kernel
theorem dX8_removeParagraph_2 : decode cX8_removeParagraph 2 = .ok (.invokevirtual 96, 3) := by decide +kernel
theorem dX8_removeParagraph_5 : decode cX8_removeParagraph 5 = .ok (.ifCond .ne 5, 3) := by decide +kernel
theorem dX8_removeParagraph_8 : decode cX8_removeParagraph 8 = .ok (.iconst (-1), 1) := by decide +kernel
theorem dX8_removeParagraph_9 : decode cX8_removeParagraph 9 = .ok (.ireturn, 1) := by decide +kernel
theorem dX8_removeParagraph_10 : decode cX8_removeParagraph 10 = .ok (.aload_n 0, 1) := by decide +kernel
theorem dX8_removeParagraph_11 : decode cX8_removeParagraph 11 = .ok (.invokevirtual 47, 3) := by decide +kernel
theorem dX8_removeParagraph_14 : decode cX8_removeParagraph 14 = .ok (.aload_n 0, 1) := by decide +kernel
theorem dX8_removeParagraph_15 : decode cX8_removeParagraph 15 = .ok (.getfield 7, 3) := by decide +kernel
theorem dX8_removeParagraph_18 : decode cX8_removeParagraph 18 = .ok (.iconst 2, 1) := by decide +kernel
theorem dX8_removeParagraph_19 : decode cX8_removeParagraph 19 = .ok (.dup2, 1) := by decide +kernel
theorem dX8_removeParagraph_20 : decode cX8_removeParagraph 20 = .ok (.iaload, 1) := by decide +kernel
theorem dX8_removeParagraph_21 : decode cX8_removeParagraph 21 = .ok (.iconst 1, 1) := by decide +kernel
theorem dX8_removeParagraph_22 : decode cX8_removeParagraph 22 = .ok (.isub, 1) := by decide +kernel
theorem dX8_removeParagraph_23 : decode cX8_removeParagraph 23 = .ok (.iastore, 1) := by decide +kernel
theorem dX8_removeParagraph_24 : decode cX8_removeParagraph 24 = .ok (.iload_n 1, 1) := by decide +kernel
theorem dX8_removeParagraph_25 : decode cX8_removeParagraph 25 = .ok (.invokestatic 93, 3) := by decide +kernel
theorem dX8_removeParagraph_28 : decode cX8_removeParagraph 28 = .ok (.istore_n 2, 1) := by decide +kernel
theorem dX8_removeParagraph_29 : decode cX8_removeParagraph 29 = .ok (.iload_n 2, 1) := by decide +kernel
theorem dX8_removeParagraph_30 : decode cX8_removeParagraph 30 = .ok (.aload_n 0, 1) := by decide +kernel
theorem dX8_removeParagraph_31 : decode cX8_removeParagraph 31 = .ok (.getfield 7, 3) := by decide +kernel
theorem dX8_removeParagraph_34 : decode cX8_removeParagraph 34 = .ok (.iconst 2, 1) := by decide +kernel
theorem dX8_removeParagraph_35 : decode cX8_removeParagraph 35 = .ok (.iaload, 1) := by decide +kernel
theorem dX8_removeParagraph_36 : decode cX8_removeParagraph 36 = .ok (.invokestatic 93, 3) := by decide +kernel
theorem dX8_removeParagraph_39 : decode cX8_removeParagraph 39 = .ok (.if_icmp .ge 24, 3) := by decide +kernel
theorem dX8_removeParagraph_42 : decode cX8_removeParagraph 42 = .ok (.aload_n 0, 1) := by decide +kernel
theorem dX8_removeParagraph_43 : decode cX8_removeParagraph 43 = .ok (.getfield 7, 3) := by decide +kernel
theorem dX8_removeParagraph_46 : decode cX8_removeParagraph 46 = .ok (.iload_n 2, 1) := by decide +kernel
theorem dX8_removeParagraph_47 : decode cX8_removeParagraph 47 = .ok (.aload_n 0, 1) := by decide +kernel
theorem dX8_removeParagraph_48 : decode cX8_removeParagraph 48 = .ok (.getfield 7, 3) := by decide +kernel
theorem dX8_removeParagraph_51 : decode cX8_removeParagraph 51 = .ok (.iload_n 2, 1) := by decide +kernel
theorem dX8_removeParagraph_52 : decode cX8_removeParagraph 52 = .ok (.bipush 82, 2) := by decide +kernel
theorem dX8_removeParagraph_54 : decode cX8_removeParagraph 54 = .ok (.iadd, 1) := by decide +kernel
theorem dX8_removeParagraph_55 : decode cX8_removeParagraph 55 = .ok (.iaload, 1) := by decide +kernel
theorem dX8_removeParagraph_56 : decode cX8_removeParagraph 56 = .ok (.iastore, 1) := by decide +kernel
theorem dX8_removeParagraph_57 : decode cX8_removeParagraph 57 = .ok (.iinc 2 1, 3) := by decide +kernel
theorem dX8_removeParagraph_60 : decode cX8_removeParagraph 60 = .ok (.goto (-31), 3) := by decide +kernel
theorem dX8_removeParagraph_63 : decode cX8_removeParagraph 63 = .ok (.aload_n 0, 1) := by decide +kernel
theorem dX8_removeParagraph_64 : decode cX8_removeParagraph 64 = .ok (.getfield 7, 3) := by decide +kernel
theorem dX8_removeParagraph_67 : decode cX8_removeParagraph 67 = .ok (.iconst 2, 1) := by decide +kernel
theorem dX8_removeParagraph_68 : decode cX8_removeParagraph 68 = .ok (.iaload, 1) := by decide +kernel
theorem dX8_removeParagraph_69 : decode cX8_removeParagraph 69 = .ok (.ireturn, 1) := by decide +kernel
theorem dX8_setStyle_0 : decode cX8_setStyle 0 = .ok (.aload_n 0, 1) := by decide +kernel
theorem dX8_setStyle_1 : decode cX8_setStyle 1 = .ok (.iload_n 1, 1) := by decide +kernel
theorem dX8_setStyle_2 : decode cX8_setStyle 2 = .ok (.invokevirtual 96, 3) := by decide +kernel
theorem dX8_setStyle_5 : decode cX8_setStyle 5 = .ok (.ifCond .eq 10, 3) := by decide +kernel
theorem dX8_setStyle_8 : decode cX8_setStyle 8 = .ok (.iload_n 2, 1) := by decide +kernel
theorem dX8_setStyle_9 : decode cX8_setStyle 9 = .ok (.invokestatic 50, 3) := by decide +kernel
theorem dX8_setStyle_12 : decode cX8_setStyle 12 = .ok (.ifCond .ne 5, 3) := by decide +kernel
theorem dX8_setStyle_15 : decode cX8_setStyle 15 = .ok (.iconst (-1), 1) := by decide +kernel
theorem dX8_setStyle_16 : decode cX8_setStyle 16 = .ok (.ireturn, 1) := by decide +kernel
theorem dX8_setStyle_17 : decode cX8_setStyle 17 = .ok (.aload_n 0, 1) := by decide +kernel
theorem dX8_setStyle_18 : decode cX8_setStyle 18 = .ok (.invokevirtual 47, 3) := by decide +kernel
theorem dX8_setStyle_21 : decode cX8_setStyle 21 = .ok (.aload_n 0, 1) := by decide +kernel
theorem dX8_setStyle_22 : decode cX8_setStyle 22 = .ok (.getfield 7, 3) := by decide +kernel
theorem dX8_setStyle_25 : decode cX8_setStyle 25 = .ok (.iload_n 1, 1) := by decide +kernel
theorem dX8_setStyle_26 : decode cX8_setStyle 26 = .ok (.invokestatic 93, 3) := by decide +kernel
theorem dX8_setStyle_29 : decode cX8_setStyle 29 = .ok (.iaload, 1) := by decide +kernel
theorem dX8_setStyle_30 : decode cX8_setStyle 30 = .ok (.istore_n 3, 1) := by decide +kernel
theorem dX8_setStyle_31 : decode cX8_setStyle 31 = .ok (.aload_n 0, 1) := by decide +kernel
theorem dX8_setStyle_32 : decode cX8_setStyle 32 = .ok (.getfield 7, 3) := by decide +kernel
theorem dX8_setStyle_35 : decode cX8_setStyle 35 = .ok (.iload_n 1, 1) := by decide +kernel
theorem dX8_setStyle_36 : decode cX8_setStyle 36 = .ok (.invokestatic 93, 3) := by decide +kernel
theorem dX8_setStyle_39 : decode cX8_setStyle 39 = .ok (.iload_n 2, 1) := by decide +kernel
theorem dX8_setStyle_40 : decode cX8_setStyle 40 = .ok (.iastore, 1) := by decide +kernel
theorem dX8_setStyle_41 : decode cX8_setStyle 41 = .ok (.iload_n 3, 1) := by decide +kernel
theorem dX8_setStyle_42 : decode cX8_setStyle 42 = .ok (.ireturn, 1) := by decide +kernel
theorem dX8_isWritten_0 : decode cX8_isWritten 0 = .ok (.iload_n 0, 1) := by decide +kernel
theorem dX8_isWritten_1 : decode cX8_isWritten 1 = .ok (.bipush 97, 2) := by decide +kernel
theorem dX8_isWritten_3 : decode cX8_isWritten 3 = .ok (.bipush 122, 2) := by decide +kernel
theorem dX8_isWritten_5 : decode cX8_isWritten 5 = .ok (.invokestatic 36, 3) := by decide +kernel
theorem dX8_isWritten_8 : decode cX8_isWritten 8 = .ok (.ifCond .ne 26, 3) := by decide +kernel
theorem dX8_isWritten_11 : decode cX8_isWritten 11 = .ok (.iload_n 0, 1) := by decide +kernel
theorem dX8_isWritten_12 : decode cX8_isWritten 12 = .ok (.bipush 48, 2) := by decide +kernel
theorem dX8_isWritten_14 : decode cX8_isWritten 14 = .ok (.bipush 57, 2) := by decide +kernel
theorem dX8_isWritten_16 : decode cX8_isWritten 16 = .ok (.invokestatic 36, 3) := by decide +kernel
theorem dX8_isWritten_19 : decode cX8_isWritten 19 = .ok (.ifCond .ne 15, 3) := by decide +kernel
theorem dX8_isWritten_22 : decode cX8_isWritten 22 = .ok (.iload_n 0, 1) := by decide +kernel
theorem dX8_isWritten_23 : decode cX8_isWritten 23 = .ok (.bipush 46, 2) := by decide +kernel
theorem dX8_isWritten_25 : decode cX8_isWritten 25 = .ok (.if_icmp .eq 9, 3) := by decide +kernel
theorem dX8_isWritten_28 : decode cX8_isWritten 28 = .ok (.iload_n 0, 1) := by decide +kernel
theorem dX8_isWritten_29 : decode cX8_isWritten 29 = .ok (.bipush 44, 2) := by decide +kernel
theorem dX8_isWritten_31 : decode cX8_isWritten 31 = .ok (.if_icmp .ne 7, 3) := by decide +kernel
theorem dX8_isWritten_34 : decode cX8_isWritten 34 = .ok (.iconst 1, 1) := by decide +kernel
theorem dX8_isWritten_35 : decode cX8_isWritten 35 = .ok (.goto 4, 3) := by decide +kernel
theorem dX8_isWritten_38 : decode cX8_isWritten 38 = .ok (.iconst 0, 1) := by decide +kernel
theorem dX8_isWritten_39 : decode cX8_isWritten 39 = .ok (.ireturn, 1) := by decide +kernel
theorem dX8_takeText_0 : decode cX8_takeText 0 = .ok (.aload_n 0, 1) := by decide +kernel
theorem dX8_takeText_1 : decode cX8_takeText 1 = .ok (.iload_n 1, 1) := by decide +kernel
theorem dX8_takeText_2 : decode cX8_takeText 2 = .ok (.invokevirtual 96, 3) := by decide +kernel
theorem dX8_takeText_5 : decode cX8_takeText 5 = .ok (.ifCond .ne 5, 3) := by decide +kernel
theorem dX8_takeText_8 : decode cX8_takeText 8 = .ok (.iconst (-1), 1) := by decide +kernel
theorem dX8_takeText_9 : decode cX8_takeText 9 = .ok (.ireturn, 1) := by decide +kernel
theorem dX8_takeText_10 : decode cX8_takeText 10 = .ok (.iconst 0, 1) := by decide +kernel
theorem dX8_takeText_11 : decode cX8_takeText 11 = .ok (.istore_n 2, 1) := by decide +kernel
theorem dX8_takeText_12 : decode cX8_takeText 12 = .ok (.iload_n 2, 1) := by decide +kernel
theorem dX8_takeText_13 : decode cX8_takeText 13 = .ok (.aload_n 0, 1) := by decide +kernel
theorem dX8_takeText_14 : decode cX8_takeText 14 = .ok (.getfield 66, 3) := by decide +kernel
theorem dX8_takeText_17 : decode cX8_takeText 17 = .ok (.if_icmp .ge 49, 3) := by decide +kernel
theorem dX8_takeText_20 : decode cX8_takeText 20 = .ok (.aload_n 0, 1) := by decide +kernel
theorem dX8_takeText_21 : decode cX8_takeText 21 = .ok (.getfield 16, 3) := by decide +kernel
theorem dX8_takeText_24 : decode cX8_takeText 24 = .ok (.iload_n 2, 1) := by decide +kernel
theorem dX8_takeText_25 : decode cX8_takeText 25 = .ok (.baload, 1) := by decide +kernel
theorem dX8_takeText_26 : decode cX8_takeText 26 = .ok (.invokestatic 99, 3) := by decide +kernel
theorem dX8_takeText_29 : decode cX8_takeText 29 = .ok (.ifCond .ne 31, 3) := by decide +kernel
theorem dX8_takeText_32 : decode cX8_takeText 32 = .ok (.aload_n 0, 1) := by decide +kernel
theorem dX8_takeText_33 : decode cX8_takeText 33 = .ok (.getfield 16, 3) := by decide +kernel
theorem dX8_takeText_36 : decode cX8_takeText 36 = .ok (.iload_n 2, 1) := by decide +kernel
theorem dX8_takeText_37 : decode cX8_takeText 37 = .ok (.baload, 1) := by decide +kernel
theorem dX8_takeText_38 : decode cX8_takeText 38 = .ok (.bipush 32, 2) := by decide +kernel
theorem dX8_takeText_40 : decode cX8_takeText 40 = .ok (.if_icmp .eq 20, 3) := by decide +kernel
theorem dX8_takeText_43 : decode cX8_takeText 43 = .ok (.aload_n 0, 1) := by decide +kernel
theorem dX8_takeText_44 : decode cX8_takeText 44 = .ok (.getfield 16, 3) := by decide +kernel
theorem dX8_takeText_47 : decode cX8_takeText 47 = .ok (.iload_n 2, 1) := by decide +kernel
theorem dX8_takeText_48 : decode cX8_takeText 48 = .ok (.baload, 1) := by decide +kernel
theorem dX8_takeText_49 : decode cX8_takeText 49 = .ok (.bipush 9, 2) := by decide +kernel
theorem dX8_takeText_51 : decode cX8_takeText 51 = .ok (.if_icmp .eq 9, 3) := by decide +kernel
theorem dX8_takeText_54 : decode cX8_takeText 54 = .ok (.sipush (-2000), 3) := by decide +kernel
theorem dX8_takeText_57 : decode cX8_takeText 57 = .ok (.iload_n 2, 1) := by decide +kernel
theorem dX8_takeText_58 : decode cX8_takeText 58 = .ok (.isub, 1) := by decide +kernel
theorem dX8_takeText_59 : decode cX8_takeText 59 = .ok (.ireturn, 1) := by decide +kernel
theorem dX8_takeText_60 : decode cX8_takeText 60 = .ok (.iinc 2 1, 3) := by decide +kernel
theorem dX8_takeText_63 : decode cX8_takeText 63 = .ok (.goto (-51), 3) := by decide +kernel
theorem dX8_takeText_66 : decode cX8_takeText 66 = .ok (.aload_n 0, 1) := by decide +kernel
theorem dX8_takeText_67 : decode cX8_takeText 67 = .ok (.getfield 66, 3) := by decide +kernel
theorem dX8_takeText_70 : decode cX8_takeText 70 = .ok (.bipush 80, 2) := by decide +kernel
theorem dX8_takeText_72 : decode cX8_takeText 72 = .ok (.if_icmp .le 6, 3) := by decide +kernel
theorem dX8_takeText_75 : decode cX8_takeText 75 = .ok (.bipush (-3), 2) := by decide +kernel
theorem dX8_takeText_77 : decode cX8_takeText 77 = .ok (.ireturn, 1) := by decide +kernel
theorem dX8_takeText_78 : decode cX8_takeText 78 = .ok (.aload_n 0, 1) := by decide +kernel
theorem dX8_takeText_79 : decode cX8_takeText 79 = .ok (.invokevirtual 47, 3) := by decide +kernel
theorem dX8_takeText_82 : decode cX8_takeText 82 = .ok (.iload_n 1, 1) := by decide +kernel
theorem dX8_takeText_83 : decode cX8_takeText 83 = .ok (.invokestatic 93, 3) := by decide +kernel
theorem dX8_takeText_86 : decode cX8_takeText 86 = .ok (.istore_n 2, 1) := by decide +kernel
theorem dX8_takeText_87 : decode cX8_takeText 87 = .ok (.iconst 0, 1) := by decide +kernel
theorem dX8_takeText_88 : decode cX8_takeText 88 = .ok (.istore_n 3, 1) := by decide +kernel
theorem dX8_takeText_89 : decode cX8_takeText 89 = .ok (.iload_n 3, 1) := by decide +kernel
theorem dX8_takeText_90 : decode cX8_takeText 90 = .ok (.aload_n 0, 1) := by decide +kernel
theorem dX8_takeText_91 : decode cX8_takeText 91 = .ok (.getfield 66, 3) := by decide +kernel
theorem dX8_takeText_94 : decode cX8_takeText 94 = .ok (.if_icmp .ge 25, 3) := by decide +kernel
theorem dX8_takeText_97 : decode cX8_takeText 97 = .ok (.aload_n 0, 1) := by decide +kernel
theorem dX8_takeText_98 : decode cX8_takeText 98 = .ok (.getfield 7, 3) := by decide +kernel
theorem dX8_takeText_101 : decode cX8_takeText 101 = .ok (.iload_n 2, 1) := by decide +kernel
theorem dX8_takeText_102 : decode cX8_takeText 102 = .ok (.iconst 2, 1) := by decide +kernel
theorem dX8_takeText_103 : decode cX8_takeText 103 = .ok (.iadd, 1) := by decide +kernel
theorem dX8_takeText_104 : decode cX8_takeText 104 = .ok (.iload_n 3, 1) := by decide +kernel
theorem dX8_takeText_105 : decode cX8_takeText 105 = .ok (.iadd, 1) := by decide +kernel
theorem dX8_takeText_106 : decode cX8_takeText 106 = .ok (.aload_n 0, 1) := by decide +kernel
theorem dX8_takeText_107 : decode cX8_takeText 107 = .ok (.getfield 16, 3) := by decide +kernel
theorem dX8_takeText_110 : decode cX8_takeText 110 = .ok (.iload_n 3, 1) := by decide +kernel
theorem dX8_takeText_111 : decode cX8_takeText 111 = .ok (.baload, 1) := by decide +kernel
theorem dX8_takeText_112 : decode cX8_takeText 112 = .ok (.iastore, 1) := by decide +kernel
theorem dX8_takeText_113 : decode cX8_takeText 113 = .ok (.iinc 3 1, 3) := by decide +kernel
theorem dX8_takeText_116 : decode cX8_takeText 116 = .ok (.goto (-27), 3) := by decide +kernel
theorem dX8_takeText_119 : decode cX8_takeText 119 = .ok (.aload_n 0, 1) := by decide +kernel
theorem dX8_takeText_120 : decode cX8_takeText 120 = .ok (.getfield 7, 3) := by decide +kernel
theorem dX8_takeText_123 : decode cX8_takeText 123 = .ok (.iload_n 2, 1) := by decide +kernel
theorem dX8_takeText_124 : decode cX8_takeText 124 = .ok (.iconst 1, 1) := by decide +kernel
theorem dX8_takeText_125 : decode cX8_takeText 125 = .ok (.iadd, 1) := by decide +kernel
theorem dX8_takeText_126 : decode cX8_takeText 126 = .ok (.aload_n 0, 1) := by decide +kernel
theorem dX8_takeText_127 : decode cX8_takeText 127 = .ok (.getfield 66, 3) := by decide +kernel
theorem dX8_takeText_130 : decode cX8_takeText 130 = .ok (.iastore, 1) := by decide +kernel
theorem dX8_takeText_131 : decode cX8_takeText 131 = .ok (.aload_n 0, 1) := by decide +kernel
theorem dX8_takeText_132 : decode cX8_takeText 132 = .ok (.iconst 0, 1) := by decide +kernel
theorem dX8_takeText_133 : decode cX8_takeText 133 = .ok (.putfield 66, 3) := by decide +kernel
theorem dX8_takeText_136 : decode cX8_takeText 136 = .ok (.aload_n 0, 1) := by decide +kernel
theorem dX8_takeText_137 : decode cX8_takeText 137 = .ok (.getfield 7, 3) := by decide +kernel
theorem dX8_takeText_140 : decode cX8_takeText 140 = .ok (.iload_n 2, 1) := by decide +kernel
theorem dX8_takeText_141 : decode cX8_takeText 141 = .ok (.iconst 1, 1) := by decide +kernel
theorem dX8_takeText_142 : decode cX8_takeText 142 = .ok (.iadd, 1) := by decide +kernel
theorem dX8_takeText_143 : decode cX8_takeText 143 = .ok (.iaload, 1) := by decide +kernel
theorem dX8_takeText_144 : decode cX8_takeText 144 = .ok (.ireturn, 1) := by decide +kernel
theorem dX8_adds_0 : decode cX8_adds 0 = .ok (.iload_n 1, 1) := by decide +kernel
theorem dX8_adds_1 : decode cX8_adds 1 = .ok (.invokestatic 93, 3) := by decide +kernel
theorem dX8_adds_4 : decode cX8_adds 4 = .ok (.istore_n 3, 1) := by decide +kernel
theorem dX8_adds_5 : decode cX8_adds 5 = .ok (.aload_n 0, 1) := by decide +kernel
theorem dX8_adds_6 : decode cX8_adds 6 = .ok (.getfield 7, 3) := by decide +kernel
theorem dX8_adds_9 : decode cX8_adds 9 = .ok (.iload_n 3, 1) := by decide +kernel
theorem dX8_adds_10 : decode cX8_adds 10 = .ok (.iconst 2, 1) := by decide +kernel
theorem dX8_adds_11 : decode cX8_adds 11 = .ok (.iadd, 1) := by decide +kernel
theorem dX8_adds_12 : decode cX8_adds 12 = .ok (.aload_n 0, 1) := by decide +kernel
theorem dX8_adds_13 : decode cX8_adds 13 = .ok (.getfield 7, 3) := by decide +kernel
theorem dX8_adds_16 : decode cX8_adds 16 = .ok (.iload_n 3, 1) := by decide +kernel
theorem dX8_adds_17 : decode cX8_adds 17 = .ok (.iconst 1, 1) := by decide +kernel
theorem dX8_adds_18 : decode cX8_adds 18 = .ok (.iadd, 1) := by decide +kernel
theorem dX8_adds_19 : decode cX8_adds 19 = .ok (.iaload, 1) := by decide +kernel
theorem dX8_adds_20 : decode cX8_adds 20 = .ok (.iadd, 1) := by decide +kernel
theorem dX8_adds_21 : decode cX8_adds 21 = .ok (.iload_n 2, 1) := by decide +kernel
theorem dX8_adds_22 : decode cX8_adds 22 = .ok (.iastore, 1) := by decide +kernel
theorem dX8_adds_23 : decode cX8_adds 23 = .ok (.aload_n 0, 1) := by decide +kernel
theorem dX8_adds_24 : decode cX8_adds 24 = .ok (.getfield 7, 3) := by decide +kernel
theorem dX8_adds_27 : decode cX8_adds 27 = .ok (.iload_n 3, 1) := by decide +kernel
theorem dX8_adds_28 : decode cX8_adds 28 = .ok (.iconst 1, 1) := by decide +kernel
theorem dX8_adds_29 : decode cX8_adds 29 = .ok (.iadd, 1) := by decide +kernel
theorem dX8_adds_30 : decode cX8_adds 30 = .ok (.dup2, 1) := by decide +kernel
theorem dX8_adds_31 : decode cX8_adds 31 = .ok (.iaload, 1) := by decide +kernel
theorem dX8_adds_32 : decode cX8_adds 32 = .ok (.iconst 1, 1) := by decide +kernel
theorem dX8_adds_33 : decode cX8_adds 33 = .ok (.iadd, 1) := by decide +kernel
theorem dX8_adds_34 : decode cX8_adds 34 = .ok (.iastore, 1) := by decide +kernel
theorem dX8_adds_35 : decode cX8_adds 35 = .ok (.return_, 1) := by decide +kernel
theorem dX8_addWord_0 : decode cX8_addWord 0 = .ok (.aload_n 0, 1) := by decide +kernel
theorem dX8_addWord_1 : decode cX8_addWord 1 = .ok (.iload_n 1, 1) := by decide +kernel
theorem dX8_addWord_2 : decode cX8_addWord 2 = .ok (.invokevirtual 96, 3) := by decide +kernel
theorem dX8_addWord_5 : decode cX8_addWord 5 = .ok (.ifCond .eq 33, 3) := by decide +kernel
theorem dX8_addWord_8 : decode cX8_addWord 8 = .ok (.iload_n 2, 1) := by decide +kernel
theorem dX8_addWord_9 : decode cX8_addWord 9 = .ok (.iconst 0, 1) := by decide +kernel
theorem dX8_addWord_10 : decode cX8_addWord 10 = .ok (.iconst 1, 1) := by decide +kernel
theorem dX8_addWord_11 : decode cX8_addWord 11 = .ok (.invokestatic 36, 3) := by decide +kernel
theorem dX8_addWord_14 : decode cX8_addWord 14 = .ok (.ifCond .eq 24, 3) := by decide +kernel
theorem dX8_addWord_17 : decode cX8_addWord 17 = .ok (.iload_n 3, 1) := by decide +kernel
theorem dX8_addWord_18 : decode cX8_addWord 18 = .ok (.iconst 0, 1) := by decide +kernel
theorem dX8_addWord_19 : decode cX8_addWord 19 = .ok (.bipush 25, 2) := by decide +kernel
theorem dX8_addWord_21 : decode cX8_addWord 21 = .ok (.invokestatic 36, 3) := by decide +kernel
theorem dX8_addWord_24 : decode cX8_addWord 24 = .ok (.ifCond .eq 14, 3) := by decide +kernel
theorem dX8_addWord_27 : decode cX8_addWord 27 = .ok (.iload 4, 2) := by decide +kernel
theorem dX8_addWord_29 : decode cX8_addWord 29 = .ok (.iconst 1, 1) := by decide +kernel
theorem dX8_addWord_30 : decode cX8_addWord 30 = .ok (.bipush 30, 2) := by decide +kernel
theorem dX8_addWord_32 : decode cX8_addWord 32 = .ok (.invokestatic 36, 3) := by decide +kernel
theorem dX8_addWord_35 : decode cX8_addWord 35 = .ok (.ifCond .ne 5, 3) := by decide +kernel
theorem dX8_addWord_38 : decode cX8_addWord 38 = .ok (.iconst (-1), 1) := by decide +kernel
theorem dX8_addWord_39 : decode cX8_addWord 39 = .ok (.ireturn, 1) := by decide +kernel
theorem dX8_addWord_40 : decode cX8_addWord 40 = .ok (.aload_n 0, 1) := by decide +kernel
theorem dX8_addWord_41 : decode cX8_addWord 41 = .ok (.getfield 7, 3) := by decide +kernel
theorem dX8_addWord_44 : decode cX8_addWord 44 = .ok (.iload_n 1, 1) := by decide +kernel
theorem dX8_addWord_45 : decode cX8_addWord 45 = .ok (.invokestatic 93, 3) := by decide +kernel
theorem dX8_addWord_48 : decode cX8_addWord 48 = .ok (.iconst 1, 1) := by decide +kernel
theorem dX8_addWord_49 : decode cX8_addWord 49 = .ok (.iadd, 1) := by decide +kernel
theorem dX8_addWord_50 : decode cX8_addWord 50 = .ok (.iaload, 1) := by decide +kernel
theorem dX8_addWord_51 : decode cX8_addWord 51 = .ok (.iconst 1, 1) := by decide +kernel
theorem dX8_addWord_52 : decode cX8_addWord 52 = .ok (.iadd, 1) := by decide +kernel
theorem dX8_addWord_53 : decode cX8_addWord 53 = .ok (.iload 4, 2) := by decide +kernel
theorem dX8_addWord_55 : decode cX8_addWord 55 = .ok (.iadd, 1) := by decide +kernel
theorem dX8_addWord_56 : decode cX8_addWord 56 = .ok (.bipush 80, 2) := by decide +kernel
theorem dX8_addWord_58 : decode cX8_addWord 58 = .ok (.if_icmp .le 6, 3) := by decide +kernel
theorem dX8_addWord_61 : decode cX8_addWord 61 = .ok (.bipush (-3), 2) := by decide +kernel
theorem dX8_addWord_63 : decode cX8_addWord 63 = .ok (.ireturn, 1) := by decide +kernel
theorem dX8_addWord_64 : decode cX8_addWord 64 = .ok (.aload_n 0, 1) := by decide +kernel
theorem dX8_addWord_65 : decode cX8_addWord 65 = .ok (.invokevirtual 47, 3) := by decide +kernel
theorem dX8_addWord_68 : decode cX8_addWord 68 = .ok (.aload_n 0, 1) := by decide +kernel
theorem dX8_addWord_69 : decode cX8_addWord 69 = .ok (.iload_n 1, 1) := by decide +kernel
theorem dX8_addWord_70 : decode cX8_addWord 70 = .ok (.iload_n 2, 1) := by decide +kernel
theorem dX8_addWord_71 : decode cX8_addWord 71 = .ok (.iconst 1, 1) := by decide +kernel
theorem dX8_addWord_72 : decode cX8_addWord 72 = .ok (.if_icmp .ne 8, 3) := by decide +kernel
theorem dX8_addWord_75 : decode cX8_addWord 75 = .ok (.bipush 9, 2) := by decide +kernel
theorem dX8_addWord_77 : decode cX8_addWord 77 = .ok (.goto 5, 3) := by decide +kernel
theorem dX8_addWord_80 : decode cX8_addWord 80 = .ok (.bipush 32, 2) := by decide +kernel
theorem dX8_addWord_82 : decode cX8_addWord 82 = .ok (.invokevirtual 102, 3) := by decide +kernel
theorem dX8_addWord_85 : decode cX8_addWord 85 = .ok (.iconst 0, 1) := by decide +kernel
theorem dX8_addWord_86 : decode cX8_addWord 86 = .ok (.istore 5, 2) := by decide +kernel
theorem dX8_addWord_88 : decode cX8_addWord 88 = .ok (.iload 5, 2) := by decide +kernel
theorem dX8_addWord_90 : decode cX8_addWord 90 = .ok (.iload 4, 2) := by decide +kernel
theorem dX8_addWord_92 : decode cX8_addWord 92 = .ok (.if_icmp .ge 18, 3) := by decide +kernel
theorem dX8_addWord_95 : decode cX8_addWord 95 = .ok (.aload_n 0, 1) := by decide +kernel
theorem dX8_addWord_96 : decode cX8_addWord 96 = .ok (.iload_n 1, 1) := by decide +kernel
theorem dX8_addWord_97 : decode cX8_addWord 97 = .ok (.bipush 97, 2) := by decide +kernel
theorem dX8_addWord_99 : decode cX8_addWord 99 = .ok (.iload_n 3, 1) := by decide +kernel
theorem dX8_addWord_100 : decode cX8_addWord 100 = .ok (.iadd, 1) := by decide +kernel
theorem dX8_addWord_101 : decode cX8_addWord 101 = .ok (.invokevirtual 102, 3) := by decide +kernel
theorem dX8_addWord_104 : decode cX8_addWord 104 = .ok (.iinc 5 1, 3) := by decide +kernel
theorem dX8_addWord_107 : decode cX8_addWord 107 = .ok (.goto (-19), 3) := by decide +kernel
theorem dX8_addWord_110 : decode cX8_addWord 110 = .ok (.aload_n 0, 1) := by decide +kernel
theorem dX8_addWord_111 : decode cX8_addWord 111 = .ok (.getfield 7, 3) := by decide +kernel
theorem dX8_addWord_114 : decode cX8_addWord 114 = .ok (.iload_n 1, 1) := by decide +kernel
theorem dX8_addWord_115 : decode cX8_addWord 115 = .ok (.invokestatic 93, 3) := by decide +kernel
theorem dX8_addWord_118 : decode cX8_addWord 118 = .ok (.iconst 1, 1) := by decide +kernel
theorem dX8_addWord_119 : decode cX8_addWord 119 = .ok (.iadd, 1) := by decide +kernel
theorem dX8_addWord_120 : decode cX8_addWord 120 = .ok (.iaload, 1) := by decide +kernel
theorem dX8_addWord_121 : decode cX8_addWord 121 = .ok (.ireturn, 1) := by decide +kernel
theorem dX8_addAmount_0 : decode cX8_addAmount 0 = .ok (.aload_n 0, 1) := by decide +kernel
theorem dX8_addAmount_1 : decode cX8_addAmount 1 = .ok (.iload_n 1, 1) := by decide +kernel
theorem dX8_addAmount_2 : decode cX8_addAmount 2 = .ok (.invokevirtual 96, 3) := by decide +kernel
theorem dX8_addAmount_5 : decode cX8_addAmount 5 = .ok (.ifCond .eq 13, 3) := by decide +kernel
theorem dX8_addAmount_8 : decode cX8_addAmount 8 = .ok (.iload_n 2, 1) := by decide +kernel
theorem dX8_addAmount_9 : decode cX8_addAmount 9 = .ok (.iconst 0, 1) := by decide +kernel
theorem dX8_addAmount_10 : decode cX8_addAmount 10 = .ok (.ldc 106, 2) := by decide +kernel
theorem dX8_addAmount_12 : decode cX8_addAmount 12 = .ok (.invokestatic 36, 3) := by decide +kernel
theorem dX8_addAmount_15 : decode cX8_addAmount 15 = .ok (.ifCond .ne 5, 3) := by decide +kernel
theorem dX8_addAmount_18 : decode cX8_addAmount 18 = .ok (.iconst (-1), 1) := by decide +kernel
theorem dX8_addAmount_19 : decode cX8_addAmount 19 = .ok (.ireturn, 1) := by decide +kernel
theorem dX8_addAmount_20 : decode cX8_addAmount 20 = .ok (.iconst 1, 1) := by decide +kernel
theorem dX8_addAmount_21 : decode cX8_addAmount 21 = .ok (.istore_n 3, 1) := by decide +kernel
theorem dX8_addAmount_22 : decode cX8_addAmount 22 = .ok (.iconst 1, 1) := by decide +kernel
theorem dX8_addAmount_23 : decode cX8_addAmount 23 = .ok (.istore 4, 2) := by decide +kernel
theorem dX8_addAmount_25 : decode cX8_addAmount 25 = .ok (.iload_n 2, 1) := by decide +kernel
theorem dX8_addAmount_26 : decode cX8_addAmount 26 = .ok (.bipush 100, 2) := by decide +kernel
theorem dX8_addAmount_28 : decode cX8_addAmount 28 = .ok (.idiv, 1) := by decide +kernel
theorem dX8_addAmount_29 : decode cX8_addAmount 29 = .ok (.iload_n 3, 1) := by decide +kernel
theorem dX8_addAmount_30 : decode cX8_addAmount 30 = .ok (.idiv, 1) := by decide +kernel
theorem dX8_addAmount_31 : decode cX8_addAmount 31 = .ok (.bipush 10, 2) := by decide +kernel
theorem dX8_addAmount_33 : decode cX8_addAmount 33 = .ok (.if_icmp .lt 14, 3) := by decide +kernel
theorem dX8_addAmount_36 : decode cX8_addAmount 36 = .ok (.iload_n 3, 1) := by decide +kernel
theorem dX8_addAmount_37 : decode cX8_addAmount 37 = .ok (.bipush 10, 2) := by decide +kernel
theorem dX8_addAmount_39 : decode cX8_addAmount 39 = .ok (.imul, 1) := by decide +kernel
theorem dX8_addAmount_40 : decode cX8_addAmount 40 = .ok (.istore_n 3, 1) := by decide +kernel
theorem dX8_addAmount_41 : decode cX8_addAmount 41 = .ok (.iinc 4 1, 3) := by decide +kernel
theorem dX8_addAmount_44 : decode cX8_addAmount 44 = .ok (.goto (-19), 3) := by decide +kernel
theorem dX8_addAmount_47 : decode cX8_addAmount 47 = .ok (.aload_n 0, 1) := by decide +kernel
theorem dX8_addAmount_48 : decode cX8_addAmount 48 = .ok (.getfield 7, 3) := by decide +kernel
theorem dX8_addAmount_51 : decode cX8_addAmount 51 = .ok (.iload_n 1, 1) := by decide +kernel
theorem dX8_addAmount_52 : decode cX8_addAmount 52 = .ok (.invokestatic 93, 3) := by decide +kernel
theorem dX8_addAmount_55 : decode cX8_addAmount 55 = .ok (.iconst 1, 1) := by decide +kernel
theorem dX8_addAmount_56 : decode cX8_addAmount 56 = .ok (.iadd, 1) := by decide +kernel
theorem dX8_addAmount_57 : decode cX8_addAmount 57 = .ok (.iaload, 1) := by decide +kernel
theorem dX8_addAmount_58 : decode cX8_addAmount 58 = .ok (.iconst 4, 1) := by decide +kernel
theorem dX8_addAmount_59 : decode cX8_addAmount 59 = .ok (.iadd, 1) := by decide +kernel
theorem dX8_addAmount_60 : decode cX8_addAmount 60 = .ok (.iload 4, 2) := by decide +kernel
theorem dX8_addAmount_62 : decode cX8_addAmount 62 = .ok (.iadd, 1) := by decide +kernel
theorem dX8_addAmount_63 : decode cX8_addAmount 63 = .ok (.bipush 80, 2) := by decide +kernel
theorem dX8_addAmount_65 : decode cX8_addAmount 65 = .ok (.if_icmp .le 6, 3) := by decide +kernel
theorem dX8_addAmount_68 : decode cX8_addAmount 68 = .ok (.bipush (-3), 2) := by decide +kernel
theorem dX8_addAmount_70 : decode cX8_addAmount 70 = .ok (.ireturn, 1) := by decide +kernel
theorem dX8_addAmount_71 : decode cX8_addAmount 71 = .ok (.aload_n 0, 1) := by decide +kernel
theorem dX8_addAmount_72 : decode cX8_addAmount 72 = .ok (.invokevirtual 47, 3) := by decide +kernel
theorem dX8_addAmount_75 : decode cX8_addAmount 75 = .ok (.aload_n 0, 1) := by decide +kernel
theorem dX8_addAmount_76 : decode cX8_addAmount 76 = .ok (.iload_n 1, 1) := by decide +kernel
theorem dX8_addAmount_77 : decode cX8_addAmount 77 = .ok (.bipush 9, 2) := by decide +kernel
theorem dX8_addAmount_79 : decode cX8_addAmount 79 = .ok (.invokevirtual 102, 3) := by decide +kernel
theorem dX8_addAmount_82 : decode cX8_addAmount 82 = .ok (.iload_n 3, 1) := by decide +kernel
theorem dX8_addAmount_83 : decode cX8_addAmount 83 = .ok (.istore 5, 2) := by decide +kernel
theorem dX8_addAmount_85 : decode cX8_addAmount 85 = .ok (.iload 5, 2) := by decide +kernel
theorem dX8_addAmount_87 : decode cX8_addAmount 87 = .ok (.ifCond .le 31, 3) := by decide +kernel
theorem dX8_addAmount_90 : decode cX8_addAmount 90 = .ok (.aload_n 0, 1) := by decide +kernel
theorem dX8_addAmount_91 : decode cX8_addAmount 91 = .ok (.iload_n 1, 1) := by decide +kernel
theorem dX8_addAmount_92 : decode cX8_addAmount 92 = .ok (.bipush 48, 2) := by decide +kernel
theorem dX8_addAmount_94 : decode cX8_addAmount 94 = .ok (.iload_n 2, 1) := by decide +kernel
theorem dX8_addAmount_95 : decode cX8_addAmount 95 = .ok (.bipush 100, 2) := by decide +kernel
theorem dX8_addAmount_97 : decode cX8_addAmount 97 = .ok (.idiv, 1) := by decide +kernel
theorem dX8_addAmount_98 : decode cX8_addAmount 98 = .ok (.iload 5, 2) := by decide +kernel
theorem dX8_addAmount_100 : decode cX8_addAmount 100 = .ok (.idiv, 1) := by decide +kernel
theorem dX8_addAmount_101 : decode cX8_addAmount 101 = .ok (.bipush 10, 2) := by decide +kernel
theorem dX8_addAmount_103 : decode cX8_addAmount 103 = .ok (.irem, 1) := by decide +kernel
theorem dX8_addAmount_104 : decode cX8_addAmount 104 = .ok (.iadd, 1) := by decide +kernel
theorem dX8_addAmount_105 : decode cX8_addAmount 105 = .ok (.invokevirtual 102, 3) := by decide +kernel
theorem dX8_addAmount_108 : decode cX8_addAmount 108 = .ok (.iload 5, 2) := by decide +kernel
theorem dX8_addAmount_110 : decode cX8_addAmount 110 = .ok (.bipush 10, 2) := by decide +kernel
theorem dX8_addAmount_112 : decode cX8_addAmount 112 = .ok (.idiv, 1) := by decide +kernel
theorem dX8_addAmount_113 : decode cX8_addAmount 113 = .ok (.istore 5, 2) := by decide +kernel
theorem dX8_addAmount_115 : decode cX8_addAmount 115 = .ok (.goto (-30), 3) := by decide +kernel
theorem dX8_addAmount_118 : decode cX8_addAmount 118 = .ok (.aload_n 0, 1) := by decide +kernel
theorem dX8_addAmount_119 : decode cX8_addAmount 119 = .ok (.iload_n 1, 1) := by decide +kernel
theorem dX8_addAmount_120 : decode cX8_addAmount 120 = .ok (.bipush 46, 2) := by decide +kernel
theorem dX8_addAmount_122 : decode cX8_addAmount 122 = .ok (.invokevirtual 102, 3) := by decide +kernel
theorem dX8_addAmount_125 : decode cX8_addAmount 125 = .ok (.aload_n 0, 1) := by decide +kernel
theorem dX8_addAmount_126 : decode cX8_addAmount 126 = .ok (.iload_n 1, 1) := by decide +kernel
theorem dX8_addAmount_127 : decode cX8_addAmount 127 = .ok (.bipush 48, 2) := by decide +kernel
theorem dX8_addAmount_129 : decode cX8_addAmount 129 = .ok (.iload_n 2, 1) := by decide +kernel
theorem dX8_addAmount_130 : decode cX8_addAmount 130 = .ok (.bipush 10, 2) := by decide +kernel
theorem dX8_addAmount_132 : decode cX8_addAmount 132 = .ok (.idiv, 1) := by decide +kernel
theorem dX8_addAmount_133 : decode cX8_addAmount 133 = .ok (.bipush 10, 2) := by decide +kernel
theorem dX8_addAmount_135 : decode cX8_addAmount 135 = .ok (.irem, 1) := by decide +kernel
theorem dX8_addAmount_136 : decode cX8_addAmount 136 = .ok (.iadd, 1) := by decide +kernel
theorem dX8_addAmount_137 : decode cX8_addAmount 137 = .ok (.invokevirtual 102, 3) := by decide +kernel
theorem dX8_addAmount_140 : decode cX8_addAmount 140 = .ok (.aload_n 0, 1) := by decide +kernel
theorem dX8_addAmount_141 : decode cX8_addAmount 141 = .ok (.iload_n 1, 1) := by decide +kernel
theorem dX8_addAmount_142 : decode cX8_addAmount 142 = .ok (.bipush 48, 2) := by decide +kernel
theorem dX8_addAmount_144 : decode cX8_addAmount 144 = .ok (.iload_n 2, 1) := by decide +kernel
theorem dX8_addAmount_145 : decode cX8_addAmount 145 = .ok (.bipush 10, 2) := by decide +kernel
theorem dX8_addAmount_147 : decode cX8_addAmount 147 = .ok (.irem, 1) := by decide +kernel
theorem dX8_addAmount_148 : decode cX8_addAmount 148 = .ok (.iadd, 1) := by decide +kernel
theorem dX8_addAmount_149 : decode cX8_addAmount 149 = .ok (.invokevirtual 102, 3) := by decide +kernel
theorem dX8_addAmount_152 : decode cX8_addAmount 152 = .ok (.aload_n 0, 1) := by decide +kernel
theorem dX8_addAmount_153 : decode cX8_addAmount 153 = .ok (.getfield 7, 3) := by decide +kernel
theorem dX8_addAmount_156 : decode cX8_addAmount 156 = .ok (.iload_n 1, 1) := by decide +kernel
theorem dX8_addAmount_157 : decode cX8_addAmount 157 = .ok (.invokestatic 93, 3) := by decide +kernel
theorem dX8_addAmount_160 : decode cX8_addAmount 160 = .ok (.iconst 1, 1) := by decide +kernel
theorem dX8_addAmount_161 : decode cX8_addAmount 161 = .ok (.iadd, 1) := by decide +kernel
theorem dX8_addAmount_162 : decode cX8_addAmount 162 = .ok (.iaload, 1) := by decide +kernel
theorem dX8_addAmount_163 : decode cX8_addAmount 163 = .ok (.ireturn, 1) := by decide +kernel
theorem dX8_letterAt_0 : decode cX8_letterAt 0 = .ok (.aload_n 0, 1) := by decide +kernel
theorem dX8_letterAt_1 : decode cX8_letterAt 1 = .ok (.getfield 7, 3) := by decide +kernel
theorem dX8_letterAt_4 : decode cX8_letterAt 4 = .ok (.aload_n 0, 1) := by decide +kernel
theorem dX8_letterAt_5 : decode cX8_letterAt 5 = .ok (.getfield 107, 3) := by decide +kernel
theorem dX8_letterAt_8 : decode cX8_letterAt 8 = .ok (.iconst 2, 1) := by decide +kernel
theorem dX8_letterAt_9 : decode cX8_letterAt 9 = .ok (.iadd, 1) := by decide +kernel
theorem dX8_letterAt_10 : decode cX8_letterAt 10 = .ok (.iload_n 1, 1) := by decide +kernel
theorem dX8_letterAt_11 : decode cX8_letterAt 11 = .ok (.iadd, 1) := by decide +kernel
theorem dX8_letterAt_12 : decode cX8_letterAt 12 = .ok (.iaload, 1) := by decide +kernel
theorem dX8_letterAt_13 : decode cX8_letterAt 13 = .ok (.ireturn, 1) := by decide +kernel
theorem dX8_length_0 : decode cX8_length 0 = .ok (.aload_n 0, 1) := by decide +kernel
theorem dX8_length_1 : decode cX8_length 1 = .ok (.getfield 7, 3) := by decide +kernel
theorem dX8_length_4 : decode cX8_length 4 = .ok (.aload_n 0, 1) := by decide +kernel
theorem dX8_length_5 : decode cX8_length 5 = .ok (.getfield 107, 3) := by decide +kernel
theorem dX8_length_8 : decode cX8_length 8 = .ok (.iconst 1, 1) := by decide +kernel
theorem dX8_length_9 : decode cX8_length 9 = .ok (.iadd, 1) := by decide +kernel
theorem dX8_length_10 : decode cX8_length 10 = .ok (.iaload, 1) := by decide +kernel
theorem dX8_length_11 : decode cX8_length 11 = .ok (.ireturn, 1) := by decide +kernel
theorem dX8_opensLine_0 : decode cX8_opensLine 0 = .ok (.iconst 0, 1) := by decide +kernel
theorem dX8_opensLine_1 : decode cX8_opensLine 1 = .ok (.istore_n 1, 1) := by decide +kernel
theorem dX8_opensLine_2 : decode cX8_opensLine 2 = .ok (.iload_n 1, 1) := by decide +kernel
theorem dX8_opensLine_3 : decode cX8_opensLine 3 = .ok (.aload_n 0, 1) := by decide +kernel
theorem dX8_opensLine_4 : decode cX8_opensLine 4 = .ok (.getfield 110, 3) := by decide +kernel
theorem dX8_opensLine_7 : decode cX8_opensLine 7 = .ok (.if_icmp .ge 40, 3) := by decide +kernel
theorem dX8_opensLine_10 : decode cX8_opensLine 10 = .ok (.aload_n 0, 1) := by decide +kernel
theorem dX8_opensLine_11 : decode cX8_opensLine 11 = .ok (.getfield 23, 3) := by decide +kernel
theorem dX8_opensLine_14 : decode cX8_opensLine 14 = .ok (.bipush 80, 2) := by decide +kernel
theorem dX8_opensLine_16 : decode cX8_opensLine 16 = .ok (.aload_n 0, 1) := by decide +kernel
theorem dX8_opensLine_17 : decode cX8_opensLine 17 = .ok (.getfield 113, 3) := by decide +kernel
theorem dX8_opensLine_20 : decode cX8_opensLine 20 = .ok (.imul, 1) := by decide +kernel
theorem dX8_opensLine_21 : decode cX8_opensLine 21 = .ok (.iload_n 1, 1) := by decide +kernel
theorem dX8_opensLine_22 : decode cX8_opensLine 22 = .ok (.iadd, 1) := by decide +kernel
theorem dX8_opensLine_23 : decode cX8_opensLine 23 = .ok (.bipush 32, 2) := by decide +kernel
theorem dX8_opensLine_25 : decode cX8_opensLine 25 = .ok (.bastore, 1) := by decide +kernel
theorem dX8_opensLine_26 : decode cX8_opensLine 26 = .ok (.aload_n 0, 1) := by decide +kernel
theorem dX8_opensLine_27 : decode cX8_opensLine 27 = .ok (.getfield 26, 3) := by decide +kernel
theorem dX8_opensLine_30 : decode cX8_opensLine 30 = .ok (.bipush 80, 2) := by decide +kernel
theorem dX8_opensLine_32 : decode cX8_opensLine 32 = .ok (.aload_n 0, 1) := by decide +kernel
theorem dX8_opensLine_33 : decode cX8_opensLine 33 = .ok (.getfield 113, 3) := by decide +kernel
theorem dX8_opensLine_36 : decode cX8_opensLine 36 = .ok (.imul, 1) := by decide +kernel
theorem dX8_opensLine_37 : decode cX8_opensLine 37 = .ok (.iload_n 1, 1) := by decide +kernel
theorem dX8_opensLine_38 : decode cX8_opensLine 38 = .ok (.iadd, 1) := by decide +kernel
theorem dX8_opensLine_39 : decode cX8_opensLine 39 = .ok (.iconst 0, 1) := by decide +kernel
theorem dX8_opensLine_40 : decode cX8_opensLine 40 = .ok (.bastore, 1) := by decide +kernel
theorem dX8_opensLine_41 : decode cX8_opensLine 41 = .ok (.iinc 1 1, 3) := by decide +kernel
theorem dX8_opensLine_44 : decode cX8_opensLine 44 = .ok (.goto (-42), 3) := by decide +kernel
theorem dX8_opensLine_47 : decode cX8_opensLine 47 = .ok (.return_, 1) := by decide +kernel
theorem dX8_newLine_0 : decode cX8_newLine 0 = .ok (.aload_n 0, 1) := by decide +kernel
theorem dX8_newLine_1 : decode cX8_newLine 1 = .ok (.dup, 1) := by decide +kernel
theorem dX8_newLine_2 : decode cX8_newLine 2 = .ok (.getfield 113, 3) := by decide +kernel
theorem dX8_newLine_5 : decode cX8_newLine 5 = .ok (.iconst 1, 1) := by decide +kernel
theorem dX8_newLine_6 : decode cX8_newLine 6 = .ok (.iadd, 1) := by decide +kernel
theorem dX8_newLine_7 : decode cX8_newLine 7 = .ok (.putfield 113, 3) := by decide +kernel
theorem dX8_newLine_10 : decode cX8_newLine 10 = .ok (.aload_n 0, 1) := by decide +kernel
theorem dX8_newLine_11 : decode cX8_newLine 11 = .ok (.invokevirtual 116, 3) := by decide +kernel
theorem dX8_newLine_14 : decode cX8_newLine 14 = .ok (.aload_n 0, 1) := by decide +kernel
theorem dX8_newLine_15 : decode cX8_newLine 15 = .ok (.aload_n 0, 1) := by decide +kernel
theorem dX8_newLine_16 : decode cX8_newLine 16 = .ok (.aload_n 0, 1) := by decide +kernel
theorem dX8_newLine_17 : decode cX8_newLine 17 = .ok (.getfield 119, 3) := by decide +kernel
theorem dX8_newLine_20 : decode cX8_newLine 20 = .ok (.iconst 1, 1) := by decide +kernel
theorem dX8_newLine_21 : decode cX8_newLine 21 = .ok (.invokevirtual 44, 3) := by decide +kernel
theorem dX8_newLine_24 : decode cX8_newLine 24 = .ok (.putfield 122, 3) := by decide +kernel
theorem dX8_newLine_27 : decode cX8_newLine 27 = .ok (.return_, 1) := by decide +kernel
theorem dX8_writes_0 : decode cX8_writes 0 = .ok (.aload_n 0, 1) := by decide +kernel
theorem dX8_writes_1 : decode cX8_writes 1 = .ok (.getfield 23, 3) := by decide +kernel
theorem dX8_writes_4 : decode cX8_writes 4 = .ok (.bipush 80, 2) := by decide +kernel
theorem dX8_writes_6 : decode cX8_writes 6 = .ok (.aload_n 0, 1) := by decide +kernel
theorem dX8_writes_7 : decode cX8_writes 7 = .ok (.getfield 113, 3) := by decide +kernel
theorem dX8_writes_10 : decode cX8_writes 10 = .ok (.imul, 1) := by decide +kernel
theorem dX8_writes_11 : decode cX8_writes 11 = .ok (.aload_n 0, 1) := by decide +kernel
theorem dX8_writes_12 : decode cX8_writes 12 = .ok (.getfield 122, 3) := by decide +kernel
theorem dX8_writes_15 : decode cX8_writes 15 = .ok (.iadd, 1) := by decide +kernel
theorem dX8_writes_16 : decode cX8_writes 16 = .ok (.iload_n 1, 1) := by decide +kernel
theorem dX8_writes_17 : decode cX8_writes 17 = .ok (.i2b, 1) := by decide +kernel
theorem dX8_writes_18 : decode cX8_writes 18 = .ok (.bastore, 1) := by decide +kernel
theorem dX8_writes_19 : decode cX8_writes 19 = .ok (.aload_n 0, 1) := by decide +kernel
theorem dX8_writes_20 : decode cX8_writes 20 = .ok (.getfield 26, 3) := by decide +kernel
theorem dX8_writes_23 : decode cX8_writes 23 = .ok (.bipush 80, 2) := by decide +kernel
theorem dX8_writes_25 : decode cX8_writes 25 = .ok (.aload_n 0, 1) := by decide +kernel
theorem dX8_writes_26 : decode cX8_writes 26 = .ok (.getfield 113, 3) := by decide +kernel
theorem dX8_writes_29 : decode cX8_writes 29 = .ok (.imul, 1) := by decide +kernel
theorem dX8_writes_30 : decode cX8_writes 30 = .ok (.aload_n 0, 1) := by decide +kernel
theorem dX8_writes_31 : decode cX8_writes 31 = .ok (.getfield 122, 3) := by decide +kernel
theorem dX8_writes_34 : decode cX8_writes 34 = .ok (.iadd, 1) := by decide +kernel
theorem dX8_writes_35 : decode cX8_writes 35 = .ok (.iload_n 2, 1) := by decide +kernel
theorem dX8_writes_36 : decode cX8_writes 36 = .ok (.i2b, 1) := by decide +kernel
theorem dX8_writes_37 : decode cX8_writes 37 = .ok (.bastore, 1) := by decide +kernel
theorem dX8_writes_38 : decode cX8_writes 38 = .ok (.aload_n 0, 1) := by decide +kernel
theorem dX8_writes_39 : decode cX8_writes 39 = .ok (.dup, 1) := by decide +kernel
theorem dX8_writes_40 : decode cX8_writes 40 = .ok (.getfield 122, 3) := by decide +kernel
theorem dX8_writes_43 : decode cX8_writes 43 = .ok (.iconst 1, 1) := by decide +kernel
theorem dX8_writes_44 : decode cX8_writes 44 = .ok (.iadd, 1) := by decide +kernel
theorem dX8_writes_45 : decode cX8_writes 45 = .ok (.putfield 122, 3) := by decide +kernel
theorem dX8_writes_48 : decode cX8_writes 48 = .ok (.return_, 1) := by decide +kernel
theorem dX8_begins_0 : decode cX8_begins 0 = .ok (.aload_n 0, 1) := by decide +kernel
theorem dX8_begins_1 : decode cX8_begins 1 = .ok (.getfield 29, 3) := by decide +kernel
theorem dX8_begins_4 : decode cX8_begins 4 = .ok (.bipush 6, 2) := by decide +kernel
theorem dX8_begins_6 : decode cX8_begins 6 = .ok (.aload_n 0, 1) := by decide +kernel
theorem dX8_begins_7 : decode cX8_begins 7 = .ok (.getfield 125, 3) := by decide +kernel
theorem dX8_begins_10 : decode cX8_begins 10 = .ok (.imul, 1) := by decide +kernel
theorem dX8_begins_11 : decode cX8_begins 11 = .ok (.aload_n 0, 1) := by decide +kernel
theorem dX8_begins_12 : decode cX8_begins 12 = .ok (.getfield 113, 3) := by decide +kernel
theorem dX8_begins_15 : decode cX8_begins 15 = .ok (.iastore, 1) := by decide +kernel
theorem dX8_begins_16 : decode cX8_begins 16 = .ok (.aload_n 0, 1) := by decide +kernel
theorem dX8_begins_17 : decode cX8_begins 17 = .ok (.getfield 29, 3) := by decide +kernel
theorem dX8_begins_20 : decode cX8_begins 20 = .ok (.bipush 6, 2) := by decide +kernel
theorem dX8_begins_22 : decode cX8_begins 22 = .ok (.aload_n 0, 1) := by decide +kernel
theorem dX8_begins_23 : decode cX8_begins 23 = .ok (.getfield 125, 3) := by decide +kernel
theorem dX8_begins_26 : decode cX8_begins 26 = .ok (.imul, 1) := by decide +kernel
theorem dX8_begins_27 : decode cX8_begins 27 = .ok (.iconst 1, 1) := by decide +kernel
theorem dX8_begins_28 : decode cX8_begins 28 = .ok (.iadd, 1) := by decide +kernel
theorem dX8_begins_29 : decode cX8_begins 29 = .ok (.aload_n 0, 1) := by decide +kernel
theorem dX8_begins_30 : decode cX8_begins 30 = .ok (.getfield 122, 3) := by decide +kernel
theorem dX8_begins_33 : decode cX8_begins 33 = .ok (.iastore, 1) := by decide +kernel
theorem dX8_begins_34 : decode cX8_begins 34 = .ok (.aload_n 0, 1) := by decide +kernel
theorem dX8_begins_35 : decode cX8_begins 35 = .ok (.getfield 29, 3) := by decide +kernel
theorem dX8_begins_38 : decode cX8_begins 38 = .ok (.bipush 6, 2) := by decide +kernel
theorem dX8_begins_40 : decode cX8_begins 40 = .ok (.aload_n 0, 1) := by decide +kernel
theorem dX8_begins_41 : decode cX8_begins 41 = .ok (.getfield 125, 3) := by decide +kernel
theorem dX8_begins_44 : decode cX8_begins 44 = .ok (.imul, 1) := by decide +kernel
theorem dX8_begins_45 : decode cX8_begins 45 = .ok (.iconst 2, 1) := by decide +kernel
theorem dX8_begins_46 : decode cX8_begins 46 = .ok (.iadd, 1) := by decide +kernel
theorem dX8_begins_47 : decode cX8_begins 47 = .ok (.iconst 0, 1) := by decide +kernel
theorem dX8_begins_48 : decode cX8_begins 48 = .ok (.iastore, 1) := by decide +kernel
theorem dX8_begins_49 : decode cX8_begins 49 = .ok (.aload_n 0, 1) := by decide +kernel
theorem dX8_begins_50 : decode cX8_begins 50 = .ok (.getfield 29, 3) := by decide +kernel
theorem dX8_begins_53 : decode cX8_begins 53 = .ok (.bipush 6, 2) := by decide +kernel
theorem dX8_begins_55 : decode cX8_begins 55 = .ok (.aload_n 0, 1) := by decide +kernel
theorem dX8_begins_56 : decode cX8_begins 56 = .ok (.getfield 125, 3) := by decide +kernel
theorem dX8_begins_59 : decode cX8_begins 59 = .ok (.imul, 1) := by decide +kernel
theorem dX8_begins_60 : decode cX8_begins 60 = .ok (.iconst 3, 1) := by decide +kernel
theorem dX8_begins_61 : decode cX8_begins 61 = .ok (.iadd, 1) := by decide +kernel
theorem dX8_begins_62 : decode cX8_begins 62 = .ok (.iload_n 1, 1) := by decide +kernel
theorem dX8_begins_63 : decode cX8_begins 63 = .ok (.iastore, 1) := by decide +kernel
theorem dX8_begins_64 : decode cX8_begins 64 = .ok (.aload_n 0, 1) := by decide +kernel
theorem dX8_begins_65 : decode cX8_begins 65 = .ok (.getfield 29, 3) := by decide +kernel
theorem dX8_begins_68 : decode cX8_begins 68 = .ok (.bipush 6, 2) := by decide +kernel
theorem dX8_begins_70 : decode cX8_begins 70 = .ok (.aload_n 0, 1) := by decide +kernel
theorem dX8_begins_71 : decode cX8_begins 71 = .ok (.getfield 125, 3) := by decide +kernel
theorem dX8_begins_74 : decode cX8_begins 74 = .ok (.imul, 1) := by decide +kernel
theorem dX8_begins_75 : decode cX8_begins 75 = .ok (.iconst 4, 1) := by decide +kernel
theorem dX8_begins_76 : decode cX8_begins 76 = .ok (.iadd, 1) := by decide +kernel
theorem dX8_begins_77 : decode cX8_begins 77 = .ok (.iload_n 2, 1) := by decide +kernel
theorem dX8_begins_78 : decode cX8_begins 78 = .ok (.iastore, 1) := by decide +kernel
theorem dX8_begins_79 : decode cX8_begins 79 = .ok (.aload_n 0, 1) := by decide +kernel
theorem dX8_begins_80 : decode cX8_begins 80 = .ok (.getfield 29, 3) := by decide +kernel
theorem dX8_begins_83 : decode cX8_begins 83 = .ok (.bipush 6, 2) := by decide +kernel
theorem dX8_begins_85 : decode cX8_begins 85 = .ok (.aload_n 0, 1) := by decide +kernel
theorem dX8_begins_86 : decode cX8_begins 86 = .ok (.getfield 125, 3) := by decide +kernel
theorem dX8_begins_89 : decode cX8_begins 89 = .ok (.imul, 1) := by decide +kernel
theorem dX8_begins_90 : decode cX8_begins 90 = .ok (.iconst 5, 1) := by decide +kernel
theorem dX8_begins_91 : decode cX8_begins 91 = .ok (.iadd, 1) := by decide +kernel
theorem dX8_begins_92 : decode cX8_begins 92 = .ok (.iload_n 3, 1) := by decide +kernel
theorem dX8_begins_93 : decode cX8_begins 93 = .ok (.iastore, 1) := by decide +kernel
theorem dX8_begins_94 : decode cX8_begins 94 = .ok (.return_, 1) := by decide +kernel
theorem dX8_fills_0 : decode cX8_fills 0 = .ok (.aload_n 0, 1) := by decide +kernel
theorem dX8_fills_1 : decode cX8_fills 1 = .ok (.getfield 29, 3) := by decide +kernel
theorem dX8_fills_4 : decode cX8_fills 4 = .ok (.bipush 6, 2) := by decide +kernel
theorem dX8_fills_6 : decode cX8_fills 6 = .ok (.aload_n 0, 1) := by decide +kernel
theorem dX8_fills_7 : decode cX8_fills 7 = .ok (.getfield 125, 3) := by decide +kernel
theorem dX8_fills_10 : decode cX8_fills 10 = .ok (.imul, 1) := by decide +kernel
theorem dX8_fills_11 : decode cX8_fills 11 = .ok (.iaload, 1) := by decide +kernel
theorem dX8_fills_12 : decode cX8_fills 12 = .ok (.aload_n 0, 1) := by decide +kernel
theorem dX8_fills_13 : decode cX8_fills 13 = .ok (.getfield 113, 3) := by decide +kernel
theorem dX8_fills_16 : decode cX8_fills 16 = .ok (.if_icmp .ne 36, 3) := by decide +kernel
theorem dX8_fills_19 : decode cX8_fills 19 = .ok (.aload_n 0, 1) := by decide +kernel
theorem dX8_fills_20 : decode cX8_fills 20 = .ok (.getfield 29, 3) := by decide +kernel
theorem dX8_fills_23 : decode cX8_fills 23 = .ok (.bipush 6, 2) := by decide +kernel
theorem dX8_fills_25 : decode cX8_fills 25 = .ok (.aload_n 0, 1) := by decide +kernel
theorem dX8_fills_26 : decode cX8_fills 26 = .ok (.getfield 125, 3) := by decide +kernel
theorem dX8_fills_29 : decode cX8_fills 29 = .ok (.imul, 1) := by decide +kernel
theorem dX8_fills_30 : decode cX8_fills 30 = .ok (.iconst 2, 1) := by decide +kernel
theorem dX8_fills_31 : decode cX8_fills 31 = .ok (.iadd, 1) := by decide +kernel
theorem dX8_fills_32 : decode cX8_fills 32 = .ok (.aload_n 0, 1) := by decide +kernel
theorem dX8_fills_33 : decode cX8_fills 33 = .ok (.getfield 122, 3) := by decide +kernel
theorem dX8_fills_36 : decode cX8_fills 36 = .ok (.aload_n 0, 1) := by decide +kernel
theorem dX8_fills_37 : decode cX8_fills 37 = .ok (.getfield 29, 3) := by decide +kernel
theorem dX8_fills_40 : decode cX8_fills 40 = .ok (.bipush 6, 2) := by decide +kernel
theorem dX8_fills_42 : decode cX8_fills 42 = .ok (.aload_n 0, 1) := by decide +kernel
theorem dX8_fills_43 : decode cX8_fills 43 = .ok (.getfield 125, 3) := by decide +kernel
theorem dX8_fills_46 : decode cX8_fills 46 = .ok (.imul, 1) := by decide +kernel
theorem dX8_fills_47 : decode cX8_fills 47 = .ok (.iconst 1, 1) := by decide +kernel
theorem dX8_fills_48 : decode cX8_fills 48 = .ok (.iadd, 1) := by decide +kernel
theorem dX8_fills_49 : decode cX8_fills 49 = .ok (.iaload, 1) := by decide +kernel
theorem dX8_fills_50 : decode cX8_fills 50 = .ok (.isub, 1) := by decide +kernel
theorem dX8_fills_51 : decode cX8_fills 51 = .ok (.iastore, 1) := by decide +kernel
theorem dX8_fills_52 : decode cX8_fills 52 = .ok (.return_, 1) := by decide +kernel
theorem dX8_wordFrom_0 : decode cX8_wordFrom 0 = .ok (.iload_n 1, 1) := by decide +kernel
theorem dX8_wordFrom_1 : decode cX8_wordFrom 1 = .ok (.istore_n 3, 1) := by decide +kernel
theorem dX8_wordFrom_2 : decode cX8_wordFrom 2 = .ok (.iload_n 3, 1) := by decide +kernel
theorem dX8_wordFrom_3 : decode cX8_wordFrom 3 = .ok (.iload_n 2, 1) := by decide +kernel
theorem dX8_wordFrom_4 : decode cX8_wordFrom 4 = .ok (.if_icmp .ge 19, 3) := by decide +kernel
theorem dX8_wordFrom_7 : decode cX8_wordFrom 7 = .ok (.aload_n 0, 1) := by decide +kernel
theorem dX8_wordFrom_8 : decode cX8_wordFrom 8 = .ok (.iload_n 3, 1) := by decide +kernel
theorem dX8_wordFrom_9 : decode cX8_wordFrom 9 = .ok (.invokevirtual 128, 3) := by decide +kernel
theorem dX8_wordFrom_12 : decode cX8_wordFrom 12 = .ok (.bipush 32, 2) := by decide +kernel
theorem dX8_wordFrom_14 : decode cX8_wordFrom 14 = .ok (.if_icmp .ne 9, 3) := by decide +kernel
theorem dX8_wordFrom_17 : decode cX8_wordFrom 17 = .ok (.iinc 3 1, 3) := by decide +kernel
theorem dX8_wordFrom_20 : decode cX8_wordFrom 20 = .ok (.goto (-18), 3) := by decide +kernel
theorem dX8_wordFrom_23 : decode cX8_wordFrom 23 = .ok (.iload_n 3, 1) := by decide +kernel
theorem dX8_wordFrom_24 : decode cX8_wordFrom 24 = .ok (.ireturn, 1) := by decide +kernel
theorem dX8_endOfWord_0 : decode cX8_endOfWord 0 = .ok (.iload_n 1, 1) := by decide +kernel
theorem dX8_endOfWord_1 : decode cX8_endOfWord 1 = .ok (.istore_n 3, 1) := by decide +kernel
theorem dX8_endOfWord_2 : decode cX8_endOfWord 2 = .ok (.iload_n 3, 1) := by decide +kernel
theorem dX8_endOfWord_3 : decode cX8_endOfWord 3 = .ok (.iload_n 2, 1) := by decide +kernel
theorem dX8_endOfWord_4 : decode cX8_endOfWord 4 = .ok (.if_icmp .ge 19, 3) := by decide +kernel
theorem dX8_endOfWord_7 : decode cX8_endOfWord 7 = .ok (.aload_n 0, 1) := by decide +kernel
theorem dX8_endOfWord_8 : decode cX8_endOfWord 8 = .ok (.iload_n 3, 1) := by decide +kernel
theorem dX8_endOfWord_9 : decode cX8_endOfWord 9 = .ok (.invokevirtual 128, 3) := by decide +kernel
theorem dX8_endOfWord_12 : decode cX8_endOfWord 12 = .ok (.bipush 32, 2) := by decide +kernel
theorem dX8_endOfWord_14 : decode cX8_endOfWord 14 = .ok (.if_icmp .eq 9, 3) := by decide +kernel
theorem dX8_endOfWord_17 : decode cX8_endOfWord 17 = .ok (.iinc 3 1, 3) := by decide +kernel
theorem dX8_endOfWord_20 : decode cX8_endOfWord 20 = .ok (.goto (-18), 3) := by decide +kernel
theorem dX8_endOfWord_23 : decode cX8_endOfWord 23 = .ok (.iload_n 3, 1) := by decide +kernel
theorem dX8_endOfWord_24 : decode cX8_endOfWord 24 = .ok (.ireturn, 1) := by decide +kernel
theorem dX8_flows_0 : decode cX8_flows 0 = .ok (.iconst 1, 1) := by decide +kernel
theorem dX8_flows_1 : decode cX8_flows 1 = .ok (.istore_n 3, 1) := by decide +kernel
theorem dX8_flows_2 : decode cX8_flows 2 = .ok (.aload_n 0, 1) := by decide +kernel
theorem dX8_flows_3 : decode cX8_flows 3 = .ok (.iload_n 1, 1) := by decide +kernel
theorem dX8_flows_4 : decode cX8_flows 4 = .ok (.iload_n 2, 1) := by decide +kernel
theorem dX8_flows_5 : decode cX8_flows 5 = .ok (.invokevirtual 131, 3) := by decide +kernel
theorem dX8_flows_8 : decode cX8_flows 8 = .ok (.istore 4, 2) := by decide +kernel
theorem dX8_flows_10 : decode cX8_flows 10 = .ok (.iload 4, 2) := by decide +kernel
theorem dX8_flows_12 : decode cX8_flows 12 = .ok (.iload_n 2, 1) := by decide +kernel
theorem dX8_flows_13 : decode cX8_flows 13 = .ok (.if_icmp .ge 113, 3) := by decide +kernel
theorem dX8_flows_16 : decode cX8_flows 16 = .ok (.aload_n 0, 1) := by decide +kernel
theorem dX8_flows_17 : decode cX8_flows 17 = .ok (.iload 4, 2) := by decide +kernel
theorem dX8_flows_19 : decode cX8_flows 19 = .ok (.iload_n 2, 1) := by decide +kernel
theorem dX8_flows_20 : decode cX8_flows 20 = .ok (.invokevirtual 134, 3) := by decide +kernel
theorem dX8_flows_23 : decode cX8_flows 23 = .ok (.istore 5, 2) := by decide +kernel
theorem dX8_flows_25 : decode cX8_flows 25 = .ok (.iload_n 3, 1) := by decide +kernel
theorem dX8_flows_26 : decode cX8_flows 26 = .ok (.ifCond .ne 35, 3) := by decide +kernel
theorem dX8_flows_29 : decode cX8_flows 29 = .ok (.aload_n 0, 1) := by decide +kernel
theorem dX8_flows_30 : decode cX8_flows 30 = .ok (.getfield 122, 3) := by decide +kernel
theorem dX8_flows_33 : decode cX8_flows 33 = .ok (.iconst 1, 1) := by decide +kernel
theorem dX8_flows_34 : decode cX8_flows 34 = .ok (.iadd, 1) := by decide +kernel
theorem dX8_flows_35 : decode cX8_flows 35 = .ok (.iload 5, 2) := by decide +kernel
theorem dX8_flows_37 : decode cX8_flows 37 = .ok (.iadd, 1) := by decide +kernel
theorem dX8_flows_38 : decode cX8_flows 38 = .ok (.iload 4, 2) := by decide +kernel
theorem dX8_flows_40 : decode cX8_flows 40 = .ok (.isub, 1) := by decide +kernel
theorem dX8_flows_41 : decode cX8_flows 41 = .ok (.aload_n 0, 1) := by decide +kernel
theorem dX8_flows_42 : decode cX8_flows 42 = .ok (.getfield 110, 3) := by decide +kernel
theorem dX8_flows_45 : decode cX8_flows 45 = .ok (.if_icmp .gt 16, 3) := by decide +kernel
theorem dX8_flows_48 : decode cX8_flows 48 = .ok (.aload_n 0, 1) := by decide +kernel
theorem dX8_flows_49 : decode cX8_flows 49 = .ok (.dup, 1) := by decide +kernel
theorem dX8_flows_50 : decode cX8_flows 50 = .ok (.getfield 122, 3) := by decide +kernel
theorem dX8_flows_53 : decode cX8_flows 53 = .ok (.iconst 1, 1) := by decide +kernel
theorem dX8_flows_54 : decode cX8_flows 54 = .ok (.iadd, 1) := by decide +kernel
theorem dX8_flows_55 : decode cX8_flows 55 = .ok (.putfield 122, 3) := by decide +kernel
theorem dX8_flows_58 : decode cX8_flows 58 = .ok (.goto 11, 3) := by decide +kernel
theorem dX8_flows_61 : decode cX8_flows 61 = .ok (.iload_n 3, 1) := by decide +kernel
theorem dX8_flows_62 : decode cX8_flows 62 = .ok (.ifCond .ne 7, 3) := by decide +kernel
theorem dX8_flows_65 : decode cX8_flows 65 = .ok (.aload_n 0, 1) := by decide +kernel
theorem dX8_flows_66 : decode cX8_flows 66 = .ok (.invokevirtual 137, 3) := by decide +kernel
theorem dX8_flows_69 : decode cX8_flows 69 = .ok (.iload 4, 2) := by decide +kernel
theorem dX8_flows_71 : decode cX8_flows 71 = .ok (.iload 5, 2) := by decide +kernel
theorem dX8_flows_73 : decode cX8_flows 73 = .ok (.if_icmp .ge 39, 3) := by decide +kernel
theorem dX8_flows_76 : decode cX8_flows 76 = .ok (.aload_n 0, 1) := by decide +kernel
theorem dX8_flows_77 : decode cX8_flows 77 = .ok (.getfield 122, 3) := by decide +kernel
theorem dX8_flows_80 : decode cX8_flows 80 = .ok (.aload_n 0, 1) := by decide +kernel
theorem dX8_flows_81 : decode cX8_flows 81 = .ok (.getfield 110, 3) := by decide +kernel
theorem dX8_flows_84 : decode cX8_flows 84 = .ok (.if_icmp .ne 7, 3) := by decide +kernel
theorem dX8_flows_87 : decode cX8_flows 87 = .ok (.aload_n 0, 1) := by decide +kernel
theorem dX8_flows_88 : decode cX8_flows 88 = .ok (.invokevirtual 137, 3) := by decide +kernel
theorem dX8_flows_91 : decode cX8_flows 91 = .ok (.aload_n 0, 1) := by decide +kernel
theorem dX8_flows_92 : decode cX8_flows 92 = .ok (.aload_n 0, 1) := by decide +kernel
theorem dX8_flows_93 : decode cX8_flows 93 = .ok (.iload 4, 2) := by decide +kernel
theorem dX8_flows_95 : decode cX8_flows 95 = .ok (.invokevirtual 128, 3) := by decide +kernel
theorem dX8_flows_98 : decode cX8_flows 98 = .ok (.iconst 1, 1) := by decide +kernel
theorem dX8_flows_99 : decode cX8_flows 99 = .ok (.invokevirtual 140, 3) := by decide +kernel
theorem dX8_flows_102 : decode cX8_flows 102 = .ok (.aload_n 0, 1) := by decide +kernel
theorem dX8_flows_103 : decode cX8_flows 103 = .ok (.invokevirtual 143, 3) := by decide +kernel
theorem dX8_flows_106 : decode cX8_flows 106 = .ok (.iinc 4 1, 3) := by decide +kernel
theorem dX8_flows_109 : decode cX8_flows 109 = .ok (.goto (-40), 3) := by decide +kernel
theorem dX8_flows_112 : decode cX8_flows 112 = .ok (.iconst 0, 1) := by decide +kernel
theorem dX8_flows_113 : decode cX8_flows 113 = .ok (.istore_n 3, 1) := by decide +kernel
theorem dX8_flows_114 : decode cX8_flows 114 = .ok (.aload_n 0, 1) := by decide +kernel
theorem dX8_flows_115 : decode cX8_flows 115 = .ok (.iload 4, 2) := by decide +kernel
theorem dX8_flows_117 : decode cX8_flows 117 = .ok (.iload_n 2, 1) := by decide +kernel
theorem dX8_flows_118 : decode cX8_flows 118 = .ok (.invokevirtual 131, 3) := by decide +kernel
theorem dX8_flows_121 : decode cX8_flows 121 = .ok (.istore 4, 2) := by decide +kernel
theorem dX8_flows_123 : decode cX8_flows 123 = .ok (.goto (-113), 3) := by decide +kernel
theorem dX8_flows_126 : decode cX8_flows 126 = .ok (.return_, 1) := by decide +kernel
theorem dX8_lastStop_0 : decode cX8_lastStop 0 = .ok (.iconst 0, 1) := by decide +kernel
theorem dX8_lastStop_1 : decode cX8_lastStop 1 = .ok (.istore_n 1, 1) := by decide +kernel
theorem dX8_lastStop_2 : decode cX8_lastStop 2 = .ok (.iconst 0, 1) := by decide +kernel
theorem dX8_lastStop_3 : decode cX8_lastStop 3 = .ok (.istore_n 2, 1) := by decide +kernel
theorem dX8_lastStop_4 : decode cX8_lastStop 4 = .ok (.iload_n 2, 1) := by decide +kernel
theorem dX8_lastStop_5 : decode cX8_lastStop 5 = .ok (.aload_n 0, 1) := by decide +kernel
theorem dX8_lastStop_6 : decode cX8_lastStop 6 = .ok (.aload_n 0, 1) := by decide +kernel
theorem dX8_lastStop_7 : decode cX8_lastStop 7 = .ok (.getfield 119, 3) := by decide +kernel
theorem dX8_lastStop_10 : decode cX8_lastStop 10 = .ok (.iconst 2, 1) := by decide +kernel
theorem dX8_lastStop_11 : decode cX8_lastStop 11 = .ok (.invokevirtual 44, 3) := by decide +kernel
theorem dX8_lastStop_14 : decode cX8_lastStop 14 = .ok (.if_icmp .ge 38, 3) := by decide +kernel
theorem dX8_lastStop_17 : decode cX8_lastStop 17 = .ok (.aload_n 0, 1) := by decide +kernel
theorem dX8_lastStop_18 : decode cX8_lastStop 18 = .ok (.aload_n 0, 1) := by decide +kernel
theorem dX8_lastStop_19 : decode cX8_lastStop 19 = .ok (.getfield 119, 3) := by decide +kernel
theorem dX8_lastStop_22 : decode cX8_lastStop 22 = .ok (.iload_n 2, 1) := by decide +kernel
theorem dX8_lastStop_23 : decode cX8_lastStop 23 = .ok (.iconst 1, 1) := by decide +kernel
theorem dX8_lastStop_24 : decode cX8_lastStop 24 = .ok (.invokevirtual 54, 3) := by decide +kernel
theorem dX8_lastStop_27 : decode cX8_lastStop 27 = .ok (.iconst 4, 1) := by decide +kernel
theorem dX8_lastStop_28 : decode cX8_lastStop 28 = .ok (.if_icmp .ge 16, 3) := by decide +kernel
theorem dX8_lastStop_31 : decode cX8_lastStop 31 = .ok (.aload_n 0, 1) := by decide +kernel
theorem dX8_lastStop_32 : decode cX8_lastStop 32 = .ok (.aload_n 0, 1) := by decide +kernel
theorem dX8_lastStop_33 : decode cX8_lastStop 33 = .ok (.getfield 119, 3) := by decide +kernel
theorem dX8_lastStop_36 : decode cX8_lastStop 36 = .ok (.iload_n 2, 1) := by decide +kernel
theorem dX8_lastStop_37 : decode cX8_lastStop 37 = .ok (.iconst 0, 1) := by decide +kernel
theorem dX8_lastStop_38 : decode cX8_lastStop 38 = .ok (.invokevirtual 54, 3) := by decide +kernel
theorem dX8_lastStop_41 : decode cX8_lastStop 41 = .ok (.goto 4, 3) := by decide +kernel
theorem dX8_lastStop_44 : decode cX8_lastStop 44 = .ok (.iload_n 1, 1) := by decide +kernel
theorem dX8_lastStop_45 : decode cX8_lastStop 45 = .ok (.istore_n 1, 1) := by decide +kernel
theorem dX8_lastStop_46 : decode cX8_lastStop 46 = .ok (.iinc 2 1, 3) := by decide +kernel
theorem dX8_lastStop_49 : decode cX8_lastStop 49 = .ok (.goto (-45), 3) := by decide +kernel
theorem dX8_lastStop_52 : decode cX8_lastStop 52 = .ok (.iload_n 1, 1) := by decide +kernel
theorem dX8_lastStop_53 : decode cX8_lastStop 53 = .ok (.ireturn, 1) := by decide +kernel
theorem dX8_defaultBehind_0 : decode cX8_defaultBehind 0 = .ok (.iload_n 1, 1) := by decide +kernel
theorem dX8_defaultBehind_1 : decode cX8_defaultBehind 1 = .ok (.aload_n 0, 1) := by decide +kernel
theorem dX8_defaultBehind_2 : decode cX8_defaultBehind 2 = .ok (.getfield 7, 3) := by decide +kernel
theorem dX8_defaultBehind_5 : decode cX8_defaultBehind 5 = .ok (.iconst 1, 1) := by decide +kernel
theorem dX8_defaultBehind_6 : decode cX8_defaultBehind 6 = .ok (.iaload, 1) := by decide +kernel
theorem dX8_defaultBehind_7 : decode cX8_defaultBehind 7 = .ok (.idiv, 1) := by decide +kernel
theorem dX8_defaultBehind_8 : decode cX8_defaultBehind 8 = .ok (.iconst 1, 1) := by decide +kernel
theorem dX8_defaultBehind_9 : decode cX8_defaultBehind 9 = .ok (.iadd, 1) := by decide +kernel
theorem dX8_defaultBehind_10 : decode cX8_defaultBehind 10 = .ok (.aload_n 0, 1) := by decide +kernel
theorem dX8_defaultBehind_11 : decode cX8_defaultBehind 11 = .ok (.getfield 7, 3) := by decide +kernel
theorem dX8_defaultBehind_14 : decode cX8_defaultBehind 14 = .ok (.iconst 1, 1) := by decide +kernel
theorem dX8_defaultBehind_15 : decode cX8_defaultBehind 15 = .ok (.iaload, 1) := by decide +kernel
theorem dX8_defaultBehind_16 : decode cX8_defaultBehind 16 = .ok (.imul, 1) := by decide +kernel
theorem dX8_defaultBehind_17 : decode cX8_defaultBehind 17 = .ok (.ireturn, 1) := by decide +kernel
theorem dX8_ownStop_0 : decode cX8_ownStop 0 = .ok (.iconst 0, 1) := by decide +kernel
theorem dX8_ownStop_1 : decode cX8_ownStop 1 = .ok (.istore_n 1, 1) := by decide +kernel
theorem dX8_ownStop_2 : decode cX8_ownStop 2 = .ok (.iload_n 1, 1) := by decide +kernel
theorem dX8_ownStop_3 : decode cX8_ownStop 3 = .ok (.aload_n 0, 1) := by decide +kernel
theorem dX8_ownStop_4 : decode cX8_ownStop 4 = .ok (.aload_n 0, 1) := by decide +kernel
theorem dX8_ownStop_5 : decode cX8_ownStop 5 = .ok (.getfield 119, 3) := by decide +kernel
theorem dX8_ownStop_8 : decode cX8_ownStop 8 = .ok (.iconst 2, 1) := by decide +kernel
theorem dX8_ownStop_9 : decode cX8_ownStop 9 = .ok (.invokevirtual 44, 3) := by decide +kernel
theorem dX8_ownStop_12 : decode cX8_ownStop 12 = .ok (.if_icmp .ge 42, 3) := by decide +kernel
theorem dX8_ownStop_15 : decode cX8_ownStop 15 = .ok (.aload_n 0, 1) := by decide +kernel
theorem dX8_ownStop_16 : decode cX8_ownStop 16 = .ok (.aload_n 0, 1) := by decide +kernel
theorem dX8_ownStop_17 : decode cX8_ownStop 17 = .ok (.getfield 119, 3) := by decide +kernel
theorem dX8_ownStop_20 : decode cX8_ownStop 20 = .ok (.iload_n 1, 1) := by decide +kernel
theorem dX8_ownStop_21 : decode cX8_ownStop 21 = .ok (.iconst 1, 1) := by decide +kernel
theorem dX8_ownStop_22 : decode cX8_ownStop 22 = .ok (.invokevirtual 54, 3) := by decide +kernel
theorem dX8_ownStop_25 : decode cX8_ownStop 25 = .ok (.iconst 4, 1) := by decide +kernel
theorem dX8_ownStop_26 : decode cX8_ownStop 26 = .ok (.if_icmp .ge 22, 3) := by decide +kernel
theorem dX8_ownStop_29 : decode cX8_ownStop 29 = .ok (.aload_n 0, 1) := by decide +kernel
theorem dX8_ownStop_30 : decode cX8_ownStop 30 = .ok (.aload_n 0, 1) := by decide +kernel
theorem dX8_ownStop_31 : decode cX8_ownStop 31 = .ok (.getfield 119, 3) := by decide +kernel
theorem dX8_ownStop_34 : decode cX8_ownStop 34 = .ok (.iload_n 1, 1) := by decide +kernel
theorem dX8_ownStop_35 : decode cX8_ownStop 35 = .ok (.iconst 0, 1) := by decide +kernel
theorem dX8_ownStop_36 : decode cX8_ownStop 36 = .ok (.invokevirtual 54, 3) := by decide +kernel
theorem dX8_ownStop_39 : decode cX8_ownStop 39 = .ok (.aload_n 0, 1) := by decide +kernel
theorem dX8_ownStop_40 : decode cX8_ownStop 40 = .ok (.getfield 122, 3) := by decide +kernel
theorem dX8_ownStop_43 : decode cX8_ownStop 43 = .ok (.if_icmp .le 5, 3) := by decide +kernel
theorem dX8_ownStop_46 : decode cX8_ownStop 46 = .ok (.iload_n 1, 1) := by decide +kernel
theorem dX8_ownStop_47 : decode cX8_ownStop 47 = .ok (.ireturn, 1) := by decide +kernel
theorem dX8_ownStop_48 : decode cX8_ownStop 48 = .ok (.iinc 1 1, 3) := by decide +kernel
theorem dX8_ownStop_51 : decode cX8_ownStop 51 = .ok (.goto (-49), 3) := by decide +kernel
theorem dX8_ownStop_54 : decode cX8_ownStop 54 = .ok (.bipush (-9), 2) := by decide +kernel
theorem dX8_ownStop_56 : decode cX8_ownStop 56 = .ok (.ireturn, 1) := by decide +kernel
theorem dX8_endOfRun_0 : decode cX8_endOfRun 0 = .ok (.aload_n 0, 1) := by decide +kernel
theorem dX8_endOfRun_1 : decode cX8_endOfRun 1 = .ok (.iload_n 1, 1) := by decide +kernel
theorem dX8_endOfRun_2 : decode cX8_endOfRun 2 = .ok (.iload_n 2, 1) := by decide +kernel
theorem dX8_endOfRun_3 : decode cX8_endOfRun 3 = .ok (.invokevirtual 131, 3) := by decide +kernel
theorem dX8_endOfRun_6 : decode cX8_endOfRun 6 = .ok (.istore 4, 2) := by decide +kernel
theorem dX8_endOfRun_8 : decode cX8_endOfRun 8 = .ok (.iload 4, 2) := by decide +kernel
theorem dX8_endOfRun_10 : decode cX8_endOfRun 10 = .ok (.istore 5, 2) := by decide +kernel
theorem dX8_endOfRun_12 : decode cX8_endOfRun 12 = .ok (.iconst 0, 1) := by decide +kernel
theorem dX8_endOfRun_13 : decode cX8_endOfRun 13 = .ok (.istore 6, 2) := by decide +kernel
theorem dX8_endOfRun_15 : decode cX8_endOfRun 15 = .ok (.iload 4, 2) := by decide +kernel
theorem dX8_endOfRun_17 : decode cX8_endOfRun 17 = .ok (.istore 7, 2) := by decide +kernel
theorem dX8_endOfRun_19 : decode cX8_endOfRun 19 = .ok (.iload 7, 2) := by decide +kernel
theorem dX8_endOfRun_21 : decode cX8_endOfRun 21 = .ok (.iload_n 2, 1) := by decide +kernel
theorem dX8_endOfRun_22 : decode cX8_endOfRun 22 = .ok (.if_icmp .ge 62, 3) := by decide +kernel
theorem dX8_endOfRun_25 : decode cX8_endOfRun 25 = .ok (.aload_n 0, 1) := by decide +kernel
theorem dX8_endOfRun_26 : decode cX8_endOfRun 26 = .ok (.iload 7, 2) := by decide +kernel
theorem dX8_endOfRun_28 : decode cX8_endOfRun 28 = .ok (.iload_n 2, 1) := by decide +kernel
theorem dX8_endOfRun_29 : decode cX8_endOfRun 29 = .ok (.invokevirtual 134, 3) := by decide +kernel
theorem dX8_endOfRun_32 : decode cX8_endOfRun 32 = .ok (.istore 8, 2) := by decide +kernel
theorem dX8_endOfRun_34 : decode cX8_endOfRun 34 = .ok (.iload 6, 2) := by decide +kernel
theorem dX8_endOfRun_36 : decode cX8_endOfRun 36 = .ok (.iload 6, 2) := by decide +kernel
theorem dX8_endOfRun_38 : decode cX8_endOfRun 38 = .ok (.ifCond .le 7, 3) := by decide +kernel
theorem dX8_endOfRun_41 : decode cX8_endOfRun 41 = .ok (.iconst 1, 1) := by decide +kernel
theorem dX8_endOfRun_42 : decode cX8_endOfRun 42 = .ok (.goto 4, 3) := by decide +kernel
theorem dX8_endOfRun_45 : decode cX8_endOfRun 45 = .ok (.iconst 0, 1) := by decide +kernel
theorem dX8_endOfRun_46 : decode cX8_endOfRun 46 = .ok (.iload 8, 2) := by decide +kernel
theorem dX8_endOfRun_48 : decode cX8_endOfRun 48 = .ok (.iadd, 1) := by decide +kernel
theorem dX8_endOfRun_49 : decode cX8_endOfRun 49 = .ok (.iload 7, 2) := by decide +kernel
theorem dX8_endOfRun_51 : decode cX8_endOfRun 51 = .ok (.isub, 1) := by decide +kernel
theorem dX8_endOfRun_52 : decode cX8_endOfRun 52 = .ok (.iadd, 1) := by decide +kernel
theorem dX8_endOfRun_53 : decode cX8_endOfRun 53 = .ok (.istore 6, 2) := by decide +kernel
theorem dX8_endOfRun_55 : decode cX8_endOfRun 55 = .ok (.iload 6, 2) := by decide +kernel
theorem dX8_endOfRun_57 : decode cX8_endOfRun 57 = .ok (.iload_n 3, 1) := by decide +kernel
theorem dX8_endOfRun_58 : decode cX8_endOfRun 58 = .ok (.if_icmp .le 6, 3) := by decide +kernel
theorem dX8_endOfRun_61 : decode cX8_endOfRun 61 = .ok (.iload 5, 2) := by decide +kernel
theorem dX8_endOfRun_63 : decode cX8_endOfRun 63 = .ok (.ireturn, 1) := by decide +kernel
theorem dX8_endOfRun_64 : decode cX8_endOfRun 64 = .ok (.iload 8, 2) := by decide +kernel
theorem dX8_endOfRun_66 : decode cX8_endOfRun 66 = .ok (.istore 5, 2) := by decide +kernel
theorem dX8_endOfRun_68 : decode cX8_endOfRun 68 = .ok (.iload 8, 2) := by decide +kernel
theorem dX8_endOfRun_70 : decode cX8_endOfRun 70 = .ok (.istore 7, 2) := by decide +kernel
theorem dX8_endOfRun_72 : decode cX8_endOfRun 72 = .ok (.aload_n 0, 1) := by decide +kernel
theorem dX8_endOfRun_73 : decode cX8_endOfRun 73 = .ok (.iload 7, 2) := by decide +kernel
theorem dX8_endOfRun_75 : decode cX8_endOfRun 75 = .ok (.iload_n 2, 1) := by decide +kernel
theorem dX8_endOfRun_76 : decode cX8_endOfRun 76 = .ok (.invokevirtual 131, 3) := by decide +kernel
theorem dX8_endOfRun_79 : decode cX8_endOfRun 79 = .ok (.istore 7, 2) := by decide +kernel
theorem dX8_endOfRun_81 : decode cX8_endOfRun 81 = .ok (.goto (-62), 3) := by decide +kernel
theorem dX8_endOfRun_84 : decode cX8_endOfRun 84 = .ok (.iload 5, 2) := by decide +kernel
theorem dX8_endOfRun_86 : decode cX8_endOfRun 86 = .ok (.ireturn, 1) := by decide +kernel
theorem dX8_lengthOf_0 : decode cX8_lengthOf 0 = .ok (.iconst 0, 1) := by decide +kernel
theorem dX8_lengthOf_1 : decode cX8_lengthOf 1 = .ok (.istore 4, 2) := by decide +kernel
theorem dX8_lengthOf_3 : decode cX8_lengthOf 3 = .ok (.aload_n 0, 1) := by decide +kernel
theorem dX8_lengthOf_4 : decode cX8_lengthOf 4 = .ok (.iload_n 1, 1) := by decide +kernel
theorem dX8_lengthOf_5 : decode cX8_lengthOf 5 = .ok (.iload_n 2, 1) := by decide +kernel
theorem dX8_lengthOf_6 : decode cX8_lengthOf 6 = .ok (.invokevirtual 131, 3) := by decide +kernel
theorem dX8_lengthOf_9 : decode cX8_lengthOf 9 = .ok (.istore 5, 2) := by decide +kernel
theorem dX8_lengthOf_11 : decode cX8_lengthOf 11 = .ok (.iload 5, 2) := by decide +kernel
theorem dX8_lengthOf_13 : decode cX8_lengthOf 13 = .ok (.iload_n 2, 1) := by decide +kernel
theorem dX8_lengthOf_14 : decode cX8_lengthOf 14 = .ok (.if_icmp .ge 73, 3) := by decide +kernel
theorem dX8_lengthOf_17 : decode cX8_lengthOf 17 = .ok (.iload 4, 2) := by decide +kernel
theorem dX8_lengthOf_19 : decode cX8_lengthOf 19 = .ok (.iload 4, 2) := by decide +kernel
theorem dX8_lengthOf_21 : decode cX8_lengthOf 21 = .ok (.ifCond .le 7, 3) := by decide +kernel
theorem dX8_lengthOf_24 : decode cX8_lengthOf 24 = .ok (.iconst 1, 1) := by decide +kernel
theorem dX8_lengthOf_25 : decode cX8_lengthOf 25 = .ok (.goto 4, 3) := by decide +kernel
theorem dX8_lengthOf_28 : decode cX8_lengthOf 28 = .ok (.iconst 0, 1) := by decide +kernel
theorem dX8_lengthOf_29 : decode cX8_lengthOf 29 = .ok (.iadd, 1) := by decide +kernel
theorem dX8_lengthOf_30 : decode cX8_lengthOf 30 = .ok (.istore 4, 2) := by decide +kernel
theorem dX8_lengthOf_32 : decode cX8_lengthOf 32 = .ok (.aload_n 0, 1) := by decide +kernel
theorem dX8_lengthOf_33 : decode cX8_lengthOf 33 = .ok (.iload 5, 2) := by decide +kernel
theorem dX8_lengthOf_35 : decode cX8_lengthOf 35 = .ok (.iload_n 2, 1) := by decide +kernel
theorem dX8_lengthOf_36 : decode cX8_lengthOf 36 = .ok (.invokevirtual 134, 3) := by decide +kernel
theorem dX8_lengthOf_39 : decode cX8_lengthOf 39 = .ok (.istore 6, 2) := by decide +kernel
theorem dX8_lengthOf_41 : decode cX8_lengthOf 41 = .ok (.iload 5, 2) := by decide +kernel
theorem dX8_lengthOf_43 : decode cX8_lengthOf 43 = .ok (.iload 6, 2) := by decide +kernel
theorem dX8_lengthOf_45 : decode cX8_lengthOf 45 = .ok (.if_icmp .ge 30, 3) := by decide +kernel
theorem dX8_lengthOf_48 : decode cX8_lengthOf 48 = .ok (.iload_n 3, 1) := by decide +kernel
theorem dX8_lengthOf_49 : decode cX8_lengthOf 49 = .ok (.ifCond .eq 17, 3) := by decide +kernel
theorem dX8_lengthOf_52 : decode cX8_lengthOf 52 = .ok (.aload_n 0, 1) := by decide +kernel
theorem dX8_lengthOf_53 : decode cX8_lengthOf 53 = .ok (.iload 5, 2) := by decide +kernel
theorem dX8_lengthOf_55 : decode cX8_lengthOf 55 = .ok (.invokevirtual 128, 3) := by decide +kernel
theorem dX8_lengthOf_58 : decode cX8_lengthOf 58 = .ok (.bipush 46, 2) := by decide +kernel
theorem dX8_lengthOf_60 : decode cX8_lengthOf 60 = .ok (.if_icmp .ne 6, 3) := by decide +kernel
theorem dX8_lengthOf_63 : decode cX8_lengthOf 63 = .ok (.iload 4, 2) := by decide +kernel
theorem dX8_lengthOf_65 : decode cX8_lengthOf 65 = .ok (.ireturn, 1) := by decide +kernel
theorem dX8_lengthOf_66 : decode cX8_lengthOf 66 = .ok (.iinc 4 1, 3) := by decide +kernel
theorem dX8_lengthOf_69 : decode cX8_lengthOf 69 = .ok (.iinc 5 1, 3) := by decide +kernel
theorem dX8_lengthOf_72 : decode cX8_lengthOf 72 = .ok (.goto (-31), 3) := by decide +kernel
theorem dX8_lengthOf_75 : decode cX8_lengthOf 75 = .ok (.aload_n 0, 1) := by decide +kernel
theorem dX8_lengthOf_76 : decode cX8_lengthOf 76 = .ok (.iload 5, 2) := by decide +kernel
theorem dX8_lengthOf_78 : decode cX8_lengthOf 78 = .ok (.iload_n 2, 1) := by decide +kernel
theorem dX8_lengthOf_79 : decode cX8_lengthOf 79 = .ok (.invokevirtual 131, 3) := by decide +kernel
theorem dX8_lengthOf_82 : decode cX8_lengthOf 82 = .ok (.istore 5, 2) := by decide +kernel
theorem dX8_lengthOf_84 : decode cX8_lengthOf 84 = .ok (.goto (-73), 3) := by decide +kernel
theorem dX8_lengthOf_87 : decode cX8_lengthOf 87 = .ok (.iload 4, 2) := by decide +kernel
theorem dX8_lengthOf_89 : decode cX8_lengthOf 89 = .ok (.ireturn, 1) := by decide +kernel
theorem dX8_leads_0 : decode cX8_leads 0 = .ok (.aload_n 0, 1) := by decide +kernel
theorem dX8_leads_1 : decode cX8_leads 1 = .ok (.getfield 122, 3) := by decide +kernel
theorem dX8_leads_4 : decode cX8_leads 4 = .ok (.iload_n 1, 1) := by decide +kernel
theorem dX8_leads_5 : decode cX8_leads 5 = .ok (.if_icmp .ge 50, 3) := by decide +kernel
theorem dX8_leads_8 : decode cX8_leads 8 = .ok (.iload_n 2, 1) := by decide +kernel
theorem dX8_leads_9 : decode cX8_leads 9 = .ok (.ifCond .le 33, 3) := by decide +kernel
theorem dX8_leads_12 : decode cX8_leads 12 = .ok (.aload_n 0, 1) := by decide +kernel
theorem dX8_leads_13 : decode cX8_leads 13 = .ok (.iload_n 2, 1) := by decide +kernel
theorem dX8_leads_14 : decode cX8_leads 14 = .ok (.iconst 1, 1) := by decide +kernel
theorem dX8_leads_15 : decode cX8_leads 15 = .ok (.if_icmp .ne 8, 3) := by decide +kernel
theorem dX8_leads_18 : decode cX8_leads 18 = .ok (.bipush 46, 2) := by decide +kernel
theorem dX8_leads_20 : decode cX8_leads 20 = .ok (.goto 15, 3) := by decide +kernel
theorem dX8_leads_23 : decode cX8_leads 23 = .ok (.iload_n 2, 1) := by decide +kernel
theorem dX8_leads_24 : decode cX8_leads 24 = .ok (.iconst 2, 1) := by decide +kernel
theorem dX8_leads_25 : decode cX8_leads 25 = .ok (.if_icmp .ne 8, 3) := by decide +kernel
theorem dX8_leads_28 : decode cX8_leads 28 = .ok (.bipush 45, 2) := by decide +kernel
theorem dX8_leads_30 : decode cX8_leads 30 = .ok (.goto 5, 3) := by decide +kernel
theorem dX8_leads_33 : decode cX8_leads 33 = .ok (.bipush 95, 2) := by decide +kernel
theorem dX8_leads_35 : decode cX8_leads 35 = .ok (.iconst 2, 1) := by decide +kernel
theorem dX8_leads_36 : decode cX8_leads 36 = .ok (.invokevirtual 140, 3) := by decide +kernel
theorem dX8_leads_39 : decode cX8_leads 39 = .ok (.goto (-39), 3) := by decide +kernel
theorem dX8_leads_42 : decode cX8_leads 42 = .ok (.aload_n 0, 1) := by decide +kernel
theorem dX8_leads_43 : decode cX8_leads 43 = .ok (.dup, 1) := by decide +kernel
theorem dX8_leads_44 : decode cX8_leads 44 = .ok (.getfield 122, 3) := by decide +kernel
theorem dX8_leads_47 : decode cX8_leads 47 = .ok (.iconst 1, 1) := by decide +kernel
theorem dX8_leads_48 : decode cX8_leads 48 = .ok (.iadd, 1) := by decide +kernel
theorem dX8_leads_49 : decode cX8_leads 49 = .ok (.putfield 122, 3) := by decide +kernel
theorem dX8_leads_52 : decode cX8_leads 52 = .ok (.goto (-52), 3) := by decide +kernel
theorem dX8_leads_55 : decode cX8_leads 55 = .ok (.return_, 1) := by decide +kernel
theorem dX8_flowsAnew_0 : decode cX8_flowsAnew 0 = .ok (.aload_n 0, 1) := by decide +kernel
theorem dX8_flowsAnew_1 : decode cX8_flowsAnew 1 = .ok (.invokevirtual 137, 3) := by decide +kernel
theorem dX8_flowsAnew_4 : decode cX8_flowsAnew 4 = .ok (.aload_n 0, 1) := by decide +kernel
theorem dX8_flowsAnew_5 : decode cX8_flowsAnew 5 = .ok (.bipush (-9), 2) := by decide +kernel
theorem dX8_flowsAnew_7 : decode cX8_flowsAnew 7 = .ok (.bipush (-9), 2) := by decide +kernel
theorem dX8_flowsAnew_9 : decode cX8_flowsAnew 9 = .ok (.bipush (-9), 2) := by decide +kernel
theorem dX8_flowsAnew_11 : decode cX8_flowsAnew 11 = .ok (.invokevirtual 146, 3) := by decide +kernel
theorem dX8_flowsAnew_14 : decode cX8_flowsAnew 14 = .ok (.aload_n 0, 1) := by decide +kernel
theorem dX8_flowsAnew_15 : decode cX8_flowsAnew 15 = .ok (.iload_n 1, 1) := by decide +kernel
theorem dX8_flowsAnew_16 : decode cX8_flowsAnew 16 = .ok (.iload_n 2, 1) := by decide +kernel
theorem dX8_flowsAnew_17 : decode cX8_flowsAnew 17 = .ok (.invokevirtual 150, 3) := by decide +kernel
theorem dX8_flowsAnew_20 : decode cX8_flowsAnew 20 = .ok (.return_, 1) := by decide +kernel
theorem dX8_laysField_0 : decode cX8_laysField 0 = .ok (.aload_n 0, 1) := by decide +kernel
theorem dX8_laysField_1 : decode cX8_laysField 1 = .ok (.invokevirtual 153, 3) := by decide +kernel
theorem dX8_laysField_4 : decode cX8_laysField 4 = .ok (.istore_n 3, 1) := by decide +kernel
theorem dX8_laysField_5 : decode cX8_laysField 5 = .ok (.iload_n 3, 1) := by decide +kernel
theorem dX8_laysField_6 : decode cX8_laysField 6 = .ok (.bipush (-9), 2) := by decide +kernel
theorem dX8_laysField_8 : decode cX8_laysField 8 = .ok (.if_icmp .ne 32, 3) := by decide +kernel
theorem dX8_laysField_11 : decode cX8_laysField 11 = .ok (.aload_n 0, 1) := by decide +kernel
theorem dX8_laysField_12 : decode cX8_laysField 12 = .ok (.aload_n 0, 1) := by decide +kernel
theorem dX8_laysField_13 : decode cX8_laysField 13 = .ok (.getfield 122, 3) := by decide +kernel
theorem dX8_laysField_16 : decode cX8_laysField 16 = .ok (.aload_n 0, 1) := by decide +kernel
theorem dX8_laysField_17 : decode cX8_laysField 17 = .ok (.invokevirtual 156, 3) := by decide +kernel
theorem dX8_laysField_20 : decode cX8_laysField 20 = .ok (.if_icmp .le 10, 3) := by decide +kernel
theorem dX8_laysField_23 : decode cX8_laysField 23 = .ok (.aload_n 0, 1) := by decide +kernel
theorem dX8_laysField_24 : decode cX8_laysField 24 = .ok (.getfield 122, 3) := by decide +kernel
theorem dX8_laysField_27 : decode cX8_laysField 27 = .ok (.goto 7, 3) := by decide +kernel
theorem dX8_laysField_30 : decode cX8_laysField 30 = .ok (.aload_n 0, 1) := by decide +kernel
theorem dX8_laysField_31 : decode cX8_laysField 31 = .ok (.invokevirtual 156, 3) := by decide +kernel
theorem dX8_laysField_34 : decode cX8_laysField 34 = .ok (.invokevirtual 159, 3) := by decide +kernel
theorem dX8_laysField_37 : decode cX8_laysField 37 = .ok (.goto 13, 3) := by decide +kernel
theorem dX8_laysField_40 : decode cX8_laysField 40 = .ok (.aload_n 0, 1) := by decide +kernel
theorem dX8_laysField_41 : decode cX8_laysField 41 = .ok (.aload_n 0, 1) := by decide +kernel
theorem dX8_laysField_42 : decode cX8_laysField 42 = .ok (.getfield 119, 3) := by decide +kernel
theorem dX8_laysField_45 : decode cX8_laysField 45 = .ok (.iload_n 3, 1) := by decide +kernel
theorem dX8_laysField_46 : decode cX8_laysField 46 = .ok (.iconst 0, 1) := by decide +kernel
theorem dX8_laysField_47 : decode cX8_laysField 47 = .ok (.invokevirtual 54, 3) := by decide +kernel
theorem dX8_laysField_50 : decode cX8_laysField 50 = .ok (.istore 4, 2) := by decide +kernel
theorem dX8_laysField_52 : decode cX8_laysField 52 = .ok (.iload_n 3, 1) := by decide +kernel
theorem dX8_laysField_53 : decode cX8_laysField 53 = .ok (.bipush (-9), 2) := by decide +kernel
theorem dX8_laysField_55 : decode cX8_laysField 55 = .ok (.if_icmp .ne 7, 3) := by decide +kernel
theorem dX8_laysField_58 : decode cX8_laysField 58 = .ok (.iconst 0, 1) := by decide +kernel
theorem dX8_laysField_59 : decode cX8_laysField 59 = .ok (.goto 13, 3) := by decide +kernel
theorem dX8_laysField_62 : decode cX8_laysField 62 = .ok (.aload_n 0, 1) := by decide +kernel
theorem dX8_laysField_63 : decode cX8_laysField 63 = .ok (.aload_n 0, 1) := by decide +kernel
theorem dX8_laysField_64 : decode cX8_laysField 64 = .ok (.getfield 119, 3) := by decide +kernel
theorem dX8_laysField_67 : decode cX8_laysField 67 = .ok (.iload_n 3, 1) := by decide +kernel
theorem dX8_laysField_68 : decode cX8_laysField 68 = .ok (.iconst 1, 1) := by decide +kernel
theorem dX8_laysField_69 : decode cX8_laysField 69 = .ok (.invokevirtual 54, 3) := by decide +kernel
theorem dX8_laysField_72 : decode cX8_laysField 72 = .ok (.istore 5, 2) := by decide +kernel
theorem dX8_laysField_74 : decode cX8_laysField 74 = .ok (.aload_n 0, 1) := by decide +kernel
theorem dX8_laysField_75 : decode cX8_laysField 75 = .ok (.iload_n 1, 1) := by decide +kernel
theorem dX8_laysField_76 : decode cX8_laysField 76 = .ok (.iload_n 2, 1) := by decide +kernel
theorem dX8_laysField_77 : decode cX8_laysField 77 = .ok (.invokevirtual 131, 3) := by decide +kernel
theorem dX8_laysField_80 : decode cX8_laysField 80 = .ok (.istore 6, 2) := by decide +kernel
theorem dX8_laysField_82 : decode cX8_laysField 82 = .ok (.iload 4, 2) := by decide +kernel
theorem dX8_laysField_84 : decode cX8_laysField 84 = .ok (.aload_n 0, 1) := by decide +kernel
theorem dX8_laysField_85 : decode cX8_laysField 85 = .ok (.getfield 110, 3) := by decide +kernel
theorem dX8_laysField_88 : decode cX8_laysField 88 = .ok (.if_icmp .le 10, 3) := by decide +kernel
theorem dX8_laysField_91 : decode cX8_laysField 91 = .ok (.aload_n 0, 1) := by decide +kernel
theorem dX8_laysField_92 : decode cX8_laysField 92 = .ok (.iload_n 1, 1) := by decide +kernel
theorem dX8_laysField_93 : decode cX8_laysField 93 = .ok (.iload_n 2, 1) := by decide +kernel
theorem dX8_laysField_94 : decode cX8_laysField 94 = .ok (.invokevirtual 162, 3) := by decide +kernel
theorem dX8_laysField_97 : decode cX8_laysField 97 = .ok (.return_, 1) := by decide +kernel
theorem dX8_laysField_98 : decode cX8_laysField 98 = .ok (.aload_n 0, 1) := by decide +kernel
theorem dX8_laysField_99 : decode cX8_laysField 99 = .ok (.iload_n 1, 1) := by decide +kernel
theorem dX8_laysField_100 : decode cX8_laysField 100 = .ok (.iload_n 2, 1) := by decide +kernel
theorem dX8_laysField_101 : decode cX8_laysField 101 = .ok (.iload 5, 2) := by decide +kernel
theorem dX8_laysField_103 : decode cX8_laysField 103 = .ok (.ifCond .ne 13, 3) := by decide +kernel
theorem dX8_laysField_106 : decode cX8_laysField 106 = .ok (.aload_n 0, 1) := by decide +kernel
theorem dX8_laysField_107 : decode cX8_laysField 107 = .ok (.getfield 110, 3) := by decide +kernel
theorem dX8_laysField_110 : decode cX8_laysField 110 = .ok (.iload 4, 2) := by decide +kernel
theorem dX8_laysField_112 : decode cX8_laysField 112 = .ok (.isub, 1) := by decide +kernel
theorem dX8_laysField_113 : decode cX8_laysField 113 = .ok (.goto 12, 3) := by decide +kernel
theorem dX8_laysField_116 : decode cX8_laysField 116 = .ok (.aload_n 0, 1) := by decide +kernel
theorem dX8_laysField_117 : decode cX8_laysField 117 = .ok (.getfield 110, 3) := by decide +kernel
theorem dX8_laysField_120 : decode cX8_laysField 120 = .ok (.aload_n 0, 1) := by decide +kernel
theorem dX8_laysField_121 : decode cX8_laysField 121 = .ok (.getfield 122, 3) := by decide +kernel
theorem dX8_laysField_124 : decode cX8_laysField 124 = .ok (.isub, 1) := by decide +kernel
theorem dX8_laysField_125 : decode cX8_laysField 125 = .ok (.invokevirtual 165, 3) := by decide +kernel
theorem dX8_laysField_128 : decode cX8_laysField 128 = .ok (.istore 7, 2) := by decide +kernel
theorem dX8_laysField_130 : decode cX8_laysField 130 = .ok (.iload 6, 2) := by decide +kernel
theorem dX8_laysField_132 : decode cX8_laysField 132 = .ok (.iload_n 2, 1) := by decide +kernel
theorem dX8_laysField_133 : decode cX8_laysField 133 = .ok (.if_icmp .ge 17, 3) := by decide +kernel
theorem dX8_laysField_136 : decode cX8_laysField 136 = .ok (.iload 7, 2) := by decide +kernel
theorem dX8_laysField_138 : decode cX8_laysField 138 = .ok (.iload 6, 2) := by decide +kernel
theorem dX8_laysField_140 : decode cX8_laysField 140 = .ok (.if_icmp .ne 10, 3) := by decide +kernel
theorem dX8_laysField_143 : decode cX8_laysField 143 = .ok (.aload_n 0, 1) := by decide +kernel
theorem dX8_laysField_144 : decode cX8_laysField 144 = .ok (.iload_n 1, 1) := by decide +kernel
theorem dX8_laysField_145 : decode cX8_laysField 145 = .ok (.iload_n 2, 1) := by decide +kernel
theorem dX8_laysField_146 : decode cX8_laysField 146 = .ok (.invokevirtual 162, 3) := by decide +kernel
theorem dX8_laysField_149 : decode cX8_laysField 149 = .ok (.return_, 1) := by decide +kernel
theorem dX8_laysField_150 : decode cX8_laysField 150 = .ok (.aload_n 0, 1) := by decide +kernel
theorem dX8_laysField_151 : decode cX8_laysField 151 = .ok (.iload 6, 2) := by decide +kernel
theorem dX8_laysField_153 : decode cX8_laysField 153 = .ok (.iload 7, 2) := by decide +kernel
theorem dX8_laysField_155 : decode cX8_laysField 155 = .ok (.iconst 0, 1) := by decide +kernel
theorem dX8_laysField_156 : decode cX8_laysField 156 = .ok (.invokevirtual 168, 3) := by decide +kernel
theorem dX8_laysField_159 : decode cX8_laysField 159 = .ok (.istore 8, 2) := by decide +kernel
theorem dX8_laysField_161 : decode cX8_laysField 161 = .ok (.iload 4, 2) := by decide +kernel
theorem dX8_laysField_163 : decode cX8_laysField 163 = .ok (.iload 5, 2) := by decide +kernel
theorem dX8_laysField_165 : decode cX8_laysField 165 = .ok (.ifCond .ne 7, 3) := by decide +kernel
theorem dX8_laysField_168 : decode cX8_laysField 168 = .ok (.iconst 0, 1) := by decide +kernel
theorem dX8_laysField_169 : decode cX8_laysField 169 = .ok (.goto 36, 3) := by decide +kernel
theorem dX8_laysField_172 : decode cX8_laysField 172 = .ok (.iload 5, 2) := by decide +kernel
theorem dX8_laysField_174 : decode cX8_laysField 174 = .ok (.iconst 1, 1) := by decide +kernel
theorem dX8_laysField_175 : decode cX8_laysField 175 = .ok (.if_icmp .ne 8, 3) := by decide +kernel
theorem dX8_laysField_178 : decode cX8_laysField 178 = .ok (.iload 8, 2) := by decide +kernel
theorem dX8_laysField_180 : decode cX8_laysField 180 = .ok (.goto 25, 3) := by decide +kernel
theorem dX8_laysField_183 : decode cX8_laysField 183 = .ok (.iload 5, 2) := by decide +kernel
theorem dX8_laysField_185 : decode cX8_laysField 185 = .ok (.iconst 2, 1) := by decide +kernel
theorem dX8_laysField_186 : decode cX8_laysField 186 = .ok (.if_icmp .ne 10, 3) := by decide +kernel
theorem dX8_laysField_189 : decode cX8_laysField 189 = .ok (.iload 8, 2) := by decide +kernel
theorem dX8_laysField_191 : decode cX8_laysField 191 = .ok (.iconst 2, 1) := by decide +kernel
theorem dX8_laysField_192 : decode cX8_laysField 192 = .ok (.idiv, 1) := by decide +kernel
theorem dX8_laysField_193 : decode cX8_laysField 193 = .ok (.goto 12, 3) := by decide +kernel
theorem dX8_laysField_196 : decode cX8_laysField 196 = .ok (.aload_n 0, 1) := by decide +kernel
theorem dX8_laysField_197 : decode cX8_laysField 197 = .ok (.iload 6, 2) := by decide +kernel
theorem dX8_laysField_199 : decode cX8_laysField 199 = .ok (.iload 7, 2) := by decide +kernel
theorem dX8_laysField_201 : decode cX8_laysField 201 = .ok (.iconst 1, 1) := by decide +kernel
theorem dX8_laysField_202 : decode cX8_laysField 202 = .ok (.invokevirtual 168, 3) := by decide +kernel
theorem dX8_laysField_205 : decode cX8_laysField 205 = .ok (.isub, 1) := by decide +kernel
theorem dX8_laysField_206 : decode cX8_laysField 206 = .ok (.istore 9, 2) := by decide +kernel
theorem dX8_laysField_208 : decode cX8_laysField 208 = .ok (.iload 9, 2) := by decide +kernel
theorem dX8_laysField_210 : decode cX8_laysField 210 = .ok (.aload_n 0, 1) := by decide +kernel
theorem dX8_laysField_211 : decode cX8_laysField 211 = .ok (.getfield 122, 3) := by decide +kernel
theorem dX8_laysField_214 : decode cX8_laysField 214 = .ok (.if_icmp .ge 7, 3) := by decide +kernel
theorem dX8_laysField_217 : decode cX8_laysField 217 = .ok (.iconst 1, 1) := by decide +kernel
theorem dX8_laysField_218 : decode cX8_laysField 218 = .ok (.goto 20, 3) := by decide +kernel
theorem dX8_laysField_221 : decode cX8_laysField 221 = .ok (.iload 9, 2) := by decide +kernel
theorem dX8_laysField_223 : decode cX8_laysField 223 = .ok (.iload 8, 2) := by decide +kernel
theorem dX8_laysField_225 : decode cX8_laysField 225 = .ok (.iadd, 1) := by decide +kernel
theorem dX8_laysField_226 : decode cX8_laysField 226 = .ok (.aload_n 0, 1) := by decide +kernel
theorem dX8_laysField_227 : decode cX8_laysField 227 = .ok (.getfield 110, 3) := by decide +kernel
theorem dX8_laysField_230 : decode cX8_laysField 230 = .ok (.if_icmp .le 7, 3) := by decide +kernel
theorem dX8_laysField_233 : decode cX8_laysField 233 = .ok (.iconst 2, 1) := by decide +kernel
theorem dX8_laysField_234 : decode cX8_laysField 234 = .ok (.goto 4, 3) := by decide +kernel
theorem dX8_laysField_237 : decode cX8_laysField 237 = .ok (.iconst 0, 1) := by decide +kernel
theorem dX8_laysField_238 : decode cX8_laysField 238 = .ok (.istore 10, 2) := by decide +kernel
theorem dX8_laysField_240 : decode cX8_laysField 240 = .ok (.iload 10, 2) := by decide +kernel
theorem dX8_laysField_242 : decode cX8_laysField 242 = .ok (.iconst 1, 1) := by decide +kernel
theorem dX8_laysField_243 : decode cX8_laysField 243 = .ok (.if_icmp .ne 10, 3) := by decide +kernel
theorem dX8_laysField_246 : decode cX8_laysField 246 = .ok (.aload_n 0, 1) := by decide +kernel
theorem dX8_laysField_247 : decode cX8_laysField 247 = .ok (.getfield 122, 3) := by decide +kernel
theorem dX8_laysField_250 : decode cX8_laysField 250 = .ok (.goto 21, 3) := by decide +kernel
theorem dX8_laysField_253 : decode cX8_laysField 253 = .ok (.iload 10, 2) := by decide +kernel
theorem dX8_laysField_255 : decode cX8_laysField 255 = .ok (.iconst 2, 1) := by decide +kernel
theorem dX8_laysField_256 : decode cX8_laysField 256 = .ok (.if_icmp .ne 13, 3) := by decide +kernel
theorem dX8_laysField_259 : decode cX8_laysField 259 = .ok (.aload_n 0, 1) := by decide +kernel
theorem dX8_laysField_260 : decode cX8_laysField 260 = .ok (.getfield 110, 3) := by decide +kernel
theorem dX8_laysField_263 : decode cX8_laysField 263 = .ok (.iload 8, 2) := by decide +kernel
theorem dX8_laysField_265 : decode cX8_laysField 265 = .ok (.isub, 1) := by decide +kernel
theorem dX8_laysField_266 : decode cX8_laysField 266 = .ok (.goto 5, 3) := by decide +kernel
theorem dX8_laysField_269 : decode cX8_laysField 269 = .ok (.iload 9, 2) := by decide +kernel
theorem dX8_laysField_271 : decode cX8_laysField 271 = .ok (.istore 9, 2) := by decide +kernel
theorem dX8_laysField_273 : decode cX8_laysField 273 = .ok (.aload_n 0, 1) := by decide +kernel
theorem dX8_laysField_274 : decode cX8_laysField 274 = .ok (.iload 9, 2) := by decide +kernel
theorem dX8_laysField_276 : decode cX8_laysField 276 = .ok (.iload_n 3, 1) := by decide +kernel
theorem dX8_laysField_277 : decode cX8_laysField 277 = .ok (.bipush (-9), 2) := by decide +kernel
theorem dX8_laysField_279 : decode cX8_laysField 279 = .ok (.if_icmp .ne 7, 3) := by decide +kernel
theorem dX8_laysField_282 : decode cX8_laysField 282 = .ok (.iconst 0, 1) := by decide +kernel
theorem dX8_laysField_283 : decode cX8_laysField 283 = .ok (.goto 13, 3) := by decide +kernel
theorem dX8_laysField_286 : decode cX8_laysField 286 = .ok (.aload_n 0, 1) := by decide +kernel
theorem dX8_laysField_287 : decode cX8_laysField 287 = .ok (.aload_n 0, 1) := by decide +kernel
theorem dX8_laysField_288 : decode cX8_laysField 288 = .ok (.getfield 119, 3) := by decide +kernel
theorem dX8_laysField_291 : decode cX8_laysField 291 = .ok (.iload_n 3, 1) := by decide +kernel
theorem dX8_laysField_292 : decode cX8_laysField 292 = .ok (.iconst 2, 1) := by decide +kernel
theorem dX8_laysField_293 : decode cX8_laysField 293 = .ok (.invokevirtual 54, 3) := by decide +kernel
theorem dX8_laysField_296 : decode cX8_laysField 296 = .ok (.invokevirtual 172, 3) := by decide +kernel
theorem dX8_laysField_299 : decode cX8_laysField 299 = .ok (.aload_n 0, 1) := by decide +kernel
theorem dX8_laysField_300 : decode cX8_laysField 300 = .ok (.iload 4, 2) := by decide +kernel
theorem dX8_laysField_302 : decode cX8_laysField 302 = .ok (.iload 5, 2) := by decide +kernel
theorem dX8_laysField_304 : decode cX8_laysField 304 = .ok (.iload 10, 2) := by decide +kernel
theorem dX8_laysField_306 : decode cX8_laysField 306 = .ok (.invokevirtual 146, 3) := by decide +kernel
theorem dX8_laysField_309 : decode cX8_laysField 309 = .ok (.aload_n 0, 1) := by decide +kernel
theorem dX8_laysField_310 : decode cX8_laysField 310 = .ok (.iload 6, 2) := by decide +kernel
theorem dX8_laysField_312 : decode cX8_laysField 312 = .ok (.iload 7, 2) := by decide +kernel
theorem dX8_laysField_314 : decode cX8_laysField 314 = .ok (.invokevirtual 150, 3) := by decide +kernel
theorem dX8_laysField_317 : decode cX8_laysField 317 = .ok (.aload_n 0, 1) := by decide +kernel
theorem dX8_laysField_318 : decode cX8_laysField 318 = .ok (.iload 7, 2) := by decide +kernel
theorem dX8_laysField_320 : decode cX8_laysField 320 = .ok (.iload_n 2, 1) := by decide +kernel
theorem dX8_laysField_321 : decode cX8_laysField 321 = .ok (.invokevirtual 131, 3) := by decide +kernel
theorem dX8_laysField_324 : decode cX8_laysField 324 = .ok (.istore 11, 2) := by decide +kernel
theorem dX8_laysField_326 : decode cX8_laysField 326 = .ok (.iload 11, 2) := by decide +kernel
theorem dX8_laysField_328 : decode cX8_laysField 328 = .ok (.iload_n 2, 1) := by decide +kernel
theorem dX8_laysField_329 : decode cX8_laysField 329 = .ok (.if_icmp .ge 14, 3) := by decide +kernel
theorem dX8_laysField_332 : decode cX8_laysField 332 = .ok (.aload_n 0, 1) := by decide +kernel
theorem dX8_laysField_333 : decode cX8_laysField 333 = .ok (.invokevirtual 137, 3) := by decide +kernel
theorem dX8_laysField_336 : decode cX8_laysField 336 = .ok (.aload_n 0, 1) := by decide +kernel
theorem dX8_laysField_337 : decode cX8_laysField 337 = .ok (.iload 11, 2) := by decide +kernel
theorem dX8_laysField_339 : decode cX8_laysField 339 = .ok (.iload_n 2, 1) := by decide +kernel
theorem dX8_laysField_340 : decode cX8_laysField 340 = .ok (.invokevirtual 150, 3) := by decide +kernel
theorem dX8_laysField_343 : decode cX8_laysField 343 = .ok (.return_, 1) := by decide +kernel
theorem dX8_laysBars_0 : decode cX8_laysBars 0 = .ok (.iconst 0, 1) := by decide +kernel
theorem dX8_laysBars_1 : decode cX8_laysBars 1 = .ok (.istore_n 1, 1) := by decide +kernel
theorem dX8_laysBars_2 : decode cX8_laysBars 2 = .ok (.iload_n 1, 1) := by decide +kernel
theorem dX8_laysBars_3 : decode cX8_laysBars 3 = .ok (.aload_n 0, 1) := by decide +kernel
theorem dX8_laysBars_4 : decode cX8_laysBars 4 = .ok (.aload_n 0, 1) := by decide +kernel
theorem dX8_laysBars_5 : decode cX8_laysBars 5 = .ok (.getfield 119, 3) := by decide +kernel
theorem dX8_laysBars_8 : decode cX8_laysBars 8 = .ok (.iconst 2, 1) := by decide +kernel
theorem dX8_laysBars_9 : decode cX8_laysBars 9 = .ok (.invokevirtual 44, 3) := by decide +kernel
theorem dX8_laysBars_12 : decode cX8_laysBars 12 = .ok (.if_icmp .ge 97, 3) := by decide +kernel
theorem dX8_laysBars_15 : decode cX8_laysBars 15 = .ok (.aload_n 0, 1) := by decide +kernel
theorem dX8_laysBars_16 : decode cX8_laysBars 16 = .ok (.aload_n 0, 1) := by decide +kernel
theorem dX8_laysBars_17 : decode cX8_laysBars 17 = .ok (.getfield 119, 3) := by decide +kernel
theorem dX8_laysBars_20 : decode cX8_laysBars 20 = .ok (.iload_n 1, 1) := by decide +kernel
theorem dX8_laysBars_21 : decode cX8_laysBars 21 = .ok (.iconst 0, 1) := by decide +kernel
theorem dX8_laysBars_22 : decode cX8_laysBars 22 = .ok (.invokevirtual 54, 3) := by decide +kernel
theorem dX8_laysBars_25 : decode cX8_laysBars 25 = .ok (.istore_n 2, 1) := by decide +kernel
theorem dX8_laysBars_26 : decode cX8_laysBars 26 = .ok (.iconst 0, 1) := by decide +kernel
theorem dX8_laysBars_27 : decode cX8_laysBars 27 = .ok (.istore_n 3, 1) := by decide +kernel
theorem dX8_laysBars_28 : decode cX8_laysBars 28 = .ok (.iload_n 3, 1) := by decide +kernel
theorem dX8_laysBars_29 : decode cX8_laysBars 29 = .ok (.aload_n 0, 1) := by decide +kernel
theorem dX8_laysBars_30 : decode cX8_laysBars 30 = .ok (.getfield 113, 3) := by decide +kernel
theorem dX8_laysBars_33 : decode cX8_laysBars 33 = .ok (.if_icmp .gt 70, 3) := by decide +kernel
theorem dX8_laysBars_36 : decode cX8_laysBars 36 = .ok (.aload_n 0, 1) := by decide +kernel
theorem dX8_laysBars_37 : decode cX8_laysBars 37 = .ok (.aload_n 0, 1) := by decide +kernel
theorem dX8_laysBars_38 : decode cX8_laysBars 38 = .ok (.getfield 119, 3) := by decide +kernel
theorem dX8_laysBars_41 : decode cX8_laysBars 41 = .ok (.iload_n 1, 1) := by decide +kernel
theorem dX8_laysBars_42 : decode cX8_laysBars 42 = .ok (.iconst 1, 1) := by decide +kernel
theorem dX8_laysBars_43 : decode cX8_laysBars 43 = .ok (.invokevirtual 54, 3) := by decide +kernel
theorem dX8_laysBars_46 : decode cX8_laysBars 46 = .ok (.iconst 4, 1) := by decide +kernel
theorem dX8_laysBars_47 : decode cX8_laysBars 47 = .ok (.if_icmp .ne 56, 3) := by decide +kernel
theorem dX8_laysBars_50 : decode cX8_laysBars 50 = .ok (.iload_n 2, 1) := by decide +kernel
theorem dX8_laysBars_51 : decode cX8_laysBars 51 = .ok (.aload_n 0, 1) := by decide +kernel
theorem dX8_laysBars_52 : decode cX8_laysBars 52 = .ok (.getfield 110, 3) := by decide +kernel
theorem dX8_laysBars_55 : decode cX8_laysBars 55 = .ok (.if_icmp .ge 48, 3) := by decide +kernel
theorem dX8_laysBars_58 : decode cX8_laysBars 58 = .ok (.aload_n 0, 1) := by decide +kernel
theorem dX8_laysBars_59 : decode cX8_laysBars 59 = .ok (.getfield 26, 3) := by decide +kernel
theorem dX8_laysBars_62 : decode cX8_laysBars 62 = .ok (.bipush 80, 2) := by decide +kernel
theorem dX8_laysBars_64 : decode cX8_laysBars 64 = .ok (.iload_n 3, 1) := by decide +kernel
theorem dX8_laysBars_65 : decode cX8_laysBars 65 = .ok (.imul, 1) := by decide +kernel
theorem dX8_laysBars_66 : decode cX8_laysBars 66 = .ok (.iload_n 2, 1) := by decide +kernel
theorem dX8_laysBars_67 : decode cX8_laysBars 67 = .ok (.iadd, 1) := by decide +kernel
theorem dX8_laysBars_68 : decode cX8_laysBars 68 = .ok (.baload, 1) := by decide +kernel
theorem dX8_laysBars_69 : decode cX8_laysBars 69 = .ok (.ifCond .ne 28, 3) := by decide +kernel
theorem dX8_laysBars_72 : decode cX8_laysBars 72 = .ok (.aload_n 0, 1) := by decide +kernel
theorem dX8_laysBars_73 : decode cX8_laysBars 73 = .ok (.getfield 23, 3) := by decide +kernel
theorem dX8_laysBars_76 : decode cX8_laysBars 76 = .ok (.bipush 80, 2) := by decide +kernel
theorem dX8_laysBars_78 : decode cX8_laysBars 78 = .ok (.iload_n 3, 1) := by decide +kernel
theorem dX8_laysBars_79 : decode cX8_laysBars 79 = .ok (.imul, 1) := by decide +kernel
theorem dX8_laysBars_80 : decode cX8_laysBars 80 = .ok (.iload_n 2, 1) := by decide +kernel
theorem dX8_laysBars_81 : decode cX8_laysBars 81 = .ok (.iadd, 1) := by decide +kernel
theorem dX8_laysBars_82 : decode cX8_laysBars 82 = .ok (.bipush 124, 2) := by decide +kernel
theorem dX8_laysBars_84 : decode cX8_laysBars 84 = .ok (.bastore, 1) := by decide +kernel
theorem dX8_laysBars_85 : decode cX8_laysBars 85 = .ok (.aload_n 0, 1) := by decide +kernel
theorem dX8_laysBars_86 : decode cX8_laysBars 86 = .ok (.getfield 26, 3) := by decide +kernel
theorem dX8_laysBars_89 : decode cX8_laysBars 89 = .ok (.bipush 80, 2) := by decide +kernel
theorem dX8_laysBars_91 : decode cX8_laysBars 91 = .ok (.iload_n 3, 1) := by decide +kernel
theorem dX8_laysBars_92 : decode cX8_laysBars 92 = .ok (.imul, 1) := by decide +kernel
theorem dX8_laysBars_93 : decode cX8_laysBars 93 = .ok (.iload_n 2, 1) := by decide +kernel
theorem dX8_laysBars_94 : decode cX8_laysBars 94 = .ok (.iadd, 1) := by decide +kernel
theorem dX8_laysBars_95 : decode cX8_laysBars 95 = .ok (.iconst 3, 1) := by decide +kernel
theorem dX8_laysBars_96 : decode cX8_laysBars 96 = .ok (.bastore, 1) := by decide +kernel
theorem dX8_laysBars_97 : decode cX8_laysBars 97 = .ok (.iinc 3 1, 3) := by decide +kernel
theorem dX8_laysBars_100 : decode cX8_laysBars 100 = .ok (.goto (-72), 3) := by decide +kernel
theorem dX8_laysBars_103 : decode cX8_laysBars 103 = .ok (.iinc 1 1, 3) := by decide +kernel
theorem dX8_laysBars_106 : decode cX8_laysBars 106 = .ok (.goto (-104), 3) := by decide +kernel
theorem dX8_laysBars_109 : decode cX8_laysBars 109 = .ok (.return_, 1) := by decide +kernel
theorem dX8_lays_0 : decode cX8_lays 0 = .ok (.aload_n 0, 1) := by decide +kernel
theorem dX8_lays_1 : decode cX8_lays 1 = .ok (.iload_n 1, 1) := by decide +kernel
theorem dX8_lays_2 : decode cX8_lays 2 = .ok (.invokestatic 93, 3) := by decide +kernel
theorem dX8_lays_5 : decode cX8_lays 5 = .ok (.putfield 107, 3) := by decide +kernel
theorem dX8_lays_8 : decode cX8_lays 8 = .ok (.aload_n 0, 1) := by decide +kernel
theorem dX8_lays_9 : decode cX8_lays 9 = .ok (.aload_n 0, 1) := by decide +kernel
theorem dX8_lays_10 : decode cX8_lays 10 = .ok (.getfield 7, 3) := by decide +kernel
theorem dX8_lays_13 : decode cX8_lays 13 = .ok (.aload_n 0, 1) := by decide +kernel
theorem dX8_lays_14 : decode cX8_lays 14 = .ok (.getfield 107, 3) := by decide +kernel
theorem dX8_lays_17 : decode cX8_lays 17 = .ok (.iaload, 1) := by decide +kernel
theorem dX8_lays_18 : decode cX8_lays 18 = .ok (.putfield 119, 3) := by decide +kernel
theorem dX8_lays_21 : decode cX8_lays 21 = .ok (.aload_n 0, 1) := by decide +kernel
theorem dX8_lays_22 : decode cX8_lays 22 = .ok (.iload_n 2, 1) := by decide +kernel
theorem dX8_lays_23 : decode cX8_lays 23 = .ok (.putfield 110, 3) := by decide +kernel
theorem dX8_lays_26 : decode cX8_lays 26 = .ok (.aload_n 0, 1) := by decide +kernel
theorem dX8_lays_27 : decode cX8_lays 27 = .ok (.iconst 0, 1) := by decide +kernel
theorem dX8_lays_28 : decode cX8_lays 28 = .ok (.putfield 113, 3) := by decide +kernel
theorem dX8_lays_31 : decode cX8_lays 31 = .ok (.aload_n 0, 1) := by decide +kernel
theorem dX8_lays_32 : decode cX8_lays 32 = .ok (.invokevirtual 116, 3) := by decide +kernel
theorem dX8_lays_35 : decode cX8_lays 35 = .ok (.aload_n 0, 1) := by decide +kernel
theorem dX8_lays_36 : decode cX8_lays 36 = .ok (.aload_n 0, 1) := by decide +kernel
theorem dX8_lays_37 : decode cX8_lays 37 = .ok (.aload_n 0, 1) := by decide +kernel
theorem dX8_lays_38 : decode cX8_lays 38 = .ok (.getfield 119, 3) := by decide +kernel
theorem dX8_lays_41 : decode cX8_lays 41 = .ok (.iconst 0, 1) := by decide +kernel
theorem dX8_lays_42 : decode cX8_lays 42 = .ok (.invokevirtual 44, 3) := by decide +kernel
theorem dX8_lays_45 : decode cX8_lays 45 = .ok (.putfield 122, 3) := by decide +kernel
theorem dX8_lays_48 : decode cX8_lays 48 = .ok (.aload_n 0, 1) := by decide +kernel
theorem dX8_lays_49 : decode cX8_lays 49 = .ok (.iconst 0, 1) := by decide +kernel
theorem dX8_lays_50 : decode cX8_lays 50 = .ok (.putfield 125, 3) := by decide +kernel
theorem dX8_lays_53 : decode cX8_lays 53 = .ok (.iconst 0, 1) := by decide +kernel
theorem dX8_lays_54 : decode cX8_lays 54 = .ok (.istore_n 3, 1) := by decide +kernel
theorem dX8_lays_55 : decode cX8_lays 55 = .ok (.iconst 0, 1) := by decide +kernel
theorem dX8_lays_56 : decode cX8_lays 56 = .ok (.istore 4, 2) := by decide +kernel
theorem dX8_lays_58 : decode cX8_lays 58 = .ok (.iload 4, 2) := by decide +kernel
theorem dX8_lays_60 : decode cX8_lays 60 = .ok (.aload_n 0, 1) := by decide +kernel
theorem dX8_lays_61 : decode cX8_lays 61 = .ok (.invokevirtual 175, 3) := by decide +kernel
theorem dX8_lays_64 : decode cX8_lays 64 = .ok (.if_icmp .gt 78, 3) := by decide +kernel
theorem dX8_lays_67 : decode cX8_lays 67 = .ok (.iload 4, 2) := by decide +kernel
theorem dX8_lays_69 : decode cX8_lays 69 = .ok (.aload_n 0, 1) := by decide +kernel
theorem dX8_lays_70 : decode cX8_lays 70 = .ok (.invokevirtual 175, 3) := by decide +kernel
theorem dX8_lays_73 : decode cX8_lays 73 = .ok (.if_icmp .eq 14, 3) := by decide +kernel
theorem dX8_lays_76 : decode cX8_lays 76 = .ok (.aload_n 0, 1) := by decide +kernel
theorem dX8_lays_77 : decode cX8_lays 77 = .ok (.iload 4, 2) := by decide +kernel
theorem dX8_lays_79 : decode cX8_lays 79 = .ok (.invokevirtual 128, 3) := by decide +kernel
theorem dX8_lays_82 : decode cX8_lays 82 = .ok (.bipush 9, 2) := by decide +kernel
theorem dX8_lays_84 : decode cX8_lays 84 = .ok (.if_icmp .ne 52, 3) := by decide +kernel
theorem dX8_lays_87 : decode cX8_lays 87 = .ok (.aload_n 0, 1) := by decide +kernel
theorem dX8_lays_88 : decode cX8_lays 88 = .ok (.getfield 125, 3) := by decide +kernel
theorem dX8_lays_91 : decode cX8_lays 91 = .ok (.ifCond .ne 23, 3) := by decide +kernel
theorem dX8_lays_94 : decode cX8_lays 94 = .ok (.aload_n 0, 1) := by decide +kernel
theorem dX8_lays_95 : decode cX8_lays 95 = .ok (.bipush (-9), 2) := by decide +kernel
theorem dX8_lays_97 : decode cX8_lays 97 = .ok (.bipush (-9), 2) := by decide +kernel
theorem dX8_lays_99 : decode cX8_lays 99 = .ok (.bipush (-9), 2) := by decide +kernel
theorem dX8_lays_101 : decode cX8_lays 101 = .ok (.invokevirtual 146, 3) := by decide +kernel
theorem dX8_lays_104 : decode cX8_lays 104 = .ok (.aload_n 0, 1) := by decide +kernel
theorem dX8_lays_105 : decode cX8_lays 105 = .ok (.iload_n 3, 1) := by decide +kernel
theorem dX8_lays_106 : decode cX8_lays 106 = .ok (.iload 4, 2) := by decide +kernel
theorem dX8_lays_108 : decode cX8_lays 108 = .ok (.invokevirtual 150, 3) := by decide +kernel
theorem dX8_lays_111 : decode cX8_lays 111 = .ok (.goto 10, 3) := by decide +kernel
theorem dX8_lays_114 : decode cX8_lays 114 = .ok (.aload_n 0, 1) := by decide +kernel
theorem dX8_lays_115 : decode cX8_lays 115 = .ok (.iload_n 3, 1) := by decide +kernel
theorem dX8_lays_116 : decode cX8_lays 116 = .ok (.iload 4, 2) := by decide +kernel
theorem dX8_lays_118 : decode cX8_lays 118 = .ok (.invokevirtual 178, 3) := by decide +kernel
theorem dX8_lays_121 : decode cX8_lays 121 = .ok (.aload_n 0, 1) := by decide +kernel
theorem dX8_lays_122 : decode cX8_lays 122 = .ok (.dup, 1) := by decide +kernel
theorem dX8_lays_123 : decode cX8_lays 123 = .ok (.getfield 125, 3) := by decide +kernel
theorem dX8_lays_126 : decode cX8_lays 126 = .ok (.iconst 1, 1) := by decide +kernel
theorem dX8_lays_127 : decode cX8_lays 127 = .ok (.iadd, 1) := by decide +kernel
theorem dX8_lays_128 : decode cX8_lays 128 = .ok (.putfield 125, 3) := by decide +kernel
theorem dX8_lays_131 : decode cX8_lays 131 = .ok (.iload 4, 2) := by decide +kernel
theorem dX8_lays_133 : decode cX8_lays 133 = .ok (.iconst 1, 1) := by decide +kernel
theorem dX8_lays_134 : decode cX8_lays 134 = .ok (.iadd, 1) := by decide +kernel
theorem dX8_lays_135 : decode cX8_lays 135 = .ok (.istore_n 3, 1) := by decide +kernel
theorem dX8_lays_136 : decode cX8_lays 136 = .ok (.iinc 4 1, 3) := by decide +kernel
theorem dX8_lays_139 : decode cX8_lays 139 = .ok (.goto (-81), 3) := by decide +kernel
theorem dX8_lays_142 : decode cX8_lays 142 = .ok (.aload_n 0, 1) := by decide +kernel
theorem dX8_lays_143 : decode cX8_lays 143 = .ok (.aload_n 0, 1) := by decide +kernel
theorem dX8_lays_144 : decode cX8_lays 144 = .ok (.getfield 125, 3) := by decide +kernel
theorem dX8_lays_147 : decode cX8_lays 147 = .ok (.putfield 181, 3) := by decide +kernel
theorem dX8_lays_150 : decode cX8_lays 150 = .ok (.aload_n 0, 1) := by decide +kernel
theorem dX8_lays_151 : decode cX8_lays 151 = .ok (.invokevirtual 184, 3) := by decide +kernel
theorem dX8_lays_154 : decode cX8_lays 154 = .ok (.aload_n 0, 1) := by decide +kernel
theorem dX8_lays_155 : decode cX8_lays 155 = .ok (.getfield 113, 3) := by decide +kernel
theorem dX8_lays_158 : decode cX8_lays 158 = .ok (.iconst 1, 1) := by decide +kernel
theorem dX8_lays_159 : decode cX8_lays 159 = .ok (.iadd, 1) := by decide +kernel
theorem dX8_lays_160 : decode cX8_lays 160 = .ok (.ireturn, 1) := by decide +kernel
theorem dX8_count_0 : decode cX8_count 0 = .ok (.iload_n 1, 1) := by decide +kernel
theorem dX8_count_1 : decode cX8_count 1 = .ok (.tableswitch 92 0 5 #[39, 39, 39, 46, 82, 87], 39) := by decide +kernel
theorem dX8_count_40 : decode cX8_count 40 = .ok (.aload_n 0, 1) := by decide +kernel
theorem dX8_count_41 : decode cX8_count 41 = .ok (.getfield 7, 3) := by decide +kernel
theorem dX8_count_44 : decode cX8_count 44 = .ok (.iload_n 1, 1) := by decide +kernel
theorem dX8_count_45 : decode cX8_count 45 = .ok (.iaload, 1) := by decide +kernel
theorem dX8_count_46 : decode cX8_count 46 = .ok (.ireturn, 1) := by decide +kernel
theorem dX8_count_47 : decode cX8_count 47 = .ok (.iconst 0, 1) := by decide +kernel
theorem dX8_count_48 : decode cX8_count 48 = .ok (.istore_n 2, 1) := by decide +kernel
theorem dX8_count_49 : decode cX8_count 49 = .ok (.iconst 0, 1) := by decide +kernel
theorem dX8_count_50 : decode cX8_count 50 = .ok (.istore_n 3, 1) := by decide +kernel
theorem dX8_count_51 : decode cX8_count 51 = .ok (.iload_n 3, 1) := by decide +kernel
theorem dX8_count_52 : decode cX8_count 52 = .ok (.aload_n 0, 1) := by decide +kernel
theorem dX8_count_53 : decode cX8_count 53 = .ok (.getfield 7, 3) := by decide +kernel
theorem dX8_count_56 : decode cX8_count 56 = .ok (.iconst 2, 1) := by decide +kernel
theorem dX8_count_57 : decode cX8_count 57 = .ok (.iaload, 1) := by decide +kernel
theorem dX8_count_58 : decode cX8_count 58 = .ok (.if_icmp .ge 23, 3) := by decide +kernel
theorem dX8_count_61 : decode cX8_count 61 = .ok (.iload_n 2, 1) := by decide +kernel
theorem dX8_count_62 : decode cX8_count 62 = .ok (.aload_n 0, 1) := by decide +kernel
theorem dX8_count_63 : decode cX8_count 63 = .ok (.iload_n 3, 1) := by decide +kernel
theorem dX8_count_64 : decode cX8_count 64 = .ok (.aload_n 0, 1) := by decide +kernel
theorem dX8_count_65 : decode cX8_count 65 = .ok (.getfield 7, 3) := by decide +kernel
theorem dX8_count_68 : decode cX8_count 68 = .ok (.iconst 0, 1) := by decide +kernel
theorem dX8_count_69 : decode cX8_count 69 = .ok (.iaload, 1) := by decide +kernel
theorem dX8_count_70 : decode cX8_count 70 = .ok (.invokevirtual 187, 3) := by decide +kernel
theorem dX8_count_73 : decode cX8_count 73 = .ok (.iadd, 1) := by decide +kernel
theorem dX8_count_74 : decode cX8_count 74 = .ok (.istore_n 2, 1) := by decide +kernel
theorem dX8_count_75 : decode cX8_count 75 = .ok (.iinc 3 1, 3) := by decide +kernel
theorem dX8_count_78 : decode cX8_count 78 = .ok (.goto (-27), 3) := by decide +kernel
theorem dX8_count_81 : decode cX8_count 81 = .ok (.iload_n 2, 1) := by decide +kernel
theorem dX8_count_82 : decode cX8_count 82 = .ok (.ireturn, 1) := by decide +kernel
theorem dX8_count_83 : decode cX8_count 83 = .ok (.aload_n 0, 1) := by decide +kernel
theorem dX8_count_84 : decode cX8_count 84 = .ok (.getfield 66, 3) := by decide +kernel
theorem dX8_count_87 : decode cX8_count 87 = .ok (.ireturn, 1) := by decide +kernel
theorem dX8_count_88 : decode cX8_count 88 = .ok (.aload_n 0, 1) := by decide +kernel
theorem dX8_count_89 : decode cX8_count 89 = .ok (.getfield 32, 3) := by decide +kernel
theorem dX8_count_92 : decode cX8_count 92 = .ok (.ireturn, 1) := by decide +kernel
theorem dX8_count_93 : decode cX8_count 93 = .ok (.iconst (-1), 1) := by decide +kernel
theorem dX8_count_94 : decode cX8_count 94 = .ok (.ireturn, 1) := by decide +kernel
theorem dX8_style_0 : decode cX8_style 0 = .ok (.iload_n 1, 1) := by decide +kernel
theorem dX8_style_1 : decode cX8_style 1 = .ok (.invokestatic 50, 3) := by decide +kernel
theorem dX8_style_4 : decode cX8_style 4 = .ok (.ifCond .eq 12, 3) := by decide +kernel
theorem dX8_style_7 : decode cX8_style 7 = .ok (.iload_n 2, 1) := by decide +kernel
theorem dX8_style_8 : decode cX8_style 8 = .ok (.iconst 0, 1) := by decide +kernel
theorem dX8_style_9 : decode cX8_style 9 = .ok (.iconst 3, 1) := by decide +kernel
theorem dX8_style_10 : decode cX8_style 10 = .ok (.invokestatic 36, 3) := by decide +kernel
theorem dX8_style_13 : decode cX8_style 13 = .ok (.ifCond .ne 5, 3) := by decide +kernel
theorem dX8_style_16 : decode cX8_style 16 = .ok (.iconst (-1), 1) := by decide +kernel
theorem dX8_style_17 : decode cX8_style 17 = .ok (.ireturn, 1) := by decide +kernel
theorem dX8_style_18 : decode cX8_style 18 = .ok (.aload_n 0, 1) := by decide +kernel
theorem dX8_style_19 : decode cX8_style 19 = .ok (.iload_n 1, 1) := by decide +kernel
theorem dX8_style_20 : decode cX8_style 20 = .ok (.putfield 119, 3) := by decide +kernel
theorem dX8_style_23 : decode cX8_style 23 = .ok (.iload_n 2, 1) := by decide +kernel
theorem dX8_style_24 : decode cX8_style 24 = .ok (.iconst 3, 1) := by decide +kernel
theorem dX8_style_25 : decode cX8_style 25 = .ok (.if_icmp .ge 12, 3) := by decide +kernel
theorem dX8_style_28 : decode cX8_style 28 = .ok (.aload_n 0, 1) := by decide +kernel
theorem dX8_style_29 : decode cX8_style 29 = .ok (.iload_n 1, 1) := by decide +kernel
theorem dX8_style_30 : decode cX8_style 30 = .ok (.iload_n 2, 1) := by decide +kernel
theorem dX8_style_31 : decode cX8_style 31 = .ok (.invokevirtual 44, 3) := by decide +kernel
theorem dX8_style_34 : decode cX8_style 34 = .ok (.goto 11, 3) := by decide +kernel
theorem dX8_style_37 : decode cX8_style 37 = .ok (.aload_n 0, 1) := by decide +kernel
theorem dX8_style_38 : decode cX8_style 38 = .ok (.aload_n 0, 1) := by decide +kernel
theorem dX8_style_39 : decode cX8_style 39 = .ok (.invokevirtual 156, 3) := by decide +kernel
theorem dX8_style_42 : decode cX8_style 42 = .ok (.invokevirtual 159, 3) := by decide +kernel
theorem dX8_style_45 : decode cX8_style 45 = .ok (.ireturn, 1) := by decide +kernel
theorem dX8_stop_0 : decode cX8_stop 0 = .ok (.iload_n 1, 1) := by decide +kernel
theorem dX8_stop_1 : decode cX8_stop 1 = .ok (.invokestatic 50, 3) := by decide +kernel
theorem dX8_stop_4 : decode cX8_stop 4 = .ok (.ifCond .eq 16, 3) := by decide +kernel
theorem dX8_stop_7 : decode cX8_stop 7 = .ok (.iload_n 2, 1) := by decide +kernel
theorem dX8_stop_8 : decode cX8_stop 8 = .ok (.ifCond .lt 12, 3) := by decide +kernel
theorem dX8_stop_11 : decode cX8_stop 11 = .ok (.iload_n 3, 1) := by decide +kernel
theorem dX8_stop_12 : decode cX8_stop 12 = .ok (.iconst 0, 1) := by decide +kernel
theorem dX8_stop_13 : decode cX8_stop 13 = .ok (.iconst 2, 1) := by decide +kernel
theorem dX8_stop_14 : decode cX8_stop 14 = .ok (.invokestatic 36, 3) := by decide +kernel
theorem dX8_stop_17 : decode cX8_stop 17 = .ok (.ifCond .ne 5, 3) := by decide +kernel
theorem dX8_stop_20 : decode cX8_stop 20 = .ok (.iconst (-1), 1) := by decide +kernel
theorem dX8_stop_21 : decode cX8_stop 21 = .ok (.ireturn, 1) := by decide +kernel
theorem dX8_stop_22 : decode cX8_stop 22 = .ok (.iload_n 2, 1) := by decide +kernel
theorem dX8_stop_23 : decode cX8_stop 23 = .ok (.aload_n 0, 1) := by decide +kernel
theorem dX8_stop_24 : decode cX8_stop 24 = .ok (.iload_n 1, 1) := by decide +kernel
theorem dX8_stop_25 : decode cX8_stop 25 = .ok (.iconst 2, 1) := by decide +kernel
theorem dX8_stop_26 : decode cX8_stop 26 = .ok (.invokevirtual 44, 3) := by decide +kernel
theorem dX8_stop_29 : decode cX8_stop 29 = .ok (.if_icmp .ge 13, 3) := by decide +kernel
theorem dX8_stop_32 : decode cX8_stop 32 = .ok (.aload_n 0, 1) := by decide +kernel
theorem dX8_stop_33 : decode cX8_stop 33 = .ok (.iload_n 1, 1) := by decide +kernel
theorem dX8_stop_34 : decode cX8_stop 34 = .ok (.iload_n 2, 1) := by decide +kernel
theorem dX8_stop_35 : decode cX8_stop 35 = .ok (.iload_n 3, 1) := by decide +kernel
theorem dX8_stop_36 : decode cX8_stop 36 = .ok (.invokevirtual 54, 3) := by decide +kernel
theorem dX8_stop_39 : decode cX8_stop 39 = .ok (.goto 5, 3) := by decide +kernel
theorem dX8_stop_42 : decode cX8_stop 42 = .ok (.bipush (-9), 2) := by decide +kernel
theorem dX8_stop_44 : decode cX8_stop 44 = .ok (.ireturn, 1) := by decide +kernel
theorem dX8_character_0 : decode cX8_character 0 = .ok (.aload_n 0, 1) := by decide +kernel
theorem dX8_character_1 : decode cX8_character 1 = .ok (.iload_n 1, 1) := by decide +kernel
theorem dX8_character_2 : decode cX8_character 2 = .ok (.invokevirtual 96, 3) := by decide +kernel
theorem dX8_character_5 : decode cX8_character 5 = .ok (.ifCond .eq 7, 3) := by decide +kernel
theorem dX8_character_8 : decode cX8_character 8 = .ok (.iload_n 2, 1) := by decide +kernel
theorem dX8_character_9 : decode cX8_character 9 = .ok (.ifCond .ge 5, 3) := by decide +kernel
theorem dX8_character_12 : decode cX8_character 12 = .ok (.iconst (-1), 1) := by decide +kernel
theorem dX8_character_13 : decode cX8_character 13 = .ok (.ireturn, 1) := by decide +kernel
theorem dX8_character_14 : decode cX8_character 14 = .ok (.iload_n 2, 1) := by decide +kernel
theorem dX8_character_15 : decode cX8_character 15 = .ok (.aload_n 0, 1) := by decide +kernel
theorem dX8_character_16 : decode cX8_character 16 = .ok (.getfield 7, 3) := by decide +kernel
theorem dX8_character_19 : decode cX8_character 19 = .ok (.iload_n 1, 1) := by decide +kernel
theorem dX8_character_20 : decode cX8_character 20 = .ok (.invokestatic 93, 3) := by decide +kernel
theorem dX8_character_23 : decode cX8_character 23 = .ok (.iconst 1, 1) := by decide +kernel
theorem dX8_character_24 : decode cX8_character 24 = .ok (.iadd, 1) := by decide +kernel
theorem dX8_character_25 : decode cX8_character 25 = .ok (.iaload, 1) := by decide +kernel
theorem dX8_character_26 : decode cX8_character 26 = .ok (.if_icmp .ge 19, 3) := by decide +kernel
theorem dX8_character_29 : decode cX8_character 29 = .ok (.aload_n 0, 1) := by decide +kernel
theorem dX8_character_30 : decode cX8_character 30 = .ok (.getfield 7, 3) := by decide +kernel
theorem dX8_character_33 : decode cX8_character 33 = .ok (.iload_n 1, 1) := by decide +kernel
theorem dX8_character_34 : decode cX8_character 34 = .ok (.invokestatic 93, 3) := by decide +kernel
theorem dX8_character_37 : decode cX8_character 37 = .ok (.iconst 2, 1) := by decide +kernel
theorem dX8_character_38 : decode cX8_character 38 = .ok (.iadd, 1) := by decide +kernel
theorem dX8_character_39 : decode cX8_character 39 = .ok (.iload_n 2, 1) := by decide +kernel
theorem dX8_character_40 : decode cX8_character 40 = .ok (.iadd, 1) := by decide +kernel
theorem dX8_character_41 : decode cX8_character 41 = .ok (.iaload, 1) := by decide +kernel
theorem dX8_character_42 : decode cX8_character 42 = .ok (.goto 5, 3) := by decide +kernel
theorem dX8_character_45 : decode cX8_character 45 = .ok (.bipush (-9), 2) := by decide +kernel
theorem dX8_character_47 : decode cX8_character 47 = .ok (.ireturn, 1) := by decide +kernel
theorem dX8_lines_0 : decode cX8_lines 0 = .ok (.aload_n 0, 1) := by decide +kernel
theorem dX8_lines_1 : decode cX8_lines 1 = .ok (.iload_n 1, 1) := by decide +kernel
theorem dX8_lines_2 : decode cX8_lines 2 = .ok (.invokevirtual 96, 3) := by decide +kernel
theorem dX8_lines_5 : decode cX8_lines 5 = .ok (.ifCond .eq 17, 3) := by decide +kernel
theorem dX8_lines_8 : decode cX8_lines 8 = .ok (.aload_n 0, 1) := by decide +kernel
theorem dX8_lines_9 : decode cX8_lines 9 = .ok (.iload_n 1, 1) := by decide +kernel
theorem dX8_lines_10 : decode cX8_lines 10 = .ok (.aload_n 0, 1) := by decide +kernel
theorem dX8_lines_11 : decode cX8_lines 11 = .ok (.getfield 7, 3) := by decide +kernel
theorem dX8_lines_14 : decode cX8_lines 14 = .ok (.iconst 0, 1) := by decide +kernel
theorem dX8_lines_15 : decode cX8_lines 15 = .ok (.iaload, 1) := by decide +kernel
theorem dX8_lines_16 : decode cX8_lines 16 = .ok (.invokevirtual 187, 3) := by decide +kernel
theorem dX8_lines_19 : decode cX8_lines 19 = .ok (.goto 4, 3) := by decide +kernel
theorem dX8_lines_22 : decode cX8_lines 22 = .ok (.iconst (-1), 1) := by decide +kernel
theorem dX8_lines_23 : decode cX8_lines 23 = .ok (.ireturn, 1) := by decide +kernel
theorem dX8_cell_0 : decode cX8_cell 0 = .ok (.aload_n 0, 1) := by decide +kernel
theorem dX8_cell_1 : decode cX8_cell 1 = .ok (.iload_n 1, 1) := by decide +kernel
theorem dX8_cell_2 : decode cX8_cell 2 = .ok (.invokevirtual 96, 3) := by decide +kernel
theorem dX8_cell_5 : decode cX8_cell 5 = .ok (.ifCond .eq 23, 3) := by decide +kernel
theorem dX8_cell_8 : decode cX8_cell 8 = .ok (.iload_n 2, 1) := by decide +kernel
theorem dX8_cell_9 : decode cX8_cell 9 = .ok (.ifCond .lt 19, 3) := by decide +kernel
theorem dX8_cell_12 : decode cX8_cell 12 = .ok (.iload_n 3, 1) := by decide +kernel
theorem dX8_cell_13 : decode cX8_cell 13 = .ok (.iconst 0, 1) := by decide +kernel
theorem dX8_cell_14 : decode cX8_cell 14 = .ok (.aload_n 0, 1) := by decide +kernel
theorem dX8_cell_15 : decode cX8_cell 15 = .ok (.getfield 7, 3) := by decide +kernel
theorem dX8_cell_18 : decode cX8_cell 18 = .ok (.iconst 0, 1) := by decide +kernel
theorem dX8_cell_19 : decode cX8_cell 19 = .ok (.iaload, 1) := by decide +kernel
theorem dX8_cell_20 : decode cX8_cell 20 = .ok (.iconst 1, 1) := by decide +kernel
theorem dX8_cell_21 : decode cX8_cell 21 = .ok (.isub, 1) := by decide +kernel
theorem dX8_cell_22 : decode cX8_cell 22 = .ok (.invokestatic 36, 3) := by decide +kernel
theorem dX8_cell_25 : decode cX8_cell 25 = .ok (.ifCond .ne 5, 3) := by decide +kernel
theorem dX8_cell_28 : decode cX8_cell 28 = .ok (.iconst (-1), 1) := by decide +kernel
theorem dX8_cell_29 : decode cX8_cell 29 = .ok (.ireturn, 1) := by decide +kernel
theorem dX8_cell_30 : decode cX8_cell 30 = .ok (.iload_n 2, 1) := by decide +kernel
theorem dX8_cell_31 : decode cX8_cell 31 = .ok (.aload_n 0, 1) := by decide +kernel
theorem dX8_cell_32 : decode cX8_cell 32 = .ok (.iload_n 1, 1) := by decide +kernel
theorem dX8_cell_33 : decode cX8_cell 33 = .ok (.aload_n 0, 1) := by decide +kernel
theorem dX8_cell_34 : decode cX8_cell 34 = .ok (.getfield 7, 3) := by decide +kernel
theorem dX8_cell_37 : decode cX8_cell 37 = .ok (.iconst 0, 1) := by decide +kernel
theorem dX8_cell_38 : decode cX8_cell 38 = .ok (.iaload, 1) := by decide +kernel
theorem dX8_cell_39 : decode cX8_cell 39 = .ok (.invokevirtual 187, 3) := by decide +kernel
theorem dX8_cell_42 : decode cX8_cell 42 = .ok (.if_icmp .ge 17, 3) := by decide +kernel
theorem dX8_cell_45 : decode cX8_cell 45 = .ok (.aload_n 0, 1) := by decide +kernel
theorem dX8_cell_46 : decode cX8_cell 46 = .ok (.getfield 23, 3) := by decide +kernel
theorem dX8_cell_49 : decode cX8_cell 49 = .ok (.bipush 80, 2) := by decide +kernel
theorem dX8_cell_51 : decode cX8_cell 51 = .ok (.iload_n 2, 1) := by decide +kernel
theorem dX8_cell_52 : decode cX8_cell 52 = .ok (.imul, 1) := by decide +kernel
theorem dX8_cell_53 : decode cX8_cell 53 = .ok (.iload_n 3, 1) := by decide +kernel
theorem dX8_cell_54 : decode cX8_cell 54 = .ok (.iadd, 1) := by decide +kernel
theorem dX8_cell_55 : decode cX8_cell 55 = .ok (.baload, 1) := by decide +kernel
theorem dX8_cell_56 : decode cX8_cell 56 = .ok (.goto 5, 3) := by decide +kernel
theorem dX8_cell_59 : decode cX8_cell 59 = .ok (.bipush (-9), 2) := by decide +kernel
theorem dX8_cell_61 : decode cX8_cell 61 = .ok (.ireturn, 1) := by decide +kernel
theorem dX8_field_0 : decode cX8_field 0 = .ok (.aload_n 0, 1) := by decide +kernel
theorem dX8_field_1 : decode cX8_field 1 = .ok (.iload_n 1, 1) := by decide +kernel
theorem dX8_field_2 : decode cX8_field 2 = .ok (.invokevirtual 96, 3) := by decide +kernel
theorem dX8_field_5 : decode cX8_field 5 = .ok (.ifCond .eq 16, 3) := by decide +kernel
theorem dX8_field_8 : decode cX8_field 8 = .ok (.iload_n 2, 1) := by decide +kernel
theorem dX8_field_9 : decode cX8_field 9 = .ok (.ifCond .lt 12, 3) := by decide +kernel
theorem dX8_field_12 : decode cX8_field 12 = .ok (.iload_n 3, 1) := by decide +kernel
theorem dX8_field_13 : decode cX8_field 13 = .ok (.iconst 0, 1) := by decide +kernel
theorem dX8_field_14 : decode cX8_field 14 = .ok (.iconst 5, 1) := by decide +kernel
theorem dX8_field_15 : decode cX8_field 15 = .ok (.invokestatic 36, 3) := by decide +kernel
theorem dX8_field_18 : decode cX8_field 18 = .ok (.ifCond .ne 5, 3) := by decide +kernel
theorem dX8_field_21 : decode cX8_field 21 = .ok (.iconst (-1), 1) := by decide +kernel
theorem dX8_field_22 : decode cX8_field 22 = .ok (.ireturn, 1) := by decide +kernel
theorem dX8_field_23 : decode cX8_field 23 = .ok (.aload_n 0, 1) := by decide +kernel
theorem dX8_field_24 : decode cX8_field 24 = .ok (.iload_n 1, 1) := by decide +kernel
theorem dX8_field_25 : decode cX8_field 25 = .ok (.aload_n 0, 1) := by decide +kernel
theorem dX8_field_26 : decode cX8_field 26 = .ok (.getfield 7, 3) := by decide +kernel
theorem dX8_field_29 : decode cX8_field 29 = .ok (.iconst 0, 1) := by decide +kernel
theorem dX8_field_30 : decode cX8_field 30 = .ok (.iaload, 1) := by decide +kernel
theorem dX8_field_31 : decode cX8_field 31 = .ok (.invokevirtual 187, 3) := by decide +kernel
theorem dX8_field_34 : decode cX8_field 34 = .ok (.istore 4, 2) := by decide +kernel
theorem dX8_field_36 : decode cX8_field 36 = .ok (.iload_n 2, 1) := by decide +kernel
theorem dX8_field_37 : decode cX8_field 37 = .ok (.aload_n 0, 1) := by decide +kernel
theorem dX8_field_38 : decode cX8_field 38 = .ok (.getfield 181, 3) := by decide +kernel
theorem dX8_field_41 : decode cX8_field 41 = .ok (.if_icmp .ge 22, 3) := by decide +kernel
theorem dX8_field_44 : decode cX8_field 44 = .ok (.iload 4, 2) := by decide +kernel
theorem dX8_field_46 : decode cX8_field 46 = .ok (.ifCond .le 17, 3) := by decide +kernel
theorem dX8_field_49 : decode cX8_field 49 = .ok (.aload_n 0, 1) := by decide +kernel
theorem dX8_field_50 : decode cX8_field 50 = .ok (.getfield 29, 3) := by decide +kernel
theorem dX8_field_53 : decode cX8_field 53 = .ok (.bipush 6, 2) := by decide +kernel
theorem dX8_field_55 : decode cX8_field 55 = .ok (.iload_n 2, 1) := by decide +kernel
theorem dX8_field_56 : decode cX8_field 56 = .ok (.imul, 1) := by decide +kernel
theorem dX8_field_57 : decode cX8_field 57 = .ok (.iload_n 3, 1) := by decide +kernel
theorem dX8_field_58 : decode cX8_field 58 = .ok (.iadd, 1) := by decide +kernel
theorem dX8_field_59 : decode cX8_field 59 = .ok (.iaload, 1) := by decide +kernel
theorem dX8_field_60 : decode cX8_field 60 = .ok (.goto 5, 3) := by decide +kernel
theorem dX8_field_63 : decode cX8_field 63 = .ok (.bipush (-9), 2) := by decide +kernel
theorem dX8_field_65 : decode cX8_field 65 = .ok (.ireturn, 1) := by decide +kernel
theorem dX8_holds_0 : decode cX8_holds 0 = .ok (.aload_n 0, 1) := by decide +kernel
theorem dX8_holds_1 : decode cX8_holds 1 = .ok (.iload_n 1, 1) := by decide +kernel
theorem dX8_holds_2 : decode cX8_holds 2 = .ok (.invokevirtual 96, 3) := by decide +kernel
theorem dX8_holds_5 : decode cX8_holds 5 = .ok (.ifCond .eq 12, 3) := by decide +kernel
theorem dX8_holds_8 : decode cX8_holds 8 = .ok (.iload_n 2, 1) := by decide +kernel
theorem dX8_holds_9 : decode cX8_holds 9 = .ok (.iconst 0, 1) := by decide +kernel
theorem dX8_holds_10 : decode cX8_holds 10 = .ok (.iconst 3, 1) := by decide +kernel
theorem dX8_holds_11 : decode cX8_holds 11 = .ok (.invokestatic 36, 3) := by decide +kernel
theorem dX8_holds_14 : decode cX8_holds 14 = .ok (.ifCond .ne 5, 3) := by decide +kernel
theorem dX8_holds_17 : decode cX8_holds 17 = .ok (.iconst (-1), 1) := by decide +kernel
theorem dX8_holds_18 : decode cX8_holds 18 = .ok (.ireturn, 1) := by decide +kernel
theorem dX8_holds_19 : decode cX8_holds 19 = .ok (.iload_n 2, 1) := by decide +kernel
theorem dX8_holds_20 : decode cX8_holds 20 = .ok (.ifCond .ne 7, 3) := by decide +kernel
theorem dX8_holds_23 : decode cX8_holds 23 = .ok (.iconst 1, 1) := by decide +kernel
theorem dX8_holds_24 : decode cX8_holds 24 = .ok (.goto 22, 3) := by decide +kernel
theorem dX8_holds_27 : decode cX8_holds 27 = .ok (.iload_n 2, 1) := by decide +kernel
theorem dX8_holds_28 : decode cX8_holds 28 = .ok (.iconst 1, 1) := by decide +kernel
theorem dX8_holds_29 : decode cX8_holds 29 = .ok (.if_icmp .ne 7, 3) := by decide +kernel
theorem dX8_holds_32 : decode cX8_holds 32 = .ok (.iconst 2, 1) := by decide +kernel
theorem dX8_holds_33 : decode cX8_holds 33 = .ok (.goto 13, 3) := by decide +kernel
theorem dX8_holds_36 : decode cX8_holds 36 = .ok (.iload_n 2, 1) := by decide +kernel
theorem dX8_holds_37 : decode cX8_holds 37 = .ok (.iconst 2, 1) := by decide +kernel
theorem dX8_holds_38 : decode cX8_holds 38 = .ok (.if_icmp .ne 7, 3) := by decide +kernel
theorem dX8_holds_41 : decode cX8_holds 41 = .ok (.iconst 3, 1) := by decide +kernel
theorem dX8_holds_42 : decode cX8_holds 42 = .ok (.goto 4, 3) := by decide +kernel
theorem dX8_holds_45 : decode cX8_holds 45 = .ok (.iconst 0, 1) := by decide +kernel
theorem dX8_holds_46 : decode cX8_holds 46 = .ok (.istore_n 3, 1) := by decide +kernel
theorem dX8_holds_47 : decode cX8_holds 47 = .ok (.aload_n 0, 1) := by decide +kernel
theorem dX8_holds_48 : decode cX8_holds 48 = .ok (.iload_n 1, 1) := by decide +kernel
theorem dX8_holds_49 : decode cX8_holds 49 = .ok (.aload_n 0, 1) := by decide +kernel
theorem dX8_holds_50 : decode cX8_holds 50 = .ok (.getfield 7, 3) := by decide +kernel
theorem dX8_holds_53 : decode cX8_holds 53 = .ok (.iconst 0, 1) := by decide +kernel
theorem dX8_holds_54 : decode cX8_holds 54 = .ok (.iaload, 1) := by decide +kernel
theorem dX8_holds_55 : decode cX8_holds 55 = .ok (.invokevirtual 187, 3) := by decide +kernel
theorem dX8_holds_58 : decode cX8_holds 58 = .ok (.istore 4, 2) := by decide +kernel
theorem dX8_holds_60 : decode cX8_holds 60 = .ok (.iconst 0, 1) := by decide +kernel
theorem dX8_holds_61 : decode cX8_holds 61 = .ok (.istore 5, 2) := by decide +kernel
theorem dX8_holds_63 : decode cX8_holds 63 = .ok (.iconst 0, 1) := by decide +kernel
theorem dX8_holds_64 : decode cX8_holds 64 = .ok (.istore 6, 2) := by decide +kernel
theorem dX8_holds_66 : decode cX8_holds 66 = .ok (.iload 6, 2) := by decide +kernel
theorem dX8_holds_68 : decode cX8_holds 68 = .ok (.iload 4, 2) := by decide +kernel
theorem dX8_holds_70 : decode cX8_holds 70 = .ok (.if_icmp .ge 54, 3) := by decide +kernel
theorem dX8_holds_73 : decode cX8_holds 73 = .ok (.iconst 0, 1) := by decide +kernel
theorem dX8_holds_74 : decode cX8_holds 74 = .ok (.istore 7, 2) := by decide +kernel
theorem dX8_holds_76 : decode cX8_holds 76 = .ok (.iload 7, 2) := by decide +kernel
theorem dX8_holds_78 : decode cX8_holds 78 = .ok (.aload_n 0, 1) := by decide +kernel
theorem dX8_holds_79 : decode cX8_holds 79 = .ok (.getfield 110, 3) := by decide +kernel
theorem dX8_holds_82 : decode cX8_holds 82 = .ok (.if_icmp .ge 36, 3) := by decide +kernel
theorem dX8_holds_85 : decode cX8_holds 85 = .ok (.iload 5, 2) := by decide +kernel
theorem dX8_holds_87 : decode cX8_holds 87 = .ok (.aload_n 0, 1) := by decide +kernel
theorem dX8_holds_88 : decode cX8_holds 88 = .ok (.getfield 26, 3) := by decide +kernel
theorem dX8_holds_91 : decode cX8_holds 91 = .ok (.bipush 80, 2) := by decide +kernel
theorem dX8_holds_93 : decode cX8_holds 93 = .ok (.iload 6, 2) := by decide +kernel
theorem dX8_holds_95 : decode cX8_holds 95 = .ok (.imul, 1) := by decide +kernel
theorem dX8_holds_96 : decode cX8_holds 96 = .ok (.iload 7, 2) := by decide +kernel
theorem dX8_holds_98 : decode cX8_holds 98 = .ok (.iadd, 1) := by decide +kernel
theorem dX8_holds_99 : decode cX8_holds 99 = .ok (.baload, 1) := by decide +kernel
theorem dX8_holds_100 : decode cX8_holds 100 = .ok (.iload_n 3, 1) := by decide +kernel
theorem dX8_holds_101 : decode cX8_holds 101 = .ok (.if_icmp .ne 7, 3) := by decide +kernel
theorem dX8_holds_104 : decode cX8_holds 104 = .ok (.iconst 1, 1) := by decide +kernel
theorem dX8_holds_105 : decode cX8_holds 105 = .ok (.goto 4, 3) := by decide +kernel
theorem dX8_holds_108 : decode cX8_holds 108 = .ok (.iconst 0, 1) := by decide +kernel
theorem dX8_holds_109 : decode cX8_holds 109 = .ok (.iadd, 1) := by decide +kernel
theorem dX8_holds_110 : decode cX8_holds 110 = .ok (.istore 5, 2) := by decide +kernel
theorem dX8_holds_112 : decode cX8_holds 112 = .ok (.iinc 7 1, 3) := by decide +kernel
theorem dX8_holds_115 : decode cX8_holds 115 = .ok (.goto (-39), 3) := by decide +kernel
theorem dX8_holds_118 : decode cX8_holds 118 = .ok (.iinc 6 1, 3) := by decide +kernel
theorem dX8_holds_121 : decode cX8_holds 121 = .ok (.goto (-55), 3) := by decide +kernel
theorem dX8_holds_124 : decode cX8_holds 124 = .ok (.iload 5, 2) := by decide +kernel
theorem dX8_holds_126 : decode cX8_holds 126 = .ok (.ireturn, 1) := by decide +kernel
theorem dX8_linesWith_0 : decode cX8_linesWith 0 = .ok (.aload_n 0, 1) := by decide +kernel
theorem dX8_linesWith_1 : decode cX8_linesWith 1 = .ok (.iload_n 1, 1) := by decide +kernel
theorem dX8_linesWith_2 : decode cX8_linesWith 2 = .ok (.invokevirtual 96, 3) := by decide +kernel
theorem dX8_linesWith_5 : decode cX8_linesWith 5 = .ok (.ifCond .eq 23, 3) := by decide +kernel
theorem dX8_linesWith_8 : decode cX8_linesWith 8 = .ok (.iload_n 2, 1) := by decide +kernel
theorem dX8_linesWith_9 : decode cX8_linesWith 9 = .ok (.bipush 20, 2) := by decide +kernel
theorem dX8_linesWith_11 : decode cX8_linesWith 11 = .ok (.bipush 80, 2) := by decide +kernel
theorem dX8_linesWith_13 : decode cX8_linesWith 13 = .ok (.invokestatic 36, 3) := by decide +kernel
theorem dX8_linesWith_16 : decode cX8_linesWith 16 = .ok (.ifCond .eq 12, 3) := by decide +kernel
theorem dX8_linesWith_19 : decode cX8_linesWith 19 = .ok (.aload_n 0, 1) := by decide +kernel
theorem dX8_linesWith_20 : decode cX8_linesWith 20 = .ok (.iload_n 1, 1) := by decide +kernel
theorem dX8_linesWith_21 : decode cX8_linesWith 21 = .ok (.iload_n 2, 1) := by decide +kernel
theorem dX8_linesWith_22 : decode cX8_linesWith 22 = .ok (.invokevirtual 187, 3) := by decide +kernel
theorem dX8_linesWith_25 : decode cX8_linesWith 25 = .ok (.goto 4, 3) := by decide +kernel
theorem dX8_linesWith_28 : decode cX8_linesWith 28 = .ok (.iconst (-1), 1) := by decide +kernel
theorem dX8_linesWith_29 : decode cX8_linesWith 29 = .ok (.ireturn, 1) := by decide +kernel
theorem dX8_leastColumns_0 : decode cX8_leastColumns 0 = .ok (.aload_n 0, 1) := by decide +kernel
theorem dX8_leastColumns_1 : decode cX8_leastColumns 1 = .ok (.iload_n 1, 1) := by decide +kernel
theorem dX8_leastColumns_2 : decode cX8_leastColumns 2 = .ok (.invokevirtual 96, 3) := by decide +kernel
theorem dX8_leastColumns_5 : decode cX8_leastColumns 5 = .ok (.ifCond .eq 13, 3) := by decide +kernel
theorem dX8_leastColumns_8 : decode cX8_leastColumns 8 = .ok (.iload_n 2, 1) := by decide +kernel
theorem dX8_leastColumns_9 : decode cX8_leastColumns 9 = .ok (.iconst 1, 1) := by decide +kernel
theorem dX8_leastColumns_10 : decode cX8_leastColumns 10 = .ok (.bipush 99, 2) := by decide +kernel
theorem dX8_leastColumns_12 : decode cX8_leastColumns 12 = .ok (.invokestatic 36, 3) := by decide +kernel
theorem dX8_leastColumns_15 : decode cX8_leastColumns 15 = .ok (.ifCond .ne 5, 3) := by decide +kernel
theorem dX8_leastColumns_18 : decode cX8_leastColumns 18 = .ok (.iconst (-1), 1) := by decide +kernel
theorem dX8_leastColumns_19 : decode cX8_leastColumns 19 = .ok (.ireturn, 1) := by decide +kernel
theorem dX8_leastColumns_20 : decode cX8_leastColumns 20 = .ok (.bipush 20, 2) := by decide +kernel
theorem dX8_leastColumns_22 : decode cX8_leastColumns 22 = .ok (.istore_n 3, 1) := by decide +kernel
theorem dX8_leastColumns_23 : decode cX8_leastColumns 23 = .ok (.iload_n 3, 1) := by decide +kernel
theorem dX8_leastColumns_24 : decode cX8_leastColumns 24 = .ok (.bipush 80, 2) := by decide +kernel
theorem dX8_leastColumns_26 : decode cX8_leastColumns 26 = .ok (.if_icmp .gt 19, 3) := by decide +kernel
theorem dX8_leastColumns_29 : decode cX8_leastColumns 29 = .ok (.aload_n 0, 1) := by decide +kernel
theorem dX8_leastColumns_30 : decode cX8_leastColumns 30 = .ok (.iload_n 1, 1) := by decide +kernel
theorem dX8_leastColumns_31 : decode cX8_leastColumns 31 = .ok (.iload_n 3, 1) := by decide +kernel
theorem dX8_leastColumns_32 : decode cX8_leastColumns 32 = .ok (.invokevirtual 187, 3) := by decide +kernel
theorem dX8_leastColumns_35 : decode cX8_leastColumns 35 = .ok (.iload_n 2, 1) := by decide +kernel
theorem dX8_leastColumns_36 : decode cX8_leastColumns 36 = .ok (.if_icmp .le 9, 3) := by decide +kernel
theorem dX8_leastColumns_39 : decode cX8_leastColumns 39 = .ok (.iinc 3 1, 3) := by decide +kernel
theorem dX8_leastColumns_42 : decode cX8_leastColumns 42 = .ok (.goto (-19), 3) := by decide +kernel
theorem dX8_leastColumns_45 : decode cX8_leastColumns 45 = .ok (.iload_n 3, 1) := by decide +kernel
theorem dX8_leastColumns_46 : decode cX8_leastColumns 46 = .ok (.bipush 81, 2) := by decide +kernel
theorem dX8_leastColumns_48 : decode cX8_leastColumns 48 = .ok (.invokestatic 190, 3) := by decide +kernel
theorem dX8_leastColumns_51 : decode cX8_leastColumns 51 = .ok (.bipush 80, 2) := by decide +kernel
theorem dX8_leastColumns_53 : decode cX8_leastColumns 53 = .ok (.if_icmp .le 8, 3) := by decide +kernel
theorem dX8_leastColumns_56 : decode cX8_leastColumns 56 = .ok (.bipush (-9), 2) := by decide +kernel
theorem dX8_leastColumns_58 : decode cX8_leastColumns 58 = .ok (.goto 4, 3) := by decide +kernel
theorem dX8_leastColumns_61 : decode cX8_leastColumns 61 = .ok (.iload_n 3, 1) := by decide +kernel
theorem dX8_leastColumns_62 : decode cX8_leastColumns 62 = .ok (.ireturn, 1) := by decide +kernel
theorem dJ9_max_7cf53_0 : decode cJ9_max_7cf53 0 = .ok (.iload_n 0, 1) := by decide +kernel
theorem dJ9_max_7cf53_1 : decode cJ9_max_7cf53 1 = .ok (.iload_n 1, 1) := by decide +kernel
theorem dJ9_max_7cf53_2 : decode cJ9_max_7cf53 2 = .ok (.if_icmp .lt 7, 3) := by decide +kernel
theorem dJ9_max_7cf53_5 : decode cJ9_max_7cf53 5 = .ok (.iload_n 0, 1) := by decide +kernel
theorem dJ9_max_7cf53_6 : decode cJ9_max_7cf53 6 = .ok (.goto 4, 3) := by decide +kernel
theorem dJ9_max_7cf53_9 : decode cJ9_max_7cf53 9 = .ok (.iload_n 1, 1) := by decide +kernel
theorem dJ9_max_7cf53_10 : decode cJ9_max_7cf53 10 = .ok (.ireturn, 1) := by decide +kernel
theorem dJ9_min_7cf53_0 : decode cJ9_min_7cf53 0 = .ok (.iload_n 0, 1) := by decide +kernel
theorem dJ9_min_7cf53_1 : decode cJ9_min_7cf53 1 = .ok (.iload_n 1, 1) := by decide +kernel
theorem dJ9_min_7cf53_2 : decode cJ9_min_7cf53 2 = .ok (.if_icmp .gt 7, 3) := by decide +kernel
theorem dJ9_min_7cf53_5 : decode cJ9_min_7cf53 5 = .ok (.iload_n 0, 1) := by decide +kernel
theorem dJ9_min_7cf53_6 : decode cJ9_min_7cf53 6 = .ok (.goto 4, 3) := by decide +kernel
theorem dJ9_min_7cf53_9 : decode cJ9_min_7cf53 9 = .ok (.iload_n 1, 1) := by decide +kernel
theorem dJ9_min_7cf53_10 : decode cJ9_min_7cf53 10 = .ok (.ireturn, 1) := by decide +kernel
end
section
/-! A small machine over the kit: values are whole numbers or names of cells; a world is a size, the shapes, the numbers and the references -/
abbrev MV : Type := Int ⊕ Option Nat
abbrev Wd : Type := Nat × (Nat → Nat × Nat) × (Nat → Int → Int) × (Nat → Int → Option Nat)
def tv (b : Nat) (v : MV) : Value := match v with
  | .inl z => .int (Int32.ofInt z)
  | .inr r => va_rf (r.map (fun k => b + k))
abbrev cls9 : List vw_C := [(RX0, TX0, 12), (RX1, TX1, 3), (RX2, TX2, 6), (RX3, TX3, 5), (RX4, TX4, 4), (RX5, TX5, 3), (RX6, TX6, 6), (RX7, TX7, 7), (RX8, TX8, 18)]
def tyC (ci : Nat) : Nat → FieldType := match ci with
  | 0 => tyX0
  | 1 => tyX1
  | 2 => tyX2
  | 3 => tyX3
  | 4 => tyX4
  | 5 => tyX5
  | 6 => tyX6
  | 7 => tyX7
  | _ => tyX8
def nF (ci : Nat) : Nat := match ci with
  | 0 => 12
  | 1 => 3
  | 2 => 6
  | 3 => 5
  | 4 => 4
  | 5 => 3
  | 6 => 6
  | 7 => 7
  | _ => 18
def isI (t : FieldType) : Bool := match t with
  | .int => true
  | _ => false
def fV (b : Nat) (w : Wd) (k ci j : Nat) : Value := if isI (tyC ci j) = true then .int (Int32.ofInt (w.2.2.1 k j)) else va_rf ((w.2.2.2 k j).map (fun q => b + q))
def wF (b : Nat) (w : Wd) (k ci : Nat) : List Value := (List.range (nF ci)).map (fun j => fV b w k ci j)
def wE (b : Nat) (dA : Nat → ClassId) (w : Wd) (k : Nat) : va_E :=
  if (w.2.1 k).1 < 100 then .inr ((w.2.1 k).1, wF b w k (w.2.1 k).1)
  else if (w.2.1 k).1 < 102 then .inl (dA ((w.2.1 k).1 - 100), (w.2.1 k).2, .inl (fun j => Int32.ofInt (w.2.2.1 k j)))
  else .inl (dA ((w.2.1 k).1 - 100), (w.2.1 k).2, .inr (.inr (.inr (.inr (fun j => (w.2.2.2 k j).map (fun q => b + q))))))
def wL (b : Nat) (dA : Nat → ClassId) (w : Wd) : va_W := (List.range w.1).map (fun k => (b + k, wE b dA w k))
def Rp (D : va_G) (dA : Nat → ClassId) (b : Nat) (w : Wd) (H : Heap) : Prop := va_P D cls9 (wL b dA w) H ∧ H.size = b + w.1
abbrev tysA (dA : Nat → ClassId) : List (ClassId × FieldType) := [(dA 0, .int), (dA 1, .byte), (dA 2, .object RX3), (dA 3, .object RX5), (dA 4, .object RX1), (dA 5, .array .int)]
def nestT : List (String × Nat × MethodName × String) := [(RX3, 30, yX5_init, RX7), (RX3, 31, yX1_init, RX7), (RX7, 26, yX4_init, RX7), (RX4, 11, yX5_init, RX7), (RX7, 33, yX0_init, RX7), (RX0, 11, yX6_init, RX7), (RX0, 20, yX2_init, RX7), (RX5, 23, yX7_isWithin, RX7), (RX4, 67, yX7_isDigit, RX7), (RX4, 70, yX7_leaderCharacter, RX7), (RX1, 19, yX7_isWithin, RX7), (RX6, 50, yX7_isWithin, RX7), (RX0, 87, yX7_multipleBehind, RX7), (RX2, 31, yX7_isWithin, RX7)]
def EnvK (D : va_G) (dA : Nat → ClassId) (s : State) : Prop := va_K D cls9 (tysA dA) s ∧ (∀ q ∈ nestT, va_Nw (.methodLinkNest q.1 q.2.1 q.2.2.1 q.2.2.2) s) ∧ va_AO RX3 s ∧ va_AO RX5 s ∧ va_AO RX1 s
theorem EnvK.moved {D : va_G} {dA : Nat → ClassId} {s U : State} (hW : s.WarmedH U.vm) (h : EnvK D dA s) : EnvK D dA U :=
  ⟨va_K.moved hW.alike h.1, fun q hq => va_Nw.warmM hW (h.2.1 q hq), va_AO.moved hW.alike h.2.2.1, va_AO.moved hW.alike h.2.2.2.1, va_AO.moved hW.alike h.2.2.2.2⟩
def lw_U : List Cond := lw_tbl.filter goodWord
theorem lw_U_good : ∀ w ∈ lw_U, (w.onTables && w.keeps) = true ∨ ∃ ty, w = .arrayClass ty := fun w hw => good_of_word (List.mem_filter.mp hw).2
def rmD (d mc ms : Nat) : Room := { frames := d, cells := mc, slots := ms, locals := 40 * d }
def QP (D : va_G) (dA : Nat → ClassId) (b : Nat) (Post : Option MV → Wd → Prop) : Array Value → State → Outcome → State → Prop := fun _ st oc t =>
  (∃ (r : Option MV) (w' : Wd), oc = .returned (r.map (tv b)) ∧ Post r w' ∧ Rp D dA b w' t.heap) ∧ va_F (fun q => b ≤ q) st t
def CC (d mc ms : Nat) (y : MethodName) (cc : ByteArray) (nL : Nat) (rt : Option FieldType) (as : List MV) (w : Wd) (Post : Option MV → Wd → Prop) : Prop :=
  ∀ (l : Launch) (D : va_G) (dA : Nat → ClassId) (b : Nat), Met l y (Cond.code y cc nL rt :: lw_U) (rmD d mc ms) (va_Pc (as.map (tv b)) (fun U => Rp D dA b w U.heap ∧ EnvK D dA U)) (QP D dA b Post) mc ms (fun q => b ≤ q)
def Cx (cc : ByteArray) (own : String) (nL : Nat) (rt : Option FieldType) (ini : Bool) (D : va_G) (dA : Nat → ClassId) (p : Program) (s : State) (m : MethodId) (args : Array Value) (meth : Method) (c : Code) : Prop :=
  p.tables.exec = Jvm.exec ∧ c.code = cc ∧ c.maxLocals = nL ∧ meth.sig.returnType = rt ∧ meth.locks = false ∧ (ini = true → meth.name = "<init>") ∧ s.vm.findClass own = some m.cls ∧ (∀ w ∈ lw_U, w.before args s = true) ∧ EnvK D dA s
def lg : List (Option MV) → Nat → Option MV
  | [], _ => none
  | a :: _, 0 => a
  | _ :: l, n + 1 => lg l n
def lset : List (Option MV) → Nat → MV → List (Option MV)
  | [], _, _ => []
  | _ :: l, 0, v => some v :: l
  | a :: l, n + 1, v => a :: lset l n v
def LsOk (b nL : Nat) (ls : List (Option MV)) (A : Array Slot) : Prop := A.size = nL ∧ lv_wf A ∧ ∀ (i : Nat) (v : MV), lg ls i = some v → A[i]? = some (.val (tv b v))
def WW (cc : ByteArray) (own : String) (nL : Nat) (rt : Option FieldType) (ini : Bool) (d mc ms : Nat) (Post : Option MV → Wd → Prop) (uc us pc : Nat) (ls : List (Option MV)) (st : List MV) (w : Wd) : Prop :=
  ∀ (l : Launch) (D : va_G) (dA : Nat → ClassId) (b : Nat) (p : Program) (e : Env) (s : State) (m : MethodId) (args : Array Value) (below : List Frame) (meth : Method) (c : Code) (H : Heap) (locs : List Loc) (A : Array Slot),
    Cx cc own nL rt ini D dA p s m args meth c → b ≤ s.heap.size → va_S (fun q => b ≤ q) s.heap H locs → Rp D dA b w H → LsOk b nL ls A →
    W p l e (rmD d mc ms) s m args below meth c H locs uc us (MQ below (QP D dA b Post) args s mc ms (fun q => b ≤ q)) (F0 m pc A (st.map (tv b)))
/-! numbers -/
theorem i32_ti {z : Int} (h : -2147483648 ≤ z ∧ z ≤ 2147483647) : (Int32.ofInt z).toInt = z := Int32.toInt_ofInt_of_le (by omega) (by omega)
theorem i32_lt {a b : Int} (ha : -2147483648 ≤ a ∧ a ≤ 2147483647) (hb : -2147483648 ≤ b ∧ b ≤ 2147483647) : Int32.ofInt a < Int32.ofInt b ↔ a < b := by
  rw [Int32.lt_iff_toInt_lt, i32_ti ha, i32_ti hb]
theorem i32_le {a b : Int} (ha : -2147483648 ≤ a ∧ a ≤ 2147483647) (hb : -2147483648 ≤ b ∧ b ≤ 2147483647) : Int32.ofInt a ≤ Int32.ofInt b ↔ a ≤ b := by
  rw [Int32.le_iff_toInt_le, i32_ti ha, i32_ti hb]
theorem i32_eq {a b : Int} (ha : -2147483648 ≤ a ∧ a ≤ 2147483647) (hb : -2147483648 ≤ b ∧ b ≤ 2147483647) : Int32.ofInt a = Int32.ofInt b ↔ a = b := by
  rw [← Int32.toInt_inj, i32_ti ha, i32_ti hb]
theorem i32_cl {z : Int} (h : 0 ≤ z ∧ z ≤ 2147483647) : (Int32.ofInt z).toNatClampNeg = z.toNat := by
  rw [← Int32.toNat_toInt, i32_ti (by omega)]
theorem i32_in {z : Int} {n : Nat} (h : 0 ≤ z ∧ z < n) (hn : n ≤ 2147483647) : vp_in (Int32.ofInt z) n := by
  rw [vp_in_iff, i32_ti (by omega)]
  exact h
theorem i32_div {a b : Int} (ha : 0 ≤ a ∧ a ≤ 2147483647) (hb : 0 < b ∧ b ≤ 2147483647) : Int32.ofInt a / Int32.ofInt b = Int32.ofInt (a / b) := by
  rw [← Int32.toInt_inj, Int32.toInt_div, i32_ti (by omega), i32_ti (by omega), Int.tdiv_eq_ediv_of_nonneg ha.1]
  have h1 : 0 ≤ a / b := Int.ediv_nonneg ha.1 (by omega)
  have h2 : a / b ≤ a := Int.ediv_le_self b ha.1
  rw [i32_ti (by omega)]
  exact Int.bmod_eq_of_le (by omega) (by omega)
theorem i32_rem {a b : Int} (ha : 0 ≤ a ∧ a ≤ 2147483647) (hb : 0 < b ∧ b ≤ 2147483647) : Int32.ofInt a - Int32.ofInt a / Int32.ofInt b * Int32.ofInt b = Int32.ofInt (a % b) := by
  rw [i32_div ha hb, ← Int32.ofInt_mul, ← Int32.ofInt_sub]
  congr 1
  rw [Int.emod_def, Int.mul_comm]
theorem i32_bip {n : Int} (h : -128 ≤ n ∧ n ≤ 127) : (Int8.ofInt n).toInt32 = Int32.ofInt n := by
  rw [← Int32.toInt_inj, Int8.toInt_toInt32, Int8.toInt_ofInt_of_le (by omega) (by omega), i32_ti (by omega)]
theorem i32_sip {n : Int} (h : -32768 ≤ n ∧ n ≤ 32767) : (Int16.ofInt n).toInt32 = Int32.ofInt n := by
  rw [← Int32.toInt_inj, Int16.toInt_toInt32, Int16.toInt_ofInt_of_le (by omega) (by omega), i32_ti (by omega)]
theorem i32_0 : Int32.ofInt 0 = 0 := rfl
theorem i32_i2b (z : Int) : (Int32.ofInt z).toInt8.toInt32 = Int32.ofInt (z.bmod 256) := by
  rw [Int32.toInt8_ofInt, ← Int32.toInt_inj, Int8.toInt_toInt32, Int8.toInt_ofInt]
  have h1 := Int.bmod_lt (x := z) (m := 256) (by omega)
  have h2 := Int.le_bmod (x := z) (m := 256) (by omega)
  rw [i32_ti (by omega)]
theorem i32_nb {z : Int} (h : -128 ≤ z ∧ z ≤ 127) : vp_nar .byte (Int32.ofInt z) = Int32.ofInt z := by
  rw [vp_nar_byte, i32_i2b]
  congr 1
  exact Int.bmod_eq_of_le (by omega) (by omega)
/-! the world's rows -/
def u2 {α : Type} (f : Nat → Int → α) (a : Nat) (j : Int) (z : α) : Nat → Int → α := fun a' j' => if a' = a ∧ j' = j then z else f a' j'
theorem u2_s {α : Type} {f : Nat → Int → α} {a : Nat} {j : Int} {z : α} : u2 f a j z a j = z := if_pos ⟨rfl, rfl⟩
theorem u2_n {α : Type} {f : Nat → Int → α} {a a' : Nat} {j j' : Int} {z : α} (h : a' ≠ a ∨ j' ≠ j) : u2 f a j z a' j' = f a' j' := if_neg (fun q => h.elim (fun h => h q.1) (fun h => h q.2))
abbrev setI (w : Wd) (a : Nat) (j z : Int) : Wd := (w.1, w.2.1, u2 w.2.2.1 a j z, w.2.2.2)
abbrev setR (w : Wd) (a : Nat) (j : Int) (z : Option Nat) : Wd := (w.1, w.2.1, w.2.2.1, u2 w.2.2.2 a j z)
theorem wL_get {b : Nat} {dA : Nat → ClassId} {w : Wd} {k : Nat} (h : k < w.1) : (wL b dA w)[k]? = some (b + k, wE b dA w k) := by
  unfold wL
  rw [List.getElem?_map, List.getElem?_range h]
  rfl
theorem wL_obj {b : Nat} {dA : Nat → ClassId} {w : Wd} {k ci n : Nat} (h : k < w.1) (hs : w.2.1 k = (ci, n)) (hc : ci < 100) : (wL b dA w)[k]? = some (b + k, .inr (ci, wF b w k ci)) := by
  rw [wL_get h]
  unfold wE
  rw [hs, if_pos hc]
theorem wL_int {b : Nat} {dA : Nat → ClassId} {w : Wd} {k t n : Nat} (h : k < w.1) (hs : w.2.1 k = (100 + t, n)) (hc : t < 2) : (wL b dA w)[k]? = some (b + k, .inl (dA t, n, .inl (fun j => Int32.ofInt (w.2.2.1 k j)))) := by
  rw [wL_get h]
  unfold wE
  rw [hs, if_neg (by omega), if_pos (by show 100 + t < 102; omega)]
  show some (b + k, Sum.inl (dA (100 + t - 100), _)) = _
  rw [Nat.add_sub_cancel_left]
theorem wL_ref {b : Nat} {dA : Nat → ClassId} {w : Wd} {k t n : Nat} (h : k < w.1) (hs : w.2.1 k = (100 + t, n)) (hc : 2 ≤ t) : (wL b dA w)[k]? = some (b + k, .inl (dA t, n, .inr (.inr (.inr (.inr (fun j => (w.2.2.2 k j).map (fun q => b + q))))))) := by
  rw [wL_get h]
  unfold wE
  rw [hs, if_neg (by show ¬ 100 + t < 100; omega), if_neg (by show ¬ 100 + t < 102; omega)]
  show some (b + k, Sum.inl (dA (100 + t - 100), _)) = _
  rw [Nat.add_sub_cancel_left]
theorem wL_D (b : Nat) (dA : Nat → ClassId) (w : Wd) : va_D (fun q => b ≤ q) (wL b dA w) := by
  have key : ∀ (k : Nat) (q : Nat × va_E), (wL b dA w)[k]? = some q → q.1 = b + k := by
    intro k q h
    have hk : k < w.1 := by
      have := (List.getElem?_eq_some_iff.mp h).1
      simpa [wL] using this
    rw [wL_get hk] at h
    cases h
    rfl
  refine ⟨fun i j p q hi hj h => ?_, fun k q h => ?_⟩
  · have h1 := key i p hi
    have h2 := key j q hj
    omega
  · have h1 := key k q h
    show b ≤ q.1
    omega
/-- the world with one cell's numbers or references changed -/
theorem wL_set {b : Nat} {dA : Nat → ClassId} {w w' : Wd} {k : Nat} {e : va_E} (hk : k < w.1) (h1 : w'.1 = w.1) (he : wE b dA w' k = e) (hn : ∀ q, q ≠ k → wE b dA w' q = wE b dA w q) : (wL b dA w).set k (b + k, e) = wL b dA w' := by
  apply List.ext_getElem?
  intro q
  by_cases hq : q < w.1
  · rw [wL_get (w := w') (by rw [h1]; exact hq)]
    by_cases hqk : q = k
    · subst hqk
      rw [List.getElem?_set_self (by simpa [wL] using hq), he]
    · rw [List.getElem?_set_ne (Ne.symm hqk), wL_get hq, hn q hqk]
  · rw [List.getElem?_eq_none (by simp [wL]; omega), List.getElem?_eq_none (by simp [wL, h1]; omega)]
theorem wE_setI {b : Nat} {dA : Nat → ClassId} {w : Wd} {a : Nat} {j z : Int} (q : Nat) (h : q ≠ a) : wE b dA (setI w a j z) q = wE b dA w q := by
  have e : ∀ x : Int, u2 w.2.2.1 a j z q x = w.2.2.1 q x := fun x => u2_n (Or.inl h)
  unfold wE wF fV setI
  simp only [e]
theorem wE_setR {b : Nat} {dA : Nat → ClassId} {w : Wd} {a : Nat} {j : Int} {z : Option Nat} (q : Nat) (h : q ≠ a) : wE b dA (setR w a j z) q = wE b dA w q := by
  have e : ∀ x : Int, u2 w.2.2.2 a j z q x = w.2.2.2 q x := fun x => u2_n (Or.inl h)
  unfold wE wF fV setR
  simp only [e]
theorem wF_get {b : Nat} {w : Wd} {k ci j : Nat} (h : j < nF ci) : (wF b w k ci)[j]? = some (fV b w k ci j) := by
  unfold wF
  rw [List.getElem?_map, List.getElem?_range h]
  rfl
theorem wF_setI {b : Nat} {w : Wd} {a ci j : Nat} {z : Int} (hj : j < nF ci) (hi : isI (tyC ci j) = true) : wF b (setI w a j z) a ci = (wF b w a ci).set j (.int (Int32.ofInt z)) := by
  apply List.ext_getElem?
  intro q
  by_cases hq : q < nF ci
  · rw [wF_get hq]
    by_cases hqj : q = j
    · subst hqj
      rw [List.getElem?_set_self (by simpa [wF] using hq)]
      unfold fV
      rw [if_pos hi]
      show some (Value.int (Int32.ofInt (u2 w.2.2.1 a (q : Int) z a (q : Int)))) = _
      rw [u2_s]
    · rw [List.getElem?_set_ne (Ne.symm hqj), wF_get hq]
      unfold fV
      have e : u2 w.2.2.1 a (j : Int) z a (q : Int) = w.2.2.1 a (q : Int) := u2_n (Or.inr (by omega))
      show some (if _ then Value.int (Int32.ofInt (u2 w.2.2.1 a (j : Int) z a (q : Int))) else _) = _
      rw [e]
  · rw [List.getElem?_eq_none (by simp [wF]; omega), List.getElem?_eq_none (by simp [wF]; omega)]
theorem wF_setR {b : Nat} {w : Wd} {a ci j : Nat} {z : Option Nat} (hj : j < nF ci) (hi : isI (tyC ci j) = false) : wF b (setR w a j z) a ci = (wF b w a ci).set j (va_rf (z.map (fun q => b + q))) := by
  apply List.ext_getElem?
  intro q
  by_cases hq : q < nF ci
  · rw [wF_get hq]
    by_cases hqj : q = j
    · subst hqj
      rw [List.getElem?_set_self (by simpa [wF] using hq)]
      unfold fV
      rw [if_neg (by rw [hi]; decide)]
      show some (va_rf ((u2 w.2.2.2 a (q : Int) z a (q : Int)).map _)) = _
      rw [u2_s]
    · rw [List.getElem?_set_ne (Ne.symm hqj), wF_get hq]
      unfold fV
      have e : u2 w.2.2.2 a (j : Int) z a (q : Int) = w.2.2.2 a (q : Int) := u2_n (Or.inr (by omega))
      show some (if _ then _ else va_rf ((u2 w.2.2.2 a (j : Int) z a (q : Int)).map _)) = _
      rw [e]
  · rw [List.getElem?_eq_none (by simp [wF]; omega), List.getElem?_eq_none (by simp [wF]; omega)]
/-! locals -/
theorem lg_set {ls : List (Option MV)} {i : Nat} {v : MV} {j : Nat} {x : MV} (h : lg (lset ls i v) j = some x) : (j = i ∧ x = v) ∨ (j ≠ i ∧ lg ls j = some x) := by
  induction ls generalizing i j with
  | nil => simp [lset, lg] at h
  | cons a l ih =>
    cases i with
    | zero =>
      cases j with
      | zero => simp [lset, lg] at h; exact Or.inl ⟨rfl, h.symm⟩
      | succ j => simp [lset, lg] at h; exact Or.inr ⟨by omega, h⟩
    | succ i =>
      cases j with
      | zero => simp [lset, lg] at h; exact Or.inr ⟨by omega, h⟩
      | succ j =>
        simp only [lset, lg] at h
        rcases ih h with ⟨h1, h2⟩ | ⟨h1, h2⟩
        · exact Or.inl ⟨by omega, h2⟩
        · exact Or.inr ⟨by omega, h2⟩
def lvL (b : Nat) (ls : List (Option MV)) : List (Nat × Value) := (List.range ls.length).filterMap (fun i => (lg ls i).map (fun v => (i, tv b v)))
theorem lg_lt {ls : List (Option MV)} {i : Nat} {v : MV} (h : lg ls i = some v) : i < ls.length := by
  induction ls generalizing i with
  | nil => simp [lg] at h
  | cons a l ih =>
    cases i with
    | zero => simp
    | succ i =>
      have := ih (i := i) h
      simp
      omega
theorem lvL_in {b : Nat} {ls : List (Option MV)} {i : Nat} {v : MV} (h : lg ls i = some v) : (i, tv b v) ∈ lvL b ls := by
  unfold lvL
  exact List.mem_filterMap.mpr ⟨i, List.mem_range.mpr (lg_lt h), by rw [h]; rfl⟩
theorem lvL_has {b nL : Nat} {ls : List (Option MV)} {A : Array Slot} (h : LsOk b nL ls A) : lv_has A nL (lvL b ls) := by
  refine ⟨h.1, h.2.1, fun q hq => ?_⟩
  obtain ⟨i, -, hi⟩ := List.mem_filterMap.mp hq
  cases hv : lg ls i with
  | none => rw [hv] at hi; cases hi
  | some v =>
    rw [hv] at hi
    cases hi
    exact h.2.2 i v hv
theorem tv_cat (b : Nat) (v : MV) : (tv b v).category = 1 := by
  obtain z | r := v
  · rfl
  · cases r <;> rfl
theorem lsOk_set {b nL i : Nat} {ls : List (Option MV)} {v : MV} {x : Value} {A' : Array Slot} (hx : tv b v = x) (h : lv_has A' nL ((i, x) :: (lvL b ls).filter (fun q => !(q.1 == i) && !(q.1 + 1 == i && q.2.category == 2)))) : LsOk b nL (lset ls i v) A' := by
  refine ⟨h.1, h.2.1, fun j y hy => ?_⟩
  rcases lg_set hy with ⟨rfl, rfl⟩ | ⟨h1, h2⟩
  · rw [hx]
    exact h.2.2 (j, x) List.mem_cons_self
  · refine h.2.2 (j, tv b y) (List.mem_cons_of_mem _ (List.mem_filter.mpr ⟨lvL_in h2, ?_⟩))
    simp [h1, tv_cat]
end
section
section RW
variable {cc : ByteArray} {own : String} {nL : Nat} {rt : Option FieldType} {ini : Bool} {d mc ms : Nat} {Post : Option MV → Wd → Prop} {uc us pc : Nat} {ls : List (Option MV)} {st : List MV} {w : Wd}
theorem r_iconst {n : Int} (hdg : decode cc pc = .ok (.iconst n, 1))  (k : WW cc own nL rt ini d mc ms Post uc us (pc + 1) ls (.inl n :: st) w) : WW cc own nL rt ini d mc ms Post uc us pc ls (st) w := by
  intro l D dA b p e_ s m args below meth c H locs A hC hb0 hS hR hL
  have k := k l D dA b p e_ s m args below meth c H locs A hC hb0 hS hR hL
  exact lv_iconst hC.1 hC.2.1 hdg rfl k
theorem r_bipush {n : Int} (hdg : decode cc pc = .ok (.bipush n, 2)) (hn : -128 ≤ n ∧ n ≤ 127) (k : WW cc own nL rt ini d mc ms Post uc us (pc + 2) ls (.inl n :: st) w) : WW cc own nL rt ini d mc ms Post uc us pc ls (st) w := by
  intro l D dA b p e_ s m args below meth c H locs A hC hb0 hS hR hL
  have k := k l D dA b p e_ s m args below meth c H locs A hC hb0 hS hR hL
  exact lv_bipush hC.1 hC.2.1 hdg (i32_bip hn) k
theorem r_sipush {n : Int} (hdg : decode cc pc = .ok (.sipush n, 3)) (hn : -32768 ≤ n ∧ n ≤ 32767) (k : WW cc own nL rt ini d mc ms Post uc us (pc + 3) ls (.inl n :: st) w) : WW cc own nL rt ini d mc ms Post uc us pc ls (st) w := by
  intro l D dA b p e_ s m args below meth c H locs A hC hb0 hS hR hL
  have k := k l D dA b p e_ s m args below meth c H locs A hC hb0 hS hR hL
  exact lv_sipush hC.1 hC.2.1 hdg (i32_sip hn) k
theorem r_iload_n {q : Fin 4} {z : Int} (hdg : decode cc pc = .ok (.iload_n q, 1)) (h : lg ls q = some (.inl z)) (k : WW cc own nL rt ini d mc ms Post uc us (pc + 1) ls (.inl z :: st) w) : WW cc own nL rt ini d mc ms Post uc us pc ls (st) w := by
  intro l D dA b p e_ s m args below meth c H locs A hC hb0 hS hR hL
  have k := k l D dA b p e_ s m args below meth c H locs A hC hb0 hS hR hL
  exact lv_iload_n hC.1 hC.2.1 hdg rfl (hL.2.2 _ _ h) k
theorem r_iload {i : Nat} {z : Int} (hdg : decode cc pc = .ok (.iload i, 2)) (h : lg ls i = some (.inl z)) (k : WW cc own nL rt ini d mc ms Post uc us (pc + 2) ls (.inl z :: st) w) : WW cc own nL rt ini d mc ms Post uc us pc ls (st) w := by
  intro l D dA b p e_ s m args below meth c H locs A hC hb0 hS hR hL
  have k := k l D dA b p e_ s m args below meth c H locs A hC hb0 hS hR hL
  exact lv_iload hC.1 hC.2.1 hdg (hL.2.2 _ _ h) k
theorem r_aload_n {q : Fin 4} {a : Nat} (hdg : decode cc pc = .ok (.aload_n q, 1)) (h : lg ls q = some (.inr (some a))) (k : WW cc own nL rt ini d mc ms Post uc us (pc + 1) ls (.inr (some a) :: st) w) : WW cc own nL rt ini d mc ms Post uc us pc ls (st) w := by
  intro l D dA b p e_ s m args below meth c H locs A hC hb0 hS hR hL
  have k := k l D dA b p e_ s m args below meth c H locs A hC hb0 hS hR hL
  exact lv_aload_n hC.1 hC.2.1 hdg rfl (hL.2.2 _ _ h) k
theorem r_aload {i a : Nat} (hdg : decode cc pc = .ok (.aload i, 2)) (h : lg ls i = some (.inr (some a))) (k : WW cc own nL rt ini d mc ms Post uc us (pc + 2) ls (.inr (some a) :: st) w) : WW cc own nL rt ini d mc ms Post uc us pc ls (st) w := by
  intro l D dA b p e_ s m args below meth c H locs A hC hb0 hS hR hL
  have k := k l D dA b p e_ s m args below meth c H locs A hC hb0 hS hR hL
  exact lv_aload hC.1 hC.2.1 hdg (hL.2.2 _ _ h) k
theorem r_istore_n {q : Fin 4} {z : Int} (hdg : decode cc pc = .ok (.istore_n q, 1)) (hi : (q : Nat) < nL) (k : WW cc own nL rt ini d mc ms Post uc us (pc + 1) (lset ls q (.inl z)) st w) : WW cc own nL rt ini d mc ms Post uc us pc ls (.inl z :: st) w := by
  intro l D dA b p e_ s m args below meth c H locs A hC hb0 hS hR hL
  refine lv_istore_n hC.1 hC.2.1 hdg rfl (lvL_has hL) hi rfl (fun A1 hA => ?_)
  exact k l D dA b p e_ s m args below meth c H locs A1 hC hb0 hS hR (lsOk_set rfl hA)
theorem r_istore {i : Nat} {z : Int} (hdg : decode cc pc = .ok (.istore i, 2)) (hi : (i : Nat) < nL) (k : WW cc own nL rt ini d mc ms Post uc us (pc + 2) (lset ls i (.inl z)) st w) : WW cc own nL rt ini d mc ms Post uc us pc ls (.inl z :: st) w := by
  intro l D dA b p e_ s m args below meth c H locs A hC hb0 hS hR hL
  refine lv_istore hC.1 hC.2.1 hdg  (lvL_has hL) hi rfl (fun A1 hA => ?_)
  exact k l D dA b p e_ s m args below meth c H locs A1 hC hb0 hS hR (lsOk_set rfl hA)
theorem r_astore_n {q : Fin 4} {a : Nat} (hdg : decode cc pc = .ok (.astore_n q, 1)) (hi : (q : Nat) < nL) (k : WW cc own nL rt ini d mc ms Post uc us (pc + 1) (lset ls q (.inr (some a))) st w) : WW cc own nL rt ini d mc ms Post uc us pc ls (.inr (some a) :: st) w := by
  intro l D dA b p e_ s m args below meth c H locs A hC hb0 hS hR hL
  refine lv_astore_n hC.1 hC.2.1 hdg rfl (lvL_has hL) hi rfl (fun A1 hA => ?_)
  exact k l D dA b p e_ s m args below meth c H locs A1 hC hb0 hS hR (lsOk_set rfl hA)
theorem r_astore {i a : Nat} (hdg : decode cc pc = .ok (.astore i, 2)) (hi : (i : Nat) < nL) (k : WW cc own nL rt ini d mc ms Post uc us (pc + 2) (lset ls i (.inr (some a))) st w) : WW cc own nL rt ini d mc ms Post uc us pc ls (.inr (some a) :: st) w := by
  intro l D dA b p e_ s m args below meth c H locs A hC hb0 hS hR hL
  refine lv_astore hC.1 hC.2.1 hdg  (lvL_has hL) hi rfl (fun A1 hA => ?_)
  exact k l D dA b p e_ s m args below meth c H locs A1 hC hb0 hS hR (lsOk_set rfl hA)
theorem r_iinc {i : Nat} {n z : Int} (hdg : decode cc pc = .ok (.iinc i n, 3)) (h : lg ls i = some (.inl z)) (hi : i < nL) (k : WW cc own nL rt ini d mc ms Post uc us (pc + 3) (lset ls i (.inl (z + n))) st w) : WW cc own nL rt ini d mc ms Post uc us pc ls st w := by
  intro l D dA b p e_ s m args below meth c H locs A hC hb0 hS hR hL
  obtain ⟨q, hq⟩ := List.getElem?_of_mem (lvL_in (b := b) h)
  refine lv_iinc hC.1 hC.2.1 hdg (lvL_has hL) hq rfl hi rfl (fun A1 hA => ?_)
  exact k l D dA b p e_ s m args below meth c H locs A1 hC hb0 hS hR (lsOk_set (by show Value.int (Int32.ofInt (z + n)) = _; rw [Int32.ofInt_add]) hA)
theorem r_iadd {x y : Int} (hdg : decode cc pc = .ok (.iadd, 1))  (k : WW cc own nL rt ini d mc ms Post uc us (pc + 1) ls (.inl (x + y) :: st) w) : WW cc own nL rt ini d mc ms Post uc us pc ls (.inl y :: .inl x :: st) w := by
  intro l D dA b p e_ s m args below meth c H locs A hC hb0 hS hR hL
  have k := k l D dA b p e_ s m args below meth c H locs A hC hb0 hS hR hL
  refine lv_iadd hC.1 hC.2.1 hdg ?_
  rw [← Int32.ofInt_add]
  exact k
theorem r_isub {x y : Int} (hdg : decode cc pc = .ok (.isub, 1))  (k : WW cc own nL rt ini d mc ms Post uc us (pc + 1) ls (.inl (x - y) :: st) w) : WW cc own nL rt ini d mc ms Post uc us pc ls (.inl y :: .inl x :: st) w := by
  intro l D dA b p e_ s m args below meth c H locs A hC hb0 hS hR hL
  have k := k l D dA b p e_ s m args below meth c H locs A hC hb0 hS hR hL
  refine lv_isub hC.1 hC.2.1 hdg ?_
  rw [← Int32.ofInt_sub]
  exact k
theorem r_imul {x y : Int} (hdg : decode cc pc = .ok (.imul, 1))  (k : WW cc own nL rt ini d mc ms Post uc us (pc + 1) ls (.inl (x * y) :: st) w) : WW cc own nL rt ini d mc ms Post uc us pc ls (.inl y :: .inl x :: st) w := by
  intro l D dA b p e_ s m args below meth c H locs A hC hb0 hS hR hL
  have k := k l D dA b p e_ s m args below meth c H locs A hC hb0 hS hR hL
  refine lv_imul hC.1 hC.2.1 hdg ?_
  rw [← Int32.ofInt_mul]
  exact k
theorem r_idiv {x y : Int} (hdg : decode cc pc = .ok (.idiv, 1)) (hx : 0 ≤ x ∧ x ≤ 2147483647) (hy : 0 < y ∧ y ≤ 2147483647) (k : WW cc own nL rt ini d mc ms Post uc us (pc + 1) ls (.inl (x / y) :: st) w) : WW cc own nL rt ini d mc ms Post uc us pc ls (.inl y :: .inl x :: st) w := by
  intro l D dA b p e_ s m args below meth c H locs A hC hb0 hS hR hL
  have k := k l D dA b p e_ s m args below meth c H locs A hC hb0 hS hR hL
  refine lv_idiv hC.1 hC.2.1 hdg (fun q => ?_) ?_
  · rw [← i32_0, i32_eq (by omega) (by omega)] at q
    omega
  · rw [i32_div hx hy]
    exact k
theorem r_irem {x y : Int} (hdg : decode cc pc = .ok (.irem, 1)) (hx : 0 ≤ x ∧ x ≤ 2147483647) (hy : 0 < y ∧ y ≤ 2147483647) (k : WW cc own nL rt ini d mc ms Post uc us (pc + 1) ls (.inl (x % y) :: st) w) : WW cc own nL rt ini d mc ms Post uc us pc ls (.inl y :: .inl x :: st) w := by
  intro l D dA b p e_ s m args below meth c H locs A hC hb0 hS hR hL
  have k := k l D dA b p e_ s m args below meth c H locs A hC hb0 hS hR hL
  refine lv_irem hC.1 hC.2.1 hdg (fun q => ?_) ?_
  · rw [← i32_0, i32_eq (by omega) (by omega)] at q
    omega
  · rw [i32_rem hx hy]
    exact k
theorem r_i2b {x : Int} (hdg : decode cc pc = .ok (.i2b, 1))  (k : WW cc own nL rt ini d mc ms Post uc us (pc + 1) ls (.inl (x.bmod 256) :: st) w) : WW cc own nL rt ini d mc ms Post uc us pc ls (.inl x :: st) w := by
  intro l D dA b p e_ s m args below meth c H locs A hC hb0 hS hR hL
  have k := k l D dA b p e_ s m args below meth c H locs A hC hb0 hS hR hL
  exact lv_i2b hC.1 hC.2.1 hdg (i32_i2b x) k
theorem r_dup {v : MV} (hdg : decode cc pc = .ok (.dup, 1))  (k : WW cc own nL rt ini d mc ms Post uc us (pc + 1) ls (v :: v :: st) w) : WW cc own nL rt ini d mc ms Post uc us pc ls (v :: st) w := by
  intro l D dA b p e_ s m args below meth c H locs A hC hb0 hS hR hL
  have k := k l D dA b p e_ s m args below meth c H locs A hC hb0 hS hR hL
  exact lv_dup hC.1 hC.2.1 hdg (tv_cat b v) k
theorem r_pop {v : MV} (hdg : decode cc pc = .ok (.pop, 1))  (k : WW cc own nL rt ini d mc ms Post uc us (pc + 1) ls (st) w) : WW cc own nL rt ini d mc ms Post uc us pc ls (v :: st) w := by
  intro l D dA b p e_ s m args below meth c H locs A hC hb0 hS hR hL
  have k := k l D dA b p e_ s m args below meth c H locs A hC hb0 hS hR hL
  exact lv_pop hC.1 hC.2.1 hdg (tv_cat b v) k
theorem r_dup2 {v u : MV} (hdg : decode cc pc = .ok (.dup2, 1))  (k : WW cc own nL rt ini d mc ms Post uc us (pc + 1) ls (v :: u :: v :: u :: st) w) : WW cc own nL rt ini d mc ms Post uc us pc ls (v :: u :: st) w := by
  intro l D dA b p e_ s m args below meth c H locs A hC hb0 hS hR hL
  have k := k l D dA b p e_ s m args below meth c H locs A hC hb0 hS hR hL
  exact lv_dup2_11 hC.1 hC.2.1 hdg (tv_cat b v) (tv_cat b u) k
theorem r_goto {off : Int} {tgt : Nat} (hdg : decode cc pc = .ok (.goto off, 3)) (ht : (pc : Int) + off = (tgt : Int)) (k : WW cc own nL rt ini d mc ms Post uc us tgt ls st w) : WW cc own nL rt ini d mc ms Post uc us pc ls st w := by
  intro l D dA b p e_ s m args below meth c H locs A hC hb0 hS hR hL
  exact lv_goto hC.1 hC.2.1 hdg ht (k l D dA b p e_ s m args below meth c H locs A hC hb0 hS hR hL)
theorem r_ifeq {x : Int} {off : Int} {tgt : Nat} (hdg : decode cc pc = .ok (.ifCond .eq off, 3)) (ht : (pc : Int) + off = (tgt : Int)) (hx : -2147483648 ≤ x ∧ x ≤ 2147483647) (kt : x = 0 → WW cc own nL rt ini d mc ms Post uc us tgt ls st w) (kf : ¬ x = 0 → WW cc own nL rt ini d mc ms Post uc us (pc + 3) ls st w) : WW cc own nL rt ini d mc ms Post uc us pc ls (.inl x :: st) w := by
  intro l D dA b p e_ s m args below meth c H locs A hC hb0 hS hR hL
  have hi := i32_eq (a := x) (b := 0) hx (by omega)
  rw [i32_0] at hi
  refine lv_if_eq hC.1 hC.2.1 hdg ht (fun q => kt ?_ l D dA b p e_ s m args below meth c H locs A hC hb0 hS hR hL) (fun q => kf ?_ l D dA b p e_ s m args below meth c H locs A hC hb0 hS hR hL)
  · exact hi.mp q
  · exact fun z => q (hi.mpr z)
theorem r_icmpeq {x y : Int} {off : Int} {tgt : Nat} (hdg : decode cc pc = .ok (.if_icmp .eq off, 3)) (ht : (pc : Int) + off = (tgt : Int)) (hx : -2147483648 ≤ x ∧ x ≤ 2147483647) (hy : -2147483648 ≤ y ∧ y ≤ 2147483647) (kt : x = y → WW cc own nL rt ini d mc ms Post uc us tgt ls st w) (kf : ¬ x = y → WW cc own nL rt ini d mc ms Post uc us (pc + 3) ls st w) : WW cc own nL rt ini d mc ms Post uc us pc ls (.inl y :: .inl x :: st) w := by
  intro l D dA b p e_ s m args below meth c H locs A hC hb0 hS hR hL
  have hi := i32_eq (a := x) (b := y) hx hy
  refine lv_icmp_eq hC.1 hC.2.1 hdg ht (fun q => kt ?_ l D dA b p e_ s m args below meth c H locs A hC hb0 hS hR hL) (fun q => kf ?_ l D dA b p e_ s m args below meth c H locs A hC hb0 hS hR hL)
  · exact hi.mp q
  · exact fun z => q (hi.mpr z)
theorem r_ifne {x : Int} {off : Int} {tgt : Nat} (hdg : decode cc pc = .ok (.ifCond .ne off, 3)) (ht : (pc : Int) + off = (tgt : Int)) (hx : -2147483648 ≤ x ∧ x ≤ 2147483647) (kt : ¬ x = 0 → WW cc own nL rt ini d mc ms Post uc us tgt ls st w) (kf : x = 0 → WW cc own nL rt ini d mc ms Post uc us (pc + 3) ls st w) : WW cc own nL rt ini d mc ms Post uc us pc ls (.inl x :: st) w := by
  intro l D dA b p e_ s m args below meth c H locs A hC hb0 hS hR hL
  have hi := i32_eq (a := x) (b := 0) hx (by omega)
  rw [i32_0] at hi
  refine lv_if_ne hC.1 hC.2.1 hdg ht (fun q => kt ?_ l D dA b p e_ s m args below meth c H locs A hC hb0 hS hR hL) (fun q => kf ?_ l D dA b p e_ s m args below meth c H locs A hC hb0 hS hR hL)
  · exact fun z => q (hi.mpr z)
  · exact hi.mp q
theorem r_icmpne {x y : Int} {off : Int} {tgt : Nat} (hdg : decode cc pc = .ok (.if_icmp .ne off, 3)) (ht : (pc : Int) + off = (tgt : Int)) (hx : -2147483648 ≤ x ∧ x ≤ 2147483647) (hy : -2147483648 ≤ y ∧ y ≤ 2147483647) (kt : ¬ x = y → WW cc own nL rt ini d mc ms Post uc us tgt ls st w) (kf : x = y → WW cc own nL rt ini d mc ms Post uc us (pc + 3) ls st w) : WW cc own nL rt ini d mc ms Post uc us pc ls (.inl y :: .inl x :: st) w := by
  intro l D dA b p e_ s m args below meth c H locs A hC hb0 hS hR hL
  have hi := i32_eq (a := x) (b := y) hx hy
  refine lv_icmp_ne hC.1 hC.2.1 hdg ht (fun q => kt ?_ l D dA b p e_ s m args below meth c H locs A hC hb0 hS hR hL) (fun q => kf ?_ l D dA b p e_ s m args below meth c H locs A hC hb0 hS hR hL)
  · exact fun z => q (hi.mpr z)
  · exact hi.mp q
theorem r_iflt {x : Int} {off : Int} {tgt : Nat} (hdg : decode cc pc = .ok (.ifCond .lt off, 3)) (ht : (pc : Int) + off = (tgt : Int)) (hx : -2147483648 ≤ x ∧ x ≤ 2147483647) (kt : x < 0 → WW cc own nL rt ini d mc ms Post uc us tgt ls st w) (kf : ¬ x < 0 → WW cc own nL rt ini d mc ms Post uc us (pc + 3) ls st w) : WW cc own nL rt ini d mc ms Post uc us pc ls (.inl x :: st) w := by
  intro l D dA b p e_ s m args below meth c H locs A hC hb0 hS hR hL
  have hi := i32_lt (a := x) (b := 0) hx (by omega)
  rw [i32_0] at hi
  refine lv_if_lt hC.1 hC.2.1 hdg ht (fun q => kt ?_ l D dA b p e_ s m args below meth c H locs A hC hb0 hS hR hL) (fun q => kf ?_ l D dA b p e_ s m args below meth c H locs A hC hb0 hS hR hL)
  · exact hi.mp q
  · exact fun z => q (hi.mpr z)
theorem r_icmplt {x y : Int} {off : Int} {tgt : Nat} (hdg : decode cc pc = .ok (.if_icmp .lt off, 3)) (ht : (pc : Int) + off = (tgt : Int)) (hx : -2147483648 ≤ x ∧ x ≤ 2147483647) (hy : -2147483648 ≤ y ∧ y ≤ 2147483647) (kt : x < y → WW cc own nL rt ini d mc ms Post uc us tgt ls st w) (kf : ¬ x < y → WW cc own nL rt ini d mc ms Post uc us (pc + 3) ls st w) : WW cc own nL rt ini d mc ms Post uc us pc ls (.inl y :: .inl x :: st) w := by
  intro l D dA b p e_ s m args below meth c H locs A hC hb0 hS hR hL
  have hi := i32_lt (a := x) (b := y) hx hy
  refine lv_icmp_lt hC.1 hC.2.1 hdg ht (fun q => kt ?_ l D dA b p e_ s m args below meth c H locs A hC hb0 hS hR hL) (fun q => kf ?_ l D dA b p e_ s m args below meth c H locs A hC hb0 hS hR hL)
  · exact hi.mp q
  · exact fun z => q (hi.mpr z)
theorem r_ifge {x : Int} {off : Int} {tgt : Nat} (hdg : decode cc pc = .ok (.ifCond .ge off, 3)) (ht : (pc : Int) + off = (tgt : Int)) (hx : -2147483648 ≤ x ∧ x ≤ 2147483647) (kt : 0 ≤ x → WW cc own nL rt ini d mc ms Post uc us tgt ls st w) (kf : ¬ 0 ≤ x → WW cc own nL rt ini d mc ms Post uc us (pc + 3) ls st w) : WW cc own nL rt ini d mc ms Post uc us pc ls (.inl x :: st) w := by
  intro l D dA b p e_ s m args below meth c H locs A hC hb0 hS hR hL
  have hi := i32_le (a := 0) (b := x) (by omega) hx
  rw [i32_0] at hi
  refine lv_if_ge hC.1 hC.2.1 hdg ht (fun q => kt ?_ l D dA b p e_ s m args below meth c H locs A hC hb0 hS hR hL) (fun q => kf ?_ l D dA b p e_ s m args below meth c H locs A hC hb0 hS hR hL)
  · exact hi.mp q
  · exact fun z => q (hi.mpr z)
theorem r_icmpge {x y : Int} {off : Int} {tgt : Nat} (hdg : decode cc pc = .ok (.if_icmp .ge off, 3)) (ht : (pc : Int) + off = (tgt : Int)) (hx : -2147483648 ≤ x ∧ x ≤ 2147483647) (hy : -2147483648 ≤ y ∧ y ≤ 2147483647) (kt : y ≤ x → WW cc own nL rt ini d mc ms Post uc us tgt ls st w) (kf : ¬ y ≤ x → WW cc own nL rt ini d mc ms Post uc us (pc + 3) ls st w) : WW cc own nL rt ini d mc ms Post uc us pc ls (.inl y :: .inl x :: st) w := by
  intro l D dA b p e_ s m args below meth c H locs A hC hb0 hS hR hL
  have hi := i32_le (a := y) (b := x) hy hx
  refine lv_icmp_ge hC.1 hC.2.1 hdg ht (fun q => kt ?_ l D dA b p e_ s m args below meth c H locs A hC hb0 hS hR hL) (fun q => kf ?_ l D dA b p e_ s m args below meth c H locs A hC hb0 hS hR hL)
  · exact hi.mp q
  · exact fun z => q (hi.mpr z)
theorem r_ifgt {x : Int} {off : Int} {tgt : Nat} (hdg : decode cc pc = .ok (.ifCond .gt off, 3)) (ht : (pc : Int) + off = (tgt : Int)) (hx : -2147483648 ≤ x ∧ x ≤ 2147483647) (kt : 0 < x → WW cc own nL rt ini d mc ms Post uc us tgt ls st w) (kf : ¬ 0 < x → WW cc own nL rt ini d mc ms Post uc us (pc + 3) ls st w) : WW cc own nL rt ini d mc ms Post uc us pc ls (.inl x :: st) w := by
  intro l D dA b p e_ s m args below meth c H locs A hC hb0 hS hR hL
  have hi := i32_lt (a := 0) (b := x) (by omega) hx
  rw [i32_0] at hi
  refine lv_if_gt hC.1 hC.2.1 hdg ht (fun q => kt ?_ l D dA b p e_ s m args below meth c H locs A hC hb0 hS hR hL) (fun q => kf ?_ l D dA b p e_ s m args below meth c H locs A hC hb0 hS hR hL)
  · exact hi.mp q
  · exact fun z => q (hi.mpr z)
theorem r_icmpgt {x y : Int} {off : Int} {tgt : Nat} (hdg : decode cc pc = .ok (.if_icmp .gt off, 3)) (ht : (pc : Int) + off = (tgt : Int)) (hx : -2147483648 ≤ x ∧ x ≤ 2147483647) (hy : -2147483648 ≤ y ∧ y ≤ 2147483647) (kt : y < x → WW cc own nL rt ini d mc ms Post uc us tgt ls st w) (kf : ¬ y < x → WW cc own nL rt ini d mc ms Post uc us (pc + 3) ls st w) : WW cc own nL rt ini d mc ms Post uc us pc ls (.inl y :: .inl x :: st) w := by
  intro l D dA b p e_ s m args below meth c H locs A hC hb0 hS hR hL
  have hi := i32_lt (a := y) (b := x) hy hx
  refine lv_icmp_gt hC.1 hC.2.1 hdg ht (fun q => kt ?_ l D dA b p e_ s m args below meth c H locs A hC hb0 hS hR hL) (fun q => kf ?_ l D dA b p e_ s m args below meth c H locs A hC hb0 hS hR hL)
  · exact hi.mp q
  · exact fun z => q (hi.mpr z)
theorem r_ifle {x : Int} {off : Int} {tgt : Nat} (hdg : decode cc pc = .ok (.ifCond .le off, 3)) (ht : (pc : Int) + off = (tgt : Int)) (hx : -2147483648 ≤ x ∧ x ≤ 2147483647) (kt : x ≤ 0 → WW cc own nL rt ini d mc ms Post uc us tgt ls st w) (kf : ¬ x ≤ 0 → WW cc own nL rt ini d mc ms Post uc us (pc + 3) ls st w) : WW cc own nL rt ini d mc ms Post uc us pc ls (.inl x :: st) w := by
  intro l D dA b p e_ s m args below meth c H locs A hC hb0 hS hR hL
  have hi := i32_le (a := x) (b := 0) hx (by omega)
  rw [i32_0] at hi
  refine lv_if_le hC.1 hC.2.1 hdg ht (fun q => kt ?_ l D dA b p e_ s m args below meth c H locs A hC hb0 hS hR hL) (fun q => kf ?_ l D dA b p e_ s m args below meth c H locs A hC hb0 hS hR hL)
  · exact hi.mp q
  · exact fun z => q (hi.mpr z)
theorem r_icmple {x y : Int} {off : Int} {tgt : Nat} (hdg : decode cc pc = .ok (.if_icmp .le off, 3)) (ht : (pc : Int) + off = (tgt : Int)) (hx : -2147483648 ≤ x ∧ x ≤ 2147483647) (hy : -2147483648 ≤ y ∧ y ≤ 2147483647) (kt : x ≤ y → WW cc own nL rt ini d mc ms Post uc us tgt ls st w) (kf : ¬ x ≤ y → WW cc own nL rt ini d mc ms Post uc us (pc + 3) ls st w) : WW cc own nL rt ini d mc ms Post uc us pc ls (.inl y :: .inl x :: st) w := by
  intro l D dA b p e_ s m args below meth c H locs A hC hb0 hS hR hL
  have hi := i32_le (a := x) (b := y) hx hy
  refine lv_icmp_le hC.1 hC.2.1 hdg ht (fun q => kt ?_ l D dA b p e_ s m args below meth c H locs A hC hb0 hS hR hL) (fun q => kf ?_ l D dA b p e_ s m args below meth c H locs A hC hb0 hS hR hL)
  · exact hi.mp q
  · exact fun z => q (hi.mpr z)
/-! returns -/
theorem r_iret {z : Int} (hdg : decode cc pc = .ok (.ireturn, 1)) (hr : rt = some .int) (hf : uc ≤ mc ∧ us ≤ ms) (hq : Post (some (.inl z)) w) : WW cc own nL rt ini d mc ms Post uc us pc ls [.inl z] w := by
  intro l D dA b p e_ s m args below meth c H locs A hC hb0 hS hR hL
  refine W.widen hf.1 hf.2 ?_
  exact W.iret hC.1 hC.2.1 (hC.2.2.2.1.trans hr) (fun t ht hW => ⟨⟨some (.inl z), w, rfl, hq, by rw [ht]; exact hR⟩, hS.F ht⟩) hS.2.2 hdg hC.2.2.2.2.1
theorem r_zret {z : Int} (hdg : decode cc pc = .ok (.ireturn, 1)) (hr : rt = some .boolean) (hz : z = 0 ∨ z = 1) (hf : uc ≤ mc ∧ us ≤ ms) (hq : Post (some (.inl z)) w) : WW cc own nL rt ini d mc ms Post uc us pc ls [.inl z] w := by
  intro l D dA b p e_ s m args below meth c H locs A hC hb0 hS hR hL
  refine W.widen hf.1 hf.2 ?_
  refine W.zret hC.1 hC.2.1 (hC.2.2.2.1.trans hr) ?_ (fun t ht hW => ⟨⟨some (.inl z), w, rfl, hq, by rw [ht]; exact hR⟩, hS.F ht⟩) hS.2.2 hdg hC.2.2.2.2.1
  rcases hz with rfl | rfl <;> rfl
theorem r_vret (hdg : decode cc pc = .ok (.return_, 1)) (hr : rt = none) (hf : uc ≤ mc ∧ us ≤ ms) (hq : Post none w) : WW cc own nL rt ini d mc ms Post uc us pc ls [] w := by
  intro l D dA b p e_ s m args below meth c H locs A hC hb0 hS hR hL
  refine W.widen hf.1 hf.2 ?_
  exact W.vret hC.1 hC.2.1 (hC.2.2.2.1.trans hr) (fun t ht hW => ⟨⟨none, w, rfl, hq, by rw [ht]; exact hR⟩, hS.F ht⟩) hS.2.2 hdg hC.2.2.2.2.1
theorem r_aret {a : Nat} {n : String} (hdg : decode cc pc = .ok (.areturn, 1)) (hr : rt = some (.object n)) (hf : uc ≤ mc ∧ us ≤ ms) (hq : Post (some (.inr (some a))) w) : WW cc own nL rt ini d mc ms Post uc us pc ls [.inr (some a)] w := by
  intro l D dA b p e_ s m args below meth c H locs A hC hb0 hS hR hL
  refine W.widen hf.1 hf.2 ?_
  exact W.aret hC.1 hC.2.1 (hC.2.2.2.1.trans hr) (Or.inl ⟨n, rfl⟩) (Or.inr ⟨b + a, rfl⟩) (fun t ht hW => ⟨⟨some (.inr (some a)), w, rfl, hq, by rw [ht]; exact hR⟩, hS.F ht⟩) hS.2.2 hdg hC.2.2.2.2.1
/-! arrays -/
theorem r_iald {a n : Nat} {i : Int} (hdg : decode cc pc = .ok (.iaload, 1)) (ha : a < w.1) (hs : w.2.1 a = (100, n)) (hn : n ≤ 2147483647) (hi : 0 ≤ i ∧ i < n) (k : WW cc own nL rt ini d mc ms Post uc us (pc + 1) ls (.inl (w.2.2.1 a i) :: st) w) : WW cc own nL rt ini d mc ms Post uc us pc ls (.inl i :: .inr (some a) :: st) w := by
  intro l D dA b p e_ s m args below meth c H locs A hC hb0 hS hR hL
  have k := k l D dA b p e_ s m args below meth c H locs A hC hb0 hS hR hL
  refine va_iald hC.1 hC.2.1 hC.2.2.2.2.2.2.2.2.1 hR.1 a 0 (wL_int (t := 0) ha hs (by omega)) rfl (i32_in hi hn) hdg ?_
  rw [i32_cl (by omega)]
  have e : ((i.toNat : Nat) : Int) = i := Int.toNat_of_nonneg hi.1
  show W _ _ _ _ _ _ _ _ _ _ _ _ _ _ _ (F0 m (pc + 1) A (.int (Int32.ofInt (w.2.2.1 a ((i.toNat : Nat) : Int))) :: _))
  rw [e]
  exact k
theorem r_bald {a n : Nat} {i : Int} (hdg : decode cc pc = .ok (.baload, 1)) (ha : a < w.1) (hs : w.2.1 a = (101, n)) (hn : n ≤ 2147483647) (hi : 0 ≤ i ∧ i < n) (k : WW cc own nL rt ini d mc ms Post uc us (pc + 1) ls (.inl (w.2.2.1 a i) :: st) w) : WW cc own nL rt ini d mc ms Post uc us pc ls (.inl i :: .inr (some a) :: st) w := by
  intro l D dA b p e_ s m args below meth c H locs A hC hb0 hS hR hL
  have k := k l D dA b p e_ s m args below meth c H locs A hC hb0 hS hR hL
  refine va_bald hC.1 hC.2.1 hC.2.2.2.2.2.2.2.2.1 hR.1 a 1 (wL_int (t := 1) ha hs (by omega)) rfl (i32_in hi hn) hdg ?_
  rw [i32_cl (by omega)]
  have e : ((i.toNat : Nat) : Int) = i := Int.toNat_of_nonneg hi.1
  show W _ _ _ _ _ _ _ _ _ _ _ _ _ _ _ (F0 m (pc + 1) A (.int (Int32.ofInt (w.2.2.1 a ((i.toNat : Nat) : Int))) :: _))
  rw [e]
  exact k
theorem r_aald {a n t : Nat} {i : Int} {r : Nat} (hdg : decode cc pc = .ok (.aaload, 1)) (ha : a < w.1) (hs : w.2.1 a = (100 + t, n)) (ht : 2 ≤ t ∧ t ≤ 4) (hn : n ≤ 2147483647) (hi : 0 ≤ i ∧ i < n) (hr : w.2.2.2 a i = some r) (k : WW cc own nL rt ini d mc ms Post uc us (pc + 1) ls (.inr (some r) :: st) w) : WW cc own nL rt ini d mc ms Post uc us pc ls (.inl i :: .inr (some a) :: st) w := by
  intro l D dA b p e_ s m args below meth c H locs A hC hb0 hS hR hL
  have k := k l D dA b p e_ s m args below meth c H locs A hC hb0 hS hR hL
  have e : ((i.toNat : Nat) : Int) = i := Int.toNat_of_nonneg hi.1
  have go : ∀ C : String, (tysA dA)[t]? = some (dA t, .object C) → W p l e_ (rmD d mc ms) s m args below meth c H locs uc us (MQ below (QP D dA b Post) args s mc ms (fun q => b ≤ q)) (F0 m pc A (.int (Int32.ofInt i) :: .ref (b + a) :: st.map (tv b))) := by
    intro C hC2
    refine va_aldq hC.1 hC.2.1 hC.2.2.2.2.2.2.2.2.1 hR.1 a t (wL_ref ha hs ht.1) hC2 (i32_in hi hn) hdg ?_
    rw [i32_cl (by omega)]
    show W _ _ _ _ _ _ _ _ _ _ _ _ _ _ _ (F0 m (pc + 1) A (va_rf ((w.2.2.2 a ((i.toNat : Nat) : Int)).map _) :: _))
    rw [e, hr]
    exact k
  rcases (show t = 2 ∨ t = 3 ∨ t = 4 by omega) with rfl | rfl | rfl
  · exact go _ rfl
  · exact go _ rfl
  · exact go _ rfl
theorem r_aaldI {a n : Nat} {i : Int} {r : Nat} (hdg : decode cc pc = .ok (.aaload, 1)) (ha : a < w.1) (hs : w.2.1 a = (105, n)) (hn : n ≤ 2147483647) (hi : 0 ≤ i ∧ i < n) (hr : w.2.2.2 a i = some r) (k : WW cc own nL rt ini d mc ms Post uc us (pc + 1) ls (.inr (some r) :: st) w) : WW cc own nL rt ini d mc ms Post uc us pc ls (.inl i :: .inr (some a) :: st) w := by
  intro l D dA b p e_ s m args below meth c H locs A hC hb0 hS hR hL
  have k := k l D dA b p e_ s m args below meth c H locs A hC hb0 hS hR hL
  have e : ((i.toNat : Nat) : Int) = i := Int.toNat_of_nonneg hi.1
  have hg := wL_ref (b := b) (dA := dA) (t := 5) ha hs (by omega)
  have hlt : (Int32.ofInt i).toNatClampNeg < n := by rw [i32_cl (by omega)]; omega
  refine W.aald (v := va_rf (some (b + r))) (ty := .array .int) hC.1 hC.2.1 (hR.1 a _ hg) ((hC.2.2.2.2.2.2.2.2.1.2 5 _ rfl).1 n (fun j => va_rf ((w.2.2.2 a j).map (fun q => b + q)))) rfl (fun q => by cases q) (by show ¬ (_ ∨ (arrV _ _ _).slots.size ≤ _); rw [arrV_size]; exact i32_in hi hn) (by show (arrV _ _ _).slots[_]? = _; rw [arrV_read _ _ hlt, i32_cl (by omega)]; show some (va_rf ((w.2.2.2 a ((i.toNat : Nat) : Int)).map _)) = _; rw [e, hr]; rfl) rfl rfl hdg k
theorem wE_iset {b : Nat} {dA : Nat → ClassId} {w : Wd} {a t n : Nat} {i z : Int} (hs : w.2.1 a = (100 + t, n)) (ht : t < 2) (hi : 0 ≤ i) : wE b dA (setI w a i z) a = .inl (dA t, n, .inl (upd (fun j : Nat => Int32.ofInt (w.2.2.1 a j)) i.toNat (Int32.ofInt z))) := by
  unfold wE
  rw [show (setI w a i z).2.1 = w.2.1 from rfl, hs, if_neg (by show ¬ 100 + t < 100; omega), if_pos (by show 100 + t < 102; omega)]
  show Sum.inl (dA (100 + t - 100), n, Sum.inl _) = _
  rw [Nat.add_sub_cancel_left]
  congr 4
  funext j
  unfold upd
  by_cases hj : j = i.toNat
  · rw [if_pos hj]
    show Int32.ofInt (u2 w.2.2.1 a i z a (j : Int)) = _
    rw [show ((j : Nat) : Int) = i by omega, u2_s]
  · rw [if_neg hj]
    show Int32.ofInt (u2 w.2.2.1 a i z a (j : Int)) = _
    rw [u2_n (Or.inr (by omega))]
theorem wE_rset {b : Nat} {dA : Nat → ClassId} {w : Wd} {a t n : Nat} {i : Int} {z : Nat} (hs : w.2.1 a = (100 + t, n)) (ht : 2 ≤ t) (hi : 0 ≤ i) : wE b dA (setR w a i (some z)) a = .inl (dA t, n, .inr (.inr (.inr (.inr (va_up (fun j : Nat => (w.2.2.2 a j).map (fun q => b + q)) i.toNat (some (b + z))))))) := by
  unfold wE
  rw [show (setR w a i (some z)).2.1 = w.2.1 from rfl, hs, if_neg (by show ¬ 100 + t < 100; omega), if_neg (by show ¬ 100 + t < 102; omega)]
  show Sum.inl (dA (100 + t - 100), n, Sum.inr _) = _
  rw [Nat.add_sub_cancel_left]
  congr 7
  funext j
  unfold va_up
  by_cases hj : j = i.toNat
  · rw [if_pos hj]
    show (u2 w.2.2.2 a i (some z) a (j : Int)).map _ = _
    rw [show ((j : Nat) : Int) = i by omega, u2_s]
    rfl
  · rw [if_neg hj]
    show (u2 w.2.2.2 a i (some z) a (j : Int)).map _ = _
    rw [u2_n (Or.inr (by omega))]

theorem Rp_set {D : va_G} {dA : Nat → ClassId} {b : Nat} {w w' : Wd} {H H1 : Heap} {a : Nat} (hR : Rp D dA b w H) (ha : a < w.1) (h1 : w'.1 = w.1) (hn : ∀ q, q ≠ a → wE b dA w' q = wE b dA w q) (he : va_at D cls9 (b + a, wE b dA w' a) H1) (oq : ∀ q, q ≠ b + a → H1[q]? = H[q]?) (z : H1.size = H.size) : Rp D dA b w' H1 := by
  refine ⟨?_, by rw [z, hR.2, h1]⟩
  rw [← wL_set ha h1 rfl hn]
  exact hR.1.set (wL_D b dA w) (wL_get ha) he oq
theorem r_iast {a n : Nat} {i z : Int} (hdg : decode cc pc = .ok (.iastore, 1)) (ha : a < w.1) (hs : w.2.1 a = (100, n)) (hn : n ≤ 2147483647) (hi : 0 ≤ i ∧ i < n) (k : WW cc own nL rt ini d mc ms Post uc us (pc + 1) ls st (setI w a i z)) : WW cc own nL rt ini d mc ms Post uc us pc ls (.inl z :: .inl i :: .inr (some a) :: st) w := by
  intro l D dA b p e_ s m args below meth c H locs A hC hb0 hS hR hL
  have hK := hC.2.2.2.2.2.2.2.2.1
  refine W.iast hC.1 hC.2.1 (hR.1 a _ (wL_int (t := 0) ha hs (by omega))) ((hK.2 0 _ rfl).1 n (fun j => .int (Int32.ofInt (w.2.2.1 a j)))) (fun q => by cases q) (by show ¬ (_ ∨ (arrV _ _ _).slots.size ≤ _); rw [arrV_size]; exact i32_in hi hn) rfl rfl hdg fun H1 e z1 oq => ?_
  refine k l D dA b p e_ s m args below meth c H1 _ A hC hb0 (hS.put z1 oq (by show b ≤ b + a; omega)) (Rp_set hR ha rfl (fun q hq => wE_setI q hq) ?_ oq z1) hL
  rw [wE_iset (t := 0) hs (by omega) hi.1]
  show H1[b + a]? = some (vp_cell _ _)
  rw [e, i32_cl (by omega), vp_cell_i, vp_cell_i, arrV_store]
  congr 2
  funext q
  by_cases hq : q = i.toNat
  · subst hq
    simp [updV, upd]
  · simp [updV, upd, hq]
theorem r_bast {a n : Nat} {i z : Int} (hdg : decode cc pc = .ok (.bastore, 1)) (ha : a < w.1) (hs : w.2.1 a = (101, n)) (hn : n ≤ 2147483647) (hi : 0 ≤ i ∧ i < n) (hz : -128 ≤ z ∧ z ≤ 127) (k : WW cc own nL rt ini d mc ms Post uc us (pc + 1) ls st (setI w a i z)) : WW cc own nL rt ini d mc ms Post uc us pc ls (.inl z :: .inl i :: .inr (some a) :: st) w := by
  intro l D dA b p e_ s m args below meth c H locs A hC hb0 hS hR hL
  have hK := hC.2.2.2.2.2.2.2.2.1
  refine W.bast hC.1 hC.2.1 (hR.1 a _ (wL_int (t := 1) ha hs (by omega))) ((hK.2 1 _ rfl).1 n (fun j => .int (Int32.ofInt (w.2.2.1 a j)))) (fun q => by cases q) (by show ¬ (_ ∨ (arrV _ _ _).slots.size ≤ _); rw [arrV_size]; exact i32_in hi hn) rfl rfl hdg fun H1 e z1 oq => ?_
  refine k l D dA b p e_ s m args below meth c H1 _ A hC hb0 (hS.put z1 oq (by show b ≤ b + a; omega)) (Rp_set hR ha rfl (fun q hq => wE_setI q hq) ?_ oq z1) hL
  rw [wE_iset (t := 1) hs (by omega) hi.1]
  show H1[b + a]? = some (vp_cell _ _)
  have en : narrow .byte (.int (Int32.ofInt z)) = .int (Int32.ofInt z) := by
    have h := i32_nb hz
    rw [vp_nar_byte] at h
    show Value.int _ = _
    rw [h]
  rw [e, en, i32_cl (by omega), vp_cell_i, vp_cell_i, arrV_store]
  congr 2
  funext q
  by_cases hq : q = i.toNat
  · subst hq
    simp [updV, upd]
  · simp [updV, upd, hq]
theorem r_aast {a v n t ci nn : Nat} {i : Int} (hdg : decode cc pc = .ok (.aastore, 1)) (ha : a < w.1) (hs : w.2.1 a = (100 + t, n)) (ht : (t = 2 ∧ ci = 3) ∨ (t = 3 ∧ ci = 5) ∨ (t = 4 ∧ ci = 1)) (hn : n ≤ 2147483647) (hi : 0 ≤ i ∧ i < n) (hv : v < w.1) (hsv : w.2.1 v = (ci, nn)) (k : WW cc own nL rt ini d mc ms Post uc us (pc + 1) ls st (setR w a i (some v))) : WW cc own nL rt ini d mc ms Post uc us pc ls (.inr (some v) :: .inl i :: .inr (some a) :: st) w := by
  intro l D dA b p e_ s m args below meth c H locs A hC hb0 hS hR hL
  have hK := hC.2.2.2.2.2.2.2.2.1
  have h2 : 2 ≤ t := by omega
  have hci : ci < 100 := by omega
  have hlt : (Int32.ofInt i).toNatClampNeg < n := by rw [i32_cl (by omega)]; omega
  have h0 : ¬ Int32.ofInt i < 0 := fun q => (i32_in hi hn) (Or.inl q)
  have go : ∀ r : vw_C, (tysA dA)[t]? = some (dA t, .object r.1) → cls9[ci]? = some r → W p l e_ (rmD d mc ms) s m args below meth c H locs uc us (MQ below (QP D dA b Post) args s mc ms (fun q => b ≤ q)) (F0 m pc A (.ref (b + v) :: .int (Int32.ofInt i) :: .ref (b + a) :: st.map (tv b))) := by
    intro r htt hcr
    obtain ⟨r', hr', cellV, g1, g2, g3, -⟩ := hR.1 v _ (wL_obj hv hsv hci)
    have hcls := (hK.1 ci r hcr).2
    obtain ⟨kA, comp, k1, k2, k3, -⟩ := (hK.2 t _ htt).2
    have hcomp : comp = D.1 ci := Option.some.inj (k3.symm.trans hcls.1)
    subst hcomp
    obtain ⟨kC, hkC, -⟩ := hcls.2
    refine W.aast hC.1 hC.2.1 (hR.1 a _ (wL_ref ha hs h2)) (fun q h => by cases h) (fun h => by cases h) k1 k2 rfl hkC ⟨h0, by show _ < (arrV _ _ _).slots.size; rw [arrV_size]; exact hlt⟩ g1 (fun q h => by rw [g3] at h; cases h) (by rw [g2]; exact hkC) (by rw [g2]; exact va_assign hcls) rfl rfl hdg fun H1 e z1 oq => ?_
    refine k l D dA b p e_ s m args below meth c H1 _ A hC hb0 (hS.put z1 oq (by show b ≤ b + a; omega)) (Rp_set hR ha rfl (fun q hq => wE_setR q hq) ?_ oq z1) hL
    rw [wE_rset hs h2 hi.1]
    show H1[b + a]? = some (vp_cell _ _)
    rw [e, i32_cl (by omega), vp_cell_q, vp_cell_q, arrV_store]
    congr 2
    funext q
    by_cases hq : q = i.toNat
    · subst hq
      simp [updV, va_up, va_rf]
    · simp [updV, va_up, hq]
  rcases ht with ⟨rfl, rfl⟩ | ⟨rfl, rfl⟩ | ⟨rfl, rfl⟩
  · exact go _ rfl rfl
  · exact go _ rfl rfl
  · exact go _ rfl rfl
theorem r_alen {a t n : Nat} (hdg : decode cc pc = .ok (.arraylength, 1)) (ha : a < w.1) (hs : w.2.1 a = (100 + t, n)) (ht : t < 2) (k : WW cc own nL rt ini d mc ms Post uc us (pc + 1) ls (.inl n :: st) w) : WW cc own nL rt ini d mc ms Post uc us pc ls (.inr (some a) :: st) w := by
  intro l D dA b p e_ s m args below meth c H locs A hC hb0 hS hR hL
  have hK := hC.2.2.2.2.2.2.2.2.1
  have k := k l D dA b p e_ s m args below meth c H locs A hC hb0 hS hR hL
  have e : Int32.ofNat n = Int32.ofInt n := (Int32.ofInt_eq_ofNat).symm
  rcases (show t = 0 ∨ t = 1 by omega) with rfl | rfl
  · exact va_alen hC.1 hC.2.1 hK hR.1 a 0 (wL_int (t := 0) ha hs (by omega)) (ty := .int) rfl e hdg k
  · exact va_alen hC.1 hC.2.1 hK hR.1 a 1 (wL_int (t := 1) ha hs (by omega)) (ty := .byte) rfl e hdg k
/-! fields -/
def ClOk (ci : Nat) (C : String) (T : u_T) (N : Nat) : Prop := ci < 100 ∧ cls9[ci]? = some (C, T, N) ∧ (∀ q ∈ u_ws C T N, q ∈ lw_U) ∧ (∀ k, k < N → parseFieldDescriptor (T k).2.2.1 = some (tyC ci k)) ∧ (∀ a, a < N → ∀ b, b < N → a ≠ b → (T a).2.1 ≠ (T b).2.1) ∧ nF ci = N
def Fld (own : String) (idx ci j : Nat) (jz : Int) (num fin : Bool) : Prop := ∃ (C : String) (T : u_T) (N : Nat), ClOk ci C T N ∧ j < N ∧ Cond.fieldLink own idx C (T j).2.1 (T j).2.2.1 ∈ lw_U ∧ (T j).1 = C ∧ (T j).2.2.2 = fin ∧ isI (tyC ci j) = num ∧ (j : Int) = jz
theorem isI_int {t : FieldType} (h : isI t = true) : t = .int := by
  cases t <;> first | rfl | cases h
theorem r_getI {idx ci j a nn : Nat} {jz : Int} {fin : Bool} (hF : Fld own idx ci j jz true fin) (hdg : decode cc pc = .ok (.getfield idx, 3)) (ha : a < w.1) (hs : w.2.1 a = (ci, nn)) (k : WW cc own nL rt ini d mc ms Post uc us (pc + 3) ls (.inl (w.2.2.1 a jz) :: st) w) : WW cc own nL rt ini d mc ms Post uc us pc ls (.inr (some a) :: st) w := by
  intro l D dA b p e_ s m args below meth c H locs A hC hb0 hS hR hL
  have k := k l D dA b p e_ s m args below meth c H locs A hC hb0 hS hR hL
  obtain ⟨C, T, N, ⟨hc100, hcl, hin, hty, hnm, hNF⟩, hj, hlink, hdecl, hfin, hnum, rfl⟩ := hF
  refine va_get hC.1 hC.2.1 hC.2.2.2.2.2.2.2.1 hin hC.2.2.2.2.2.2.1 hC.2.2.2.2.2.2.2.2.1 hR.1 a (wL_obj ha hs hc100) hcl j hj (hC.2.2.2.2.2.2.2.1 _ hlink) (fun x hx => by rw [hdecl] at hx; exact hx) (v := .int (Int32.ofInt (w.2.2.1 a j))) ?_ hdg k
  rw [wF_get (by omega)]
  unfold fV
  rw [if_pos hnum]
theorem r_getR {idx ci j a nn r : Nat} {jz : Int} {fin : Bool} (hF : Fld own idx ci j jz false fin) (hdg : decode cc pc = .ok (.getfield idx, 3)) (ha : a < w.1) (hs : w.2.1 a = (ci, nn)) (hr : w.2.2.2 a jz = some r) (k : WW cc own nL rt ini d mc ms Post uc us (pc + 3) ls (.inr (some r) :: st) w) : WW cc own nL rt ini d mc ms Post uc us pc ls (.inr (some a) :: st) w := by
  intro l D dA b p e_ s m args below meth c H locs A hC hb0 hS hR hL
  have k := k l D dA b p e_ s m args below meth c H locs A hC hb0 hS hR hL
  obtain ⟨C, T, N, ⟨hc100, hcl, hin, hty, hnm, hNF⟩, hj, hlink, hdecl, hfin, hnum, rfl⟩ := hF
  refine va_get hC.1 hC.2.1 hC.2.2.2.2.2.2.2.1 hin hC.2.2.2.2.2.2.1 hC.2.2.2.2.2.2.2.2.1 hR.1 a (wL_obj ha hs hc100) hcl j hj (hC.2.2.2.2.2.2.2.1 _ hlink) (fun x hx => by rw [hdecl] at hx; exact hx) (v := va_rf (some (b + r))) ?_ hdg k
  rw [wF_get (by omega)]
  unfold fV
  rw [if_neg (by rw [hnum]; decide), hr]
  rfl
/-- a store into a field, whatever it is: the heap behind it -/
theorem put_go {cc : ByteArray} {own : String} {nL : Nat} {rt : Option FieldType} {ini : Bool} {D : va_G} {dA : Nat → ClassId} {b : Nat} {p : Program} {l : Launch} {e_ : Env} {R : Room} {s : State} {m : MethodId} {args : Array Value} {below : List Frame} {meth : Method} {c : Code} {H : Heap} {locs : List Loc} {cells slots : Nat} {Q : State → Prop} {pc idx ci j a nn : Nat} {A : Array Slot} {rest : List Value} {w w' : Wd} {jz : Int} {num fin : Bool} {v : Value}
    (hC : Cx cc own nL rt ini D dA p s m args meth c) (hS : va_S (fun q => b ≤ q) s.heap H locs) (hR : Rp D dA b w H) (hF : Fld own idx ci j jz num fin) (hdg : decode cc pc = .ok (.putfield idx, 3)) (ha : a < w.1) (hs : w.2.1 a = (ci, nn)) (hini : fin = true → ini = true ∧ ∃ C T N, ClOk ci C T N ∧ C = own) (hnv : narrow (tyC ci j) v = v) (hfv : fits (tyC ci j) v = true)
    (h1 : w'.1 = w.1) (h2 : w'.2.1 = w.2.1) (hn : ∀ q, q ≠ a → wE b dA w' q = wE b dA w q) (he : wF b w' a ci = (wF b w a ci).set j v)
    (kk : ∀ (H1 : Heap) (locs1 : List Loc), va_S (fun q => b ≤ q) s.heap H1 locs1 → Rp D dA b w' H1 → W p l e_ R s m args below meth c H1 locs1 cells slots Q (F0 m (pc + 3) A rest)) : W p l e_ R s m args below meth c H locs cells slots Q (F0 m pc A (v :: .ref (b + a) :: rest)) := by
  obtain ⟨C, T, N, ⟨hc100, hcl, hin, hty, hnm, hNF⟩, hj, hlink, hdecl, hfin, hnum, hjz⟩ := hF
  obtain ⟨hx, hb, hml, hrt, hlk, hin2, hown, hts, hE⟩ := hC
  have hK := hE.1
  have hap := va_apart (own := own) hts hin (tyC ci) hty hnm hK hcl
  obtain ⟨r, hr1, cell, q1, q2, q3, q4⟩ := hR.1 a _ (wL_obj ha hs hc100)
  have hr : r = (C, T, N) := Option.some.inj (hr1.symm.trans hcl)
  subst hr
  obtain ⟨hSl, hfc, kC, hkC, hkind⟩ := hK.1 ci _ hcl
  obtain ⟨cf, kf, fi, f, hi, hsl⟩ := hSl j hj
  have hlay := hts _ (hin _ (u_in_lay hj))
  have hst := (u_facts hfc hkC (u_lays hts hin hj) hi).1
  have hl : j < (wF b w a ci).length := by simp [wF]; omega
  have hi' : s.fieldFound? C (T j).2.1 (T j).2.2.1 = some (cf, kf, fi, f) := by rw [← hdecl]; exact hi
  have fin_go : ∀ H' : Heap, H'[b + a]? = some (cell.setSlot f.slot v) → H'.size = H.size → (∀ q, q ≠ b + a → H'[q]? = H[q]?) → W p l e_ R s m args below meth c H' (locs ++ [⟨b + a, f.slot⟩]) cells slots Q (F0 m (pc + 3) A rest) := by
    intro H' e1 e2 e3
    rw [hsl] at e1 ⊢
    refine kk H' _ (hS.put e2 e3 (by show b ≤ b + a; omega)) (Rp_set hR ha h1 hn ?_ e3 e2)
    have e9 : wE b dA w' a = .inr (ci, (wF b w a ci).set j v) := by
      unfold wE
      rw [h2, hs, if_pos hc100, he]
    rw [e9]
    exact ⟨_, hcl, t_OB.to (V := updV (vp_V (wF b w a ci)) j v) ⟨_, e1, q2, q3, t_set q4 hap hj v⟩ (fun x _ => vp_updV_set hl v x)⟩
  unfold u_lay at hlay
  cases hf0 : fin with
  | false =>
    rw [if_neg (by rw [hfin, hf0]; decide)] at hlay
    have h6 := u_store hfc hkC hkind hlay hi (hty j hj) hnv hfv
    exact W.putK hx hb (f := f) ⟨hown, hts _ hlink, ⟨_, _, _, hi'⟩, hst⟩ (by rw [q2]; exact h6) q1 q3 (by rw [hsl]; exact k2_hasslot (q4 j hj)) rfl rfl hdg fin_go
  | true =>
    rw [if_pos (by rw [hfin, hf0])] at hlay
    obtain ⟨hi1, C', T', N', hcl', hCo⟩ := hini hf0
    have hCown : C = own := by
      have h9 := hcl'.2.1.symm.trans hcl
      have h8 : C' = C := congrArg Prod.fst (Option.some.inj h9)
      rw [← h8, hCo]
    have hcf : m.cls = cf := by
      obtain ⟨_, _, c', _, _, _, -, -, hf', -, -, -, hown2, -⟩ := Cond.laysFinal_spec hlay
      have e1 : c' = cf := by have := hi.symm.trans hf'; simp at this; exact this.1.symm
      rw [hdecl, hCown] at hown2
      rw [← e1]; exact Option.some.inj (hown.symm.trans hown2)
    have h6 := u_fits hfc hkC hkind (Or.inr hlay) hi (hty j hj) hnv hfv
    exact W.putFinK hx hb hown (hts _ hlink) hi' hst hcf (hin2 hi1) (by rw [q2]; exact h6) q1 q3 (by rw [hsl]; exact k2_hasslot (q4 j hj)) rfl rfl hdg fin_go
theorem r_putI {idx ci j a nn : Nat} {jz z : Int} (hF : Fld own idx ci j jz true false) (hdg : decode cc pc = .ok (.putfield idx, 3)) (ha : a < w.1) (hs : w.2.1 a = (ci, nn)) (k : WW cc own nL rt ini d mc ms Post uc us (pc + 3) ls st (setI w a jz z)) : WW cc own nL rt ini d mc ms Post uc us pc ls (.inl z :: .inr (some a) :: st) w := by
  intro l D dA b p e_ s m args below meth c H locs A hC hb0 hS hR hL
  have hF2 := hF
  obtain ⟨C, T, N, ⟨-, -, -, -, -, hNF⟩, hj, -, -, -, hnum, rfl⟩ := hF2
  have hti := isI_int hnum
  exact put_go hC hS hR hF hdg ha hs (fun h => by cases h) (by rw [hti]; rfl) (by rw [hti]; rfl) (w' := setI w a j z) rfl rfl (fun q hq => wE_setI q hq) (wF_setI (by omega) hnum) (fun H1 locs1 hS1 hR1 => k l D dA b p e_ s m args below meth c H1 locs1 A hC hb0 hS1 hR1 hL)
theorem r_putR {idx ci j a nn r : Nat} {jz : Int} {fin : Bool} (hF : Fld own idx ci j jz false fin) (hdg : decode cc pc = .ok (.putfield idx, 3)) (ha : a < w.1) (hs : w.2.1 a = (ci, nn)) (hini : fin = true → ini = true ∧ ∃ C T N, ClOk ci C T N ∧ C = own) (hty : (∃ n, tyC ci j = .object n) ∨ ∃ n, tyC ci j = .array n) (k : WW cc own nL rt ini d mc ms Post uc us (pc + 3) ls st (setR w a jz (some r))) : WW cc own nL rt ini d mc ms Post uc us pc ls (.inr (some r) :: .inr (some a) :: st) w := by
  intro l D dA b p e_ s m args below meth c H locs A hC hb0 hS hR hL
  have hF2 := hF
  obtain ⟨C, T, N, ⟨-, -, -, -, -, hNF⟩, hj, -, -, -, hnum, rfl⟩ := hF2
  exact put_go hC hS hR hF hdg ha hs hini (by rcases hty with ⟨n, h⟩ | ⟨n, h⟩ <;> rw [h] <;> rfl) (by rcases hty with ⟨n, h⟩ | ⟨n, h⟩ <;> rw [h] <;> rfl) (w' := setR w a j (some r)) rfl rfl (fun q hq => wE_setR q hq) (wF_setR (by omega) hnum) (fun H1 locs1 hS1 hR1 => k l D dA b p e_ s m args below meth c H1 locs1 A hC hb0 hS1 hR1 hL)
end RW
end
section
/-! calls, new cells, and a method's contract out of its walk -/
def LkB (y : MethodName) (cy : ByteArray) (nLy : Nat) (rty : Option FieldType) (n : Nat) : Prop :=
  Cond.initialized y.cls ∈ lw_U ∧ Cond.code y cy nLy rty ∈ lw_U ∧ (y.cls ≠ "java/lang/invoke/MethodHandle" ∧ y.cls ≠ "java/lang/invoke/VarHandle" ∧ (parseMethodDescriptor y.desc).map (fun d => d.parameters.length) = some n) ∧ nLy ≤ 20
def LkV (own : String) (idx : Nat) (ci : Nat) (y : MethodName) (cy : ByteArray) (nLy : Nat) (rty : Option FieldType) (n : Nat) : Prop :=
  LkB y cy nLy rty n ∧ Cond.methodLink own idx y ∈ lw_U ∧ Cond.instanceMethod y ∈ lw_U ∧ Cond.selects y.cls y y ∈ lw_U ∧ (∃ T N, cls9[ci]? = some (y.cls, T, N)) ∧ ci < 100
def LkS (own : String) (idx : Nat) (y : MethodName) (cy : ByteArray) (nLy : Nat) (rty : Option FieldType) (n : Nat) : Prop :=
  LkB y cy nLy rty n ∧ (Cond.methodLink own idx y ∈ lw_U ∨ ∃ h, (own, idx, y, h) ∈ nestT) ∧ Cond.static y ∈ lw_U
def LkI (own : String) (idx : Nat) (y : MethodName) (cy : ByteArray) (nLy : Nat) (n : Nat) : Prop :=
  LkB y cy nLy none n ∧ (Cond.methodLink own idx y ∈ lw_U ∨ ∃ h, (own, idx, y, h) ∈ nestT) ∧ Cond.instanceMethod y ∈ lw_U ∧ y.name = "<init>"
theorem lkGood {y : MethodName} {cy : ByteArray} {nLy : Nat} {rty : Option FieldType} {ws : List Cond} (h : ∀ q ∈ ws, q ∈ lw_U) (hc : Cond.code y cy nLy rty ∈ lw_U) : GoodIn lw_U (ws ++ Cond.code y cy nLy rty :: lw_U) := by
  intro q hq
  have hm : q ∈ lw_U := by
    rcases List.mem_append.mp hq with h1 | h1
    · exact h q h1
    · rcases List.mem_cons.mp h1 with rfl | h2
      · exact hc
      · exact h2
  exact ⟨hm, lw_U_good q hm⟩
theorem tv_sum (b : Nat) (st : List MV) : ((st.map (tv b)).map fun v => v.category).sum = st.length := by
  induction st with
  | nil => rfl
  | cons a l ih =>
    simp only [List.map_cons, List.sum_cons, List.length_cons, ih, tv_cat]
    omega
section CW
variable {cc : ByteArray} {own : String} {nL : Nat} {rt : Option FieldType} {ini : Bool} {d mc ms : Nat} {Post : Option MV → Wd → Prop} {uc us pc : Nat} {ls : List (Option MV)} {st : List MV} {w : Wd}
variable {D : va_G} {dA : Nat → ClassId} {b : Nat} {p : Program} {l : Launch} {e_ : Env} {R : Room} {s : State} {m : MethodId} {args : Array Value} {below : List Frame} {meth : Method} {c : Code} {H : Heap} {locs : List Loc} {cells slots : Nat} {Q : State → Prop} {A : Array Slot}
/-- a call's run, for whoever calls: the world that it leaves -/
theorem run_go {mc' ms' : Nat} {Post' : Option MV → Wd → Prop} {a : Array Value} {st0 : List Value} (hS : va_S (fun q => b ≤ q) s.heap H locs) (hr : va_Run p l e_ R s m args below meth c H locs cells slots mc' ms' (F0 m pc A st0) (st.map (tv b)) (QP D dA b Post' a) (fun q => b ≤ q))
    (k : ∀ (r : Option MV) (w' : Wd) (H1 : Heap) (locs1 : List Loc), Post' r w' → va_S (fun q => b ≤ q) s.heap H1 locs1 → Rp D dA b w' H1 → W p l e_ R s m args below meth c H1 locs1 (cells + mc') (slots + ms') Q (F0 m (pc + 3) A ((r.toList ++ st).map (tv b)))) : W p l e_ R s m args below meth c H locs cells slots Q (F0 m pc A st0) := by
  intro T hT X
  obtain ⟨v, st₀, t, T', L, h0, X', hLf, e1, e2, ⟨⟨r, w', hv, hPost, hR'⟩, hz, hk⟩, stp⟩ := hr T hT X
  cases hv
  rw [h0] at hz hk
  have K := k r w' T'.heap (locs ++ L) hPost ⟨Nat.le_trans hS.1 (by rw [e1]; exact hz), fun q h1 h2 => by rw [e1, hk q (Nat.lt_of_lt_of_le h1 hS.1) h2]; exact hS.2.1 q h1 h2, fun q hq => by
      rcases List.mem_append.mp hq with h | h
      · exact hS.2.2 q h
      · exact hLf q h⟩ (by rw [e1]; exact hR')
  obtain ⟨t2, a1, b1⟩ := K T' rfl X'
  refine ⟨t2, stp t2 ?_, b1⟩
  cases r <;> exact a1
theorem CC_blind {as : List MV} : FrameBlind (va_Pc (as.map (tv b)) (fun U => Rp D dA b w U.heap ∧ EnvK D dA U)) := by
  intro a U g mk ⟨h1, h2, h3⟩
  exact ⟨h1, h2, va_K.moved (u := U) (U := U.calling g mk a) (Vm.Alike.refl U.vm) h3.1, fun q hq => va_Nw.same rfl (rfl : U.vm = (U.calling g mk a).vm) (h3.2.1 q hq), va_AO.moved (u := U) (U := U.calling g mk a) (Vm.Alike.refl U.vm) h3.2.2.1, va_AO.moved (u := U) (U := U.calling g mk a) (Vm.Alike.refl U.vm) h3.2.2.2.1, va_AO.moved (u := U) (U := U.calling g mk a) (Vm.Alike.refl U.vm) h3.2.2.2.2⟩
/-- the raw calls, which the law's body uses too -/
theorem raw_callV {idx n d' mc' ms' ci a nn : Nat} {y : MethodName} {cy : ByteArray} {nLy : Nat} {rty : Option FieldType} {As st0 : List MV} {Post' : Option MV → Wd → Prop} (hx : p.tables.exec = Jvm.exec) (hb : c.code = cc) (hml : c.maxLocals = nL) (hown : s.vm.findClass own = some m.cls) (hts : ∀ q ∈ lw_U, q.before args s = true) (hE : EnvK D dA s) (hAs : A.size = nL)
    (hS : va_S (fun q => b ≤ q) s.heap H locs) (hR : Rp D dA b w H) (hL : LkV own idx ci y cy nLy rty n) (hM : CC d' mc' ms' y cy nLy rty (.inr (some a) :: As) w Post') (hd : d' + 1 ≤ R.frames ∧ 39 + 40 * d' ≤ R.locals) (ha : a < w.1) (hs : w.2.1 a = (ci, nn)) (hn : As.length = n) (hst : st0 = As.reverse ++ .inr (some a) :: st) (h8 : st.length ≤ 8) (hdg : decode cc pc = .ok (.invokevirtual idx, 3)) (hf : cells + mc' ≤ R.cells ∧ slots + ms' ≤ R.slots)
    (k : ∀ (r : Option MV) (w' : Wd) (H1 : Heap) (locs1 : List Loc), Post' r w' → va_S (fun q => b ≤ q) s.heap H1 locs1 → Rp D dA b w' H1 → W p l e_ R s m args below meth c H1 locs1 (cells + mc') (slots + ms') Q (F0 m (pc + 3) A ((r.toList ++ st).map (tv b)))) : W p l e_ R s m args below meth c H locs cells slots Q (F0 m pc A (st0.map (tv b))) := by
  obtain ⟨⟨hini, hcode, hd3, hn20⟩, hlk, hins, hsel, ⟨T, N, hcl⟩, hc100⟩ := hL
  have S : CallFix p m c cc nL s args lw_U own := ⟨hx, hb, hml, hown, hts⟩
  have cw := cwV (R := R) (s := s) (args := args) (own := own) (index := idx) (C := y.cls) (y := y) (bytes := cy) (maxL := nLy) (ret := rty) (rm := rmD d' mc' ms') (Ts := lw_U) (ws := Cond.code y cy nLy rty :: lw_U) (ws' := lw_U) n hts (lkGood (ws := [.methodLink own idx y, .instanceMethod y, .selects y.cls y y, .initialized y.cls]) (by
      intro q hq
      simp only [List.mem_cons, List.not_mem_nil, or_false] at hq
      rcases hq with rfl | rfl | rfl | rfl
      · exact hlk
      · exact hins
      · exact hsel
      · exact hini) hcode) rfl rfl rfl ⟨rfl, hd3⟩ ⟨hd.1, by show 8 + (nLy + 11) + 40 * d' ≤ _; omega⟩
  have hp : PreV s H y.cls (b + a) (va_Pc ((.inr (some a) :: As : List MV).map (tv b)) (fun U => Rp D dA b w U.heap ∧ EnvK D dA U)) (As.map (tv b)) :=
    ⟨CC_blind, va_recv hE.1 hR.1 hcl (wL_obj ha hs hc100), fun U hU hW => ⟨rfl, by rw [hU]; exact hR, EnvK.moved hW hE⟩⟩
  refine run_go hS (va_runV S (hM l D dA b) cw hp rfl (by rw [List.length_map]; exact hn) hAs ?_ (lv_room (by rw [tv_sum]; exact h8)) hdg hf) k
  show st0.map (tv b) = _
  rw [hst, List.map_append, List.map_cons, List.map_reverse]
  rfl
theorem raw_callS {idx n d' mc' ms' : Nat} {y : MethodName} {cy : ByteArray} {nLy : Nat} {rty : Option FieldType} {As st0 : List MV} {Post' : Option MV → Wd → Prop} (hx : p.tables.exec = Jvm.exec) (hb : c.code = cc) (hml : c.maxLocals = nL) (hown : s.vm.findClass own = some m.cls) (hts : ∀ q ∈ lw_U, q.before args s = true) (hE : EnvK D dA s) (hAs : A.size = nL)
    (hS : va_S (fun q => b ≤ q) s.heap H locs) (hR : Rp D dA b w H) (hL : LkS own idx y cy nLy rty n) (hM : CC d' mc' ms' y cy nLy rty As w Post') (hd : d' + 1 ≤ R.frames ∧ 39 + 40 * d' ≤ R.locals) (hn : As.length = n) (hst : st0 = As.reverse ++ st) (h8 : st.length ≤ 8) (hdg : decode cc pc = .ok (.invokestatic idx, 3)) (hf : cells + mc' ≤ R.cells ∧ slots + ms' ≤ R.slots)
    (k : ∀ (r : Option MV) (w' : Wd) (H1 : Heap) (locs1 : List Loc), Post' r w' → va_S (fun q => b ≤ q) s.heap H1 locs1 → Rp D dA b w' H1 → W p l e_ R s m args below meth c H1 locs1 (cells + mc') (slots + ms') Q (F0 m (pc + 3) A ((r.toList ++ st).map (tv b)))) : W p l e_ R s m args below meth c H locs cells slots Q (F0 m pc A (st0.map (tv b))) := by
  obtain ⟨⟨hini, hcode, hd3, hn20⟩, hlk, hstt⟩ := hL
  have S : CallFix p m c cc nL s args lw_U own := ⟨hx, hb, hml, hown, hts⟩
  have hR2 : (rmD d' mc' ms').frames + 1 ≤ R.frames ∧ 8 + (nLy + 11) + (rmD d' mc' ms').locals ≤ R.locals := ⟨hd.1, by show 8 + (nLy + 11) + 40 * d' ≤ _; omega⟩
  have hp : PreS s H (va_Pc (As.map (tv b)) (fun U => Rp D dA b w U.heap ∧ EnvK D dA U)) (As.map (tv b)) :=
    ⟨CC_blind, fun U hU hW => ⟨rfl, by rw [hU]; exact hR, EnvK.moved hW hE⟩⟩
  have hstk : st0.map (tv b) = (As.map (tv b)).reverse ++ st.map (tv b) := by rw [hst, List.map_append, List.map_reverse]
  rcases hlk with hlk | ⟨host, hlk⟩
  · have cw := va_cwS (R := R) (s := s) (args := args) (own := own) (index := idx) (y := y) (bytes := cy) (maxL := nLy) (ret := rty) (rm := rmD d' mc' ms') (Ts := lw_U) (ws := Cond.code y cy nLy rty :: lw_U) (ws' := lw_U) n hts (lkGood (ws := [.methodLink own idx y, .static y, .initialized y.cls]) (by
      intro q hq
      simp only [List.mem_cons, List.not_mem_nil, or_false] at hq
      rcases hq with rfl | rfl | rfl
      · exact hlk
      · exact hstt
      · exact hini) hcode) rfl rfl rfl hd3 hR2
    exact run_go hS (va_runS S (hM l D dA b) cw hp rfl (by rw [List.length_map]; exact hn) hAs hstk (lv_room (by rw [tv_sum]; exact h8)) hdg hf) k
  · have cw := va_cnB (R := R) (s := s) (args := args) (own := own) (host := host) (index := idx) (y := y) (bytes := cy) (maxL := nLy) (ret := rty) (rm := rmD d' mc' ms') (Ts := lw_U) (ws := Cond.code y cy nLy rty :: lw_U) (ws' := lw_U) n hts (lkGood (ws := []) (fun q hq => absurd hq List.not_mem_nil) hcode) rfl rfl rfl (hE.2.1 _ hlk) (hts _ hini) hd3 hR2
    exact run_go hS (va_runSN S (hM l D dA b) ⟨cw, hts _ hstt, trivial⟩ hp rfl (by rw [List.length_map]; exact hn) hAs hstk (lv_room (by rw [tv_sum]; exact h8)) hdg hf) k
theorem raw_callI {idx n d' mc' ms' a : Nat} {y : MethodName} {cy : ByteArray} {nLy : Nat} {As st0 : List MV} {Post' : Option MV → Wd → Prop} (hx : p.tables.exec = Jvm.exec) (hb : c.code = cc) (hml : c.maxLocals = nL) (hown : s.vm.findClass own = some m.cls) (hts : ∀ q ∈ lw_U, q.before args s = true) (hE : EnvK D dA s) (hAs : A.size = nL)
    (hS : va_S (fun q => b ≤ q) s.heap H locs) (hR : Rp D dA b w H) (hL : LkI own idx y cy nLy n) (hM : CC d' mc' ms' y cy nLy none (.inr (some a) :: As) w Post') (hd : d' + 1 ≤ R.frames ∧ 39 + 40 * d' ≤ R.locals) (hn : As.length = n) (hst : st0 = As.reverse ++ .inr (some a) :: st) (h8 : st.length ≤ 8) (hdg : decode cc pc = .ok (.invokespecial idx, 3)) (hf : cells + mc' ≤ R.cells ∧ slots + ms' ≤ R.slots)
    (k : ∀ (r : Option MV) (w' : Wd) (H1 : Heap) (locs1 : List Loc), Post' r w' → va_S (fun q => b ≤ q) s.heap H1 locs1 → Rp D dA b w' H1 → W p l e_ R s m args below meth c H1 locs1 (cells + mc') (slots + ms') Q (F0 m (pc + 3) A ((r.toList ++ st).map (tv b)))) : W p l e_ R s m args below meth c H locs cells slots Q (F0 m pc A (st0.map (tv b))) := by
  obtain ⟨⟨hini, hcode, hd3, hn20⟩, hlk, hins, hnm⟩ := hL
  have S : CallFix p m c cc nL s args lw_U own := ⟨hx, hb, hml, hown, hts⟩
  have hR2 : (rmD d' mc' ms').frames + 1 ≤ R.frames ∧ 8 + (nLy + 11) + (rmD d' mc' ms').locals ≤ R.locals := ⟨hd.1, by show 8 + (nLy + 11) + 40 * d' ≤ _; omega⟩
  have hp : PreS s H (va_Pc ((.inr (some a) :: As : List MV).map (tv b)) (fun U => Rp D dA b w U.heap ∧ EnvK D dA U)) (.ref (b + a) :: As.map (tv b)) :=
    ⟨CC_blind, fun U hU hW => ⟨rfl, by rw [hU]; exact hR, EnvK.moved hW hE⟩⟩
  have hstk : st0.map (tv b) = (As.map (tv b)).reverse ++ .ref (b + a) :: st.map (tv b) := by
    rw [hst, List.map_append, List.map_cons, List.map_reverse]
    rfl
  have hG : GoodIn lw_U (Cond.code y cy nLy none :: lw_U) := lkGood (ws := []) (fun q hq => absurd hq List.not_mem_nil) hcode
  rcases hlk with hlk | ⟨host, hlk⟩
  · have cw := cwI (R := R) (s := s) (args := args) (own := own) (index := idx) (y := y) (bytes := cy) (maxL := nLy) (rm := rmD d' mc' ms') (Ts := lw_U) (ws := Cond.code y cy nLy none :: lw_U) (ws' := lw_U) n hts hG rfl rfl rfl (hts _ hini) (hts _ hlk) (hts _ hins) hnm hd3 hR2
    exact run_go hS (va_runI S (hM l D dA b) cw hp rfl (by rw [List.length_map]; exact hn) hAs hstk (lv_room (by rw [tv_sum]; exact h8)) hdg hf) k
  · have cw := va_cnB (R := R) (s := s) (args := args) (own := own) (host := host) (index := idx) (y := y) (bytes := cy) (maxL := nLy) (ret := none) (rm := rmD d' mc' ms') (Ts := lw_U) (ws := Cond.code y cy nLy none :: lw_U) (ws' := lw_U) n hts hG rfl rfl rfl (hE.2.1 _ hlk) (hts _ hini) hd3 hR2
    exact run_go hS (va_runIN S (hM l D dA b) ⟨cw, hnm, hts _ hins⟩ hp rfl (by rw [List.length_map]; exact hn) hAs hstk (lv_room (by rw [tv_sum]; exact h8)) hdg hf) k
/-! the calls of WW -/
theorem r_callV {idx n d' mc' ms' ci a nn : Nat} {y : MethodName} {cy : ByteArray} {nLy : Nat} {rty : Option FieldType} {As st0 : List MV} {Post' : Option MV → Wd → Prop} (hL : LkV own idx ci y cy nLy rty n) (hdg : decode cc pc = .ok (.invokevirtual idx, 3)) (hM : CC d' mc' ms' y cy nLy rty (.inr (some a) :: As) w Post') (hd : d' + 1 ≤ d) (ha : a < w.1) (hs : w.2.1 a = (ci, nn)) (hn : As.length = n) (hst : st0 = As.reverse ++ .inr (some a) :: st) (h8 : st.length ≤ 8) (hf : uc + mc' ≤ mc ∧ us + ms' ≤ ms)
    (k : ∀ (r : Option MV) (w' : Wd), Post' r w' → WW cc own nL rt ini d mc ms Post (uc + mc') (us + ms') (pc + 3) ls (r.toList ++ st) w') : WW cc own nL rt ini d mc ms Post uc us pc ls st0 w := by
  intro l D dA b p e_ s m args below meth c H locs A hC hb0 hS hR hLs
  have hC' := hC
  obtain ⟨hx, hb, hml, hrt, hlk, hin2, hown, hts, hE⟩ := hC'
  exact raw_callV hx hb hml hown hts hE hLs.1 hS hR hL hM ⟨hd, by show _ ≤ 40 * d; omega⟩ ha hs hn hst h8 hdg hf (fun r w' H1 locs1 hP hS1 hR1 => k r w' hP l D dA b p e_ s m args below meth c H1 locs1 A hC hb0 hS1 hR1 hLs)
theorem r_callS {idx n d' mc' ms' : Nat} {y : MethodName} {cy : ByteArray} {nLy : Nat} {rty : Option FieldType} {As st0 : List MV} {Post' : Option MV → Wd → Prop} (hL : LkS own idx y cy nLy rty n) (hdg : decode cc pc = .ok (.invokestatic idx, 3)) (hM : CC d' mc' ms' y cy nLy rty As w Post') (hd : d' + 1 ≤ d) (hn : As.length = n) (hst : st0 = As.reverse ++ st) (h8 : st.length ≤ 8) (hf : uc + mc' ≤ mc ∧ us + ms' ≤ ms)
    (k : ∀ (r : Option MV) (w' : Wd), Post' r w' → WW cc own nL rt ini d mc ms Post (uc + mc') (us + ms') (pc + 3) ls (r.toList ++ st) w') : WW cc own nL rt ini d mc ms Post uc us pc ls st0 w := by
  intro l D dA b p e_ s m args below meth c H locs A hC hb0 hS hR hLs
  have hC' := hC
  obtain ⟨hx, hb, hml, hrt, hlk, hin2, hown, hts, hE⟩ := hC'
  exact raw_callS hx hb hml hown hts hE hLs.1 hS hR hL hM ⟨hd, by show _ ≤ 40 * d; omega⟩ hn hst h8 hdg hf (fun r w' H1 locs1 hP hS1 hR1 => k r w' hP l D dA b p e_ s m args below meth c H1 locs1 A hC hb0 hS1 hR1 hLs)
theorem r_callI {idx n d' mc' ms' a : Nat} {y : MethodName} {cy : ByteArray} {nLy : Nat} {As st0 : List MV} {Post' : Option MV → Wd → Prop} (hL : LkI own idx y cy nLy n) (hdg : decode cc pc = .ok (.invokespecial idx, 3)) (hM : CC d' mc' ms' y cy nLy none (.inr (some a) :: As) w Post') (hd : d' + 1 ≤ d) (hn : As.length = n) (hst : st0 = As.reverse ++ .inr (some a) :: st) (h8 : st.length ≤ 8) (hf : uc + mc' ≤ mc ∧ us + ms' ≤ ms)
    (k : ∀ (r : Option MV) (w' : Wd), Post' r w' → WW cc own nL rt ini d mc ms Post (uc + mc') (us + ms') (pc + 3) ls (r.toList ++ st) w') : WW cc own nL rt ini d mc ms Post uc us pc ls st0 w := by
  intro l D dA b p e_ s m args below meth c H locs A hC hb0 hS hR hLs
  have hC' := hC
  obtain ⟨hx, hb, hml, hrt, hlk, hin2, hown, hts, hE⟩ := hC'
  exact raw_callI hx hb hml hown hts hE hLs.1 hS hR hL hM ⟨hd, by show _ ≤ 40 * d; omega⟩ hn hst h8 hdg hf (fun r w' H1 locs1 hP hS1 hR1 => k r w' hP l D dA b p e_ s m args below meth c H1 locs1 A hC hb0 hS1 hR1 hLs)
/-- Object's own constructor -/
theorem r_obj {idx a : Nat} (hl : Cond.methodLink own idx objectInit ∈ lw_U ∧ Cond.instanceMethod objectInit ∈ lw_U ∧ Cond.code objectInit ⟨#[0xb1]⟩ 1 none ∈ lw_U) (hdg : decode cc pc = .ok (.invokespecial idx, 3)) (h8 : st.length ≤ 8) (hd : 1 ≤ d) (k : WW cc own nL rt ini d mc ms Post uc us (pc + 3) ls st w) : WW cc own nL rt ini d mc ms Post uc us pc ls (.inr (some a) :: st) w := by
  intro l D dA b p e_ s m args below meth c H locs A hC hb0 hS hR hLs
  have K := k l D dA b p e_ s m args below meth c H locs A hC hb0 hS hR hLs
  obtain ⟨hx, hb, hml, hrt, hlk, hin2, hown, hts, hE⟩ := hC
  have h9 : ((st.map (tv b)).map fun v => v.category).sum ≤ 8 := by rw [tv_sum]; exact h8
  refine W.objInit hx hb hown (hts _ hl.1) (hts _ hl.2.1) (hts _ hl.2.2) rfl (by rw [hml]; exact hLs.1) rfl hdg (by show 1 ≤ d; exact hd) ?_ K
  show 2 * 0 + ((st.map (tv b)).map fun v => v.category).sum + 12 ≤ 40 * d
  omega
/-! new cells -/
def newW (w : Wd) (kd n : Nat) : Wd := (w.1 + 1, (fun q => if q = w.1 then (kd, n) else w.2.1 q), (fun q j => if q = w.1 then 0 else w.2.2.1 q j), (fun q j => if q = w.1 then none else w.2.2.2 q j))
theorem wE_new {b : Nat} {dA : Nat → ClassId} {w : Wd} {kd n q : Nat} (h : q < w.1) : wE b dA (newW w kd n) q = wE b dA w q := by
  have hq : ¬ q = w.1 := by omega
  unfold wE wF fV newW
  simp only [if_neg hq]
theorem wL_new {b : Nat} {dA : Nat → ClassId} {w : Wd} {kd n : Nat} : wL b dA (newW w kd n) = wL b dA w ++ [(b + w.1, wE b dA (newW w kd n) w.1)] := by
  unfold wL
  rw [show (newW w kd n).1 = w.1 + 1 from rfl, List.range_succ, List.map_append]
  congr 1
  apply List.map_congr_left
  intro q hq
  rw [wE_new (List.mem_range.mp hq)]
theorem Rp_new {w : Wd} {kd n : Nat} {H1 : Heap} (hR : Rp D dA b w H) (z1 : H1.size = H.size + 1) (o1 : ∀ q, q < H.size → H1[q]? = H[q]?) (he : va_at D cls9 (b + w.1, wE b dA (newW w kd n) w.1) H1) : Rp D dA b (newW w kd n) H1 := by
  refine ⟨?_, by rw [z1, hR.2]; rfl⟩
  rw [wL_new]
  refine va_P.app (hR.1.kept (fun k x hx => o1 x.1 ((hR.1 k x hx).lt))) (fun k x hx => ?_)
  have hz : k < 1 := (List.getElem?_eq_some_iff.mp hx).1
  rw [show k = 0 by omega] at hx
  cases hx
  exact he
theorem va_S.new {A0 : Nat → Prop} {H0 H1 : Heap} (hS : va_S A0 H0 H locs) (z1 : H1.size = H.size + 1) (o1 : ∀ q, q < H.size → H1[q]? = H[q]?) : va_S A0 H0 H1 locs :=
  ⟨Nat.le_trans hS.1 (by omega), fun x h1 h2 => (o1 x (Nat.lt_of_lt_of_le h1 hS.1)).trans (hS.2.1 x h1 h2), hS.2.2⟩
theorem wF_def {b : Nat} {w : Wd} {k ci : Nat} (hI : ∀ j : Int, w.2.2.1 k j = 0) (hR : ∀ j : Int, w.2.2.2 k j = none) (ty : Nat → FieldType) (N : Nat) (hN : nF ci = N) (ht : ∀ j, j < N → tyC ci j = ty j) (hk : ∀ j, j < N → isI (ty j) = true ∨ defaultValue (ty j) = .null) : ∀ j, j < N → defaultValue (ty j) = vp_V (wF b w k ci) j := by
  intro j hj
  unfold vp_V
  rw [List.getD_eq_getElem?_getD, wF_get (by omega)]
  show _ = fV b w k ci j
  unfold fV
  rw [ht j hj, hI, hR]
  rcases hk j hj with h | h
  · rw [if_pos h, isI_int h]
    rfl
  · rw [h, if_neg ?_]
    · rfl
    · intro q
      rw [isI_int q] at h
      cases h
/-- a class that can be made: what the tables say of it -/
def NwOk (own : String) (idx ci : Nat) (C : String) (N : Nat) : Prop := (∃ T, ClOk ci C T N) ∧ Cond.classLink own idx C ∈ lw_U ∧ Cond.instantiable C N ∈ lw_U ∧ Cond.initialized C ∈ lw_U ∧ ∀ j, j < N → isI (tyC ci j) = true ∨ defaultValue (tyC ci j) = .null
theorem r_new {idx ci N : Nat} {C : String} (hN : NwOk own idx ci C N) (hdg : decode cc pc = .ok (.new idx, 3)) (hf : uc + 1 ≤ mc ∧ us + N ≤ ms) (k : WW cc own nL rt ini d mc ms Post (uc + 1) (us + N) (pc + 3) ls (.inr (some w.1) :: st) (newW w ci 0)) : WW cc own nL rt ini d mc ms Post uc us pc ls st w := by
  intro l D dA b p e_ s m args below meth c H locs A hC hb0 hS hR hLs
  have hC' := hC
  obtain ⟨hx, hb, hml, hrt, hlk, hin2, hown, hts, hE⟩ := hC'
  obtain ⟨⟨T, hc100, hcl, hin, hty, hnm, hNF⟩, hl1, hl2, hl3, hdef⟩ := hN
  have hKn := hE.1.1 ci _ hcl
  refine W.newcK hx hb hown (hts _ hl1) (hts _ hl2) (hts _ hl3) rfl hdg hf.1 hf.2 hKn.2.1 rfl fun H1 kC hkC e1 z1 o1 => ?_
  have e9 : wE b dA (newW w ci 0) w.1 = .inr (ci, wF b (newW w ci 0) w.1 ci) := by
    unfold wE
    rw [show (newW w ci 0).2.1 w.1 = (ci, 0) from if_pos rfl, if_pos hc100]
  have hR1 : Rp D dA b (newW w ci 0) H1 := by
    refine Rp_new hR z1 o1 ?_
    rw [e9, ← hR.2]
    exact ⟨_, hcl, (u_born (tyC ci) hts hin hKn hkC e1 hty).to (wF_def (fun j => if_pos rfl) (fun j => if_pos rfl) (tyC ci) N hNF (fun j _ => rfl) hdef)⟩
  rw [hR.2]
  exact k l D dA b p e_ s m args below meth c H1 locs A hC hb0 (hS.new z1 o1) hR1 hLs
theorem r_newa {n t : Nat} {z : Int} {aty : ArrayType} (ht : (t = 0 ∧ aty = .int) ∨ (t = 1 ∧ aty = .byte)) (hl : Cond.arrayClass (newarray.typeOf aty) ∈ lw_U) (hz : z = n) (hn : n ≤ 100000) (hdg : decode cc pc = .ok (.newarray aty, 2)) (hf : uc + 1 ≤ mc ∧ us + n ≤ ms) (k : WW cc own nL rt ini d mc ms Post (uc + 1) (us + n) (pc + 2) ls (.inr (some w.1) :: st) (newW w (100 + t) n)) : WW cc own nL rt ini d mc ms Post uc us pc ls (.inl z :: st) w := by
  intro l D dA b p e_ s m args below meth c H locs A hC hb0 hS hR hLs
  have hC' := hC
  obtain ⟨hx, hb, hml, hrt, hlk, hin2, hown, hts, hE⟩ := hC'
  subst hz
  have hneg : ¬ Int32.ofInt (n : Int) < 0 := by
    rw [← i32_0, i32_lt (by omega) (by omega)]
    omega
  have hN : (Int32.ofInt (n : Int)).toNatClampNeg = n := by rw [i32_cl (by omega)]; omega
  have go : ∀ ty : FieldType, newarray.typeOf aty = ty → (tysA dA)[t]? = some (dA t, ty) → defaultValue ty = .int 0 → componentBytes ty ≤ 8 → va_RA s (dA t) ty = (s.vm.findClass ("[" ++ ty.toString) = some (dA t)) → t < 2 → W p l e_ (rmD d mc ms) s m args below meth c H locs uc us (MQ below (QP D dA b Post) args s mc ms (fun q => b ≤ q)) (F0 m pc A (.int (Int32.ofInt (n : Int)) :: st.map (tv b))) := by
    intro ty hty htt hdv hcb hra ht2
    subst hty
    refine va_newaK hx hb (hts _ hl) rfl hdg rfl hneg hN (Nat.le_trans (Nat.mul_le_mul_left n hcb) (by omega)) hf.1 hf.2 rfl fun H1 cA e1 z1 o1 hAr hNm => ?_
    have hcA : cA = dA t := by
      have h9 := (hE.1.2 t _ htt).2
      rw [hra] at h9
      exact Option.some.inj (hNm.symm.trans h9)
    subst hcA
    have hR1 : Rp D dA b (newW w (100 + t) n) H1 := by
      refine Rp_new hR z1 o1 ?_
      have e9 : wE b dA (newW w (100 + t) n) w.1 = .inl (dA t, n, .inl (fun _ => 0)) := by
        unfold wE
        rw [show (newW w (100 + t) n).2.1 w.1 = (100 + t, n) from if_pos rfl, if_neg (by show ¬ 100 + t < 100; omega), if_pos (by show 100 + t < 102; omega)]
        show Sum.inl (dA (100 + t - 100), n, Sum.inl (fun j : Nat => Int32.ofInt (if w.1 = w.1 then 0 else _))) = _
        rw [Nat.add_sub_cancel_left]
        simp only [if_true]
        rfl
      rw [e9, ← hR.2]
      show H1[H.size]? = some (vp_cell _ _)
      rw [e1, vp_cell_i, hdv]
    rw [hR.2]
    exact k l D dA b p e_ s m args below meth c H1 locs A hC hb0 (hS.new z1 o1) hR1 hLs
  rcases ht with ⟨rfl, rfl⟩ | ⟨rfl, rfl⟩
  · exact go .int rfl rfl rfl (by decide) rfl (by omega)
  · exact go .byte rfl rfl rfl (by decide) rfl (by omega)
theorem r_newq {idx n t : Nat} {z : Int} {C : String} (ht : (t = 2 ∧ C = RX3) ∨ (t = 3 ∧ C = RX5) ∨ (t = 4 ∧ C = RX1)) (hl : Cond.classLink own idx C ∈ lw_U) (hz : z = n) (hn : n ≤ 100000) (hdg : decode cc pc = .ok (.anewarray idx, 3)) (hf : uc + 1 ≤ mc ∧ us + n ≤ ms) (k : WW cc own nL rt ini d mc ms Post (uc + 1) (us + n) (pc + 3) ls (.inr (some w.1) :: st) (newW w (100 + t) n)) : WW cc own nL rt ini d mc ms Post uc us pc ls (.inl z :: st) w := by
  intro l D dA b p e_ s m args below meth c H locs A hC hb0 hS hR hLs
  have hC' := hC
  obtain ⟨hx, hb, hml, hrt, hlk, hin2, hown, hts, hE⟩ := hC'
  subst hz
  have hneg : ¬ Int32.ofInt (n : Int) < 0 := by
    rw [← i32_0, i32_lt (by omega) (by omega)]
    omega
  have hN : (Int32.ofInt (n : Int)).toNatClampNeg = n := by rw [i32_cl (by omega)]; omega
  have go : (tysA dA)[t]? = some (dA t, .object C) → va_AO C s → 2 ≤ t → W p l e_ (rmD d mc ms) s m args below meth c H locs uc us (MQ below (QP D dA b Post) args s mc ms (fun q => b ≤ q)) (F0 m pc A (.int (Int32.ofInt (n : Int)) :: st.map (tv b))) := by
    intro htt hao ht2
    refine W.anew hx hb hown (hts _ hl) (va_AO.use hao) rfl hdg rfl hneg (by rw [hN]; omega) hf.1 (by rw [hN]; exact hf.2) fun cA kA comp f1 f2 f3 f4 => ?_
    rw [hN]
    generalize hH1 : H.push ({ cls := cA, slots := Array.replicate n .null, vm := .none } : Cell) = H1
    have z1 : H1.size = H.size + 1 := by rw [← hH1, Array.size_push]
    have e1 : H1[H.size]? = some (arrV cA n (fun _ => .null)) := by rw [← hH1, Array.getElem?_push_size, ← arrV_new]
    have o1 : ∀ q : Nat, q < H.size → H1[q]? = H[q]? := fun q hq => by rw [← hH1, Array.getElem?_push, if_neg (Nat.ne_of_lt hq)]
    have hcA : cA = dA t := by
      obtain ⟨kA2, comp2, g1, g2, g3, g4⟩ := (hE.1.2 t _ htt).2
      exact Option.some.inj (f1.symm.trans g4)
    subst hcA
    have hR1 : Rp D dA b (newW w (100 + t) n) H1 := by
      refine Rp_new hR z1 o1 ?_
      have e9 : wE b dA (newW w (100 + t) n) w.1 = .inl (dA t, n, .inr (.inr (.inr (.inr (fun _ => none))))) := by
        unfold wE
        rw [show (newW w (100 + t) n).2.1 w.1 = (100 + t, n) from if_pos rfl, if_neg (by show ¬ 100 + t < 100; omega), if_neg (by show ¬ 100 + t < 102; omega)]
        show Sum.inl (dA (100 + t - 100), n, Sum.inr (Sum.inr (Sum.inr (Sum.inr (fun j : Nat => (if w.1 = w.1 then none else _).map _))))) = _
        rw [Nat.add_sub_cancel_left]
        simp only [if_true]
        rfl
      rw [e9, ← hR.2]
      show H1[H.size]? = some (vp_cell _ _)
      rw [e1, vp_cell_q]
      rfl
    rw [hR.2]
    exact k l D dA b p e_ s m args below meth c H1 locs A hC hb0 (hS.new z1 o1) hR1 hLs
  rcases ht with ⟨rfl, rfl⟩ | ⟨rfl, rfl⟩ | ⟨rfl, rfl⟩
  · exact go rfl hE.2.2.1 (by omega)
  · exact go rfl hE.2.2.2.1 (by omega)
  · exact go rfl hE.2.2.2.2 (by omega)
/-! a method -/
theorem lg_some {as : List MV} {n i : Nat} {v : MV} (h : lg (as.map some ++ List.replicate n none) i = some v) : as[i]? = some v := by
  induction as generalizing i with
  | nil =>
    exfalso
    have hk : ∀ (n i : Nat), lg (List.replicate n none) i = none := by
      intro n
      induction n with
      | zero => intro i; rfl
      | succ n ih =>
        intro i
        cases i with
        | zero => rfl
        | succ i => exact ih i
    have h' : lg (List.replicate n none) i = some v := h
    rw [hk] at h'
    cases h'
  | cons a l ih =>
    cases i with
    | zero => exact h
    | succ i => exact ih h
theorem CC_of {y : MethodName} {as : List MV} (hy : plainName y.cls = true) (hcls : y.cls = own) (hini : ini = true → y.name = "<init>") (hlen : as.length ≤ nL) (h : WW cc own nL rt ini d mc ms Post 0 0 0 (as.map some ++ List.replicate (nL - as.length) none) [] w) : CC d mc ms y cc nL rt as w Post := by
  intro l D dA b
  refine Met.ofW (cc := cc) (maxL := nL) (ret := rt) hy rfl ?_
  intro p e_ s m args below meth c s₁ B hml hv
  obtain ⟨rfl, hR, hE⟩ := hv
  have hx := B.exec
  have hb := B.bytes
  have hr := B.returns
  have hts := atoms_spec (ws := Cond.code y cc nL rt :: lw_U) B.pre
  have hown : s.vm.findClass own = some m.cls := hcls ▸ findClass_of_methodNamed B.named
  have hlocks := B.notSynchronized
  have hin2 : ini = true → meth.name = "<init>" := fun q => by rw [(name_of_methodNamed B.named B.method).1]; exact hini q
  have hC : Cx cc own nL rt ini D dA p s m (as.map (tv b)).toArray meth c := ⟨hx, hb, hml, hr, hlocks, hin2, hown, fun q hq => hts q (List.mem_cons_of_mem _ hq), hE⟩
  have hcat : ∀ v ∈ as.map (tv b), v.category = 1 := fun v hv => by
    obtain ⟨q, -, rfl⟩ := List.mem_map.mp hv
    exact tv_cat b q
  rw [entry_eq m (as.map (tv b)) hcat nL]
  refine h l D dA b p e_ s m _ below meth c s.heap [] _ hC (by rw [hR.2]; omega) va_S.rf hR ?_
  have hsz : ((as.map (tv b)).map Slot.val ++ List.replicate (nL - (as.map (tv b)).length) Slot.unset).length = nL := by simp; omega
  refine ⟨by simpa using hsz, ⟨fun i v hv h2 => ?_, fun i hv => ?_⟩, fun i v hv => ?_⟩
  · exfalso
    have hm := List.mem_of_getElem? (by simpa using hv : ((as.map (tv b)).map Slot.val ++ List.replicate (nL - (as.map (tv b)).length) Slot.unset)[i]? = some (Slot.val v))
    rcases List.mem_append.mp hm with q | q
    · obtain ⟨x, hx2, hx3⟩ := List.mem_map.mp q
      cases hx3
      rw [hcat _ hx2] at h2
      cases h2
    · have := List.eq_of_mem_replicate q
      cases this
  · exfalso
    have hm := List.mem_of_getElem? (by simpa using hv : ((as.map (tv b)).map Slot.val ++ List.replicate (nL - (as.map (tv b)).length) Slot.unset)[i]? = some Slot.second)
    rcases List.mem_append.mp hm with q | q
    · obtain ⟨x, hx2, hx3⟩ := List.mem_map.mp q
      cases hx3
    · have := List.eq_of_mem_replicate q
      cases this
  · have h9 := lg_some hv
    have hlt := (List.getElem?_eq_some_iff.mp h9).1
    show ((as.map (tv b)).map Slot.val ++ List.replicate (nL - (as.map (tv b)).length) Slot.unset).toArray[i]? = _
    rw [List.getElem?_toArray, List.getElem?_append_left (by simpa using hlt), List.getElem?_map, List.getElem?_map, h9]
    rfl
end CW
end
section
/-! by program: what the tables say of each method, call, field and class that can be made -/
theorem mU {w : Cond} (i : Nat) (h : lw_tbl[i]? = some w) (hg : goodWord w = true) : w ∈ lw_U := List.mem_filter.mpr ⟨List.mem_of_getElem? h, hg⟩
theorem inU_0 : ∀ q ∈ u_ws RX0 TX0 12, q ∈ lw_U := by
  intro q hq
  obtain ⟨k, hk, rfl⟩ := List.mem_map.mp hq
  have hk : k < 12 := List.mem_range.mp hk
  match k, hk with
  | 0, _ => exact mU 241 (by decide +kernel) (by decide +kernel)
  | 1, _ => exact mU 243 (by decide +kernel) (by decide +kernel)
  | 2, _ => exact mU 245 (by decide +kernel) (by decide +kernel)
  | 3, _ => exact mU 247 (by decide +kernel) (by decide +kernel)
  | 4, _ => exact mU 249 (by decide +kernel) (by decide +kernel)
  | 5, _ => exact mU 251 (by decide +kernel) (by decide +kernel)
  | 6, _ => exact mU 253 (by decide +kernel) (by decide +kernel)
  | 7, _ => exact mU 255 (by decide +kernel) (by decide +kernel)
  | 8, _ => exact mU 257 (by decide +kernel) (by decide +kernel)
  | 9, _ => exact mU 259 (by decide +kernel) (by decide +kernel)
  | 10, _ => exact mU 261 (by decide +kernel) (by decide +kernel)
  | 11, _ => exact mU 263 (by decide +kernel) (by decide +kernel)
  | k + 12, h => omega
theorem clOk_0 : ClOk 0 RX0 TX0 12 := ⟨by decide, rfl, inU_0, tyX0_ok, nmX0, rfl⟩
theorem inU_1 : ∀ q ∈ u_ws RX1 TX1 3, q ∈ lw_U := by
  intro q hq
  obtain ⟨k, hk, rfl⟩ := List.mem_map.mp hq
  have hk : k < 3 := List.mem_range.mp hk
  match k, hk with
  | 0, _ => exact mU 112 (by decide +kernel) (by decide +kernel)
  | 1, _ => exact mU 114 (by decide +kernel) (by decide +kernel)
  | 2, _ => exact mU 116 (by decide +kernel) (by decide +kernel)
  | k + 3, h => omega
theorem clOk_1 : ClOk 1 RX1 TX1 3 := ⟨by decide, rfl, inU_1, tyX1_ok, nmX1, rfl⟩
theorem inU_2 : ∀ q ∈ u_ws RX2 TX2 6, q ∈ lw_U := by
  intro q hq
  obtain ⟨k, hk, rfl⟩ := List.mem_map.mp hq
  have hk : k < 6 := List.mem_range.mp hk
  match k, hk with
  | 0, _ => exact mU 211 (by decide +kernel) (by decide +kernel)
  | 1, _ => exact mU 213 (by decide +kernel) (by decide +kernel)
  | 2, _ => exact mU 215 (by decide +kernel) (by decide +kernel)
  | 3, _ => exact mU 217 (by decide +kernel) (by decide +kernel)
  | 4, _ => exact mU 219 (by decide +kernel) (by decide +kernel)
  | 5, _ => exact mU 221 (by decide +kernel) (by decide +kernel)
  | k + 6, h => omega
theorem clOk_2 : ClOk 2 RX2 TX2 6 := ⟨by decide, rfl, inU_2, tyX2_ok, nmX2, rfl⟩
theorem inU_3 : ∀ q ∈ u_ws RX3 TX3 5, q ∈ lw_U := by
  intro q hq
  obtain ⟨k, hk, rfl⟩ := List.mem_map.mp hq
  have hk : k < 5 := List.mem_range.mp hk
  match k, hk with
  | 0, _ => exact mU 129 (by decide +kernel) (by decide +kernel)
  | 1, _ => exact mU 131 (by decide +kernel) (by decide +kernel)
  | 2, _ => exact mU 133 (by decide +kernel) (by decide +kernel)
  | 3, _ => exact mU 135 (by decide +kernel) (by decide +kernel)
  | 4, _ => exact mU 137 (by decide +kernel) (by decide +kernel)
  | k + 5, h => omega
theorem clOk_3 : ClOk 3 RX3 TX3 5 := ⟨by decide, rfl, inU_3, tyX3_ok, nmX3, rfl⟩
theorem inU_4 : ∀ q ∈ u_ws RX4 TX4 4, q ∈ lw_U := by
  intro q hq
  obtain ⟨k, hk, rfl⟩ := List.mem_map.mp hq
  have hk : k < 4 := List.mem_range.mp hk
  match k, hk with
  | 0, _ => exact mU 154 (by decide +kernel) (by decide +kernel)
  | 1, _ => exact mU 156 (by decide +kernel) (by decide +kernel)
  | 2, _ => exact mU 158 (by decide +kernel) (by decide +kernel)
  | 3, _ => exact mU 160 (by decide +kernel) (by decide +kernel)
  | k + 4, h => omega
theorem clOk_4 : ClOk 4 RX4 TX4 4 := ⟨by decide, rfl, inU_4, tyX4_ok, nmX4, rfl⟩
theorem inU_5 : ∀ q ∈ u_ws RX5 TX5 3, q ∈ lw_U := by
  intro q hq
  obtain ⟨k, hk, rfl⟩ := List.mem_map.mp hq
  have hk : k < 3 := List.mem_range.mp hk
  match k, hk with
  | 0, _ => exact mU 93 (by decide +kernel) (by decide +kernel)
  | 1, _ => exact mU 95 (by decide +kernel) (by decide +kernel)
  | 2, _ => exact mU 97 (by decide +kernel) (by decide +kernel)
  | k + 3, h => omega
theorem clOk_5 : ClOk 5 RX5 TX5 3 := ⟨by decide, rfl, inU_5, tyX5_ok, nmX5, rfl⟩
theorem inU_6 : ∀ q ∈ u_ws RX6 TX6 6, q ∈ lw_U := by
  intro q hq
  obtain ⟨k, hk, rfl⟩ := List.mem_map.mp hq
  have hk : k < 6 := List.mem_range.mp hk
  match k, hk with
  | 0, _ => exact mU 183 (by decide +kernel) (by decide +kernel)
  | 1, _ => exact mU 185 (by decide +kernel) (by decide +kernel)
  | 2, _ => exact mU 187 (by decide +kernel) (by decide +kernel)
  | 3, _ => exact mU 189 (by decide +kernel) (by decide +kernel)
  | 4, _ => exact mU 191 (by decide +kernel) (by decide +kernel)
  | 5, _ => exact mU 193 (by decide +kernel) (by decide +kernel)
  | k + 6, h => omega
theorem clOk_6 : ClOk 6 RX6 TX6 6 := ⟨by decide, rfl, inU_6, tyX6_ok, nmX6, rfl⟩
theorem inU_7 : ∀ q ∈ u_ws RX7 TX7 7, q ∈ lw_U := by
  intro q hq
  obtain ⟨k, hk, rfl⟩ := List.mem_map.mp hq
  have hk : k < 7 := List.mem_range.mp hk
  match k, hk with
  | 0, _ => exact mU 273 (by decide +kernel) (by decide +kernel)
  | 1, _ => exact mU 275 (by decide +kernel) (by decide +kernel)
  | 2, _ => exact mU 277 (by decide +kernel) (by decide +kernel)
  | 3, _ => exact mU 279 (by decide +kernel) (by decide +kernel)
  | 4, _ => exact mU 281 (by decide +kernel) (by decide +kernel)
  | 5, _ => exact mU 283 (by decide +kernel) (by decide +kernel)
  | 6, _ => exact mU 285 (by decide +kernel) (by decide +kernel)
  | k + 7, h => omega
theorem clOk_7 : ClOk 7 RX7 TX7 7 := ⟨by decide, rfl, inU_7, tyX7_ok, nmX7, rfl⟩
theorem inU_8 : ∀ q ∈ u_ws RX8 TX8 18, q ∈ lw_U := by
  intro q hq
  obtain ⟨k, hk, rfl⟩ := List.mem_map.mp hq
  have hk : k < 18 := List.mem_range.mp hk
  match k, hk with
  | 0, _ => exact mU 660 (by decide +kernel) (by decide +kernel)
  | 1, _ => exact mU 662 (by decide +kernel) (by decide +kernel)
  | 2, _ => exact mU 664 (by decide +kernel) (by decide +kernel)
  | 3, _ => exact mU 666 (by decide +kernel) (by decide +kernel)
  | 4, _ => exact mU 668 (by decide +kernel) (by decide +kernel)
  | 5, _ => exact mU 670 (by decide +kernel) (by decide +kernel)
  | 6, _ => exact mU 672 (by decide +kernel) (by decide +kernel)
  | 7, _ => exact mU 674 (by decide +kernel) (by decide +kernel)
  | 8, _ => exact mU 676 (by decide +kernel) (by decide +kernel)
  | 9, _ => exact mU 678 (by decide +kernel) (by decide +kernel)
  | 10, _ => exact mU 680 (by decide +kernel) (by decide +kernel)
  | 11, _ => exact mU 682 (by decide +kernel) (by decide +kernel)
  | 12, _ => exact mU 684 (by decide +kernel) (by decide +kernel)
  | 13, _ => exact mU 686 (by decide +kernel) (by decide +kernel)
  | 14, _ => exact mU 688 (by decide +kernel) (by decide +kernel)
  | 15, _ => exact mU 690 (by decide +kernel) (by decide +kernel)
  | 16, _ => exact mU 692 (by decide +kernel) (by decide +kernel)
  | 17, _ => exact mU 694 (by decide +kernel) (by decide +kernel)
  | k + 18, h => omega
theorem clOk_8 : ClOk 8 RX8 TX8 18 := ⟨by decide, rfl, inU_8, tyX8_ok, nmX8, rfl⟩
theorem lb_X7_init : LkB yX7_init cX7_init 2 none 0 := ⟨(mU 52 (by decide +kernel) (by decide +kernel)), (mU 66 (by decide +kernel) (by decide +kernel)), ⟨by decide +kernel, by decide +kernel, by decide +kernel⟩, by decide⟩
theorem lb_X3_init : LkB yX3_init cX3_init 2 none 0 := ⟨(mU 53 (by decide +kernel) (by decide +kernel)), (mU 74 (by decide +kernel) (by decide +kernel)), ⟨by decide +kernel, by decide +kernel, by decide +kernel⟩, by decide⟩
theorem lb_X5_init : LkB yX5_init cX5_init 1 none 0 := ⟨(mU 54 (by decide +kernel) (by decide +kernel)), (mU 83 (by decide +kernel) (by decide +kernel)), ⟨by decide +kernel, by decide +kernel, by decide +kernel⟩, by decide⟩
theorem lb_X1_init : LkB yX1_init cX1_init 1 none 0 := ⟨(mU 55 (by decide +kernel) (by decide +kernel)), (mU 104 (by decide +kernel) (by decide +kernel)), ⟨by decide +kernel, by decide +kernel, by decide +kernel⟩, by decide⟩
theorem lb_X4_init : LkB yX4_init cX4_init 1 none 0 := ⟨(mU 56 (by decide +kernel) (by decide +kernel)), (mU 145 (by decide +kernel) (by decide +kernel)), ⟨by decide +kernel, by decide +kernel, by decide +kernel⟩, by decide⟩
theorem lb_X0_init : LkB yX0_init cX0_init 1 none 0 := ⟨(mU 57 (by decide +kernel) (by decide +kernel)), (mU 167 (by decide +kernel) (by decide +kernel)), ⟨by decide +kernel, by decide +kernel, by decide +kernel⟩, by decide⟩
theorem lb_X6_init : LkB yX6_init cX6_init 1 none 0 := ⟨(mU 58 (by decide +kernel) (by decide +kernel)), (mU 173 (by decide +kernel) (by decide +kernel)), ⟨by decide +kernel, by decide +kernel, by decide +kernel⟩, by decide⟩
theorem lb_X2_init : LkB yX2_init cX2_init 1 none 0 := ⟨(mU 59 (by decide +kernel) (by decide +kernel)), (mU 200 (by decide +kernel) (by decide +kernel)), ⟨by decide +kernel, by decide +kernel, by decide +kernel⟩, by decide⟩
theorem lb_X7_setNumber : LkB yX7_setNumber cX7_setNumber 4 (some .int) 2 := ⟨(mU 52 (by decide +kernel) (by decide +kernel)), (mU 291 (by decide +kernel) (by decide +kernel)), ⟨by decide +kernel, by decide +kernel, by decide +kernel⟩, by decide⟩
theorem lb_X7_isWithin : LkB yX7_isWithin cX7_isWithin 3 (some .boolean) 3 := ⟨(mU 52 (by decide +kernel) (by decide +kernel)), (mU 294 (by decide +kernel) (by decide +kernel)), ⟨by decide +kernel, by decide +kernel, by decide +kernel⟩, by decide⟩
theorem lb_X7_saveState : LkB yX7_saveState cX7_saveState 3 none 0 := ⟨(mU 52 (by decide +kernel) (by decide +kernel)), (mU 298 (by decide +kernel) (by decide +kernel)), ⟨by decide +kernel, by decide +kernel, by decide +kernel⟩, by decide⟩
theorem lb_X3_takeAllOf : LkB yX3_takeAllOf cX3_takeAllOf 3 none 1 := ⟨(mU 53 (by decide +kernel) (by decide +kernel)), (mU 302 (by decide +kernel) (by decide +kernel)), ⟨by decide +kernel, by decide +kernel, by decide +kernel⟩, by decide⟩
theorem lb_X5_takeStopsOf : LkB yX5_takeStopsOf cX5_takeStopsOf 3 none 1 := ⟨(mU 54 (by decide +kernel) (by decide +kernel)), (mU 306 (by decide +kernel) (by decide +kernel)), ⟨by decide +kernel, by decide +kernel, by decide +kernel⟩, by decide⟩
theorem lb_X1_takeFrom : LkB yX1_takeFrom cX1_takeFrom 3 none 1 := ⟨(mU 55 (by decide +kernel) (by decide +kernel)), (mU 310 (by decide +kernel) (by decide +kernel)), ⟨by decide +kernel, by decide +kernel, by decide +kernel⟩, by decide⟩
theorem lb_X7_setIndent : LkB yX7_setIndent cX7_setIndent 6 (some .int) 3 := ⟨(mU 52 (by decide +kernel) (by decide +kernel)), (mU 314 (by decide +kernel) (by decide +kernel)), ⟨by decide +kernel, by decide +kernel, by decide +kernel⟩, by decide⟩
theorem lb_X7_isStyle : LkB yX7_isStyle cX7_isStyle 2 (some .boolean) 1 := ⟨(mU 52 (by decide +kernel) (by decide +kernel)), (mU 318 (by decide +kernel) (by decide +kernel)), ⟨by decide +kernel, by decide +kernel, by decide +kernel⟩, by decide⟩
theorem lb_X7_setStop : LkB yX7_setStop cX7_setStop 6 (some .int) 4 := ⟨(mU 52 (by decide +kernel) (by decide +kernel)), (mU 322 (by decide +kernel) (by decide +kernel)), ⟨by decide +kernel, by decide +kernel, by decide +kernel⟩, by decide⟩
theorem lb_X5_hasStop : LkB yX5_hasStop cX5_hasStop 2 (some .boolean) 1 := ⟨(mU 54 (by decide +kernel) (by decide +kernel)), (mU 326 (by decide +kernel) (by decide +kernel)), ⟨by decide +kernel, by decide +kernel, by decide +kernel⟩, by decide⟩
theorem lb_X5_stopsBefore : LkB yX5_stopsBefore cX5_stopsBefore 4 (some .int) 1 := ⟨(mU 54 (by decide +kernel) (by decide +kernel)), (mU 330 (by decide +kernel) (by decide +kernel)), ⟨by decide +kernel, by decide +kernel, by decide +kernel⟩, by decide⟩
theorem lb_X5_putStop : LkB yX5_putStop cX5_putStop 4 none 3 := ⟨(mU 54 (by decide +kernel) (by decide +kernel)), (mU 334 (by decide +kernel) (by decide +kernel)), ⟨by decide +kernel, by decide +kernel, by decide +kernel⟩, by decide⟩
theorem lb_X7_removeStop : LkB yX7_removeStop cX7_removeStop 5 (some .int) 2 := ⟨(mU 52 (by decide +kernel) (by decide +kernel)), (mU 339 (by decide +kernel) (by decide +kernel)), ⟨by decide +kernel, by decide +kernel, by decide +kernel⟩, by decide⟩
theorem lb_X5_positionOf : LkB yX5_positionOf cX5_positionOf 4 (some .int) 1 := ⟨(mU 54 (by decide +kernel) (by decide +kernel)), (mU 343 (by decide +kernel) (by decide +kernel)), ⟨by decide +kernel, by decide +kernel, by decide +kernel⟩, by decide⟩
theorem lb_X5_dropStop : LkB yX5_dropStop cX5_dropStop 2 none 1 := ⟨(mU 54 (by decide +kernel) (by decide +kernel)), (mU 347 (by decide +kernel) (by decide +kernel)), ⟨by decide +kernel, by decide +kernel, by decide +kernel⟩, by decide⟩
theorem lb_X7_appendCharacter : LkB yX7_appendCharacter cX7_appendCharacter 2 (some .int) 1 := ⟨(mU 52 (by decide +kernel) (by decide +kernel)), (mU 351 (by decide +kernel) (by decide +kernel)), ⟨by decide +kernel, by decide +kernel, by decide +kernel⟩, by decide⟩
theorem lb_X7_clearText : LkB yX7_clearText cX7_clearText 2 (some .int) 0 := ⟨(mU 52 (by decide +kernel) (by decide +kernel)), (mU 355 (by decide +kernel) (by decide +kernel)), ⟨by decide +kernel, by decide +kernel, by decide +kernel⟩, by decide⟩
theorem lb_X7_loadStops : LkB yX7_loadStops cX7_loadStops 4 (some .int) 1 := ⟨(mU 52 (by decide +kernel) (by decide +kernel)), (mU 359 (by decide +kernel) (by decide +kernel)), ⟨by decide +kernel, by decide +kernel, by decide +kernel⟩, by decide⟩
theorem lb_X4_readStops : LkB yX4_readStops cX4_readStops 4 (some .int) 2 := ⟨(mU 56 (by decide +kernel) (by decide +kernel)), (mU 363 (by decide +kernel) (by decide +kernel)), ⟨by decide +kernel, by decide +kernel, by decide +kernel⟩, by decide⟩
theorem lb_J9_min_7cf53 : LkB yJ9_min_7cf53 cJ9_min_7cf53 2 (some .int) 2 := ⟨(mU 61 (by decide +kernel) (by decide +kernel)), (mU 366 (by decide +kernel) (by decide +kernel)), ⟨by decide +kernel, by decide +kernel, by decide +kernel⟩, by decide⟩
theorem lb_X5_dropStops : LkB yX5_dropStops cX5_dropStops 2 none 0 := ⟨(mU 54 (by decide +kernel) (by decide +kernel)), (mU 370 (by decide +kernel) (by decide +kernel)), ⟨by decide +kernel, by decide +kernel, by decide +kernel⟩, by decide⟩
theorem lb_X4_skipSpaces : LkB yX4_skipSpaces cX4_skipSpaces 1 none 0 := ⟨(mU 56 (by decide +kernel) (by decide +kernel)), (mU 374 (by decide +kernel) (by decide +kernel)), ⟨by decide +kernel, by decide +kernel, by decide +kernel⟩, by decide⟩
theorem lb_X4_next : LkB yX4_next cX4_next 1 (some .int) 0 := ⟨(mU 56 (by decide +kernel) (by decide +kernel)), (mU 378 (by decide +kernel) (by decide +kernel)), ⟨by decide +kernel, by decide +kernel, by decide +kernel⟩, by decide⟩
theorem lb_X4_readItem : LkB yX4_readItem cX4_readItem 5 (some .boolean) 0 := ⟨(mU 56 (by decide +kernel) (by decide +kernel)), (mU 382 (by decide +kernel) (by decide +kernel)), ⟨by decide +kernel, by decide +kernel, by decide +kernel⟩, by decide⟩
theorem lb_X4_kindOf : LkB yX4_kindOf cX4_kindOf 1 (some .int) 1 := ⟨(mU 56 (by decide +kernel) (by decide +kernel)), (mU 385 (by decide +kernel) (by decide +kernel)), ⟨by decide +kernel, by decide +kernel, by decide +kernel⟩, by decide⟩
theorem lb_X4_readPosition : LkB yX4_readPosition cX4_readPosition 2 (some .int) 0 := ⟨(mU 56 (by decide +kernel) (by decide +kernel)), (mU 389 (by decide +kernel) (by decide +kernel)), ⟨by decide +kernel, by decide +kernel, by decide +kernel⟩, by decide⟩
theorem lb_X7_isDigit : LkB yX7_isDigit cX7_isDigit 1 (some .boolean) 1 := ⟨(mU 52 (by decide +kernel) (by decide +kernel)), (mU 392 (by decide +kernel) (by decide +kernel)), ⟨by decide +kernel, by decide +kernel, by decide +kernel⟩, by decide⟩
theorem lb_X4_leaderOf : LkB yX4_leaderOf cX4_leaderOf 2 (some .int) 1 := ⟨(mU 56 (by decide +kernel) (by decide +kernel)), (mU 396 (by decide +kernel) (by decide +kernel)), ⟨by decide +kernel, by decide +kernel, by decide +kernel⟩, by decide⟩
theorem lb_X7_leaderCharacter : LkB yX7_leaderCharacter cX7_leaderCharacter 1 (some .int) 1 := ⟨(mU 52 (by decide +kernel) (by decide +kernel)), (mU 399 (by decide +kernel) (by decide +kernel)), ⟨by decide +kernel, by decide +kernel, by decide +kernel⟩, by decide⟩
theorem lb_X7_addParagraph : LkB yX7_addParagraph cX7_addParagraph 3 (some .int) 1 := ⟨(mU 52 (by decide +kernel) (by decide +kernel)), (mU 405 (by decide +kernel) (by decide +kernel)), ⟨by decide +kernel, by decide +kernel, by decide +kernel⟩, by decide⟩
theorem lb_X7_removeParagraph : LkB yX7_removeParagraph cX7_removeParagraph 4 (some .int) 1 := ⟨(mU 52 (by decide +kernel) (by decide +kernel)), (mU 409 (by decide +kernel) (by decide +kernel)), ⟨by decide +kernel, by decide +kernel, by decide +kernel⟩, by decide⟩
theorem lb_X7_isParagraph : LkB yX7_isParagraph cX7_isParagraph 2 (some .boolean) 1 := ⟨(mU 52 (by decide +kernel) (by decide +kernel)), (mU 413 (by decide +kernel) (by decide +kernel)), ⟨by decide +kernel, by decide +kernel, by decide +kernel⟩, by decide⟩
theorem lb_X7_setStyle : LkB yX7_setStyle cX7_setStyle 4 (some .int) 2 := ⟨(mU 52 (by decide +kernel) (by decide +kernel)), (mU 417 (by decide +kernel) (by decide +kernel)), ⟨by decide +kernel, by decide +kernel, by decide +kernel⟩, by decide⟩
theorem lb_X7_takeText : LkB yX7_takeText cX7_takeText 4 (some .int) 1 := ⟨(mU 52 (by decide +kernel) (by decide +kernel)), (mU 421 (by decide +kernel) (by decide +kernel)), ⟨by decide +kernel, by decide +kernel, by decide +kernel⟩, by decide⟩
theorem lb_X7_isParagraphCharacter : LkB yX7_isParagraphCharacter cX7_isParagraphCharacter 1 (some .boolean) 1 := ⟨(mU 52 (by decide +kernel) (by decide +kernel)), (mU 424 (by decide +kernel) (by decide +kernel)), ⟨by decide +kernel, by decide +kernel, by decide +kernel⟩, by decide⟩
theorem lb_X1_append : LkB yX1_append cX1_append 2 none 1 := ⟨(mU 55 (by decide +kernel) (by decide +kernel)), (mU 429 (by decide +kernel) (by decide +kernel)), ⟨by decide +kernel, by decide +kernel, by decide +kernel⟩, by decide⟩
theorem lb_X7_addWord : LkB yX7_addWord cX7_addWord 7 (some .int) 4 := ⟨(mU 52 (by decide +kernel) (by decide +kernel)), (mU 434 (by decide +kernel) (by decide +kernel)), ⟨by decide +kernel, by decide +kernel, by decide +kernel⟩, by decide⟩
theorem lb_X7_addAmount : LkB yX7_addAmount cX7_addAmount 6 (some .int) 2 := ⟨(mU 52 (by decide +kernel) (by decide +kernel)), (mU 438 (by decide +kernel) (by decide +kernel)), ⟨by decide +kernel, by decide +kernel, by decide +kernel⟩, by decide⟩
theorem lb_X7_digitsOf : LkB yX7_digitsOf cX7_digitsOf 3 (some .int) 1 := ⟨(mU 52 (by decide +kernel) (by decide +kernel)), (mU 442 (by decide +kernel) (by decide +kernel)), ⟨by decide +kernel, by decide +kernel, by decide +kernel⟩, by decide⟩
theorem lb_X7_count : LkB yX7_count cX7_count 4 (some .int) 1 := ⟨(mU 52 (by decide +kernel) (by decide +kernel)), (mU 446 (by decide +kernel) (by decide +kernel)), ⟨by decide +kernel, by decide +kernel, by decide +kernel⟩, by decide⟩
theorem lb_X7_layOut : LkB yX7_layOut cX7_layOut 3 none 2 := ⟨(mU 52 (by decide +kernel) (by decide +kernel)), (mU 450 (by decide +kernel) (by decide +kernel)), ⟨by decide +kernel, by decide +kernel, by decide +kernel⟩, by decide⟩
theorem lb_X7_styleOf : LkB yX7_styleOf cX7_styleOf 2 (some (.object "TabLines$Style")) 1 := ⟨(mU 52 (by decide +kernel) (by decide +kernel)), (mU 454 (by decide +kernel) (by decide +kernel)), ⟨by decide +kernel, by decide +kernel, by decide +kernel⟩, by decide⟩
theorem lb_X0_fill : LkB yX0_fill cX0_fill 6 none 4 := ⟨(mU 57 (by decide +kernel) (by decide +kernel)), (mU 458 (by decide +kernel) (by decide +kernel)), ⟨by decide +kernel, by decide +kernel, by decide +kernel⟩, by decide⟩
theorem lb_X6_take : LkB yX6_take cX6_take 6 none 1 := ⟨(mU 58 (by decide +kernel) (by decide +kernel)), (mU 462 (by decide +kernel) (by decide +kernel)), ⟨by decide +kernel, by decide +kernel, by decide +kernel⟩, by decide⟩
theorem lb_X1_characterAt : LkB yX1_characterAt cX1_characterAt 3 (some .int) 1 := ⟨(mU 55 (by decide +kernel) (by decide +kernel)), (mU 466 (by decide +kernel) (by decide +kernel)), ⟨by decide +kernel, by decide +kernel, by decide +kernel⟩, by decide⟩
theorem lb_X6_startWord : LkB yX6_startWord cX6_startWord 2 none 1 := ⟨(mU 58 (by decide +kernel) (by decide +kernel)), (mU 470 (by decide +kernel) (by decide +kernel)), ⟨by decide +kernel, by decide +kernel, by decide +kernel⟩, by decide⟩
theorem lb_X6_growWord : LkB yX6_growWord cX6_growWord 3 none 1 := ⟨(mU 58 (by decide +kernel) (by decide +kernel)), (mU 474 (by decide +kernel) (by decide +kernel)), ⟨by decide +kernel, by decide +kernel, by decide +kernel⟩, by decide⟩
theorem lb_X6_endField : LkB yX6_endField cX6_endField 1 none 0 := ⟨(mU 58 (by decide +kernel) (by decide +kernel)), (mU 479 (by decide +kernel) (by decide +kernel)), ⟨by decide +kernel, by decide +kernel, by decide +kernel⟩, by decide⟩
theorem lb_X2_removeAll : LkB yX2_removeAll cX2_removeAll 1 none 0 := ⟨(mU 59 (by decide +kernel) (by decide +kernel)), (mU 483 (by decide +kernel) (by decide +kernel)), ⟨by decide +kernel, by decide +kernel, by decide +kernel⟩, by decide⟩
theorem lb_X0_startField : LkB yX0_startField cX0_startField 5 none 3 := ⟨(mU 57 (by decide +kernel) (by decide +kernel)), (mU 487 (by decide +kernel) (by decide +kernel)), ⟨by decide +kernel, by decide +kernel, by decide +kernel⟩, by decide⟩
theorem lb_X6_firstOf : LkB yX6_firstOf cX6_firstOf 2 (some .int) 1 := ⟨(mU 58 (by decide +kernel) (by decide +kernel)), (mU 491 (by decide +kernel) (by decide +kernel)), ⟨by decide +kernel, by decide +kernel, by decide +kernel⟩, by decide⟩
theorem lb_X6_endOf : LkB yX6_endOf cX6_endOf 2 (some .int) 1 := ⟨(mU 58 (by decide +kernel) (by decide +kernel)), (mU 495 (by decide +kernel) (by decide +kernel)), ⟨by decide +kernel, by decide +kernel, by decide +kernel⟩, by decide⟩
theorem lb_X0_flow : LkB yX0_flow cX0_flow 4 none 2 := ⟨(mU 57 (by decide +kernel) (by decide +kernel)), (mU 499 (by decide +kernel) (by decide +kernel)), ⟨by decide +kernel, by decide +kernel, by decide +kernel⟩, by decide⟩
theorem lb_X6_lengthOf : LkB yX6_lengthOf cX6_lengthOf 2 (some .int) 1 := ⟨(mU 58 (by decide +kernel) (by decide +kernel)), (mU 503 (by decide +kernel) (by decide +kernel)), ⟨by decide +kernel, by decide +kernel, by decide +kernel⟩, by decide⟩
theorem lb_X0_startLine : LkB yX0_startLine cX0_startLine 1 none 0 := ⟨(mU 57 (by decide +kernel) (by decide +kernel)), (mU 507 (by decide +kernel) (by decide +kernel)), ⟨by decide +kernel, by decide +kernel, by decide +kernel⟩, by decide⟩
theorem lb_X0_place : LkB yX0_place cX0_place 5 none 1 := ⟨(mU 57 (by decide +kernel) (by decide +kernel)), (mU 511 (by decide +kernel) (by decide +kernel)), ⟨by decide +kernel, by decide +kernel, by decide +kernel⟩, by decide⟩
theorem lb_X6_startOf : LkB yX6_startOf cX6_startOf 2 (some .int) 1 := ⟨(mU 58 (by decide +kernel) (by decide +kernel)), (mU 515 (by decide +kernel) (by decide +kernel)), ⟨by decide +kernel, by decide +kernel, by decide +kernel⟩, by decide⟩
theorem lb_J9_max_7cf53 : LkB yJ9_max_7cf53 cJ9_max_7cf53 2 (some .int) 2 := ⟨(mU 61 (by decide +kernel) (by decide +kernel)), (mU 518 (by decide +kernel) (by decide +kernel)), ⟨by decide +kernel, by decide +kernel, by decide +kernel⟩, by decide⟩
theorem lb_X2_add : LkB yX2_add cX2_add 6 none 5 := ⟨(mU 59 (by decide +kernel) (by decide +kernel)), (mU 523 (by decide +kernel) (by decide +kernel)), ⟨by decide +kernel, by decide +kernel, by decide +kernel⟩, by decide⟩
theorem lb_X0_noteFilled : LkB yX0_noteFilled cX0_noteFilled 2 none 0 := ⟨(mU 57 (by decide +kernel) (by decide +kernel)), (mU 527 (by decide +kernel) (by decide +kernel)), ⟨by decide +kernel, by decide +kernel, by decide +kernel⟩, by decide⟩
theorem lb_X0_fillBehindTab : LkB yX0_fillBehindTab cX0_fillBehindTab 8 none 1 := ⟨(mU 57 (by decide +kernel) (by decide +kernel)), (mU 531 (by decide +kernel) (by decide +kernel)), ⟨by decide +kernel, by decide +kernel, by decide +kernel⟩, by decide⟩
theorem lb_X5_tabBehind : LkB yX5_tabBehind cX5_tabBehind 3 (some .int) 1 := ⟨(mU 54 (by decide +kernel) (by decide +kernel)), (mU 535 (by decide +kernel) (by decide +kernel)), ⟨by decide +kernel, by decide +kernel, by decide +kernel⟩, by decide⟩
theorem lb_X5_hasTab : LkB yX5_hasTab cX5_hasTab 2 (some .boolean) 1 := ⟨(mU 54 (by decide +kernel) (by decide +kernel)), (mU 539 (by decide +kernel) (by decide +kernel)), ⟨by decide +kernel, by decide +kernel, by decide +kernel⟩, by decide⟩
theorem lb_X7_multipleBehind : LkB yX7_multipleBehind cX7_multipleBehind 3 (some .int) 2 := ⟨(mU 52 (by decide +kernel) (by decide +kernel)), (mU 543 (by decide +kernel) (by decide +kernel)), ⟨by decide +kernel, by decide +kernel, by decide +kernel⟩, by decide⟩
theorem lb_X5_kindAt : LkB yX5_kindAt cX5_kindAt 2 (some .int) 1 := ⟨(mU 54 (by decide +kernel) (by decide +kernel)), (mU 548 (by decide +kernel) (by decide +kernel)), ⟨by decide +kernel, by decide +kernel, by decide +kernel⟩, by decide⟩
theorem lb_X0_measureRun : LkB yX0_measureRun cX0_measureRun 6 none 3 := ⟨(mU 57 (by decide +kernel) (by decide +kernel)), (mU 552 (by decide +kernel) (by decide +kernel)), ⟨by decide +kernel, by decide +kernel, by decide +kernel⟩, by decide⟩
theorem lb_X6_pointOf : LkB yX6_pointOf cX6_pointOf 2 (some .int) 1 := ⟨(mU 58 (by decide +kernel) (by decide +kernel)), (mU 556 (by decide +kernel) (by decide +kernel)), ⟨by decide +kernel, by decide +kernel, by decide +kernel⟩, by decide⟩
theorem lb_X5_leaderAt : LkB yX5_leaderAt cX5_leaderAt 2 (some .int) 1 := ⟨(mU 54 (by decide +kernel) (by decide +kernel)), (mU 560 (by decide +kernel) (by decide +kernel)), ⟨by decide +kernel, by decide +kernel, by decide +kernel⟩, by decide⟩
theorem lb_X0_startRun : LkB yX0_startRun cX0_startRun 6 none 3 := ⟨(mU 57 (by decide +kernel) (by decide +kernel)), (mU 564 (by decide +kernel) (by decide +kernel)), ⟨by decide +kernel, by decide +kernel, by decide +kernel⟩, by decide⟩
theorem lb_X0_runAhead : LkB yX0_runAhead cX0_runAhead 2 (some .int) 1 := ⟨(mU 57 (by decide +kernel) (by decide +kernel)), (mU 568 (by decide +kernel) (by decide +kernel)), ⟨by decide +kernel, by decide +kernel, by decide +kernel⟩, by decide⟩
theorem lb_X0_lineCount : LkB yX0_lineCount cX0_lineCount 1 (some .int) 0 := ⟨(mU 57 (by decide +kernel) (by decide +kernel)), (mU 572 (by decide +kernel) (by decide +kernel)), ⟨by decide +kernel, by decide +kernel, by decide +kernel⟩, by decide⟩
theorem lb_X7_style : LkB yX7_style cX7_style 4 (some .int) 2 := ⟨(mU 52 (by decide +kernel) (by decide +kernel)), (mU 576 (by decide +kernel) (by decide +kernel)), ⟨by decide +kernel, by decide +kernel, by decide +kernel⟩, by decide⟩
theorem lb_X5_lastTab : LkB yX5_lastTab cX5_lastTab 2 (some .int) 0 := ⟨(mU 54 (by decide +kernel) (by decide +kernel)), (mU 580 (by decide +kernel) (by decide +kernel)), ⟨by decide +kernel, by decide +kernel, by decide +kernel⟩, by decide⟩
theorem lb_X7_stop : LkB yX7_stop cX7_stop 6 (some .int) 3 := ⟨(mU 52 (by decide +kernel) (by decide +kernel)), (mU 585 (by decide +kernel) (by decide +kernel)), ⟨by decide +kernel, by decide +kernel, by decide +kernel⟩, by decide⟩
theorem lb_X7_character : LkB yX7_character cX7_character 3 (some .int) 2 := ⟨(mU 52 (by decide +kernel) (by decide +kernel)), (mU 591 (by decide +kernel) (by decide +kernel)), ⟨by decide +kernel, by decide +kernel, by decide +kernel⟩, by decide⟩
theorem lb_X7_lines : LkB yX7_lines cX7_lines 2 (some .int) 1 := ⟨(mU 52 (by decide +kernel) (by decide +kernel)), (mU 596 (by decide +kernel) (by decide +kernel)), ⟨by decide +kernel, by decide +kernel, by decide +kernel⟩, by decide⟩
theorem lb_X7_cell : LkB yX7_cell cX7_cell 7 (some .int) 3 := ⟨(mU 52 (by decide +kernel) (by decide +kernel)), (mU 600 (by decide +kernel) (by decide +kernel)), ⟨by decide +kernel, by decide +kernel, by decide +kernel⟩, by decide⟩
theorem lb_X2_pieceAt : LkB yX2_pieceAt cX2_pieceAt 4 (some .int) 2 := ⟨(mU 59 (by decide +kernel) (by decide +kernel)), (mU 604 (by decide +kernel) (by decide +kernel)), ⟨by decide +kernel, by decide +kernel, by decide +kernel⟩, by decide⟩
theorem lb_X7_field : LkB yX7_field cX7_field 4 (some .int) 3 := ⟨(mU 52 (by decide +kernel) (by decide +kernel)), (mU 610 (by decide +kernel) (by decide +kernel)), ⟨by decide +kernel, by decide +kernel, by decide +kernel⟩, by decide⟩
theorem lb_X7_holds : LkB yX7_holds cX7_holds 6 (some .int) 2 := ⟨(mU 52 (by decide +kernel) (by decide +kernel)), (mU 614 (by decide +kernel) (by decide +kernel)), ⟨by decide +kernel, by decide +kernel, by decide +kernel⟩, by decide⟩
theorem lb_X2_filled : LkB yX2_filled cX2_filled 4 (some .int) 1 := ⟨(mU 59 (by decide +kernel) (by decide +kernel)), (mU 618 (by decide +kernel) (by decide +kernel)), ⟨by decide +kernel, by decide +kernel, by decide +kernel⟩, by decide⟩
theorem lb_X0_barColumns : LkB yX0_barColumns cX0_barColumns 5 (some .int) 1 := ⟨(mU 57 (by decide +kernel) (by decide +kernel)), (mU 622 (by decide +kernel) (by decide +kernel)), ⟨by decide +kernel, by decide +kernel, by decide +kernel⟩, by decide⟩
theorem lb_X7_linesWith : LkB yX7_linesWith cX7_linesWith 3 (some .int) 2 := ⟨(mU 52 (by decide +kernel) (by decide +kernel)), (mU 627 (by decide +kernel) (by decide +kernel)), ⟨by decide +kernel, by decide +kernel, by decide +kernel⟩, by decide⟩
theorem lb_X7_leastColumns : LkB yX7_leastColumns cX7_leastColumns 4 (some .int) 2 := ⟨(mU 52 (by decide +kernel) (by decide +kernel)), (mU 631 (by decide +kernel) (by decide +kernel)), ⟨by decide +kernel, by decide +kernel, by decide +kernel⟩, by decide⟩
theorem lb_X7_undo : LkB yX7_undo cX7_undo 1 (some .int) 0 := ⟨(mU 52 (by decide +kernel) (by decide +kernel)), (mU 635 (by decide +kernel) (by decide +kernel)), ⟨by decide +kernel, by decide +kernel, by decide +kernel⟩, by decide⟩
theorem lb_X8_init : LkB yX8_init cX8_init 2 none 0 := ⟨(mU 60 (by decide +kernel) (by decide +kernel)), (mU 640 (by decide +kernel) (by decide +kernel)), ⟨by decide +kernel, by decide +kernel, by decide +kernel⟩, by decide⟩
theorem lb_X8_undo : LkB yX8_undo cX8_undo 2 (some .int) 0 := ⟨(mU 60 (by decide +kernel) (by decide +kernel)), (mU 701 (by decide +kernel) (by decide +kernel)), ⟨by decide +kernel, by decide +kernel, by decide +kernel⟩, by decide⟩
theorem lb_X8_setNumber : LkB yX8_setNumber cX8_setNumber 4 (some .int) 2 := ⟨(mU 60 (by decide +kernel) (by decide +kernel)), (mU 705 (by decide +kernel) (by decide +kernel)), ⟨by decide +kernel, by decide +kernel, by decide +kernel⟩, by decide⟩
theorem lb_X8_in : LkB yX8_in cX8_in 3 (some .boolean) 3 := ⟨(mU 60 (by decide +kernel) (by decide +kernel)), (mU 708 (by decide +kernel) (by decide +kernel)), ⟨by decide +kernel, by decide +kernel, by decide +kernel⟩, by decide⟩
theorem lb_X8_notes : LkB yX8_notes cX8_notes 2 none 0 := ⟨(mU 60 (by decide +kernel) (by decide +kernel)), (mU 712 (by decide +kernel) (by decide +kernel)), ⟨by decide +kernel, by decide +kernel, by decide +kernel⟩, by decide⟩
theorem lb_X8_setIndent : LkB yX8_setIndent cX8_setIndent 5 (some .int) 3 := ⟨(mU 60 (by decide +kernel) (by decide +kernel)), (mU 716 (by decide +kernel) (by decide +kernel)), ⟨by decide +kernel, by decide +kernel, by decide +kernel⟩, by decide⟩
theorem lb_X8_isStyle : LkB yX8_isStyle cX8_isStyle 1 (some .boolean) 1 := ⟨(mU 60 (by decide +kernel) (by decide +kernel)), (mU 719 (by decide +kernel) (by decide +kernel)), ⟨by decide +kernel, by decide +kernel, by decide +kernel⟩, by decide⟩
theorem lb_X8_of : LkB yX8_of cX8_of 3 (some .int) 2 := ⟨(mU 60 (by decide +kernel) (by decide +kernel)), (mU 723 (by decide +kernel) (by decide +kernel)), ⟨by decide +kernel, by decide +kernel, by decide +kernel⟩, by decide⟩
theorem lb_X8_placeOf : LkB yX8_placeOf cX8_placeOf 2 (some .int) 2 := ⟨(mU 60 (by decide +kernel) (by decide +kernel)), (mU 726 (by decide +kernel) (by decide +kernel)), ⟨by decide +kernel, by decide +kernel, by decide +kernel⟩, by decide⟩
theorem lb_X8_setStop : LkB yX8_setStop cX8_setStop 5 (some .int) 4 := ⟨(mU 60 (by decide +kernel) (by decide +kernel)), (mU 730 (by decide +kernel) (by decide +kernel)), ⟨by decide +kernel, by decide +kernel, by decide +kernel⟩, by decide⟩
theorem lb_X8_hasStop : LkB yX8_hasStop cX8_hasStop 5 (some .boolean) 2 := ⟨(mU 60 (by decide +kernel) (by decide +kernel)), (mU 734 (by decide +kernel) (by decide +kernel)), ⟨by decide +kernel, by decide +kernel, by decide +kernel⟩, by decide⟩
theorem lb_X8_stopOf : LkB yX8_stopOf cX8_stopOf 4 (some .int) 3 := ⟨(mU 60 (by decide +kernel) (by decide +kernel)), (mU 738 (by decide +kernel) (by decide +kernel)), ⟨by decide +kernel, by decide +kernel, by decide +kernel⟩, by decide⟩
theorem lb_X8_puts : LkB yX8_puts cX8_puts 8 (some .int) 4 := ⟨(mU 60 (by decide +kernel) (by decide +kernel)), (mU 742 (by decide +kernel) (by decide +kernel)), ⟨by decide +kernel, by decide +kernel, by decide +kernel⟩, by decide⟩
theorem lb_X8_removeStop : LkB yX8_removeStop cX8_removeStop 4 (some .int) 2 := ⟨(mU 60 (by decide +kernel) (by decide +kernel)), (mU 746 (by decide +kernel) (by decide +kernel)), ⟨by decide +kernel, by decide +kernel, by decide +kernel⟩, by decide⟩
theorem lb_X8_appendCharacter : LkB yX8_appendCharacter cX8_appendCharacter 2 (some .int) 1 := ⟨(mU 60 (by decide +kernel) (by decide +kernel)), (mU 750 (by decide +kernel) (by decide +kernel)), ⟨by decide +kernel, by decide +kernel, by decide +kernel⟩, by decide⟩
theorem lb_X8_clearText : LkB yX8_clearText cX8_clearText 2 (some .int) 0 := ⟨(mU 60 (by decide +kernel) (by decide +kernel)), (mU 754 (by decide +kernel) (by decide +kernel)), ⟨by decide +kernel, by decide +kernel, by decide +kernel⟩, by decide⟩
theorem lb_X8_loadStops : LkB yX8_loadStops cX8_loadStops 5 (some .int) 1 := ⟨(mU 60 (by decide +kernel) (by decide +kernel)), (mU 758 (by decide +kernel) (by decide +kernel)), ⟨by decide +kernel, by decide +kernel, by decide +kernel⟩, by decide⟩
theorem lb_X8_here : LkB yX8_here cX8_here 1 (some .int) 0 := ⟨(mU 60 (by decide +kernel) (by decide +kernel)), (mU 762 (by decide +kernel) (by decide +kernel)), ⟨by decide +kernel, by decide +kernel, by decide +kernel⟩, by decide⟩
theorem lb_X8_readsItem : LkB yX8_readsItem cX8_readsItem 5 (some .boolean) 0 := ⟨(mU 60 (by decide +kernel) (by decide +kernel)), (mU 766 (by decide +kernel) (by decide +kernel)), ⟨by decide +kernel, by decide +kernel, by decide +kernel⟩, by decide⟩
theorem lb_X8_kindOf : LkB yX8_kindOf cX8_kindOf 1 (some .int) 1 := ⟨(mU 60 (by decide +kernel) (by decide +kernel)), (mU 769 (by decide +kernel) (by decide +kernel)), ⟨by decide +kernel, by decide +kernel, by decide +kernel⟩, by decide⟩
theorem lb_X8_isTold : LkB yX8_isTold cX8_isTold 4 (some .boolean) 1 := ⟨(mU 60 (by decide +kernel) (by decide +kernel)), (mU 773 (by decide +kernel) (by decide +kernel)), ⟨by decide +kernel, by decide +kernel, by decide +kernel⟩, by decide⟩
theorem lb_X8_leaderOf : LkB yX8_leaderOf cX8_leaderOf 1 (some .int) 1 := ⟨(mU 60 (by decide +kernel) (by decide +kernel)), (mU 776 (by decide +kernel) (by decide +kernel)), ⟨by decide +kernel, by decide +kernel, by decide +kernel⟩, by decide⟩
theorem lb_X8_addParagraph : LkB yX8_addParagraph cX8_addParagraph 2 (some .int) 1 := ⟨(mU 60 (by decide +kernel) (by decide +kernel)), (mU 780 (by decide +kernel) (by decide +kernel)), ⟨by decide +kernel, by decide +kernel, by decide +kernel⟩, by decide⟩
theorem lb_X8_own : LkB yX8_own cX8_own 1 (some .int) 1 := ⟨(mU 60 (by decide +kernel) (by decide +kernel)), (mU 783 (by decide +kernel) (by decide +kernel)), ⟨by decide +kernel, by decide +kernel, by decide +kernel⟩, by decide⟩
theorem lb_X8_removeParagraph : LkB yX8_removeParagraph cX8_removeParagraph 3 (some .int) 1 := ⟨(mU 60 (by decide +kernel) (by decide +kernel)), (mU 787 (by decide +kernel) (by decide +kernel)), ⟨by decide +kernel, by decide +kernel, by decide +kernel⟩, by decide⟩
theorem lb_X8_isParagraph : LkB yX8_isParagraph cX8_isParagraph 2 (some .boolean) 1 := ⟨(mU 60 (by decide +kernel) (by decide +kernel)), (mU 791 (by decide +kernel) (by decide +kernel)), ⟨by decide +kernel, by decide +kernel, by decide +kernel⟩, by decide⟩
theorem lb_X8_setStyle : LkB yX8_setStyle cX8_setStyle 4 (some .int) 2 := ⟨(mU 60 (by decide +kernel) (by decide +kernel)), (mU 795 (by decide +kernel) (by decide +kernel)), ⟨by decide +kernel, by decide +kernel, by decide +kernel⟩, by decide⟩
theorem lb_X8_takeText : LkB yX8_takeText cX8_takeText 4 (some .int) 1 := ⟨(mU 60 (by decide +kernel) (by decide +kernel)), (mU 799 (by decide +kernel) (by decide +kernel)), ⟨by decide +kernel, by decide +kernel, by decide +kernel⟩, by decide⟩
theorem lb_X8_isWritten : LkB yX8_isWritten cX8_isWritten 1 (some .boolean) 1 := ⟨(mU 60 (by decide +kernel) (by decide +kernel)), (mU 802 (by decide +kernel) (by decide +kernel)), ⟨by decide +kernel, by decide +kernel, by decide +kernel⟩, by decide⟩
theorem lb_X8_addWord : LkB yX8_addWord cX8_addWord 6 (some .int) 4 := ⟨(mU 60 (by decide +kernel) (by decide +kernel)), (mU 806 (by decide +kernel) (by decide +kernel)), ⟨by decide +kernel, by decide +kernel, by decide +kernel⟩, by decide⟩
theorem lb_X8_adds : LkB yX8_adds cX8_adds 4 none 2 := ⟨(mU 60 (by decide +kernel) (by decide +kernel)), (mU 810 (by decide +kernel) (by decide +kernel)), ⟨by decide +kernel, by decide +kernel, by decide +kernel⟩, by decide⟩
theorem lb_X8_addAmount : LkB yX8_addAmount cX8_addAmount 6 (some .int) 2 := ⟨(mU 60 (by decide +kernel) (by decide +kernel)), (mU 814 (by decide +kernel) (by decide +kernel)), ⟨by decide +kernel, by decide +kernel, by decide +kernel⟩, by decide⟩
theorem lb_X8_count : LkB yX8_count cX8_count 4 (some .int) 1 := ⟨(mU 60 (by decide +kernel) (by decide +kernel)), (mU 819 (by decide +kernel) (by decide +kernel)), ⟨by decide +kernel, by decide +kernel, by decide +kernel⟩, by decide⟩
theorem lb_X8_lays : LkB yX8_lays cX8_lays 5 (some .int) 2 := ⟨(mU 60 (by decide +kernel) (by decide +kernel)), (mU 823 (by decide +kernel) (by decide +kernel)), ⟨by decide +kernel, by decide +kernel, by decide +kernel⟩, by decide⟩
theorem lb_X8_opensLine : LkB yX8_opensLine cX8_opensLine 2 none 0 := ⟨(mU 60 (by decide +kernel) (by decide +kernel)), (mU 827 (by decide +kernel) (by decide +kernel)), ⟨by decide +kernel, by decide +kernel, by decide +kernel⟩, by decide⟩
theorem lb_X8_length : LkB yX8_length cX8_length 1 (some .int) 0 := ⟨(mU 60 (by decide +kernel) (by decide +kernel)), (mU 831 (by decide +kernel) (by decide +kernel)), ⟨by decide +kernel, by decide +kernel, by decide +kernel⟩, by decide⟩
theorem lb_X8_letterAt : LkB yX8_letterAt cX8_letterAt 2 (some .int) 1 := ⟨(mU 60 (by decide +kernel) (by decide +kernel)), (mU 835 (by decide +kernel) (by decide +kernel)), ⟨by decide +kernel, by decide +kernel, by decide +kernel⟩, by decide⟩
theorem lb_X8_begins : LkB yX8_begins cX8_begins 4 none 3 := ⟨(mU 60 (by decide +kernel) (by decide +kernel)), (mU 839 (by decide +kernel) (by decide +kernel)), ⟨by decide +kernel, by decide +kernel, by decide +kernel⟩, by decide⟩
theorem lb_X8_flows : LkB yX8_flows cX8_flows 6 none 2 := ⟨(mU 60 (by decide +kernel) (by decide +kernel)), (mU 843 (by decide +kernel) (by decide +kernel)), ⟨by decide +kernel, by decide +kernel, by decide +kernel⟩, by decide⟩
theorem lb_X8_wordFrom : LkB yX8_wordFrom cX8_wordFrom 4 (some .int) 2 := ⟨(mU 60 (by decide +kernel) (by decide +kernel)), (mU 847 (by decide +kernel) (by decide +kernel)), ⟨by decide +kernel, by decide +kernel, by decide +kernel⟩, by decide⟩
theorem lb_X8_endOfWord : LkB yX8_endOfWord cX8_endOfWord 4 (some .int) 2 := ⟨(mU 60 (by decide +kernel) (by decide +kernel)), (mU 851 (by decide +kernel) (by decide +kernel)), ⟨by decide +kernel, by decide +kernel, by decide +kernel⟩, by decide⟩
theorem lb_X8_newLine : LkB yX8_newLine cX8_newLine 1 none 0 := ⟨(mU 60 (by decide +kernel) (by decide +kernel)), (mU 855 (by decide +kernel) (by decide +kernel)), ⟨by decide +kernel, by decide +kernel, by decide +kernel⟩, by decide⟩
theorem lb_X8_writes : LkB yX8_writes cX8_writes 3 none 2 := ⟨(mU 60 (by decide +kernel) (by decide +kernel)), (mU 859 (by decide +kernel) (by decide +kernel)), ⟨by decide +kernel, by decide +kernel, by decide +kernel⟩, by decide⟩
theorem lb_X8_fills : LkB yX8_fills cX8_fills 1 none 0 := ⟨(mU 60 (by decide +kernel) (by decide +kernel)), (mU 863 (by decide +kernel) (by decide +kernel)), ⟨by decide +kernel, by decide +kernel, by decide +kernel⟩, by decide⟩
theorem lb_X8_laysField : LkB yX8_laysField cX8_laysField 12 none 2 := ⟨(mU 60 (by decide +kernel) (by decide +kernel)), (mU 867 (by decide +kernel) (by decide +kernel)), ⟨by decide +kernel, by decide +kernel, by decide +kernel⟩, by decide⟩
theorem lb_X8_ownStop : LkB yX8_ownStop cX8_ownStop 2 (some .int) 0 := ⟨(mU 60 (by decide +kernel) (by decide +kernel)), (mU 871 (by decide +kernel) (by decide +kernel)), ⟨by decide +kernel, by decide +kernel, by decide +kernel⟩, by decide⟩
theorem lb_X8_lastStop : LkB yX8_lastStop cX8_lastStop 3 (some .int) 0 := ⟨(mU 60 (by decide +kernel) (by decide +kernel)), (mU 875 (by decide +kernel) (by decide +kernel)), ⟨by decide +kernel, by decide +kernel, by decide +kernel⟩, by decide⟩
theorem lb_X8_defaultBehind : LkB yX8_defaultBehind cX8_defaultBehind 2 (some .int) 1 := ⟨(mU 60 (by decide +kernel) (by decide +kernel)), (mU 879 (by decide +kernel) (by decide +kernel)), ⟨by decide +kernel, by decide +kernel, by decide +kernel⟩, by decide⟩
theorem lb_X8_flowsAnew : LkB yX8_flowsAnew cX8_flowsAnew 3 none 2 := ⟨(mU 60 (by decide +kernel) (by decide +kernel)), (mU 883 (by decide +kernel) (by decide +kernel)), ⟨by decide +kernel, by decide +kernel, by decide +kernel⟩, by decide⟩
theorem lb_X8_endOfRun : LkB yX8_endOfRun cX8_endOfRun 9 (some .int) 3 := ⟨(mU 60 (by decide +kernel) (by decide +kernel)), (mU 887 (by decide +kernel) (by decide +kernel)), ⟨by decide +kernel, by decide +kernel, by decide +kernel⟩, by decide⟩
theorem lb_X8_lengthOf : LkB yX8_lengthOf cX8_lengthOf 7 (some .int) 3 := ⟨(mU 60 (by decide +kernel) (by decide +kernel)), (mU 891 (by decide +kernel) (by decide +kernel)), ⟨by decide +kernel, by decide +kernel, by decide +kernel⟩, by decide⟩
theorem lb_X8_leads : LkB yX8_leads cX8_leads 3 none 2 := ⟨(mU 60 (by decide +kernel) (by decide +kernel)), (mU 895 (by decide +kernel) (by decide +kernel)), ⟨by decide +kernel, by decide +kernel, by decide +kernel⟩, by decide⟩
theorem lb_X8_laysBars : LkB yX8_laysBars cX8_laysBars 4 none 0 := ⟨(mU 60 (by decide +kernel) (by decide +kernel)), (mU 899 (by decide +kernel) (by decide +kernel)), ⟨by decide +kernel, by decide +kernel, by decide +kernel⟩, by decide⟩
theorem lb_X8_style : LkB yX8_style cX8_style 3 (some .int) 2 := ⟨(mU 60 (by decide +kernel) (by decide +kernel)), (mU 903 (by decide +kernel) (by decide +kernel)), ⟨by decide +kernel, by decide +kernel, by decide +kernel⟩, by decide⟩
theorem lb_X8_stop : LkB yX8_stop cX8_stop 4 (some .int) 3 := ⟨(mU 60 (by decide +kernel) (by decide +kernel)), (mU 907 (by decide +kernel) (by decide +kernel)), ⟨by decide +kernel, by decide +kernel, by decide +kernel⟩, by decide⟩
theorem lb_X8_character : LkB yX8_character cX8_character 3 (some .int) 2 := ⟨(mU 60 (by decide +kernel) (by decide +kernel)), (mU 911 (by decide +kernel) (by decide +kernel)), ⟨by decide +kernel, by decide +kernel, by decide +kernel⟩, by decide⟩
theorem lb_X8_lines : LkB yX8_lines cX8_lines 2 (some .int) 1 := ⟨(mU 60 (by decide +kernel) (by decide +kernel)), (mU 915 (by decide +kernel) (by decide +kernel)), ⟨by decide +kernel, by decide +kernel, by decide +kernel⟩, by decide⟩
theorem lb_X8_cell : LkB yX8_cell cX8_cell 4 (some .int) 3 := ⟨(mU 60 (by decide +kernel) (by decide +kernel)), (mU 919 (by decide +kernel) (by decide +kernel)), ⟨by decide +kernel, by decide +kernel, by decide +kernel⟩, by decide⟩
theorem lb_X8_field : LkB yX8_field cX8_field 5 (some .int) 3 := ⟨(mU 60 (by decide +kernel) (by decide +kernel)), (mU 923 (by decide +kernel) (by decide +kernel)), ⟨by decide +kernel, by decide +kernel, by decide +kernel⟩, by decide⟩
theorem lb_X8_holds : LkB yX8_holds cX8_holds 8 (some .int) 2 := ⟨(mU 60 (by decide +kernel) (by decide +kernel)), (mU 927 (by decide +kernel) (by decide +kernel)), ⟨by decide +kernel, by decide +kernel, by decide +kernel⟩, by decide⟩
theorem lb_X8_linesWith : LkB yX8_linesWith cX8_linesWith 3 (some .int) 2 := ⟨(mU 60 (by decide +kernel) (by decide +kernel)), (mU 931 (by decide +kernel) (by decide +kernel)), ⟨by decide +kernel, by decide +kernel, by decide +kernel⟩, by decide⟩
theorem lb_X8_leastColumns : LkB yX8_leastColumns cX8_leastColumns 4 (some .int) 2 := ⟨(mU 60 (by decide +kernel) (by decide +kernel)), (mU 935 (by decide +kernel) (by decide +kernel)), ⟨by decide +kernel, by decide +kernel, by decide +kernel⟩, by decide⟩
theorem lb_X8_lesser : LkB yX8_lesser cX8_lesser 2 (some .int) 2 := ⟨(mU 60 (by decide +kernel) (by decide +kernel)), (mU 938 (by decide +kernel) (by decide +kernel)), ⟨by decide +kernel, by decide +kernel, by decide +kernel⟩, by decide⟩
theorem lk_L_9 : LkI "TabLinesLaw" 9 yX7_init cX7_init 2 0 := ⟨lb_X7_init, (Or.inl (mU 64 (by decide +kernel) (by decide +kernel))), (mU 65 (by decide +kernel) (by decide +kernel)), rfl⟩
theorem lk_X7_11 : LkI RX7 11 yX3_init cX3_init 2 0 := ⟨lb_X3_init, (Or.inl (mU 72 (by decide +kernel) (by decide +kernel))), (mU 73 (by decide +kernel) (by decide +kernel)), rfl⟩
theorem lk_X3_30 : LkI RX3 30 yX5_init cX5_init 1 0 := ⟨lb_X5_init, (Or.inr ⟨RX7, by simp [nestT]⟩), (mU 82 (by decide +kernel) (by decide +kernel)), rfl⟩
theorem lk_X3_31 : LkI RX3 31 yX1_init cX1_init 1 0 := ⟨lb_X1_init, (Or.inr ⟨RX7, by simp [nestT]⟩), (mU 103 (by decide +kernel) (by decide +kernel)), rfl⟩
theorem lk_X7_26 : LkI RX7 26 yX4_init cX4_init 1 0 := ⟨lb_X4_init, (Or.inr ⟨RX7, by simp [nestT]⟩), (mU 144 (by decide +kernel) (by decide +kernel)), rfl⟩
theorem lk_X4_11 : LkI RX4 11 yX5_init cX5_init 1 0 := ⟨lb_X5_init, (Or.inr ⟨RX7, by simp [nestT]⟩), (mU 82 (by decide +kernel) (by decide +kernel)), rfl⟩
theorem lk_X7_33 : LkI RX7 33 yX0_init cX0_init 1 0 := ⟨lb_X0_init, (Or.inr ⟨RX7, by simp [nestT]⟩), (mU 166 (by decide +kernel) (by decide +kernel)), rfl⟩
theorem lk_X0_11 : LkI RX0 11 yX6_init cX6_init 1 0 := ⟨lb_X6_init, (Or.inr ⟨RX7, by simp [nestT]⟩), (mU 172 (by decide +kernel) (by decide +kernel)), rfl⟩
theorem lk_X0_20 : LkI RX0 20 yX2_init cX2_init 1 0 := ⟨lb_X2_init, (Or.inr ⟨RX7, by simp [nestT]⟩), (mU 199 (by decide +kernel) (by decide +kernel)), rfl⟩
theorem lk_L_13 : LkV "TabLinesLaw" 13 7 yX7_setNumber cX7_setNumber 4 (some .int) 2 := ⟨lb_X7_setNumber, (mU 288 (by decide +kernel) (by decide +kernel)), (mU 289 (by decide +kernel) (by decide +kernel)), (mU 290 (by decide +kernel) (by decide +kernel)), ⟨_, _, rfl⟩, by decide⟩
theorem lk_X7_38 : LkS RX7 38 yX7_isWithin cX7_isWithin 3 (some .boolean) 3 := ⟨lb_X7_isWithin, (Or.inl (mU 292 (by decide +kernel) (by decide +kernel))), (mU 293 (by decide +kernel) (by decide +kernel))⟩
theorem lk_X7_42 : LkV RX7 42 7 yX7_saveState cX7_saveState 3 none 0 := ⟨lb_X7_saveState, (mU 295 (by decide +kernel) (by decide +kernel)), (mU 297 (by decide +kernel) (by decide +kernel)), (mU 0 (by decide +kernel) (by decide +kernel)), ⟨_, _, rfl⟩, by decide⟩
theorem lk_X7_201 : LkV RX7 201 3 yX3_takeAllOf cX3_takeAllOf 3 none 1 := ⟨lb_X3_takeAllOf, (mU 299 (by decide +kernel) (by decide +kernel)), (mU 300 (by decide +kernel) (by decide +kernel)), (mU 301 (by decide +kernel) (by decide +kernel)), ⟨_, _, rfl⟩, by decide⟩
theorem lk_X3_41 : LkV RX3 41 5 yX5_takeStopsOf cX5_takeStopsOf 3 none 1 := ⟨lb_X5_takeStopsOf, (mU 303 (by decide +kernel) (by decide +kernel)), (mU 304 (by decide +kernel) (by decide +kernel)), (mU 305 (by decide +kernel) (by decide +kernel)), ⟨_, _, rfl⟩, by decide⟩
theorem lk_X3_45 : LkV RX3 45 1 yX1_takeFrom cX1_takeFrom 3 none 1 := ⟨lb_X1_takeFrom, (mU 307 (by decide +kernel) (by decide +kernel)), (mU 308 (by decide +kernel) (by decide +kernel)), (mU 309 (by decide +kernel) (by decide +kernel)), ⟨_, _, rfl⟩, by decide⟩
theorem lk_L_18 : LkV "TabLinesLaw" 18 7 yX7_setIndent cX7_setIndent 6 (some .int) 3 := ⟨lb_X7_setIndent, (mU 311 (by decide +kernel) (by decide +kernel)), (mU 312 (by decide +kernel) (by decide +kernel)), (mU 313 (by decide +kernel) (by decide +kernel)), ⟨_, _, rfl⟩, by decide⟩
theorem lk_X7_52 : LkV RX7 52 7 yX7_isStyle cX7_isStyle 2 (some .boolean) 1 := ⟨lb_X7_isStyle, (mU 315 (by decide +kernel) (by decide +kernel)), (mU 317 (by decide +kernel) (by decide +kernel)), (mU 1 (by decide +kernel) (by decide +kernel)), ⟨_, _, rfl⟩, by decide⟩
theorem lk_L_23 : LkV "TabLinesLaw" 23 7 yX7_setStop cX7_setStop 6 (some .int) 4 := ⟨lb_X7_setStop, (mU 319 (by decide +kernel) (by decide +kernel)), (mU 320 (by decide +kernel) (by decide +kernel)), (mU 321 (by decide +kernel) (by decide +kernel)), ⟨_, _, rfl⟩, by decide⟩
theorem lk_X7_68 : LkV RX7 68 5 yX5_hasStop cX5_hasStop 2 (some .boolean) 1 := ⟨lb_X5_hasStop, (mU 323 (by decide +kernel) (by decide +kernel)), (mU 324 (by decide +kernel) (by decide +kernel)), (mU 325 (by decide +kernel) (by decide +kernel)), ⟨_, _, rfl⟩, by decide⟩
theorem lk_X7_71 : LkV RX7 71 5 yX5_stopsBefore cX5_stopsBefore 4 (some .int) 1 := ⟨lb_X5_stopsBefore, (mU 327 (by decide +kernel) (by decide +kernel)), (mU 328 (by decide +kernel) (by decide +kernel)), (mU 329 (by decide +kernel) (by decide +kernel)), ⟨_, _, rfl⟩, by decide⟩
theorem lk_X7_75 : LkV RX7 75 5 yX5_putStop cX5_putStop 4 none 3 := ⟨lb_X5_putStop, (mU 331 (by decide +kernel) (by decide +kernel)), (mU 332 (by decide +kernel) (by decide +kernel)), (mU 333 (by decide +kernel) (by decide +kernel)), ⟨_, _, rfl⟩, by decide⟩
theorem lk_X5_23 : LkS RX5 23 yX7_isWithin cX7_isWithin 3 (some .boolean) 3 := ⟨lb_X7_isWithin, (Or.inr ⟨RX7, by simp [nestT]⟩), (mU 293 (by decide +kernel) (by decide +kernel))⟩
theorem lk_L_28 : LkV "TabLinesLaw" 28 7 yX7_removeStop cX7_removeStop 5 (some .int) 2 := ⟨lb_X7_removeStop, (mU 336 (by decide +kernel) (by decide +kernel)), (mU 337 (by decide +kernel) (by decide +kernel)), (mU 338 (by decide +kernel) (by decide +kernel)), ⟨_, _, rfl⟩, by decide⟩
theorem lk_X7_79 : LkV RX7 79 5 yX5_positionOf cX5_positionOf 4 (some .int) 1 := ⟨lb_X5_positionOf, (mU 340 (by decide +kernel) (by decide +kernel)), (mU 341 (by decide +kernel) (by decide +kernel)), (mU 342 (by decide +kernel) (by decide +kernel)), ⟨_, _, rfl⟩, by decide⟩
theorem lk_X7_82 : LkV RX7 82 5 yX5_dropStop cX5_dropStop 2 none 1 := ⟨lb_X5_dropStop, (mU 344 (by decide +kernel) (by decide +kernel)), (mU 345 (by decide +kernel) (by decide +kernel)), (mU 346 (by decide +kernel) (by decide +kernel)), ⟨_, _, rfl⟩, by decide⟩
theorem lk_L_32 : LkV "TabLinesLaw" 32 7 yX7_appendCharacter cX7_appendCharacter 2 (some .int) 1 := ⟨lb_X7_appendCharacter, (mU 348 (by decide +kernel) (by decide +kernel)), (mU 349 (by decide +kernel) (by decide +kernel)), (mU 350 (by decide +kernel) (by decide +kernel)), ⟨_, _, rfl⟩, by decide⟩
theorem lk_L_37 : LkV "TabLinesLaw" 37 7 yX7_clearText cX7_clearText 2 (some .int) 0 := ⟨lb_X7_clearText, (mU 352 (by decide +kernel) (by decide +kernel)), (mU 353 (by decide +kernel) (by decide +kernel)), (mU 354 (by decide +kernel) (by decide +kernel)), ⟨_, _, rfl⟩, by decide⟩
theorem lk_L_42 : LkV "TabLinesLaw" 42 7 yX7_loadStops cX7_loadStops 4 (some .int) 1 := ⟨lb_X7_loadStops, (mU 356 (by decide +kernel) (by decide +kernel)), (mU 357 (by decide +kernel) (by decide +kernel)), (mU 358 (by decide +kernel) (by decide +kernel)), ⟨_, _, rfl⟩, by decide⟩
theorem lk_X7_89 : LkV RX7 89 4 yX4_readStops cX4_readStops 4 (some .int) 2 := ⟨lb_X4_readStops, (mU 360 (by decide +kernel) (by decide +kernel)), (mU 361 (by decide +kernel) (by decide +kernel)), (mU 362 (by decide +kernel) (by decide +kernel)), ⟨_, _, rfl⟩, by decide⟩
theorem lk_X4_22 : LkS RX4 22 yJ9_min_7cf53 cJ9_min_7cf53 2 (some .int) 2 := ⟨lb_J9_min_7cf53, (Or.inl (mU 364 (by decide +kernel) (by decide +kernel))), (mU 365 (by decide +kernel) (by decide +kernel))⟩
theorem lk_X4_35 : LkV RX4 35 5 yX5_dropStops cX5_dropStops 2 none 0 := ⟨lb_X5_dropStops, (mU 367 (by decide +kernel) (by decide +kernel)), (mU 368 (by decide +kernel) (by decide +kernel)), (mU 369 (by decide +kernel) (by decide +kernel)), ⟨_, _, rfl⟩, by decide⟩
theorem lk_X4_38 : LkV RX4 38 4 yX4_skipSpaces cX4_skipSpaces 1 none 0 := ⟨lb_X4_skipSpaces, (mU 371 (by decide +kernel) (by decide +kernel)), (mU 373 (by decide +kernel) (by decide +kernel)), (mU 2 (by decide +kernel) (by decide +kernel)), ⟨_, _, rfl⟩, by decide⟩
theorem lk_X4_45 : LkV RX4 45 4 yX4_next cX4_next 1 (some .int) 0 := ⟨lb_X4_next, (mU 375 (by decide +kernel) (by decide +kernel)), (mU 377 (by decide +kernel) (by decide +kernel)), (mU 3 (by decide +kernel) (by decide +kernel)), ⟨_, _, rfl⟩, by decide⟩
theorem lk_X4_41 : LkV RX4 41 4 yX4_readItem cX4_readItem 5 (some .boolean) 0 := ⟨lb_X4_readItem, (mU 379 (by decide +kernel) (by decide +kernel)), (mU 381 (by decide +kernel) (by decide +kernel)), (mU 4 (by decide +kernel) (by decide +kernel)), ⟨_, _, rfl⟩, by decide⟩
theorem lk_X4_49 : LkS RX4 49 yX4_kindOf cX4_kindOf 1 (some .int) 1 := ⟨lb_X4_kindOf, (Or.inl (mU 383 (by decide +kernel) (by decide +kernel))), (mU 384 (by decide +kernel) (by decide +kernel))⟩
theorem lk_X4_53 : LkV RX4 53 4 yX4_readPosition cX4_readPosition 2 (some .int) 0 := ⟨lb_X4_readPosition, (mU 386 (by decide +kernel) (by decide +kernel)), (mU 388 (by decide +kernel) (by decide +kernel)), (mU 5 (by decide +kernel) (by decide +kernel)), ⟨_, _, rfl⟩, by decide⟩
theorem lk_X4_67 : LkS RX4 67 yX7_isDigit cX7_isDigit 1 (some .boolean) 1 := ⟨lb_X7_isDigit, (Or.inr ⟨RX7, by simp [nestT]⟩), (mU 391 (by decide +kernel) (by decide +kernel))⟩
theorem lk_X4_56 : LkV RX4 56 5 yX5_hasStop cX5_hasStop 2 (some .boolean) 1 := ⟨lb_X5_hasStop, (mU 393 (by decide +kernel) (by decide +kernel)), (mU 324 (by decide +kernel) (by decide +kernel)), (mU 325 (by decide +kernel) (by decide +kernel)), ⟨_, _, rfl⟩, by decide⟩
theorem lk_X4_60 : LkS RX4 60 yX4_leaderOf cX4_leaderOf 2 (some .int) 1 := ⟨lb_X4_leaderOf, (Or.inl (mU 394 (by decide +kernel) (by decide +kernel))), (mU 395 (by decide +kernel) (by decide +kernel))⟩
theorem lk_X4_70 : LkS RX4 70 yX7_leaderCharacter cX7_leaderCharacter 1 (some .int) 1 := ⟨lb_X7_leaderCharacter, (Or.inr ⟨RX7, by simp [nestT]⟩), (mU 398 (by decide +kernel) (by decide +kernel))⟩
theorem lk_X4_63 : LkV RX4 63 5 yX5_putStop cX5_putStop 4 none 3 := ⟨lb_X5_putStop, (mU 400 (by decide +kernel) (by decide +kernel)), (mU 332 (by decide +kernel) (by decide +kernel)), (mU 333 (by decide +kernel) (by decide +kernel)), ⟨_, _, rfl⟩, by decide⟩
theorem lk_X7_97 : LkV RX7 97 5 yX5_takeStopsOf cX5_takeStopsOf 3 none 1 := ⟨lb_X5_takeStopsOf, (mU 401 (by decide +kernel) (by decide +kernel)), (mU 304 (by decide +kernel) (by decide +kernel)), (mU 305 (by decide +kernel) (by decide +kernel)), ⟨_, _, rfl⟩, by decide⟩
theorem lk_L_46 : LkV "TabLinesLaw" 46 7 yX7_addParagraph cX7_addParagraph 3 (some .int) 1 := ⟨lb_X7_addParagraph, (mU 402 (by decide +kernel) (by decide +kernel)), (mU 403 (by decide +kernel) (by decide +kernel)), (mU 404 (by decide +kernel) (by decide +kernel)), ⟨_, _, rfl⟩, by decide⟩
theorem lk_L_50 : LkV "TabLinesLaw" 50 7 yX7_removeParagraph cX7_removeParagraph 4 (some .int) 1 := ⟨lb_X7_removeParagraph, (mU 406 (by decide +kernel) (by decide +kernel)), (mU 407 (by decide +kernel) (by decide +kernel)), (mU 408 (by decide +kernel) (by decide +kernel)), ⟨_, _, rfl⟩, by decide⟩
theorem lk_X7_116 : LkV RX7 116 7 yX7_isParagraph cX7_isParagraph 2 (some .boolean) 1 := ⟨lb_X7_isParagraph, (mU 410 (by decide +kernel) (by decide +kernel)), (mU 412 (by decide +kernel) (by decide +kernel)), (mU 6 (by decide +kernel) (by decide +kernel)), ⟨_, _, rfl⟩, by decide⟩
theorem lk_L_54 : LkV "TabLinesLaw" 54 7 yX7_setStyle cX7_setStyle 4 (some .int) 2 := ⟨lb_X7_setStyle, (mU 414 (by decide +kernel) (by decide +kernel)), (mU 415 (by decide +kernel) (by decide +kernel)), (mU 416 (by decide +kernel) (by decide +kernel)), ⟨_, _, rfl⟩, by decide⟩
theorem lk_L_58 : LkV "TabLinesLaw" 58 7 yX7_takeText cX7_takeText 4 (some .int) 1 := ⟨lb_X7_takeText, (mU 418 (by decide +kernel) (by decide +kernel)), (mU 419 (by decide +kernel) (by decide +kernel)), (mU 420 (by decide +kernel) (by decide +kernel)), ⟨_, _, rfl⟩, by decide⟩
theorem lk_X7_119 : LkS RX7 119 yX7_isParagraphCharacter cX7_isParagraphCharacter 1 (some .boolean) 1 := ⟨lb_X7_isParagraphCharacter, (Or.inl (mU 422 (by decide +kernel) (by decide +kernel))), (mU 423 (by decide +kernel) (by decide +kernel))⟩
theorem lk_X7_209 : LkS RX7 209 yX7_isDigit cX7_isDigit 1 (some .boolean) 1 := ⟨lb_X7_isDigit, (Or.inl (mU 425 (by decide +kernel) (by decide +kernel))), (mU 391 (by decide +kernel) (by decide +kernel))⟩
theorem lk_X7_122 : LkV RX7 122 1 yX1_append cX1_append 2 none 1 := ⟨lb_X1_append, (mU 426 (by decide +kernel) (by decide +kernel)), (mU 427 (by decide +kernel) (by decide +kernel)), (mU 428 (by decide +kernel) (by decide +kernel)), ⟨_, _, rfl⟩, by decide⟩
theorem lk_X1_19 : LkS RX1 19 yX7_isWithin cX7_isWithin 3 (some .boolean) 3 := ⟨lb_X7_isWithin, (Or.inr ⟨RX7, by simp [nestT]⟩), (mU 293 (by decide +kernel) (by decide +kernel))⟩
theorem lk_L_62 : LkV "TabLinesLaw" 62 7 yX7_addWord cX7_addWord 7 (some .int) 4 := ⟨lb_X7_addWord, (mU 431 (by decide +kernel) (by decide +kernel)), (mU 432 (by decide +kernel) (by decide +kernel)), (mU 433 (by decide +kernel) (by decide +kernel)), ⟨_, _, rfl⟩, by decide⟩
theorem lk_L_66 : LkV "TabLinesLaw" 66 7 yX7_addAmount cX7_addAmount 6 (some .int) 2 := ⟨lb_X7_addAmount, (mU 435 (by decide +kernel) (by decide +kernel)), (mU 436 (by decide +kernel) (by decide +kernel)), (mU 437 (by decide +kernel) (by decide +kernel)), ⟨_, _, rfl⟩, by decide⟩
theorem lk_X7_126 : LkS RX7 126 yX7_digitsOf cX7_digitsOf 3 (some .int) 1 := ⟨lb_X7_digitsOf, (Or.inl (mU 440 (by decide +kernel) (by decide +kernel))), (mU 441 (by decide +kernel) (by decide +kernel))⟩
theorem lk_L_70 : LkV "TabLinesLaw" 70 7 yX7_count cX7_count 4 (some .int) 1 := ⟨lb_X7_count, (mU 443 (by decide +kernel) (by decide +kernel)), (mU 444 (by decide +kernel) (by decide +kernel)), (mU 445 (by decide +kernel) (by decide +kernel)), ⟨_, _, rfl⟩, by decide⟩
theorem lk_X7_129 : LkV RX7 129 7 yX7_layOut cX7_layOut 3 none 2 := ⟨lb_X7_layOut, (mU 447 (by decide +kernel) (by decide +kernel)), (mU 449 (by decide +kernel) (by decide +kernel)), (mU 7 (by decide +kernel) (by decide +kernel)), ⟨_, _, rfl⟩, by decide⟩
theorem lk_X7_165 : LkV RX7 165 7 yX7_styleOf cX7_styleOf 2 (some (.object "TabLines$Style")) 1 := ⟨lb_X7_styleOf, (mU 451 (by decide +kernel) (by decide +kernel)), (mU 453 (by decide +kernel) (by decide +kernel)), (mU 8 (by decide +kernel) (by decide +kernel)), ⟨_, _, rfl⟩, by decide⟩
theorem lk_X7_205 : LkV RX7 205 0 yX0_fill cX0_fill 6 none 4 := ⟨lb_X0_fill, (mU 455 (by decide +kernel) (by decide +kernel)), (mU 456 (by decide +kernel) (by decide +kernel)), (mU 457 (by decide +kernel) (by decide +kernel)), ⟨_, _, rfl⟩, by decide⟩
theorem lk_X0_34 : LkV RX0 34 6 yX6_take cX6_take 6 none 1 := ⟨lb_X6_take, (mU 459 (by decide +kernel) (by decide +kernel)), (mU 460 (by decide +kernel) (by decide +kernel)), (mU 461 (by decide +kernel) (by decide +kernel)), ⟨_, _, rfl⟩, by decide⟩
theorem lk_X6_36 : LkV RX6 36 1 yX1_characterAt cX1_characterAt 3 (some .int) 1 := ⟨lb_X1_characterAt, (mU 463 (by decide +kernel) (by decide +kernel)), (mU 464 (by decide +kernel) (by decide +kernel)), (mU 465 (by decide +kernel) (by decide +kernel)), ⟨_, _, rfl⟩, by decide⟩
theorem lk_X6_40 : LkV RX6 40 6 yX6_startWord cX6_startWord 2 none 1 := ⟨lb_X6_startWord, (mU 467 (by decide +kernel) (by decide +kernel)), (mU 469 (by decide +kernel) (by decide +kernel)), (mU 9 (by decide +kernel) (by decide +kernel)), ⟨_, _, rfl⟩, by decide⟩
theorem lk_X6_44 : LkV RX6 44 6 yX6_growWord cX6_growWord 3 none 1 := ⟨lb_X6_growWord, (mU 471 (by decide +kernel) (by decide +kernel)), (mU 473 (by decide +kernel) (by decide +kernel)), (mU 10 (by decide +kernel) (by decide +kernel)), ⟨_, _, rfl⟩, by decide⟩
theorem lk_X6_50 : LkS RX6 50 yX7_isWithin cX7_isWithin 3 (some .boolean) 3 := ⟨lb_X7_isWithin, (Or.inr ⟨RX7, by simp [nestT]⟩), (mU 293 (by decide +kernel) (by decide +kernel))⟩
theorem lk_X6_47 : LkV RX6 47 6 yX6_endField cX6_endField 1 none 0 := ⟨lb_X6_endField, (mU 476 (by decide +kernel) (by decide +kernel)), (mU 478 (by decide +kernel) (by decide +kernel)), (mU 11 (by decide +kernel) (by decide +kernel)), ⟨_, _, rfl⟩, by decide⟩
theorem lk_X0_38 : LkV RX0 38 2 yX2_removeAll cX2_removeAll 1 none 0 := ⟨lb_X2_removeAll, (mU 480 (by decide +kernel) (by decide +kernel)), (mU 481 (by decide +kernel) (by decide +kernel)), (mU 482 (by decide +kernel) (by decide +kernel)), ⟨_, _, rfl⟩, by decide⟩
theorem lk_X0_65 : LkV RX0 65 0 yX0_startField cX0_startField 5 none 3 := ⟨lb_X0_startField, (mU 484 (by decide +kernel) (by decide +kernel)), (mU 486 (by decide +kernel) (by decide +kernel)), (mU 12 (by decide +kernel) (by decide +kernel)), ⟨_, _, rfl⟩, by decide⟩
theorem lk_X0_69 : LkV RX0 69 6 yX6_firstOf cX6_firstOf 2 (some .int) 1 := ⟨lb_X6_firstOf, (mU 488 (by decide +kernel) (by decide +kernel)), (mU 489 (by decide +kernel) (by decide +kernel)), (mU 490 (by decide +kernel) (by decide +kernel)), ⟨_, _, rfl⟩, by decide⟩
theorem lk_X0_73 : LkV RX0 73 6 yX6_endOf cX6_endOf 2 (some .int) 1 := ⟨lb_X6_endOf, (mU 492 (by decide +kernel) (by decide +kernel)), (mU 493 (by decide +kernel) (by decide +kernel)), (mU 494 (by decide +kernel) (by decide +kernel)), ⟨_, _, rfl⟩, by decide⟩
theorem lk_X0_76 : LkV RX0 76 0 yX0_flow cX0_flow 4 none 2 := ⟨lb_X0_flow, (mU 496 (by decide +kernel) (by decide +kernel)), (mU 498 (by decide +kernel) (by decide +kernel)), (mU 13 (by decide +kernel) (by decide +kernel)), ⟨_, _, rfl⟩, by decide⟩
theorem lk_X0_115 : LkV RX0 115 6 yX6_lengthOf cX6_lengthOf 2 (some .int) 1 := ⟨lb_X6_lengthOf, (mU 500 (by decide +kernel) (by decide +kernel)), (mU 501 (by decide +kernel) (by decide +kernel)), (mU 502 (by decide +kernel) (by decide +kernel)), ⟨_, _, rfl⟩, by decide⟩
theorem lk_X0_100 : LkV RX0 100 0 yX0_startLine cX0_startLine 1 none 0 := ⟨lb_X0_startLine, (mU 504 (by decide +kernel) (by decide +kernel)), (mU 506 (by decide +kernel) (by decide +kernel)), (mU 14 (by decide +kernel) (by decide +kernel)), ⟨_, _, rfl⟩, by decide⟩
theorem lk_X0_128 : LkV RX0 128 0 yX0_place cX0_place 5 none 1 := ⟨lb_X0_place, (mU 508 (by decide +kernel) (by decide +kernel)), (mU 510 (by decide +kernel) (by decide +kernel)), (mU 15 (by decide +kernel) (by decide +kernel)), ⟨_, _, rfl⟩, by decide⟩
theorem lk_X0_132 : LkV RX0 132 6 yX6_startOf cX6_startOf 2 (some .int) 1 := ⟨lb_X6_startOf, (mU 512 (by decide +kernel) (by decide +kernel)), (mU 513 (by decide +kernel) (by decide +kernel)), (mU 514 (by decide +kernel) (by decide +kernel)), ⟨_, _, rfl⟩, by decide⟩
theorem lk_X0_135 : LkS RX0 135 yJ9_max_7cf53 cJ9_max_7cf53 2 (some .int) 2 := ⟨lb_J9_max_7cf53, (Or.inl (mU 516 (by decide +kernel) (by decide +kernel))), (mU 517 (by decide +kernel) (by decide +kernel))⟩
theorem lk_X0_140 : LkS RX0 140 yJ9_min_7cf53 cJ9_min_7cf53 2 (some .int) 2 := ⟨lb_J9_min_7cf53, (Or.inl (mU 519 (by decide +kernel) (by decide +kernel))), (mU 365 (by decide +kernel) (by decide +kernel))⟩
theorem lk_X0_124 : LkV RX0 124 2 yX2_add cX2_add 6 none 5 := ⟨lb_X2_add, (mU 520 (by decide +kernel) (by decide +kernel)), (mU 521 (by decide +kernel) (by decide +kernel)), (mU 522 (by decide +kernel) (by decide +kernel)), ⟨_, _, rfl⟩, by decide⟩
theorem lk_X0_143 : LkV RX0 143 0 yX0_noteFilled cX0_noteFilled 2 none 0 := ⟨lb_X0_noteFilled, (mU 524 (by decide +kernel) (by decide +kernel)), (mU 526 (by decide +kernel) (by decide +kernel)), (mU 16 (by decide +kernel) (by decide +kernel)), ⟨_, _, rfl⟩, by decide⟩
theorem lk_X0_80 : LkV RX0 80 0 yX0_fillBehindTab cX0_fillBehindTab 8 none 1 := ⟨lb_X0_fillBehindTab, (mU 528 (by decide +kernel) (by decide +kernel)), (mU 530 (by decide +kernel) (by decide +kernel)), (mU 17 (by decide +kernel) (by decide +kernel)), ⟨_, _, rfl⟩, by decide⟩
theorem lk_X0_84 : LkV RX0 84 5 yX5_tabBehind cX5_tabBehind 3 (some .int) 1 := ⟨lb_X5_tabBehind, (mU 532 (by decide +kernel) (by decide +kernel)), (mU 533 (by decide +kernel) (by decide +kernel)), (mU 534 (by decide +kernel) (by decide +kernel)), ⟨_, _, rfl⟩, by decide⟩
theorem lk_X5_27 : LkV RX5 27 5 yX5_hasTab cX5_hasTab 2 (some .boolean) 1 := ⟨lb_X5_hasTab, (mU 536 (by decide +kernel) (by decide +kernel)), (mU 537 (by decide +kernel) (by decide +kernel)), (mU 538 (by decide +kernel) (by decide +kernel)), ⟨_, _, rfl⟩, by decide⟩
theorem lk_X5_19 : LkV RX5 19 5 yX5_hasStop cX5_hasStop 2 (some .boolean) 1 := ⟨lb_X5_hasStop, (mU 540 (by decide +kernel) (by decide +kernel)), (mU 324 (by decide +kernel) (by decide +kernel)), (mU 325 (by decide +kernel) (by decide +kernel)), ⟨_, _, rfl⟩, by decide⟩
theorem lk_X0_87 : LkS RX0 87 yX7_multipleBehind cX7_multipleBehind 3 (some .int) 2 := ⟨lb_X7_multipleBehind, (Or.inr ⟨RX7, by simp [nestT]⟩), (mU 542 (by decide +kernel) (by decide +kernel))⟩
theorem lk_X7_212 : LkS RX7 212 yJ9_max_7cf53 cJ9_max_7cf53 2 (some .int) 2 := ⟨lb_J9_max_7cf53, (Or.inl (mU 544 (by decide +kernel) (by decide +kernel))), (mU 517 (by decide +kernel) (by decide +kernel))⟩
theorem lk_X0_91 : LkV RX0 91 5 yX5_kindAt cX5_kindAt 2 (some .int) 1 := ⟨lb_X5_kindAt, (mU 545 (by decide +kernel) (by decide +kernel)), (mU 546 (by decide +kernel) (by decide +kernel)), (mU 547 (by decide +kernel) (by decide +kernel)), ⟨_, _, rfl⟩, by decide⟩
theorem lk_X0_94 : LkV RX0 94 0 yX0_measureRun cX0_measureRun 6 none 3 := ⟨lb_X0_measureRun, (mU 549 (by decide +kernel) (by decide +kernel)), (mU 551 (by decide +kernel) (by decide +kernel)), (mU 18 (by decide +kernel) (by decide +kernel)), ⟨_, _, rfl⟩, by decide⟩
theorem lk_X0_118 : LkV RX0 118 6 yX6_pointOf cX6_pointOf 2 (some .int) 1 := ⟨lb_X6_pointOf, (mU 553 (by decide +kernel) (by decide +kernel)), (mU 554 (by decide +kernel) (by decide +kernel)), (mU 555 (by decide +kernel) (by decide +kernel)), ⟨_, _, rfl⟩, by decide⟩
theorem lk_X0_103 : LkV RX0 103 5 yX5_leaderAt cX5_leaderAt 2 (some .int) 1 := ⟨lb_X5_leaderAt, (mU 557 (by decide +kernel) (by decide +kernel)), (mU 558 (by decide +kernel) (by decide +kernel)), (mU 559 (by decide +kernel) (by decide +kernel)), ⟨_, _, rfl⟩, by decide⟩
theorem lk_X0_106 : LkV RX0 106 0 yX0_startRun cX0_startRun 6 none 3 := ⟨lb_X0_startRun, (mU 561 (by decide +kernel) (by decide +kernel)), (mU 563 (by decide +kernel) (by decide +kernel)), (mU 19 (by decide +kernel) (by decide +kernel)), ⟨_, _, rfl⟩, by decide⟩
theorem lk_X0_121 : LkV RX0 121 0 yX0_runAhead cX0_runAhead 2 (some .int) 1 := ⟨lb_X0_runAhead, (mU 565 (by decide +kernel) (by decide +kernel)), (mU 567 (by decide +kernel) (by decide +kernel)), (mU 20 (by decide +kernel) (by decide +kernel)), ⟨_, _, rfl⟩, by decide⟩
theorem lk_X7_133 : LkV RX7 133 0 yX0_lineCount cX0_lineCount 1 (some .int) 0 := ⟨lb_X0_lineCount, (mU 569 (by decide +kernel) (by decide +kernel)), (mU 570 (by decide +kernel) (by decide +kernel)), (mU 571 (by decide +kernel) (by decide +kernel)), ⟨_, _, rfl⟩, by decide⟩
theorem lk_L_74 : LkV "TabLinesLaw" 74 7 yX7_style cX7_style 4 (some .int) 2 := ⟨lb_X7_style, (mU 573 (by decide +kernel) (by decide +kernel)), (mU 574 (by decide +kernel) (by decide +kernel)), (mU 575 (by decide +kernel) (by decide +kernel)), ⟨_, _, rfl⟩, by decide⟩
theorem lk_X7_140 : LkV RX7 140 5 yX5_lastTab cX5_lastTab 2 (some .int) 0 := ⟨lb_X5_lastTab, (mU 577 (by decide +kernel) (by decide +kernel)), (mU 578 (by decide +kernel) (by decide +kernel)), (mU 579 (by decide +kernel) (by decide +kernel)), ⟨_, _, rfl⟩, by decide⟩
theorem lk_X7_143 : LkS RX7 143 yX7_multipleBehind cX7_multipleBehind 3 (some .int) 2 := ⟨lb_X7_multipleBehind, (Or.inl (mU 581 (by decide +kernel) (by decide +kernel))), (mU 542 (by decide +kernel) (by decide +kernel))⟩
theorem lk_L_78 : LkV "TabLinesLaw" 78 7 yX7_stop cX7_stop 6 (some .int) 3 := ⟨lb_X7_stop, (mU 582 (by decide +kernel) (by decide +kernel)), (mU 583 (by decide +kernel) (by decide +kernel)), (mU 584 (by decide +kernel) (by decide +kernel)), ⟨_, _, rfl⟩, by decide⟩
theorem lk_X7_147 : LkV RX7 147 5 yX5_kindAt cX5_kindAt 2 (some .int) 1 := ⟨lb_X5_kindAt, (mU 586 (by decide +kernel) (by decide +kernel)), (mU 546 (by decide +kernel) (by decide +kernel)), (mU 547 (by decide +kernel) (by decide +kernel)), ⟨_, _, rfl⟩, by decide⟩
theorem lk_X7_150 : LkV RX7 150 5 yX5_leaderAt cX5_leaderAt 2 (some .int) 1 := ⟨lb_X5_leaderAt, (mU 587 (by decide +kernel) (by decide +kernel)), (mU 558 (by decide +kernel) (by decide +kernel)), (mU 559 (by decide +kernel) (by decide +kernel)), ⟨_, _, rfl⟩, by decide⟩
theorem lk_L_82 : LkV "TabLinesLaw" 82 7 yX7_character cX7_character 3 (some .int) 2 := ⟨lb_X7_character, (mU 588 (by decide +kernel) (by decide +kernel)), (mU 589 (by decide +kernel) (by decide +kernel)), (mU 590 (by decide +kernel) (by decide +kernel)), ⟨_, _, rfl⟩, by decide⟩
theorem lk_X7_153 : LkV RX7 153 1 yX1_characterAt cX1_characterAt 3 (some .int) 1 := ⟨lb_X1_characterAt, (mU 592 (by decide +kernel) (by decide +kernel)), (mU 464 (by decide +kernel) (by decide +kernel)), (mU 465 (by decide +kernel) (by decide +kernel)), ⟨_, _, rfl⟩, by decide⟩
theorem lk_L_86 : LkV "TabLinesLaw" 86 7 yX7_lines cX7_lines 2 (some .int) 1 := ⟨lb_X7_lines, (mU 593 (by decide +kernel) (by decide +kernel)), (mU 594 (by decide +kernel) (by decide +kernel)), (mU 595 (by decide +kernel) (by decide +kernel)), ⟨_, _, rfl⟩, by decide⟩
theorem lk_L_90 : LkV "TabLinesLaw" 90 7 yX7_cell cX7_cell 7 (some .int) 3 := ⟨lb_X7_cell, (mU 597 (by decide +kernel) (by decide +kernel)), (mU 598 (by decide +kernel) (by decide +kernel)), (mU 599 (by decide +kernel) (by decide +kernel)), ⟨_, _, rfl⟩, by decide⟩
theorem lk_X7_160 : LkV RX7 160 2 yX2_pieceAt cX2_pieceAt 4 (some .int) 2 := ⟨lb_X2_pieceAt, (mU 601 (by decide +kernel) (by decide +kernel)), (mU 602 (by decide +kernel) (by decide +kernel)), (mU 603 (by decide +kernel) (by decide +kernel)), ⟨_, _, rfl⟩, by decide⟩
theorem lk_X2_31 : LkS RX2 31 yX7_isWithin cX7_isWithin 3 (some .boolean) 3 := ⟨lb_X7_isWithin, (Or.inr ⟨RX7, by simp [nestT]⟩), (mU 293 (by decide +kernel) (by decide +kernel))⟩
theorem lk_X7_172 : LkS RX7 172 yX7_leaderCharacter cX7_leaderCharacter 1 (some .int) 1 := ⟨lb_X7_leaderCharacter, (Or.inl (mU 606 (by decide +kernel) (by decide +kernel))), (mU 398 (by decide +kernel) (by decide +kernel))⟩
theorem lk_L_94 : LkV "TabLinesLaw" 94 7 yX7_field cX7_field 4 (some .int) 3 := ⟨lb_X7_field, (mU 607 (by decide +kernel) (by decide +kernel)), (mU 608 (by decide +kernel) (by decide +kernel)), (mU 609 (by decide +kernel) (by decide +kernel)), ⟨_, _, rfl⟩, by decide⟩
theorem lk_L_98 : LkV "TabLinesLaw" 98 7 yX7_holds cX7_holds 6 (some .int) 2 := ⟨lb_X7_holds, (mU 611 (by decide +kernel) (by decide +kernel)), (mU 612 (by decide +kernel) (by decide +kernel)), (mU 613 (by decide +kernel) (by decide +kernel)), ⟨_, _, rfl⟩, by decide⟩
theorem lk_X7_193 : LkV RX7 193 2 yX2_filled cX2_filled 4 (some .int) 1 := ⟨lb_X2_filled, (mU 615 (by decide +kernel) (by decide +kernel)), (mU 616 (by decide +kernel) (by decide +kernel)), (mU 617 (by decide +kernel) (by decide +kernel)), ⟨_, _, rfl⟩, by decide⟩
theorem lk_X7_197 : LkV RX7 197 0 yX0_barColumns cX0_barColumns 5 (some .int) 1 := ⟨lb_X0_barColumns, (mU 619 (by decide +kernel) (by decide +kernel)), (mU 620 (by decide +kernel) (by decide +kernel)), (mU 621 (by decide +kernel) (by decide +kernel)), ⟨_, _, rfl⟩, by decide⟩
theorem lk_X0_146 : LkV RX0 146 2 yX2_pieceAt cX2_pieceAt 4 (some .int) 2 := ⟨lb_X2_pieceAt, (mU 623 (by decide +kernel) (by decide +kernel)), (mU 602 (by decide +kernel) (by decide +kernel)), (mU 603 (by decide +kernel) (by decide +kernel)), ⟨_, _, rfl⟩, by decide⟩
theorem lk_L_102 : LkV "TabLinesLaw" 102 7 yX7_linesWith cX7_linesWith 3 (some .int) 2 := ⟨lb_X7_linesWith, (mU 624 (by decide +kernel) (by decide +kernel)), (mU 625 (by decide +kernel) (by decide +kernel)), (mU 626 (by decide +kernel) (by decide +kernel)), ⟨_, _, rfl⟩, by decide⟩
theorem lk_L_106 : LkV "TabLinesLaw" 106 7 yX7_leastColumns cX7_leastColumns 4 (some .int) 2 := ⟨lb_X7_leastColumns, (mU 628 (by decide +kernel) (by decide +kernel)), (mU 629 (by decide +kernel) (by decide +kernel)), (mU 630 (by decide +kernel) (by decide +kernel)), ⟨_, _, rfl⟩, by decide⟩
theorem lk_L_110 : LkV "TabLinesLaw" 110 7 yX7_undo cX7_undo 1 (some .int) 0 := ⟨lb_X7_undo, (mU 632 (by decide +kernel) (by decide +kernel)), (mU 633 (by decide +kernel) (by decide +kernel)), (mU 634 (by decide +kernel) (by decide +kernel)), ⟨_, _, rfl⟩, by decide⟩
theorem lk_L_12 : LkI "TabLinesLaw" 12 yX8_init cX8_init 2 0 := ⟨lb_X8_init, (Or.inl (mU 638 (by decide +kernel) (by decide +kernel))), (mU 639 (by decide +kernel) (by decide +kernel)), rfl⟩
theorem lk_L_113 : LkV "TabLinesLaw" 113 8 yX8_undo cX8_undo 2 (some .int) 0 := ⟨lb_X8_undo, (mU 698 (by decide +kernel) (by decide +kernel)), (mU 699 (by decide +kernel) (by decide +kernel)), (mU 700 (by decide +kernel) (by decide +kernel)), ⟨_, _, rfl⟩, by decide⟩
theorem lk_L_17 : LkV "TabLinesLaw" 17 8 yX8_setNumber cX8_setNumber 4 (some .int) 2 := ⟨lb_X8_setNumber, (mU 702 (by decide +kernel) (by decide +kernel)), (mU 703 (by decide +kernel) (by decide +kernel)), (mU 704 (by decide +kernel) (by decide +kernel)), ⟨_, _, rfl⟩, by decide⟩
theorem lk_X8_36 : LkS RX8 36 yX8_in cX8_in 3 (some .boolean) 3 := ⟨lb_X8_in, (Or.inl (mU 706 (by decide +kernel) (by decide +kernel))), (mU 707 (by decide +kernel) (by decide +kernel))⟩
theorem lk_X8_47 : LkV RX8 47 8 yX8_notes cX8_notes 2 none 0 := ⟨lb_X8_notes, (mU 709 (by decide +kernel) (by decide +kernel)), (mU 711 (by decide +kernel) (by decide +kernel)), (mU 21 (by decide +kernel) (by decide +kernel)), ⟨_, _, rfl⟩, by decide⟩
theorem lk_L_22 : LkV "TabLinesLaw" 22 8 yX8_setIndent cX8_setIndent 5 (some .int) 3 := ⟨lb_X8_setIndent, (mU 713 (by decide +kernel) (by decide +kernel)), (mU 714 (by decide +kernel) (by decide +kernel)), (mU 715 (by decide +kernel) (by decide +kernel)), ⟨_, _, rfl⟩, by decide⟩
theorem lk_X8_50 : LkS RX8 50 yX8_isStyle cX8_isStyle 1 (some .boolean) 1 := ⟨lb_X8_isStyle, (Or.inl (mU 717 (by decide +kernel) (by decide +kernel))), (mU 718 (by decide +kernel) (by decide +kernel))⟩
theorem lk_X8_44 : LkV RX8 44 8 yX8_of cX8_of 3 (some .int) 2 := ⟨lb_X8_of, (mU 720 (by decide +kernel) (by decide +kernel)), (mU 722 (by decide +kernel) (by decide +kernel)), (mU 22 (by decide +kernel) (by decide +kernel)), ⟨_, _, rfl⟩, by decide⟩
theorem lk_X8_40 : LkS RX8 40 yX8_placeOf cX8_placeOf 2 (some .int) 2 := ⟨lb_X8_placeOf, (Or.inl (mU 724 (by decide +kernel) (by decide +kernel))), (mU 725 (by decide +kernel) (by decide +kernel))⟩
theorem lk_L_27 : LkV "TabLinesLaw" 27 8 yX8_setStop cX8_setStop 5 (some .int) 4 := ⟨lb_X8_setStop, (mU 727 (by decide +kernel) (by decide +kernel)), (mU 728 (by decide +kernel) (by decide +kernel)), (mU 729 (by decide +kernel) (by decide +kernel)), ⟨_, _, rfl⟩, by decide⟩
theorem lk_X8_58 : LkV RX8 58 8 yX8_hasStop cX8_hasStop 5 (some .boolean) 2 := ⟨lb_X8_hasStop, (mU 731 (by decide +kernel) (by decide +kernel)), (mU 733 (by decide +kernel) (by decide +kernel)), (mU 23 (by decide +kernel) (by decide +kernel)), ⟨_, _, rfl⟩, by decide⟩
theorem lk_X8_54 : LkV RX8 54 8 yX8_stopOf cX8_stopOf 4 (some .int) 3 := ⟨lb_X8_stopOf, (mU 735 (by decide +kernel) (by decide +kernel)), (mU 737 (by decide +kernel) (by decide +kernel)), (mU 24 (by decide +kernel) (by decide +kernel)), ⟨_, _, rfl⟩, by decide⟩
theorem lk_X8_62 : LkV RX8 62 8 yX8_puts cX8_puts 8 (some .int) 4 := ⟨lb_X8_puts, (mU 739 (by decide +kernel) (by decide +kernel)), (mU 741 (by decide +kernel) (by decide +kernel)), (mU 25 (by decide +kernel) (by decide +kernel)), ⟨_, _, rfl⟩, by decide⟩
theorem lk_L_31 : LkV "TabLinesLaw" 31 8 yX8_removeStop cX8_removeStop 4 (some .int) 2 := ⟨lb_X8_removeStop, (mU 743 (by decide +kernel) (by decide +kernel)), (mU 744 (by decide +kernel) (by decide +kernel)), (mU 745 (by decide +kernel) (by decide +kernel)), ⟨_, _, rfl⟩, by decide⟩
theorem lk_L_36 : LkV "TabLinesLaw" 36 8 yX8_appendCharacter cX8_appendCharacter 2 (some .int) 1 := ⟨lb_X8_appendCharacter, (mU 747 (by decide +kernel) (by decide +kernel)), (mU 748 (by decide +kernel) (by decide +kernel)), (mU 749 (by decide +kernel) (by decide +kernel)), ⟨_, _, rfl⟩, by decide⟩
theorem lk_L_41 : LkV "TabLinesLaw" 41 8 yX8_clearText cX8_clearText 2 (some .int) 0 := ⟨lb_X8_clearText, (mU 751 (by decide +kernel) (by decide +kernel)), (mU 752 (by decide +kernel) (by decide +kernel)), (mU 753 (by decide +kernel) (by decide +kernel)), ⟨_, _, rfl⟩, by decide⟩
theorem lk_L_45 : LkV "TabLinesLaw" 45 8 yX8_loadStops cX8_loadStops 5 (some .int) 1 := ⟨lb_X8_loadStops, (mU 755 (by decide +kernel) (by decide +kernel)), (mU 756 (by decide +kernel) (by decide +kernel)), (mU 757 (by decide +kernel) (by decide +kernel)), ⟨_, _, rfl⟩, by decide⟩
theorem lk_X8_75 : LkV RX8 75 8 yX8_here cX8_here 1 (some .int) 0 := ⟨lb_X8_here, (mU 759 (by decide +kernel) (by decide +kernel)), (mU 761 (by decide +kernel) (by decide +kernel)), (mU 26 (by decide +kernel) (by decide +kernel)), ⟨_, _, rfl⟩, by decide⟩
theorem lk_X8_89 : LkV RX8 89 8 yX8_readsItem cX8_readsItem 5 (some .boolean) 0 := ⟨lb_X8_readsItem, (mU 763 (by decide +kernel) (by decide +kernel)), (mU 765 (by decide +kernel) (by decide +kernel)), (mU 27 (by decide +kernel) (by decide +kernel)), ⟨_, _, rfl⟩, by decide⟩
theorem lk_X8_79 : LkS RX8 79 yX8_kindOf cX8_kindOf 1 (some .int) 1 := ⟨lb_X8_kindOf, (Or.inl (mU 767 (by decide +kernel) (by decide +kernel))), (mU 768 (by decide +kernel) (by decide +kernel))⟩
theorem lk_X8_83 : LkV RX8 83 8 yX8_isTold cX8_isTold 4 (some .boolean) 1 := ⟨lb_X8_isTold, (mU 770 (by decide +kernel) (by decide +kernel)), (mU 772 (by decide +kernel) (by decide +kernel)), (mU 28 (by decide +kernel) (by decide +kernel)), ⟨_, _, rfl⟩, by decide⟩
theorem lk_X8_86 : LkS RX8 86 yX8_leaderOf cX8_leaderOf 1 (some .int) 1 := ⟨lb_X8_leaderOf, (Or.inl (mU 774 (by decide +kernel) (by decide +kernel))), (mU 775 (by decide +kernel) (by decide +kernel))⟩
theorem lk_L_49 : LkV "TabLinesLaw" 49 8 yX8_addParagraph cX8_addParagraph 2 (some .int) 1 := ⟨lb_X8_addParagraph, (mU 777 (by decide +kernel) (by decide +kernel)), (mU 778 (by decide +kernel) (by decide +kernel)), (mU 779 (by decide +kernel) (by decide +kernel)), ⟨_, _, rfl⟩, by decide⟩
theorem lk_X8_93 : LkS RX8 93 yX8_own cX8_own 1 (some .int) 1 := ⟨lb_X8_own, (Or.inl (mU 781 (by decide +kernel) (by decide +kernel))), (mU 782 (by decide +kernel) (by decide +kernel))⟩
theorem lk_L_53 : LkV "TabLinesLaw" 53 8 yX8_removeParagraph cX8_removeParagraph 3 (some .int) 1 := ⟨lb_X8_removeParagraph, (mU 784 (by decide +kernel) (by decide +kernel)), (mU 785 (by decide +kernel) (by decide +kernel)), (mU 786 (by decide +kernel) (by decide +kernel)), ⟨_, _, rfl⟩, by decide⟩
theorem lk_X8_96 : LkV RX8 96 8 yX8_isParagraph cX8_isParagraph 2 (some .boolean) 1 := ⟨lb_X8_isParagraph, (mU 788 (by decide +kernel) (by decide +kernel)), (mU 790 (by decide +kernel) (by decide +kernel)), (mU 29 (by decide +kernel) (by decide +kernel)), ⟨_, _, rfl⟩, by decide⟩
theorem lk_L_57 : LkV "TabLinesLaw" 57 8 yX8_setStyle cX8_setStyle 4 (some .int) 2 := ⟨lb_X8_setStyle, (mU 792 (by decide +kernel) (by decide +kernel)), (mU 793 (by decide +kernel) (by decide +kernel)), (mU 794 (by decide +kernel) (by decide +kernel)), ⟨_, _, rfl⟩, by decide⟩
theorem lk_L_61 : LkV "TabLinesLaw" 61 8 yX8_takeText cX8_takeText 4 (some .int) 1 := ⟨lb_X8_takeText, (mU 796 (by decide +kernel) (by decide +kernel)), (mU 797 (by decide +kernel) (by decide +kernel)), (mU 798 (by decide +kernel) (by decide +kernel)), ⟨_, _, rfl⟩, by decide⟩
theorem lk_X8_99 : LkS RX8 99 yX8_isWritten cX8_isWritten 1 (some .boolean) 1 := ⟨lb_X8_isWritten, (Or.inl (mU 800 (by decide +kernel) (by decide +kernel))), (mU 801 (by decide +kernel) (by decide +kernel))⟩
theorem lk_L_65 : LkV "TabLinesLaw" 65 8 yX8_addWord cX8_addWord 6 (some .int) 4 := ⟨lb_X8_addWord, (mU 803 (by decide +kernel) (by decide +kernel)), (mU 804 (by decide +kernel) (by decide +kernel)), (mU 805 (by decide +kernel) (by decide +kernel)), ⟨_, _, rfl⟩, by decide⟩
theorem lk_X8_102 : LkV RX8 102 8 yX8_adds cX8_adds 4 none 2 := ⟨lb_X8_adds, (mU 807 (by decide +kernel) (by decide +kernel)), (mU 809 (by decide +kernel) (by decide +kernel)), (mU 30 (by decide +kernel) (by decide +kernel)), ⟨_, _, rfl⟩, by decide⟩
theorem lk_L_69 : LkV "TabLinesLaw" 69 8 yX8_addAmount cX8_addAmount 6 (some .int) 2 := ⟨lb_X8_addAmount, (mU 811 (by decide +kernel) (by decide +kernel)), (mU 812 (by decide +kernel) (by decide +kernel)), (mU 813 (by decide +kernel) (by decide +kernel)), ⟨_, _, rfl⟩, by decide⟩
theorem lk_L_73 : LkV "TabLinesLaw" 73 8 yX8_count cX8_count 4 (some .int) 1 := ⟨lb_X8_count, (mU 816 (by decide +kernel) (by decide +kernel)), (mU 817 (by decide +kernel) (by decide +kernel)), (mU 818 (by decide +kernel) (by decide +kernel)), ⟨_, _, rfl⟩, by decide⟩
theorem lk_X8_187 : LkV RX8 187 8 yX8_lays cX8_lays 5 (some .int) 2 := ⟨lb_X8_lays, (mU 820 (by decide +kernel) (by decide +kernel)), (mU 822 (by decide +kernel) (by decide +kernel)), (mU 31 (by decide +kernel) (by decide +kernel)), ⟨_, _, rfl⟩, by decide⟩
theorem lk_X8_116 : LkV RX8 116 8 yX8_opensLine cX8_opensLine 2 none 0 := ⟨lb_X8_opensLine, (mU 824 (by decide +kernel) (by decide +kernel)), (mU 826 (by decide +kernel) (by decide +kernel)), (mU 32 (by decide +kernel) (by decide +kernel)), ⟨_, _, rfl⟩, by decide⟩
theorem lk_X8_175 : LkV RX8 175 8 yX8_length cX8_length 1 (some .int) 0 := ⟨lb_X8_length, (mU 828 (by decide +kernel) (by decide +kernel)), (mU 830 (by decide +kernel) (by decide +kernel)), (mU 33 (by decide +kernel) (by decide +kernel)), ⟨_, _, rfl⟩, by decide⟩
theorem lk_X8_128 : LkV RX8 128 8 yX8_letterAt cX8_letterAt 2 (some .int) 1 := ⟨lb_X8_letterAt, (mU 832 (by decide +kernel) (by decide +kernel)), (mU 834 (by decide +kernel) (by decide +kernel)), (mU 34 (by decide +kernel) (by decide +kernel)), ⟨_, _, rfl⟩, by decide⟩
theorem lk_X8_146 : LkV RX8 146 8 yX8_begins cX8_begins 4 none 3 := ⟨lb_X8_begins, (mU 836 (by decide +kernel) (by decide +kernel)), (mU 838 (by decide +kernel) (by decide +kernel)), (mU 35 (by decide +kernel) (by decide +kernel)), ⟨_, _, rfl⟩, by decide⟩
theorem lk_X8_150 : LkV RX8 150 8 yX8_flows cX8_flows 6 none 2 := ⟨lb_X8_flows, (mU 840 (by decide +kernel) (by decide +kernel)), (mU 842 (by decide +kernel) (by decide +kernel)), (mU 36 (by decide +kernel) (by decide +kernel)), ⟨_, _, rfl⟩, by decide⟩
theorem lk_X8_131 : LkV RX8 131 8 yX8_wordFrom cX8_wordFrom 4 (some .int) 2 := ⟨lb_X8_wordFrom, (mU 844 (by decide +kernel) (by decide +kernel)), (mU 846 (by decide +kernel) (by decide +kernel)), (mU 37 (by decide +kernel) (by decide +kernel)), ⟨_, _, rfl⟩, by decide⟩
theorem lk_X8_134 : LkV RX8 134 8 yX8_endOfWord cX8_endOfWord 4 (some .int) 2 := ⟨lb_X8_endOfWord, (mU 848 (by decide +kernel) (by decide +kernel)), (mU 850 (by decide +kernel) (by decide +kernel)), (mU 38 (by decide +kernel) (by decide +kernel)), ⟨_, _, rfl⟩, by decide⟩
theorem lk_X8_137 : LkV RX8 137 8 yX8_newLine cX8_newLine 1 none 0 := ⟨lb_X8_newLine, (mU 852 (by decide +kernel) (by decide +kernel)), (mU 854 (by decide +kernel) (by decide +kernel)), (mU 39 (by decide +kernel) (by decide +kernel)), ⟨_, _, rfl⟩, by decide⟩
theorem lk_X8_140 : LkV RX8 140 8 yX8_writes cX8_writes 3 none 2 := ⟨lb_X8_writes, (mU 856 (by decide +kernel) (by decide +kernel)), (mU 858 (by decide +kernel) (by decide +kernel)), (mU 40 (by decide +kernel) (by decide +kernel)), ⟨_, _, rfl⟩, by decide⟩
theorem lk_X8_143 : LkV RX8 143 8 yX8_fills cX8_fills 1 none 0 := ⟨lb_X8_fills, (mU 860 (by decide +kernel) (by decide +kernel)), (mU 862 (by decide +kernel) (by decide +kernel)), (mU 41 (by decide +kernel) (by decide +kernel)), ⟨_, _, rfl⟩, by decide⟩
theorem lk_X8_178 : LkV RX8 178 8 yX8_laysField cX8_laysField 12 none 2 := ⟨lb_X8_laysField, (mU 864 (by decide +kernel) (by decide +kernel)), (mU 866 (by decide +kernel) (by decide +kernel)), (mU 42 (by decide +kernel) (by decide +kernel)), ⟨_, _, rfl⟩, by decide⟩
theorem lk_X8_153 : LkV RX8 153 8 yX8_ownStop cX8_ownStop 2 (some .int) 0 := ⟨lb_X8_ownStop, (mU 868 (by decide +kernel) (by decide +kernel)), (mU 870 (by decide +kernel) (by decide +kernel)), (mU 43 (by decide +kernel) (by decide +kernel)), ⟨_, _, rfl⟩, by decide⟩
theorem lk_X8_156 : LkV RX8 156 8 yX8_lastStop cX8_lastStop 3 (some .int) 0 := ⟨lb_X8_lastStop, (mU 872 (by decide +kernel) (by decide +kernel)), (mU 874 (by decide +kernel) (by decide +kernel)), (mU 44 (by decide +kernel) (by decide +kernel)), ⟨_, _, rfl⟩, by decide⟩
theorem lk_X8_159 : LkV RX8 159 8 yX8_defaultBehind cX8_defaultBehind 2 (some .int) 1 := ⟨lb_X8_defaultBehind, (mU 876 (by decide +kernel) (by decide +kernel)), (mU 878 (by decide +kernel) (by decide +kernel)), (mU 45 (by decide +kernel) (by decide +kernel)), ⟨_, _, rfl⟩, by decide⟩
theorem lk_X8_162 : LkV RX8 162 8 yX8_flowsAnew cX8_flowsAnew 3 none 2 := ⟨lb_X8_flowsAnew, (mU 880 (by decide +kernel) (by decide +kernel)), (mU 882 (by decide +kernel) (by decide +kernel)), (mU 46 (by decide +kernel) (by decide +kernel)), ⟨_, _, rfl⟩, by decide⟩
theorem lk_X8_165 : LkV RX8 165 8 yX8_endOfRun cX8_endOfRun 9 (some .int) 3 := ⟨lb_X8_endOfRun, (mU 884 (by decide +kernel) (by decide +kernel)), (mU 886 (by decide +kernel) (by decide +kernel)), (mU 47 (by decide +kernel) (by decide +kernel)), ⟨_, _, rfl⟩, by decide⟩
theorem lk_X8_168 : LkV RX8 168 8 yX8_lengthOf cX8_lengthOf 7 (some .int) 3 := ⟨lb_X8_lengthOf, (mU 888 (by decide +kernel) (by decide +kernel)), (mU 890 (by decide +kernel) (by decide +kernel)), (mU 48 (by decide +kernel) (by decide +kernel)), ⟨_, _, rfl⟩, by decide⟩
theorem lk_X8_172 : LkV RX8 172 8 yX8_leads cX8_leads 3 none 2 := ⟨lb_X8_leads, (mU 892 (by decide +kernel) (by decide +kernel)), (mU 894 (by decide +kernel) (by decide +kernel)), (mU 49 (by decide +kernel) (by decide +kernel)), ⟨_, _, rfl⟩, by decide⟩
theorem lk_X8_184 : LkV RX8 184 8 yX8_laysBars cX8_laysBars 4 none 0 := ⟨lb_X8_laysBars, (mU 896 (by decide +kernel) (by decide +kernel)), (mU 898 (by decide +kernel) (by decide +kernel)), (mU 50 (by decide +kernel) (by decide +kernel)), ⟨_, _, rfl⟩, by decide⟩
theorem lk_L_77 : LkV "TabLinesLaw" 77 8 yX8_style cX8_style 3 (some .int) 2 := ⟨lb_X8_style, (mU 900 (by decide +kernel) (by decide +kernel)), (mU 901 (by decide +kernel) (by decide +kernel)), (mU 902 (by decide +kernel) (by decide +kernel)), ⟨_, _, rfl⟩, by decide⟩
theorem lk_L_81 : LkV "TabLinesLaw" 81 8 yX8_stop cX8_stop 4 (some .int) 3 := ⟨lb_X8_stop, (mU 904 (by decide +kernel) (by decide +kernel)), (mU 905 (by decide +kernel) (by decide +kernel)), (mU 906 (by decide +kernel) (by decide +kernel)), ⟨_, _, rfl⟩, by decide⟩
theorem lk_L_85 : LkV "TabLinesLaw" 85 8 yX8_character cX8_character 3 (some .int) 2 := ⟨lb_X8_character, (mU 908 (by decide +kernel) (by decide +kernel)), (mU 909 (by decide +kernel) (by decide +kernel)), (mU 910 (by decide +kernel) (by decide +kernel)), ⟨_, _, rfl⟩, by decide⟩
theorem lk_L_89 : LkV "TabLinesLaw" 89 8 yX8_lines cX8_lines 2 (some .int) 1 := ⟨lb_X8_lines, (mU 912 (by decide +kernel) (by decide +kernel)), (mU 913 (by decide +kernel) (by decide +kernel)), (mU 914 (by decide +kernel) (by decide +kernel)), ⟨_, _, rfl⟩, by decide⟩
theorem lk_L_93 : LkV "TabLinesLaw" 93 8 yX8_cell cX8_cell 4 (some .int) 3 := ⟨lb_X8_cell, (mU 916 (by decide +kernel) (by decide +kernel)), (mU 917 (by decide +kernel) (by decide +kernel)), (mU 918 (by decide +kernel) (by decide +kernel)), ⟨_, _, rfl⟩, by decide⟩
theorem lk_L_97 : LkV "TabLinesLaw" 97 8 yX8_field cX8_field 5 (some .int) 3 := ⟨lb_X8_field, (mU 920 (by decide +kernel) (by decide +kernel)), (mU 921 (by decide +kernel) (by decide +kernel)), (mU 922 (by decide +kernel) (by decide +kernel)), ⟨_, _, rfl⟩, by decide⟩
theorem lk_L_101 : LkV "TabLinesLaw" 101 8 yX8_holds cX8_holds 8 (some .int) 2 := ⟨lb_X8_holds, (mU 924 (by decide +kernel) (by decide +kernel)), (mU 925 (by decide +kernel) (by decide +kernel)), (mU 926 (by decide +kernel) (by decide +kernel)), ⟨_, _, rfl⟩, by decide⟩
theorem lk_L_105 : LkV "TabLinesLaw" 105 8 yX8_linesWith cX8_linesWith 3 (some .int) 2 := ⟨lb_X8_linesWith, (mU 928 (by decide +kernel) (by decide +kernel)), (mU 929 (by decide +kernel) (by decide +kernel)), (mU 930 (by decide +kernel) (by decide +kernel)), ⟨_, _, rfl⟩, by decide⟩
theorem lk_L_109 : LkV "TabLinesLaw" 109 8 yX8_leastColumns cX8_leastColumns 4 (some .int) 2 := ⟨lb_X8_leastColumns, (mU 932 (by decide +kernel) (by decide +kernel)), (mU 933 (by decide +kernel) (by decide +kernel)), (mU 934 (by decide +kernel) (by decide +kernel)), ⟨_, _, rfl⟩, by decide⟩
theorem lk_X8_190 : LkS RX8 190 yX8_lesser cX8_lesser 2 (some .int) 2 := ⟨lb_X8_lesser, (Or.inl (mU 936 (by decide +kernel) (by decide +kernel))), (mU 937 (by decide +kernel) (by decide +kernel))⟩
theorem ob_X7_3 : Cond.methodLink RX7 3 objectInit ∈ lw_U ∧ Cond.instanceMethod objectInit ∈ lw_U ∧ Cond.code objectInit ⟨#[0xb1]⟩ 1 none ∈ lw_U := ⟨(mU 67 (by decide +kernel) (by decide +kernel)), (mU 68 (by decide +kernel) (by decide +kernel)), (mU 69 (by decide +kernel) (by decide +kernel))⟩
theorem ob_X3_3 : Cond.methodLink RX3 3 objectInit ∈ lw_U ∧ Cond.instanceMethod objectInit ∈ lw_U ∧ Cond.code objectInit ⟨#[0xb1]⟩ 1 none ∈ lw_U := ⟨(mU 75 (by decide +kernel) (by decide +kernel)), (mU 68 (by decide +kernel) (by decide +kernel)), (mU 69 (by decide +kernel) (by decide +kernel))⟩
theorem ob_X5_3 : Cond.methodLink RX5 3 objectInit ∈ lw_U ∧ Cond.instanceMethod objectInit ∈ lw_U ∧ Cond.code objectInit ⟨#[0xb1]⟩ 1 none ∈ lw_U := ⟨(mU 84 (by decide +kernel) (by decide +kernel)), (mU 68 (by decide +kernel) (by decide +kernel)), (mU 69 (by decide +kernel) (by decide +kernel))⟩
theorem ob_X1_3 : Cond.methodLink RX1 3 objectInit ∈ lw_U ∧ Cond.instanceMethod objectInit ∈ lw_U ∧ Cond.code objectInit ⟨#[0xb1]⟩ 1 none ∈ lw_U := ⟨(mU 105 (by decide +kernel) (by decide +kernel)), (mU 68 (by decide +kernel) (by decide +kernel)), (mU 69 (by decide +kernel) (by decide +kernel))⟩
theorem ob_X4_3 : Cond.methodLink RX4 3 objectInit ∈ lw_U ∧ Cond.instanceMethod objectInit ∈ lw_U ∧ Cond.code objectInit ⟨#[0xb1]⟩ 1 none ∈ lw_U := ⟨(mU 146 (by decide +kernel) (by decide +kernel)), (mU 68 (by decide +kernel) (by decide +kernel)), (mU 69 (by decide +kernel) (by decide +kernel))⟩
theorem ob_X0_3 : Cond.methodLink RX0 3 objectInit ∈ lw_U ∧ Cond.instanceMethod objectInit ∈ lw_U ∧ Cond.code objectInit ⟨#[0xb1]⟩ 1 none ∈ lw_U := ⟨(mU 168 (by decide +kernel) (by decide +kernel)), (mU 68 (by decide +kernel) (by decide +kernel)), (mU 69 (by decide +kernel) (by decide +kernel))⟩
theorem ob_X6_3 : Cond.methodLink RX6 3 objectInit ∈ lw_U ∧ Cond.instanceMethod objectInit ∈ lw_U ∧ Cond.code objectInit ⟨#[0xb1]⟩ 1 none ∈ lw_U := ⟨(mU 174 (by decide +kernel) (by decide +kernel)), (mU 68 (by decide +kernel) (by decide +kernel)), (mU 69 (by decide +kernel) (by decide +kernel))⟩
theorem ob_X2_3 : Cond.methodLink RX2 3 objectInit ∈ lw_U ∧ Cond.instanceMethod objectInit ∈ lw_U ∧ Cond.code objectInit ⟨#[0xb1]⟩ 1 none ∈ lw_U := ⟨(mU 201 (by decide +kernel) (by decide +kernel)), (mU 68 (by decide +kernel) (by decide +kernel)), (mU 69 (by decide +kernel) (by decide +kernel))⟩
theorem ob_X8_1 : Cond.methodLink RX8 1 objectInit ∈ lw_U ∧ Cond.instanceMethod objectInit ∈ lw_U ∧ Cond.code objectInit ⟨#[0xb1]⟩ 1 none ∈ lw_U := ⟨(mU 641 (by decide +kernel) (by decide +kernel)), (mU 68 (by decide +kernel) (by decide +kernel)), (mU 69 (by decide +kernel) (by decide +kernel))⟩
theorem fl_X3_35 : Fld RX3 35 5 0 0 true false := ⟨RX5, TX5, 3, clOk_5, by decide, (mU 85 (by decide +kernel) (by decide +kernel)), rfl, rfl, rfl, rfl⟩
theorem fl_X0_53 : Fld RX0 53 5 0 0 true false := ⟨RX5, TX5, 3, clOk_5, by decide, (mU 86 (by decide +kernel) (by decide +kernel)), rfl, rfl, rfl, rfl⟩
theorem fl_X7_60 : Fld RX7 60 5 0 0 true false := ⟨RX5, TX5, 3, clOk_5, by decide, (mU 87 (by decide +kernel) (by decide +kernel)), rfl, rfl, rfl, rfl⟩
theorem fl_X5_9 : Fld RX5 9 5 1 1 true false := ⟨RX5, TX5, 3, clOk_5, by decide, (mU 88 (by decide +kernel) (by decide +kernel)), rfl, rfl, rfl, rfl⟩
theorem fl_X3_38 : Fld RX3 38 5 1 1 true false := ⟨RX5, TX5, 3, clOk_5, by decide, (mU 89 (by decide +kernel) (by decide +kernel)), rfl, rfl, rfl, rfl⟩
theorem fl_X0_47 : Fld RX0 47 5 1 1 true false := ⟨RX5, TX5, 3, clOk_5, by decide, (mU 90 (by decide +kernel) (by decide +kernel)), rfl, rfl, rfl, rfl⟩
theorem fl_X7_65 : Fld RX7 65 5 1 1 true false := ⟨RX5, TX5, 3, clOk_5, by decide, (mU 91 (by decide +kernel) (by decide +kernel)), rfl, rfl, rfl, rfl⟩
theorem fl_X5_15 : Fld RX5 15 5 2 2 false true := ⟨RX5, TX5, 3, clOk_5, by decide, (mU 92 (by decide +kernel) (by decide +kernel)), rfl, rfl, rfl, rfl⟩
theorem fl_X1_23 : Fld RX1 23 1 0 0 true false := ⟨RX1, TX1, 3, clOk_1, by decide, (mU 106 (by decide +kernel) (by decide +kernel)), rfl, rfl, rfl, rfl⟩
theorem fl_X7_108 : Fld RX7 108 1 0 0 true false := ⟨RX1, TX1, 3, clOk_1, by decide, (mU 107 (by decide +kernel) (by decide +kernel)), rfl, rfl, rfl, rfl⟩
theorem fl_X1_15 : Fld RX1 15 1 1 1 true false := ⟨RX1, TX1, 3, clOk_1, by decide, (mU 108 (by decide +kernel) (by decide +kernel)), rfl, rfl, rfl, rfl⟩
theorem fl_X6_31 : Fld RX6 31 1 1 1 true false := ⟨RX1, TX1, 3, clOk_1, by decide, (mU 109 (by decide +kernel) (by decide +kernel)), rfl, rfl, rfl, rfl⟩
theorem fl_X7_113 : Fld RX7 113 1 1 1 true false := ⟨RX1, TX1, 3, clOk_1, by decide, (mU 110 (by decide +kernel) (by decide +kernel)), rfl, rfl, rfl, rfl⟩
theorem fl_X1_9 : Fld RX1 9 1 2 2 false true := ⟨RX1, TX1, 3, clOk_1, by decide, (mU 111 (by decide +kernel) (by decide +kernel)), rfl, rfl, rfl, rfl⟩
theorem fl_X3_9 : Fld RX3 9 3 0 0 true false := ⟨RX3, TX3, 5, clOk_3, by decide, (mU 119 (by decide +kernel) (by decide +kernel)), rfl, rfl, rfl, rfl⟩
theorem fl_X7_45 : Fld RX7 45 3 0 0 true false := ⟨RX3, TX3, 5, clOk_3, by decide, (mU 120 (by decide +kernel) (by decide +kernel)), rfl, rfl, rfl, rfl⟩
theorem fl_X3_15 : Fld RX3 15 3 1 1 true false := ⟨RX3, TX3, 5, clOk_3, by decide, (mU 121 (by decide +kernel) (by decide +kernel)), rfl, rfl, rfl, rfl⟩
theorem fl_X7_49 : Fld RX7 49 3 1 1 true false := ⟨RX3, TX3, 5, clOk_3, by decide, (mU 122 (by decide +kernel) (by decide +kernel)), rfl, rfl, rfl, rfl⟩
theorem fl_X3_32 : Fld RX3 32 3 2 2 true false := ⟨RX3, TX3, 5, clOk_3, by decide, (mU 123 (by decide +kernel) (by decide +kernel)), rfl, rfl, rfl, rfl⟩
theorem fl_X7_101 : Fld RX7 101 3 2 2 true false := ⟨RX3, TX3, 5, clOk_3, by decide, (mU 124 (by decide +kernel) (by decide +kernel)), rfl, rfl, rfl, rfl⟩
theorem fl_X3_20 : Fld RX3 20 3 3 3 false true := ⟨RX3, TX3, 5, clOk_3, by decide, (mU 125 (by decide +kernel) (by decide +kernel)), rfl, rfl, rfl, rfl⟩
theorem fl_X7_56 : Fld RX7 56 3 3 3 false true := ⟨RX3, TX3, 5, clOk_3, by decide, (mU 126 (by decide +kernel) (by decide +kernel)), rfl, rfl, rfl, rfl⟩
theorem fl_X3_26 : Fld RX3 26 3 4 4 false true := ⟨RX3, TX3, 5, clOk_3, by decide, (mU 127 (by decide +kernel) (by decide +kernel)), rfl, rfl, rfl, rfl⟩
theorem fl_X7_104 : Fld RX7 104 3 4 4 false true := ⟨RX3, TX3, 5, clOk_3, by decide, (mU 128 (by decide +kernel) (by decide +kernel)), rfl, rfl, rfl, rfl⟩
theorem fl_X4_12 : Fld RX4 12 4 0 0 false true := ⟨RX4, TX4, 4, clOk_4, by decide, (mU 149 (by decide +kernel) (by decide +kernel)), rfl, rfl, rfl, rfl⟩
theorem fl_X7_93 : Fld RX7 93 4 0 0 false true := ⟨RX4, TX4, 4, clOk_4, by decide, (mU 150 (by decide +kernel) (by decide +kernel)), rfl, rfl, rfl, rfl⟩
theorem fl_X4_18 : Fld RX4 18 4 1 1 false false := ⟨RX4, TX4, 4, clOk_4, by decide, (mU 151 (by decide +kernel) (by decide +kernel)), rfl, rfl, rfl, rfl⟩
theorem fl_X4_28 : Fld RX4 28 4 2 2 true false := ⟨RX4, TX4, 4, clOk_4, by decide, (mU 152 (by decide +kernel) (by decide +kernel)), rfl, rfl, rfl, rfl⟩
theorem fl_X4_32 : Fld RX4 32 4 3 3 true false := ⟨RX4, TX4, 4, clOk_4, by decide, (mU 153 (by decide +kernel) (by decide +kernel)), rfl, rfl, rfl, rfl⟩
theorem fl_X6_24 : Fld RX6 24 6 0 0 true false := ⟨RX6, TX6, 6, clOk_6, by decide, (mU 175 (by decide +kernel) (by decide +kernel)), rfl, rfl, rfl, rfl⟩
theorem fl_X0_59 : Fld RX0 59 6 0 0 true false := ⟨RX6, TX6, 6, clOk_6, by decide, (mU 176 (by decide +kernel) (by decide +kernel)), rfl, rfl, rfl, rfl⟩
theorem fl_X7_184 : Fld RX7 184 6 0 0 true false := ⟨RX6, TX6, 6, clOk_6, by decide, (mU 177 (by decide +kernel) (by decide +kernel)), rfl, rfl, rfl, rfl⟩
theorem fl_X6_28 : Fld RX6 28 6 1 1 true false := ⟨RX6, TX6, 6, clOk_6, by decide, (mU 178 (by decide +kernel) (by decide +kernel)), rfl, rfl, rfl, rfl⟩
theorem fl_X6_9 : Fld RX6 9 6 2 2 false true := ⟨RX6, TX6, 6, clOk_6, by decide, (mU 179 (by decide +kernel) (by decide +kernel)), rfl, rfl, rfl, rfl⟩
theorem fl_X6_15 : Fld RX6 15 6 3 3 false true := ⟨RX6, TX6, 6, clOk_6, by decide, (mU 180 (by decide +kernel) (by decide +kernel)), rfl, rfl, rfl, rfl⟩
theorem fl_X6_18 : Fld RX6 18 6 4 4 false true := ⟨RX6, TX6, 6, clOk_6, by decide, (mU 181 (by decide +kernel) (by decide +kernel)), rfl, rfl, rfl, rfl⟩
theorem fl_X6_21 : Fld RX6 21 6 5 5 false true := ⟨RX6, TX6, 6, clOk_6, by decide, (mU 182 (by decide +kernel) (by decide +kernel)), rfl, rfl, rfl, rfl⟩
theorem fl_X2_27 : Fld RX2 27 2 0 0 true false := ⟨RX2, TX2, 6, clOk_2, by decide, (mU 202 (by decide +kernel) (by decide +kernel)), rfl, rfl, rfl, rfl⟩
theorem fl_X2_11 : Fld RX2 11 2 1 1 false true := ⟨RX2, TX2, 6, clOk_2, by decide, (mU 203 (by decide +kernel) (by decide +kernel)), rfl, rfl, rfl, rfl⟩
theorem fl_X2_15 : Fld RX2 15 2 2 2 false true := ⟨RX2, TX2, 6, clOk_2, by decide, (mU 204 (by decide +kernel) (by decide +kernel)), rfl, rfl, rfl, rfl⟩
theorem fl_X7_178 : Fld RX7 178 2 2 2 false true := ⟨RX2, TX2, 6, clOk_2, by decide, (mU 205 (by decide +kernel) (by decide +kernel)), rfl, rfl, rfl, rfl⟩
theorem fl_X2_18 : Fld RX2 18 2 3 3 false true := ⟨RX2, TX2, 6, clOk_2, by decide, (mU 206 (by decide +kernel) (by decide +kernel)), rfl, rfl, rfl, rfl⟩
theorem fl_X2_21 : Fld RX2 21 2 4 4 false true := ⟨RX2, TX2, 6, clOk_2, by decide, (mU 207 (by decide +kernel) (by decide +kernel)), rfl, rfl, rfl, rfl⟩
theorem fl_X7_169 : Fld RX7 169 2 4 4 false true := ⟨RX2, TX2, 6, clOk_2, by decide, (mU 208 (by decide +kernel) (by decide +kernel)), rfl, rfl, rfl, rfl⟩
theorem fl_X2_24 : Fld RX2 24 2 5 5 false true := ⟨RX2, TX2, 6, clOk_2, by decide, (mU 209 (by decide +kernel) (by decide +kernel)), rfl, rfl, rfl, rfl⟩
theorem fl_X7_175 : Fld RX7 175 2 5 5 false true := ⟨RX2, TX2, 6, clOk_2, by decide, (mU 210 (by decide +kernel) (by decide +kernel)), rfl, rfl, rfl, rfl⟩
theorem fl_X0_12 : Fld RX0 12 0 0 0 false true := ⟨RX0, TX0, 12, clOk_0, by decide, (mU 226 (by decide +kernel) (by decide +kernel)), rfl, rfl, rfl, rfl⟩
theorem fl_X7_180 : Fld RX7 180 0 0 0 false true := ⟨RX0, TX0, 12, clOk_0, by decide, (mU 227 (by decide +kernel) (by decide +kernel)), rfl, rfl, rfl, rfl⟩
theorem fl_X0_21 : Fld RX0 21 0 1 1 false true := ⟨RX0, TX0, 12, clOk_0, by decide, (mU 228 (by decide +kernel) (by decide +kernel)), rfl, rfl, rfl, rfl⟩
theorem fl_X7_156 : Fld RX7 156 0 1 1 false true := ⟨RX0, TX0, 12, clOk_0, by decide, (mU 229 (by decide +kernel) (by decide +kernel)), rfl, rfl, rfl, rfl⟩
theorem fl_X0_27 : Fld RX0 27 0 2 2 false true := ⟨RX0, TX0, 12, clOk_0, by decide, (mU 230 (by decide +kernel) (by decide +kernel)), rfl, rfl, rfl, rfl⟩
theorem fl_X7_189 : Fld RX7 189 0 2 2 false true := ⟨RX0, TX0, 12, clOk_0, by decide, (mU 231 (by decide +kernel) (by decide +kernel)), rfl, rfl, rfl, rfl⟩
theorem fl_X0_41 : Fld RX0 41 0 3 3 true false := ⟨RX0, TX0, 12, clOk_0, by decide, (mU 232 (by decide +kernel) (by decide +kernel)), rfl, rfl, rfl, rfl⟩
theorem fl_X0_44 : Fld RX0 44 0 4 4 true false := ⟨RX0, TX0, 12, clOk_0, by decide, (mU 233 (by decide +kernel) (by decide +kernel)), rfl, rfl, rfl, rfl⟩
theorem fl_X0_52 : Fld RX0 52 0 5 5 true false := ⟨RX0, TX0, 12, clOk_0, by decide, (mU 234 (by decide +kernel) (by decide +kernel)), rfl, rfl, rfl, rfl⟩
theorem fl_X0_30 : Fld RX0 30 0 6 6 true false := ⟨RX0, TX0, 12, clOk_0, by decide, (mU 235 (by decide +kernel) (by decide +kernel)), rfl, rfl, rfl, rfl⟩
theorem fl_X0_56 : Fld RX0 56 0 7 7 true false := ⟨RX0, TX0, 12, clOk_0, by decide, (mU 236 (by decide +kernel) (by decide +kernel)), rfl, rfl, rfl, rfl⟩
theorem fl_X0_62 : Fld RX0 62 0 8 8 true false := ⟨RX0, TX0, 12, clOk_0, by decide, (mU 237 (by decide +kernel) (by decide +kernel)), rfl, rfl, rfl, rfl⟩
theorem fl_X0_97 : Fld RX0 97 0 9 9 true false := ⟨RX0, TX0, 12, clOk_0, by decide, (mU 238 (by decide +kernel) (by decide +kernel)), rfl, rfl, rfl, rfl⟩
theorem fl_X0_109 : Fld RX0 109 0 10 10 true false := ⟨RX0, TX0, 12, clOk_0, by decide, (mU 239 (by decide +kernel) (by decide +kernel)), rfl, rfl, rfl, rfl⟩
theorem fl_X0_112 : Fld RX0 112 0 11 11 true false := ⟨RX0, TX0, 12, clOk_0, by decide, (mU 240 (by decide +kernel) (by decide +kernel)), rfl, rfl, rfl, rfl⟩
theorem fl_X7_12 : Fld RX7 12 7 0 0 false true := ⟨RX7, TX7, 7, clOk_7, by decide, (mU 266 (by decide +kernel) (by decide +kernel)), rfl, rfl, rfl, rfl⟩
theorem fl_X7_16 : Fld RX7 16 7 1 1 false true := ⟨RX7, TX7, 7, clOk_7, by decide, (mU 267 (by decide +kernel) (by decide +kernel)), rfl, rfl, rfl, rfl⟩
theorem fl_X7_137 : Fld RX7 137 7 2 2 true false := ⟨RX7, TX7, 7, clOk_7, by decide, (mU 268 (by decide +kernel) (by decide +kernel)), rfl, rfl, rfl, rfl⟩
theorem fl_X7_20 : Fld RX7 20 7 3 3 false true := ⟨RX7, TX7, 7, clOk_7, by decide, (mU 269 (by decide +kernel) (by decide +kernel)), rfl, rfl, rfl, rfl⟩
theorem fl_X7_86 : Fld RX7 86 7 4 4 true false := ⟨RX7, TX7, 7, clOk_7, by decide, (mU 270 (by decide +kernel) (by decide +kernel)), rfl, rfl, rfl, rfl⟩
theorem fl_X7_27 : Fld RX7 27 7 5 5 false true := ⟨RX7, TX7, 7, clOk_7, by decide, (mU 271 (by decide +kernel) (by decide +kernel)), rfl, rfl, rfl, rfl⟩
theorem fl_X7_34 : Fld RX7 34 7 6 6 false true := ⟨RX7, TX7, 7, clOk_7, by decide, (mU 272 (by decide +kernel) (by decide +kernel)), rfl, rfl, rfl, rfl⟩
theorem fl_X8_7 : Fld RX8 7 8 0 0 false true := ⟨RX8, TX8, 18, clOk_8, by decide, (mU 642 (by decide +kernel) (by decide +kernel)), rfl, rfl, rfl, rfl⟩
theorem fl_X8_13 : Fld RX8 13 8 1 1 false true := ⟨RX8, TX8, 18, clOk_8, by decide, (mU 643 (by decide +kernel) (by decide +kernel)), rfl, rfl, rfl, rfl⟩
theorem fl_X8_32 : Fld RX8 32 8 2 2 true false := ⟨RX8, TX8, 18, clOk_8, by decide, (mU 644 (by decide +kernel) (by decide +kernel)), rfl, rfl, rfl, rfl⟩
theorem fl_X8_16 : Fld RX8 16 8 3 3 false true := ⟨RX8, TX8, 18, clOk_8, by decide, (mU 645 (by decide +kernel) (by decide +kernel)), rfl, rfl, rfl, rfl⟩
theorem fl_X8_66 : Fld RX8 66 8 4 4 true false := ⟨RX8, TX8, 18, clOk_8, by decide, (mU 646 (by decide +kernel) (by decide +kernel)), rfl, rfl, rfl, rfl⟩
theorem fl_X8_69 : Fld RX8 69 8 5 5 true false := ⟨RX8, TX8, 18, clOk_8, by decide, (mU 647 (by decide +kernel) (by decide +kernel)), rfl, rfl, rfl, rfl⟩
theorem fl_X8_72 : Fld RX8 72 8 6 6 true false := ⟨RX8, TX8, 18, clOk_8, by decide, (mU 648 (by decide +kernel) (by decide +kernel)), rfl, rfl, rfl, rfl⟩
theorem fl_X8_20 : Fld RX8 20 8 7 7 false true := ⟨RX8, TX8, 18, clOk_8, by decide, (mU 649 (by decide +kernel) (by decide +kernel)), rfl, rfl, rfl, rfl⟩
theorem fl_X8_23 : Fld RX8 23 8 8 8 false true := ⟨RX8, TX8, 18, clOk_8, by decide, (mU 650 (by decide +kernel) (by decide +kernel)), rfl, rfl, rfl, rfl⟩
theorem fl_X8_26 : Fld RX8 26 8 9 9 false true := ⟨RX8, TX8, 18, clOk_8, by decide, (mU 651 (by decide +kernel) (by decide +kernel)), rfl, rfl, rfl, rfl⟩
theorem fl_X8_29 : Fld RX8 29 8 10 10 false true := ⟨RX8, TX8, 18, clOk_8, by decide, (mU 652 (by decide +kernel) (by decide +kernel)), rfl, rfl, rfl, rfl⟩
theorem fl_X8_181 : Fld RX8 181 8 11 11 true false := ⟨RX8, TX8, 18, clOk_8, by decide, (mU 653 (by decide +kernel) (by decide +kernel)), rfl, rfl, rfl, rfl⟩
theorem fl_X8_113 : Fld RX8 113 8 12 12 true false := ⟨RX8, TX8, 18, clOk_8, by decide, (mU 654 (by decide +kernel) (by decide +kernel)), rfl, rfl, rfl, rfl⟩
theorem fl_X8_122 : Fld RX8 122 8 13 13 true false := ⟨RX8, TX8, 18, clOk_8, by decide, (mU 655 (by decide +kernel) (by decide +kernel)), rfl, rfl, rfl, rfl⟩
theorem fl_X8_110 : Fld RX8 110 8 14 14 true false := ⟨RX8, TX8, 18, clOk_8, by decide, (mU 656 (by decide +kernel) (by decide +kernel)), rfl, rfl, rfl, rfl⟩
theorem fl_X8_119 : Fld RX8 119 8 15 15 true false := ⟨RX8, TX8, 18, clOk_8, by decide, (mU 657 (by decide +kernel) (by decide +kernel)), rfl, rfl, rfl, rfl⟩
theorem fl_X8_107 : Fld RX8 107 8 16 16 true false := ⟨RX8, TX8, 18, clOk_8, by decide, (mU 658 (by decide +kernel) (by decide +kernel)), rfl, rfl, rfl, rfl⟩
theorem fl_X8_125 : Fld RX8 125 8 17 17 true false := ⟨RX8, TX8, 18, clOk_8, by decide, (mU 659 (by decide +kernel) (by decide +kernel)), rfl, rfl, rfl, rfl⟩
theorem cl_L_7 : Cond.classLink "TabLinesLaw" 7 RX7 ∈ lw_U := (mU 62 (by decide +kernel) (by decide +kernel))
theorem nw_L_7 : NwOk "TabLinesLaw" 7 7 RX7 7 := ⟨⟨_, clOk_7⟩, cl_L_7, (mU 63 (by decide +kernel) (by decide +kernel)), (mU 52 (by decide +kernel) (by decide +kernel)), by decide +kernel⟩
theorem cl_X7_9 : Cond.classLink RX7 9 RX3 ∈ lw_U := (mU 70 (by decide +kernel) (by decide +kernel))
theorem nw_X7_9 : NwOk RX7 9 3 RX3 5 := ⟨⟨_, clOk_3⟩, cl_X7_9, (mU 71 (by decide +kernel) (by decide +kernel)), (mU 53 (by decide +kernel) (by decide +kernel)), by decide +kernel⟩
theorem cl_X3_18 : Cond.classLink RX3 18 RX5 ∈ lw_U := (mU 76 (by decide +kernel) (by decide +kernel))
theorem nw_X3_18 : NwOk RX3 18 5 RX5 3 := ⟨⟨_, clOk_5⟩, cl_X3_18, (mU 80 (by decide +kernel) (by decide +kernel)), (mU 54 (by decide +kernel) (by decide +kernel)), by decide +kernel⟩
theorem cl_X3_24 : Cond.classLink RX3 24 RX1 ∈ lw_U := (mU 78 (by decide +kernel) (by decide +kernel))
theorem nw_X3_24 : NwOk RX3 24 1 RX1 3 := ⟨⟨_, clOk_1⟩, cl_X3_24, (mU 101 (by decide +kernel) (by decide +kernel)), (mU 55 (by decide +kernel) (by decide +kernel)), by decide +kernel⟩
theorem cl_X7_24 : Cond.classLink RX7 24 RX4 ∈ lw_U := (mU 141 (by decide +kernel) (by decide +kernel))
theorem nw_X7_24 : NwOk RX7 24 4 RX4 4 := ⟨⟨_, clOk_4⟩, cl_X7_24, (mU 142 (by decide +kernel) (by decide +kernel)), (mU 56 (by decide +kernel) (by decide +kernel)), by decide +kernel⟩
theorem cl_X4_9 : Cond.classLink RX4 9 RX5 ∈ lw_U := (mU 147 (by decide +kernel) (by decide +kernel))
theorem nw_X4_9 : NwOk RX4 9 5 RX5 3 := ⟨⟨_, clOk_5⟩, cl_X4_9, (mU 80 (by decide +kernel) (by decide +kernel)), (mU 54 (by decide +kernel) (by decide +kernel)), by decide +kernel⟩
theorem cl_X7_31 : Cond.classLink RX7 31 RX0 ∈ lw_U := (mU 163 (by decide +kernel) (by decide +kernel))
theorem nw_X7_31 : NwOk RX7 31 0 RX0 12 := ⟨⟨_, clOk_0⟩, cl_X7_31, (mU 164 (by decide +kernel) (by decide +kernel)), (mU 57 (by decide +kernel) (by decide +kernel)), by decide +kernel⟩
theorem cl_X0_9 : Cond.classLink RX0 9 RX6 ∈ lw_U := (mU 169 (by decide +kernel) (by decide +kernel))
theorem nw_X0_9 : NwOk RX0 9 6 RX6 6 := ⟨⟨_, clOk_6⟩, cl_X0_9, (mU 170 (by decide +kernel) (by decide +kernel)), (mU 58 (by decide +kernel) (by decide +kernel)), by decide +kernel⟩
theorem cl_X0_18 : Cond.classLink RX0 18 RX2 ∈ lw_U := (mU 196 (by decide +kernel) (by decide +kernel))
theorem nw_X0_18 : NwOk RX0 18 2 RX2 6 := ⟨⟨_, clOk_2⟩, cl_X0_18, (mU 197 (by decide +kernel) (by decide +kernel)), (mU 59 (by decide +kernel) (by decide +kernel)), by decide +kernel⟩
theorem cl_L_10 : Cond.classLink "TabLinesLaw" 10 RX8 ∈ lw_U := (mU 636 (by decide +kernel) (by decide +kernel))
theorem nw_L_10 : NwOk "TabLinesLaw" 10 8 RX8 18 := ⟨⟨_, clOk_8⟩, cl_L_10, (mU 637 (by decide +kernel) (by decide +kernel)), (mU 60 (by decide +kernel) (by decide +kernel)), by decide +kernel⟩
theorem ac_int : Cond.arrayClass .int ∈ lw_U := (mU 100 (by decide +kernel) (by decide +kernel))
theorem co_X7_125 : Cond.constant RX7 125 9999999 ∈ lw_U := (mU 439 (by decide +kernel) (by decide +kernel))
theorem ac_byte : Cond.arrayClass .byte ∈ lw_U := (mU 697 (by decide +kernel) (by decide +kernel))
theorem co_X8_106 : Cond.constant RX8 106 9999999 ∈ lw_U := (mU 815 (by decide +kernel) (by decide +kernel))
end
section
/-! the fixed shapes of this program, the references that never change, and rows over worlds written out -/
abbrev Mem : Type := Nat → Int → Int
abbrev RMem : Type := Nat → Int → Option Nat
def stS (r : Nat) : Nat × Nat := if r = 0 then (3, 0) else if r = 1 then (103, 4) else if r = 2 then (104, 8) else if r < 11 then (if r % 2 = 1 then (5, 0) else (100, 81)) else (if r % 2 = 1 then (1, 0) else (100, 80))
def ShF (q : Nat) : Nat × Nat :=
  if q = 0 then (7, 0) else if q < 28 then stS (q - 1) else if q = 28 then (102, 6) else if q = 29 then (100, 100) else if q = 30 then (4, 0) else if q = 31 then (5, 0) else if q = 32 then (100, 81) else if q = 33 then (100, 0) else if q = 34 then (0, 0) else if q = 35 then (6, 0) else if q < 39 then (100, 80) else if q = 39 then (100, 81) else if q = 40 then (2, 0) else if q < 46 then (100, 80) else if q = 46 then (105, 81) else if q < 128 then (100, 6) else if q < 290 then stS ((q - 128) % 27) else if q = 290 then (8, 0) else if q = 291 then (100, 767) else if q = 292 then (100, 4602) else if q = 293 then (101, 100) else if q = 294 then (100, 24) else if q = 295 then (101, 6800) else if q = 296 then (101, 6800) else (100, 486)
def Shp (N : Nat) (S : Nat → Nat × Nat) (a kd n : Nat) : Prop := a < N ∧ S a = (kd, n)
abbrev SF (a kd n : Nat) : Prop := Shp 298 ShF a kd n
/-- where the seven states begin -/
def stB (k : Nat) : Nat := if k = 0 then 1 else 101 + 27 * k
theorem sf_row {i : Nat} (h : i < 81) : SF (47 + i) 100 6 := by
  refine ⟨by omega, ?_⟩
  unfold ShF
  rw [if_neg (by omega), if_neg (by omega), if_neg (by omega), if_neg (by omega), if_neg (by omega), if_neg (by omega), if_neg (by omega), if_neg (by omega), if_neg (by omega), if_neg (by omega), if_neg (by omega), if_neg (by omega), if_neg (by omega), if_neg (by omega), if_neg (by omega), if_pos (by omega)]
theorem sf_st {k r : Nat} (hk : k < 7) (hr : r < 27) {x : Nat × Nat} (hx : stS r = x) : stB k + r < 298 ∧ ShF (stB k + r) = x := by
  unfold stB
  by_cases h0 : k = 0
  · rw [if_pos h0]
    refine ⟨by omega, ?_⟩
    unfold ShF
    rw [if_neg (by omega), if_pos (by omega), show 1 + r - 1 = r by omega, hx]
  · rw [if_neg h0]
    refine ⟨by omega, ?_⟩
    unfold ShF
    rw [if_neg (by omega), if_neg (by omega), if_neg (by omega), if_neg (by omega), if_neg (by omega), if_neg (by omega), if_neg (by omega), if_neg (by omega), if_neg (by omega), if_neg (by omega), if_neg (by omega), if_neg (by omega), if_neg (by omega), if_neg (by omega), if_neg (by omega), if_neg (by omega), if_pos (by omega), show (101 + 27 * k + r - 128) % 27 = r by omega, hx]
theorem sf_S0 {k : Nat} (hk : k < 7) : SF (stB k) 3 0 := sf_st (r := 0) hk (by omega) rfl
theorem sf_S1 {k : Nat} (hk : k < 7) : SF (stB k + 1) 103 4 := sf_st hk (by omega) rfl
theorem sf_S2 {k : Nat} (hk : k < 7) : SF (stB k + 2) 104 8 := sf_st hk (by omega) rfl
theorem sf_Y {k i : Nat} (hk : k < 7) (hi : i < 4) : SF (stB k + (3 + 2 * i)) 5 0 := sf_st hk (by omega) (by unfold stS; rw [if_neg (by omega), if_neg (by omega), if_neg (by omega), if_pos (by omega), if_pos (by omega)])
theorem sf_YA {k i : Nat} (hk : k < 7) (hi : i < 4) : SF (stB k + (4 + 2 * i)) 100 81 := sf_st hk (by omega) (by unfold stS; rw [if_neg (by omega), if_neg (by omega), if_neg (by omega), if_pos (by omega), if_neg (by omega)])
theorem sf_P {k i : Nat} (hk : k < 7) (hi : i < 8) : SF (stB k + (11 + 2 * i)) 1 0 := sf_st hk (by omega) (by unfold stS; rw [if_neg (by omega), if_neg (by omega), if_neg (by omega), if_neg (by omega), if_pos (by omega)])
theorem sf_PA {k i : Nat} (hk : k < 7) (hi : i < 8) : SF (stB k + (12 + 2 * i)) 100 80 := sf_st hk (by omega) (by unfold stS; rw [if_neg (by omega), if_neg (by omega), if_neg (by omega), if_neg (by omega), if_neg (by omega)])
theorem sf_0 : SF 0 7 0 := ⟨by decide, rfl⟩
theorem sf_28 : SF 28 102 6 := ⟨by decide, rfl⟩
theorem sf_29 : SF 29 100 100 := ⟨by decide, rfl⟩
theorem sf_30 : SF 30 4 0 := ⟨by decide, rfl⟩
theorem sf_31 : SF 31 5 0 := ⟨by decide, rfl⟩
theorem sf_32 : SF 32 100 81 := ⟨by decide, rfl⟩
theorem sf_33 : SF 33 100 0 := ⟨by decide, rfl⟩
theorem sf_34 : SF 34 0 0 := ⟨by decide, rfl⟩
theorem sf_35 : SF 35 6 0 := ⟨by decide, rfl⟩
theorem sf_36 : SF 36 100 80 := ⟨by decide, rfl⟩
theorem sf_37 : SF 37 100 80 := ⟨by decide, rfl⟩
theorem sf_38 : SF 38 100 80 := ⟨by decide, rfl⟩
theorem sf_39 : SF 39 100 81 := ⟨by decide, rfl⟩
theorem sf_40 : SF 40 2 0 := ⟨by decide, rfl⟩
theorem sf_41 : SF 41 100 80 := ⟨by decide, rfl⟩
theorem sf_42 : SF 42 100 80 := ⟨by decide, rfl⟩
theorem sf_43 : SF 43 100 80 := ⟨by decide, rfl⟩
theorem sf_44 : SF 44 100 80 := ⟨by decide, rfl⟩
theorem sf_45 : SF 45 100 80 := ⟨by decide, rfl⟩
theorem sf_46 : SF 46 105 81 := ⟨by decide, rfl⟩
theorem sf_290 : SF 290 8 0 := ⟨by decide, rfl⟩
theorem sf_291 : SF 291 100 767 := ⟨by decide, rfl⟩
theorem sf_292 : SF 292 100 4602 := ⟨by decide, rfl⟩
theorem sf_293 : SF 293 101 100 := ⟨by decide, rfl⟩
theorem sf_294 : SF 294 100 24 := ⟨by decide, rfl⟩
theorem sf_295 : SF 295 101 6800 := ⟨by decide, rfl⟩
theorem sf_296 : SF 296 101 6800 := ⟨by decide, rfl⟩
theorem sf_297 : SF 297 100 486 := ⟨by decide, rfl⟩
theorem sf_1 : SF 1 3 0 := ⟨by decide, rfl⟩
theorem sf_2 : SF 2 103 4 := ⟨by decide, rfl⟩
theorem sf_3 : SF 3 104 8 := ⟨by decide, rfl⟩
/-- the references that no call changes; those of the seven states -/
def RefOk (R : RMem) : Prop := R 0 0 = some 1 ∧ R 0 1 = some 28 ∧ R 0 3 = some 29 ∧ R 0 5 = some 30 ∧ R 0 6 = some 34 ∧ R 30 0 = some 31 ∧ R 31 2 = some 32 ∧ R 34 0 = some 35 ∧ R 34 1 = some 40 ∧ R 34 2 = some 46 ∧ R 35 2 = some 36 ∧ R 35 3 = some 37 ∧ R 35 4 = some 38 ∧ R 35 5 = some 39 ∧ R 40 1 = some 41 ∧ R 40 2 = some 42 ∧ R 40 3 = some 43 ∧ R 40 4 = some 44 ∧ R 40 5 = some 45 ∧ R 290 0 = some 291 ∧ R 290 1 = some 292 ∧ R 290 3 = some 293 ∧ R 290 7 = some 294 ∧ R 290 8 = some 295 ∧ R 290 9 = some 296 ∧ R 290 10 = some 297 ∧ (∀ i : Nat, i < 81 → R 46 i = some (47 + i)) ∧ (∀ k : Nat, k < 7 → R (stB k) 3 = some (stB k + 1) ∧ R (stB k) 4 = some (stB k + 2) ∧ (∀ i : Nat, i < 4 → R (stB k + 1) i = some (stB k + (3 + 2 * i)) ∧ R (stB k + (3 + 2 * i)) 2 = some (stB k + (4 + 2 * i))) ∧ ∀ i : Nat, i < 8 → R (stB k + (11 + 2 * i)) 2 = some (stB k + (12 + 2 * i)))
theorem ro_0_0 {R : RMem} (h : RefOk R) : R 0 0 = some 1 := h.1
theorem ro_0_1 {R : RMem} (h : RefOk R) : R 0 1 = some 28 := h.2.1
theorem ro_0_3 {R : RMem} (h : RefOk R) : R 0 3 = some 29 := h.2.2.1
theorem ro_0_5 {R : RMem} (h : RefOk R) : R 0 5 = some 30 := h.2.2.2.1
theorem ro_0_6 {R : RMem} (h : RefOk R) : R 0 6 = some 34 := h.2.2.2.2.1
theorem ro_30_0 {R : RMem} (h : RefOk R) : R 30 0 = some 31 := h.2.2.2.2.2.1
theorem ro_31_2 {R : RMem} (h : RefOk R) : R 31 2 = some 32 := h.2.2.2.2.2.2.1
theorem ro_34_0 {R : RMem} (h : RefOk R) : R 34 0 = some 35 := h.2.2.2.2.2.2.2.1
theorem ro_34_1 {R : RMem} (h : RefOk R) : R 34 1 = some 40 := h.2.2.2.2.2.2.2.2.1
theorem ro_34_2 {R : RMem} (h : RefOk R) : R 34 2 = some 46 := h.2.2.2.2.2.2.2.2.2.1
theorem ro_35_2 {R : RMem} (h : RefOk R) : R 35 2 = some 36 := h.2.2.2.2.2.2.2.2.2.2.1
theorem ro_35_3 {R : RMem} (h : RefOk R) : R 35 3 = some 37 := h.2.2.2.2.2.2.2.2.2.2.2.1
theorem ro_35_4 {R : RMem} (h : RefOk R) : R 35 4 = some 38 := h.2.2.2.2.2.2.2.2.2.2.2.2.1
theorem ro_35_5 {R : RMem} (h : RefOk R) : R 35 5 = some 39 := h.2.2.2.2.2.2.2.2.2.2.2.2.2.1
theorem ro_40_1 {R : RMem} (h : RefOk R) : R 40 1 = some 41 := h.2.2.2.2.2.2.2.2.2.2.2.2.2.2.1
theorem ro_40_2 {R : RMem} (h : RefOk R) : R 40 2 = some 42 := h.2.2.2.2.2.2.2.2.2.2.2.2.2.2.2.1
theorem ro_40_3 {R : RMem} (h : RefOk R) : R 40 3 = some 43 := h.2.2.2.2.2.2.2.2.2.2.2.2.2.2.2.2.1
theorem ro_40_4 {R : RMem} (h : RefOk R) : R 40 4 = some 44 := h.2.2.2.2.2.2.2.2.2.2.2.2.2.2.2.2.2.1
theorem ro_40_5 {R : RMem} (h : RefOk R) : R 40 5 = some 45 := h.2.2.2.2.2.2.2.2.2.2.2.2.2.2.2.2.2.2.1
theorem ro_290_0 {R : RMem} (h : RefOk R) : R 290 0 = some 291 := h.2.2.2.2.2.2.2.2.2.2.2.2.2.2.2.2.2.2.2.1
theorem ro_290_1 {R : RMem} (h : RefOk R) : R 290 1 = some 292 := h.2.2.2.2.2.2.2.2.2.2.2.2.2.2.2.2.2.2.2.2.1
theorem ro_290_3 {R : RMem} (h : RefOk R) : R 290 3 = some 293 := h.2.2.2.2.2.2.2.2.2.2.2.2.2.2.2.2.2.2.2.2.2.1
theorem ro_290_7 {R : RMem} (h : RefOk R) : R 290 7 = some 294 := h.2.2.2.2.2.2.2.2.2.2.2.2.2.2.2.2.2.2.2.2.2.2.1
theorem ro_290_8 {R : RMem} (h : RefOk R) : R 290 8 = some 295 := h.2.2.2.2.2.2.2.2.2.2.2.2.2.2.2.2.2.2.2.2.2.2.2.1
theorem ro_290_9 {R : RMem} (h : RefOk R) : R 290 9 = some 296 := h.2.2.2.2.2.2.2.2.2.2.2.2.2.2.2.2.2.2.2.2.2.2.2.2.1
theorem ro_290_10 {R : RMem} (h : RefOk R) : R 290 10 = some 297 := h.2.2.2.2.2.2.2.2.2.2.2.2.2.2.2.2.2.2.2.2.2.2.2.2.2.1
theorem ro_46 {R : RMem} (h : RefOk R) {i : Nat} (hi : i < 81) : R 46 i = some (47 + i) := h.2.2.2.2.2.2.2.2.2.2.2.2.2.2.2.2.2.2.2.2.2.2.2.2.2.2.1 i hi
theorem ro_st {R : RMem} (h : RefOk R) {k : Nat} (hk : k < 7) : R (stB k) 3 = some (stB k + 1) ∧ R (stB k) 4 = some (stB k + 2) ∧ (∀ i : Nat, i < 4 → R (stB k + 1) i = some (stB k + (3 + 2 * i)) ∧ R (stB k + (3 + 2 * i)) 2 = some (stB k + (4 + 2 * i))) ∧ ∀ i : Nat, i < 8 → R (stB k + (11 + 2 * i)) 2 = some (stB k + (12 + 2 * i)) := h.2.2.2.2.2.2.2.2.2.2.2.2.2.2.2.2.2.2.2.2.2.2.2.2.2.2.2 k hk
theorem ro_1_3 {R : RMem} (h : RefOk R) : R 1 3 = some 2 := (ro_st h (k := 0) (by omega)).1
theorem ro_1_4 {R : RMem} (h : RefOk R) : R 1 4 = some 3 := (ro_st h (k := 0) (by omega)).2.1
/-! answers -/
def b2i (p : Prop) [Decidable p] : Int := if p then 1 else 0
theorem b2i_t {p : Prop} [Decidable p] (h : p) : (1 : Int) = b2i p := (if_pos h).symm
theorem b2i_f {p : Prop} [Decidable p] (h : ¬ p) : (0 : Int) = b2i p := (if_neg h).symm
theorem b2i_01 (p : Prop) [Decidable p] : b2i p = 0 ∨ b2i p = 1 := by
  unfold b2i
  by_cases h : p
  · rw [if_pos h]; exact Or.inr rfl
  · rw [if_neg h]; exact Or.inl rfl
def PF (v : Int) (I : Mem) (R : RMem) : Option MV → Wd → Prop := fun r w => r = some (.inl v) ∧ w = (298, ShF, I, R)
def PA (v : Nat) (I : Mem) (R : RMem) : Option MV → Wd → Prop := fun r w => r = some (.inr (some v)) ∧ w = (298, ShF, I, R)
def PY (P : Int → Prop) (I : Mem) (R : RMem) : Option MV → Wd → Prop := fun r w => ∃ z : Int, r = some (.inl z) ∧ w = (298, ShF, I, R) ∧ P z
def PW (R : RMem) (P : Mem → Prop) : Option MV → Wd → Prop := fun r w => ∃ I' : Mem, r = none ∧ w = (298, ShF, I', R) ∧ P I'
def PZ (R : RMem) (P : Int → Mem → Prop) : Option MV → Wd → Prop := fun r w => ∃ (z : Int) (I' : Mem), r = some (.inl z) ∧ w = (298, ShF, I', R) ∧ P z I'
def PWR (P : Mem → RMem → Prop) : Option MV → Wd → Prop := fun r w => ∃ (I' : Mem) (R' : RMem), r = none ∧ w = (298, ShF, I', R') ∧ P I' R'
def PZR (P : Int → Mem → RMem → Prop) : Option MV → Wd → Prop := fun r w => ∃ (z : Int) (I' : Mem) (R' : RMem), r = some (.inl z) ∧ w = (298, ShF, I', R') ∧ P z I' R'
section QW
variable {cc : ByteArray} {own : String} {nL : Nat} {rt : Option FieldType} {ini : Bool} {d mc ms : Nat} {Post : Option MV → Wd → Prop} {uc us pc : Nat} {ls : List (Option MV)} {st : List MV} {w : Wd} {N : Nat} {S : Nat → Nat × Nat} {I : Mem} {R : RMem}
theorem q_getI {idx ci j a nn : Nat} {jz : Int} {fin : Bool} (hF : Fld own idx ci j jz true fin) (hdg : decode cc pc = .ok (.getfield idx, 3)) (hs : Shp N S a ci nn) (k : WW cc own nL rt ini d mc ms Post uc us (pc + 3) ls (.inl (I a jz) :: st) (N, S, I, R)) : WW cc own nL rt ini d mc ms Post uc us pc ls (.inr (some a) :: st) (N, S, I, R) := r_getI hF hdg hs.1 hs.2 k
theorem q_getR {idx ci j a nn r : Nat} {jz : Int} {fin : Bool} (hF : Fld own idx ci j jz false fin) (hdg : decode cc pc = .ok (.getfield idx, 3)) (hs : Shp N S a ci nn) (hr : R a jz = some r) (k : WW cc own nL rt ini d mc ms Post uc us (pc + 3) ls (.inr (some r) :: st) (N, S, I, R)) : WW cc own nL rt ini d mc ms Post uc us pc ls (.inr (some a) :: st) (N, S, I, R) := r_getR hF hdg hs.1 hs.2 hr k
theorem q_putI {idx ci j a nn : Nat} {jz z : Int} (hF : Fld own idx ci j jz true false) (hdg : decode cc pc = .ok (.putfield idx, 3)) (hs : Shp N S a ci nn) (k : WW cc own nL rt ini d mc ms Post uc us (pc + 3) ls (st) (N, S, u2 I a jz z, R)) : WW cc own nL rt ini d mc ms Post uc us pc ls (.inl z :: .inr (some a) :: st) (N, S, I, R) := r_putI hF hdg hs.1 hs.2 k
theorem q_putR {idx ci j a nn r : Nat} {jz : Int} {fin : Bool} (hF : Fld own idx ci j jz false fin) (hdg : decode cc pc = .ok (.putfield idx, 3)) (hs : Shp N S a ci nn) (hini : fin = true → ini = true ∧ ∃ C T N, ClOk ci C T N ∧ C = own) (hty : (∃ n, tyC ci j = .object n) ∨ ∃ n, tyC ci j = .array n) (k : WW cc own nL rt ini d mc ms Post uc us (pc + 3) ls (st) (N, S, I, u2 R a jz (some r))) : WW cc own nL rt ini d mc ms Post uc us pc ls (.inr (some r) :: .inr (some a) :: st) (N, S, I, R) := r_putR hF hdg hs.1 hs.2 hini hty k
theorem q_iald {a n : Nat} {i : Int} (hdg : decode cc pc = .ok (.iaload, 1)) (hs : Shp N S a 100 n) (hi : 0 ≤ i ∧ i < n ∧ n ≤ 2147483647) (k : WW cc own nL rt ini d mc ms Post uc us (pc + 1) ls (.inl (I a i) :: st) (N, S, I, R)) : WW cc own nL rt ini d mc ms Post uc us pc ls (.inl i :: .inr (some a) :: st) (N, S, I, R) := r_iald hdg hs.1 hs.2 hi.2.2 ⟨hi.1, hi.2.1⟩ k
theorem q_bald {a n : Nat} {i : Int} (hdg : decode cc pc = .ok (.baload, 1)) (hs : Shp N S a 101 n) (hi : 0 ≤ i ∧ i < n ∧ n ≤ 2147483647) (k : WW cc own nL rt ini d mc ms Post uc us (pc + 1) ls (.inl (I a i) :: st) (N, S, I, R)) : WW cc own nL rt ini d mc ms Post uc us pc ls (.inl i :: .inr (some a) :: st) (N, S, I, R) := r_bald hdg hs.1 hs.2 hi.2.2 ⟨hi.1, hi.2.1⟩ k
theorem q_aald {a n t r : Nat} {i : Int} (ht : 2 ≤ t ∧ t ≤ 4) (hdg : decode cc pc = .ok (.aaload, 1)) (hs : Shp N S a (100 + t) n) (hi : 0 ≤ i ∧ i < n ∧ n ≤ 2147483647) (hr : R a i = some r) (k : WW cc own nL rt ini d mc ms Post uc us (pc + 1) ls (.inr (some r) :: st) (N, S, I, R)) : WW cc own nL rt ini d mc ms Post uc us pc ls (.inl i :: .inr (some a) :: st) (N, S, I, R) := r_aald hdg hs.1 hs.2 ht hi.2.2 ⟨hi.1, hi.2.1⟩ hr k
theorem q_aaldI {a n r : Nat} {i : Int} (hdg : decode cc pc = .ok (.aaload, 1)) (hs : Shp N S a 105 n) (hi : 0 ≤ i ∧ i < n ∧ n ≤ 2147483647) (hr : R a i = some r) (k : WW cc own nL rt ini d mc ms Post uc us (pc + 1) ls (.inr (some r) :: st) (N, S, I, R)) : WW cc own nL rt ini d mc ms Post uc us pc ls (.inl i :: .inr (some a) :: st) (N, S, I, R) := r_aaldI hdg hs.1 hs.2 hi.2.2 ⟨hi.1, hi.2.1⟩ hr k
theorem q_iast {a n : Nat} {i z : Int} (hdg : decode cc pc = .ok (.iastore, 1)) (hs : Shp N S a 100 n) (hi : 0 ≤ i ∧ i < n ∧ n ≤ 2147483647) (k : WW cc own nL rt ini d mc ms Post uc us (pc + 1) ls (st) (N, S, u2 I a i z, R)) : WW cc own nL rt ini d mc ms Post uc us pc ls (.inl z :: .inl i :: .inr (some a) :: st) (N, S, I, R) := r_iast hdg hs.1 hs.2 hi.2.2 ⟨hi.1, hi.2.1⟩ k
theorem q_bast {a n : Nat} {i z : Int} (hdg : decode cc pc = .ok (.bastore, 1)) (hs : Shp N S a 101 n) (hi : 0 ≤ i ∧ i < n ∧ n ≤ 2147483647) (hz : -128 ≤ z ∧ z ≤ 127) (k : WW cc own nL rt ini d mc ms Post uc us (pc + 1) ls (st) (N, S, u2 I a i z, R)) : WW cc own nL rt ini d mc ms Post uc us pc ls (.inl z :: .inl i :: .inr (some a) :: st) (N, S, I, R) := r_bast hdg hs.1 hs.2 hi.2.2 ⟨hi.1, hi.2.1⟩ hz k
theorem q_aast {a v n t ci nn : Nat} {i : Int} (ht : (t = 2 ∧ ci = 3) ∨ (t = 3 ∧ ci = 5) ∨ (t = 4 ∧ ci = 1)) (hdg : decode cc pc = .ok (.aastore, 1)) (hs : Shp N S a (100 + t) n) (hi : 0 ≤ i ∧ i < n ∧ n ≤ 2147483647) (hv : Shp N S v ci nn) (k : WW cc own nL rt ini d mc ms Post uc us (pc + 1) ls (st) (N, S, I, u2 R a i (some v))) : WW cc own nL rt ini d mc ms Post uc us pc ls (.inr (some v) :: .inl i :: .inr (some a) :: st) (N, S, I, R) := r_aast hdg hs.1 hs.2 ht hi.2.2 ⟨hi.1, hi.2.1⟩ hv.1 hv.2 k
theorem q_alen {a t n : Nat} (ht : t < 2) (hdg : decode cc pc = .ok (.arraylength, 1)) (hs : Shp N S a (100 + t) n) (k : WW cc own nL rt ini d mc ms Post uc us (pc + 1) ls (.inl n :: st) (N, S, I, R)) : WW cc own nL rt ini d mc ms Post uc us pc ls (.inr (some a) :: st) (N, S, I, R) := r_alen hdg hs.1 hs.2 ht k
theorem q_ifeqB {p : Prop} [Decidable p] {off : Int} {tgt : Nat} (hdg : decode cc pc = .ok (.ifCond .eq off, 3)) (ht : (pc : Int) + off = (tgt : Int)) (kt : ¬ p → WW cc own nL rt ini d mc ms Post uc us tgt ls st w) (kf : p → WW cc own nL rt ini d mc ms Post uc us (pc + 3) ls st w) : WW cc own nL rt ini d mc ms Post uc us pc ls (.inl (b2i p) :: st) w := by
  refine r_ifeq hdg ht (by rcases b2i_01 p with h | h <;> rw [h] <;> decide) (fun h => kt (fun hp => ?_)) (fun h => kf (Decidable.byContradiction fun hp => h (b2i_f hp).symm))
  rw [← b2i_t hp] at h
  cases h
theorem q_ifneB {p : Prop} [Decidable p] {off : Int} {tgt : Nat} (hdg : decode cc pc = .ok (.ifCond .ne off, 3)) (ht : (pc : Int) + off = (tgt : Int)) (kt : p → WW cc own nL rt ini d mc ms Post uc us tgt ls st w) (kf : ¬ p → WW cc own nL rt ini d mc ms Post uc us (pc + 3) ls st w) : WW cc own nL rt ini d mc ms Post uc us pc ls (.inl (b2i p) :: st) w := by
  refine r_ifne hdg ht (by rcases b2i_01 p with h | h <;> rw [h] <;> decide) (fun h => kt (Decidable.byContradiction fun hp => h (b2i_f hp).symm)) (fun h => kf (fun hp => ?_))
  rw [← b2i_t hp] at h
  cases h
theorem q_iretF {z v : Int} (hdg : decode cc pc = .ok (.ireturn, 1)) (hr : rt = some .int) (h : z = v) : WW cc own nL rt ini d 0 0 (PF v I R) 0 0 pc ls [.inl z] (298, ShF, I, R) := r_iret hdg hr ⟨Nat.le_refl _, Nat.le_refl _⟩ ⟨by rw [h], rfl⟩
theorem q_zretF {z v : Int} (hdg : decode cc pc = .ok (.ireturn, 1)) (hr : rt = some .boolean) (hz : z = 0 ∨ z = 1) (h : z = v) : WW cc own nL rt ini d 0 0 (PF v I R) 0 0 pc ls [.inl z] (298, ShF, I, R) := r_zret hdg hr hz ⟨Nat.le_refl _, Nat.le_refl _⟩ ⟨by rw [h], rfl⟩
theorem q_aretA {v : Nat} {n : String} (hdg : decode cc pc = .ok (.areturn, 1)) (hr : rt = some (.object n)) : WW cc own nL rt ini d 0 0 (PA v I R) 0 0 pc ls [.inr (some v)] (298, ShF, I, R) := r_aret hdg hr ⟨Nat.le_refl _, Nat.le_refl _⟩ ⟨rfl, rfl⟩
theorem q_vretW {P : Mem → Prop} (hdg : decode cc pc = .ok (.return_, 1)) (hr : rt = none) (h : P I) : WW cc own nL rt ini d 0 0 (PW R P) 0 0 pc ls [] (298, ShF, I, R) := r_vret hdg hr ⟨Nat.le_refl _, Nat.le_refl _⟩ ⟨I, rfl, rfl, h⟩
theorem q_vretWR {P : Mem → RMem → Prop} (hdg : decode cc pc = .ok (.return_, 1)) (hr : rt = none) (h : P I R) : WW cc own nL rt ini d 0 0 (PWR P) 0 0 pc ls [] (298, ShF, I, R) := r_vret hdg hr ⟨Nat.le_refl _, Nat.le_refl _⟩ ⟨I, R, rfl, rfl, h⟩
theorem q_iretZ {z : Int} {P : Int → Mem → Prop} (hdg : decode cc pc = .ok (.ireturn, 1)) (hr : rt = some .int) (h : P z I) : WW cc own nL rt ini d 0 0 (PZ R P) 0 0 pc ls [.inl z] (298, ShF, I, R) := r_iret hdg hr ⟨Nat.le_refl _, Nat.le_refl _⟩ ⟨z, I, rfl, rfl, h⟩
theorem q_zretZ {z : Int} {P : Int → Mem → Prop} (hdg : decode cc pc = .ok (.ireturn, 1)) (hr : rt = some .boolean) (hz : z = 0 ∨ z = 1) (h : P z I) : WW cc own nL rt ini d 0 0 (PZ R P) 0 0 pc ls [.inl z] (298, ShF, I, R) := r_zret hdg hr hz ⟨Nat.le_refl _, Nat.le_refl _⟩ ⟨z, I, rfl, rfl, h⟩
theorem q_iretY {z : Int} {P : Int → Prop} (hdg : decode cc pc = .ok (.ireturn, 1)) (hr : rt = some .int) (h : P z) : WW cc own nL rt ini d 0 0 (PY P I R) 0 0 pc ls [.inl z] (298, ShF, I, R) := r_iret hdg hr ⟨Nat.le_refl _, Nat.le_refl _⟩ ⟨z, rfl, rfl, h⟩
theorem q_zretY {z : Int} {P : Int → Prop} (hdg : decode cc pc = .ok (.ireturn, 1)) (hr : rt = some .boolean) (hz : z = 0 ∨ z = 1) (h : P z) : WW cc own nL rt ini d 0 0 (PY P I R) 0 0 pc ls [.inl z] (298, ShF, I, R) := r_zret hdg hr hz ⟨Nat.le_refl _, Nat.le_refl _⟩ ⟨z, rfl, rfl, h⟩
theorem q_iretZR {z : Int} {P : Int → Mem → RMem → Prop} (hdg : decode cc pc = .ok (.ireturn, 1)) (hr : rt = some .int) (h : P z I R) : WW cc own nL rt ini d 0 0 (PZR P) 0 0 pc ls [.inl z] (298, ShF, I, R) := r_iret hdg hr ⟨Nat.le_refl _, Nat.le_refl _⟩ ⟨z, I, R, rfl, rfl, h⟩
theorem q_callVF {idx n d_ ci a nn : Nat} {y : MethodName} {cy : ByteArray} {nLy : Nat} {rty : Option FieldType} {As st0 : List MV} {v : Int} (hL : LkV own idx ci y cy nLy rty n) (hdg : decode cc pc = .ok (.invokevirtual idx, 3)) (hM : CC d_ 0 0 y cy nLy rty (.inr (some a) :: As) (298, ShF, I, R) (PF v I R)) (hd : d_ + 1 ≤ d) (hs : SF a ci nn) (hn : As.length = n) (hst : st0 = As.reverse ++ .inr (some a) :: st) (h8 : st.length ≤ 8) (hb : uc + 0 ≤ mc ∧ us + 0 ≤ ms) (k : WW cc own nL rt ini d mc ms Post uc us (pc + 3) ls (.inl v :: st) (298, ShF, I, R)) : WW cc own nL rt ini d mc ms Post uc us pc ls st0 (298, ShF, I, R) := by
  refine r_callV hL hdg hM hd hs.1 hs.2 hn hst h8 hb ?_
  rintro r w' ⟨rfl, rfl⟩
  exact k
theorem q_callVA {idx n d_ ci a nn : Nat} {y : MethodName} {cy : ByteArray} {nLy : Nat} {rty : Option FieldType} {As st0 : List MV} {v : Nat} (hL : LkV own idx ci y cy nLy rty n) (hdg : decode cc pc = .ok (.invokevirtual idx, 3)) (hM : CC d_ 0 0 y cy nLy rty (.inr (some a) :: As) (298, ShF, I, R) (PA v I R)) (hd : d_ + 1 ≤ d) (hs : SF a ci nn) (hn : As.length = n) (hst : st0 = As.reverse ++ .inr (some a) :: st) (h8 : st.length ≤ 8) (hb : uc + 0 ≤ mc ∧ us + 0 ≤ ms) (k : WW cc own nL rt ini d mc ms Post uc us (pc + 3) ls (.inr (some v) :: st) (298, ShF, I, R)) : WW cc own nL rt ini d mc ms Post uc us pc ls st0 (298, ShF, I, R) := by
  refine r_callV hL hdg hM hd hs.1 hs.2 hn hst h8 hb ?_
  rintro r w' ⟨rfl, rfl⟩
  exact k
theorem q_callVY {idx n d_ ci a nn : Nat} {y : MethodName} {cy : ByteArray} {nLy : Nat} {rty : Option FieldType} {As st0 : List MV} {P : Int → Prop} (hL : LkV own idx ci y cy nLy rty n) (hdg : decode cc pc = .ok (.invokevirtual idx, 3)) (hM : CC d_ 0 0 y cy nLy rty (.inr (some a) :: As) (298, ShF, I, R) (PY P I R)) (hd : d_ + 1 ≤ d) (hs : SF a ci nn) (hn : As.length = n) (hst : st0 = As.reverse ++ .inr (some a) :: st) (h8 : st.length ≤ 8) (hb : uc + 0 ≤ mc ∧ us + 0 ≤ ms) (k : ∀ z : Int, P z → WW cc own nL rt ini d mc ms Post uc us (pc + 3) ls (.inl z :: st) (298, ShF, I, R)) : WW cc own nL rt ini d mc ms Post uc us pc ls st0 (298, ShF, I, R) := by
  refine r_callV hL hdg hM hd hs.1 hs.2 hn hst h8 hb ?_
  rintro r w' ⟨z, rfl, rfl, hP⟩
  exact k z hP
theorem q_callVW {idx n d_ ci a nn : Nat} {y : MethodName} {cy : ByteArray} {nLy : Nat} {rty : Option FieldType} {As st0 : List MV} {P : Mem → Prop} (hL : LkV own idx ci y cy nLy rty n) (hdg : decode cc pc = .ok (.invokevirtual idx, 3)) (hM : CC d_ 0 0 y cy nLy rty (.inr (some a) :: As) (298, ShF, I, R) (PW R P)) (hd : d_ + 1 ≤ d) (hs : SF a ci nn) (hn : As.length = n) (hst : st0 = As.reverse ++ .inr (some a) :: st) (h8 : st.length ≤ 8) (hb : uc + 0 ≤ mc ∧ us + 0 ≤ ms) (k : ∀ I' : Mem, P I' → WW cc own nL rt ini d mc ms Post uc us (pc + 3) ls st (298, ShF, I', R)) : WW cc own nL rt ini d mc ms Post uc us pc ls st0 (298, ShF, I, R) := by
  refine r_callV hL hdg hM hd hs.1 hs.2 hn hst h8 hb ?_
  rintro r w' ⟨I', rfl, rfl, hP⟩
  exact k I' hP
theorem q_callVZ {idx n d_ ci a nn : Nat} {y : MethodName} {cy : ByteArray} {nLy : Nat} {rty : Option FieldType} {As st0 : List MV} {P : Int → Mem → Prop} (hL : LkV own idx ci y cy nLy rty n) (hdg : decode cc pc = .ok (.invokevirtual idx, 3)) (hM : CC d_ 0 0 y cy nLy rty (.inr (some a) :: As) (298, ShF, I, R) (PZ R P)) (hd : d_ + 1 ≤ d) (hs : SF a ci nn) (hn : As.length = n) (hst : st0 = As.reverse ++ .inr (some a) :: st) (h8 : st.length ≤ 8) (hb : uc + 0 ≤ mc ∧ us + 0 ≤ ms) (k : ∀ (z : Int) (I' : Mem), P z I' → WW cc own nL rt ini d mc ms Post uc us (pc + 3) ls (.inl z :: st) (298, ShF, I', R)) : WW cc own nL rt ini d mc ms Post uc us pc ls st0 (298, ShF, I, R) := by
  refine r_callV hL hdg hM hd hs.1 hs.2 hn hst h8 hb ?_
  rintro r w' ⟨z, I', rfl, rfl, hP⟩
  exact k z I' hP
theorem q_callVWR {idx n d_ ci a nn : Nat} {y : MethodName} {cy : ByteArray} {nLy : Nat} {rty : Option FieldType} {As st0 : List MV} {P : Mem → RMem → Prop} (hL : LkV own idx ci y cy nLy rty n) (hdg : decode cc pc = .ok (.invokevirtual idx, 3)) (hM : CC d_ 0 0 y cy nLy rty (.inr (some a) :: As) (298, ShF, I, R) (PWR P)) (hd : d_ + 1 ≤ d) (hs : SF a ci nn) (hn : As.length = n) (hst : st0 = As.reverse ++ .inr (some a) :: st) (h8 : st.length ≤ 8) (hb : uc + 0 ≤ mc ∧ us + 0 ≤ ms) (k : ∀ (I' : Mem) (R' : RMem), P I' R' → WW cc own nL rt ini d mc ms Post uc us (pc + 3) ls st (298, ShF, I', R')) : WW cc own nL rt ini d mc ms Post uc us pc ls st0 (298, ShF, I, R) := by
  refine r_callV hL hdg hM hd hs.1 hs.2 hn hst h8 hb ?_
  rintro r w' ⟨I', R', rfl, rfl, hP⟩
  exact k I' R' hP
theorem q_callVZR {idx n d_ ci a nn : Nat} {y : MethodName} {cy : ByteArray} {nLy : Nat} {rty : Option FieldType} {As st0 : List MV} {P : Int → Mem → RMem → Prop} (hL : LkV own idx ci y cy nLy rty n) (hdg : decode cc pc = .ok (.invokevirtual idx, 3)) (hM : CC d_ 0 0 y cy nLy rty (.inr (some a) :: As) (298, ShF, I, R) (PZR P)) (hd : d_ + 1 ≤ d) (hs : SF a ci nn) (hn : As.length = n) (hst : st0 = As.reverse ++ .inr (some a) :: st) (h8 : st.length ≤ 8) (hb : uc + 0 ≤ mc ∧ us + 0 ≤ ms) (k : ∀ (z : Int) (I' : Mem) (R' : RMem), P z I' R' → WW cc own nL rt ini d mc ms Post uc us (pc + 3) ls (.inl z :: st) (298, ShF, I', R')) : WW cc own nL rt ini d mc ms Post uc us pc ls st0 (298, ShF, I, R) := by
  refine r_callV hL hdg hM hd hs.1 hs.2 hn hst h8 hb ?_
  rintro r w' ⟨z, I', R', rfl, rfl, hP⟩
  exact k z I' R' hP
theorem q_callSF {idx n d_ : Nat} {y : MethodName} {cy : ByteArray} {nLy : Nat} {rty : Option FieldType} {As st0 : List MV} {v : Int} (hL : LkS own idx y cy nLy rty n) (hdg : decode cc pc = .ok (.invokestatic idx, 3)) (hM : CC d_ 0 0 y cy nLy rty As (298, ShF, I, R) (PF v I R)) (hd : d_ + 1 ≤ d) (hn : As.length = n) (hst : st0 = As.reverse ++ st) (h8 : st.length ≤ 8) (hb : uc + 0 ≤ mc ∧ us + 0 ≤ ms) (k : WW cc own nL rt ini d mc ms Post uc us (pc + 3) ls (.inl v :: st) (298, ShF, I, R)) : WW cc own nL rt ini d mc ms Post uc us pc ls st0 (298, ShF, I, R) := by
  refine r_callS hL hdg hM hd hn hst h8 hb ?_
  rintro r w' ⟨rfl, rfl⟩
  exact k
theorem q_callSA {idx n d_ : Nat} {y : MethodName} {cy : ByteArray} {nLy : Nat} {rty : Option FieldType} {As st0 : List MV} {v : Nat} (hL : LkS own idx y cy nLy rty n) (hdg : decode cc pc = .ok (.invokestatic idx, 3)) (hM : CC d_ 0 0 y cy nLy rty As (298, ShF, I, R) (PA v I R)) (hd : d_ + 1 ≤ d) (hn : As.length = n) (hst : st0 = As.reverse ++ st) (h8 : st.length ≤ 8) (hb : uc + 0 ≤ mc ∧ us + 0 ≤ ms) (k : WW cc own nL rt ini d mc ms Post uc us (pc + 3) ls (.inr (some v) :: st) (298, ShF, I, R)) : WW cc own nL rt ini d mc ms Post uc us pc ls st0 (298, ShF, I, R) := by
  refine r_callS hL hdg hM hd hn hst h8 hb ?_
  rintro r w' ⟨rfl, rfl⟩
  exact k
theorem q_callSY {idx n d_ : Nat} {y : MethodName} {cy : ByteArray} {nLy : Nat} {rty : Option FieldType} {As st0 : List MV} {P : Int → Prop} (hL : LkS own idx y cy nLy rty n) (hdg : decode cc pc = .ok (.invokestatic idx, 3)) (hM : CC d_ 0 0 y cy nLy rty As (298, ShF, I, R) (PY P I R)) (hd : d_ + 1 ≤ d) (hn : As.length = n) (hst : st0 = As.reverse ++ st) (h8 : st.length ≤ 8) (hb : uc + 0 ≤ mc ∧ us + 0 ≤ ms) (k : ∀ z : Int, P z → WW cc own nL rt ini d mc ms Post uc us (pc + 3) ls (.inl z :: st) (298, ShF, I, R)) : WW cc own nL rt ini d mc ms Post uc us pc ls st0 (298, ShF, I, R) := by
  refine r_callS hL hdg hM hd hn hst h8 hb ?_
  rintro r w' ⟨z, rfl, rfl, hP⟩
  exact k z hP
theorem q_callSW {idx n d_ : Nat} {y : MethodName} {cy : ByteArray} {nLy : Nat} {rty : Option FieldType} {As st0 : List MV} {P : Mem → Prop} (hL : LkS own idx y cy nLy rty n) (hdg : decode cc pc = .ok (.invokestatic idx, 3)) (hM : CC d_ 0 0 y cy nLy rty As (298, ShF, I, R) (PW R P)) (hd : d_ + 1 ≤ d) (hn : As.length = n) (hst : st0 = As.reverse ++ st) (h8 : st.length ≤ 8) (hb : uc + 0 ≤ mc ∧ us + 0 ≤ ms) (k : ∀ I' : Mem, P I' → WW cc own nL rt ini d mc ms Post uc us (pc + 3) ls st (298, ShF, I', R)) : WW cc own nL rt ini d mc ms Post uc us pc ls st0 (298, ShF, I, R) := by
  refine r_callS hL hdg hM hd hn hst h8 hb ?_
  rintro r w' ⟨I', rfl, rfl, hP⟩
  exact k I' hP
theorem q_callSZ {idx n d_ : Nat} {y : MethodName} {cy : ByteArray} {nLy : Nat} {rty : Option FieldType} {As st0 : List MV} {P : Int → Mem → Prop} (hL : LkS own idx y cy nLy rty n) (hdg : decode cc pc = .ok (.invokestatic idx, 3)) (hM : CC d_ 0 0 y cy nLy rty As (298, ShF, I, R) (PZ R P)) (hd : d_ + 1 ≤ d) (hn : As.length = n) (hst : st0 = As.reverse ++ st) (h8 : st.length ≤ 8) (hb : uc + 0 ≤ mc ∧ us + 0 ≤ ms) (k : ∀ (z : Int) (I' : Mem), P z I' → WW cc own nL rt ini d mc ms Post uc us (pc + 3) ls (.inl z :: st) (298, ShF, I', R)) : WW cc own nL rt ini d mc ms Post uc us pc ls st0 (298, ShF, I, R) := by
  refine r_callS hL hdg hM hd hn hst h8 hb ?_
  rintro r w' ⟨z, I', rfl, rfl, hP⟩
  exact k z I' hP
theorem q_callSWR {idx n d_ : Nat} {y : MethodName} {cy : ByteArray} {nLy : Nat} {rty : Option FieldType} {As st0 : List MV} {P : Mem → RMem → Prop} (hL : LkS own idx y cy nLy rty n) (hdg : decode cc pc = .ok (.invokestatic idx, 3)) (hM : CC d_ 0 0 y cy nLy rty As (298, ShF, I, R) (PWR P)) (hd : d_ + 1 ≤ d) (hn : As.length = n) (hst : st0 = As.reverse ++ st) (h8 : st.length ≤ 8) (hb : uc + 0 ≤ mc ∧ us + 0 ≤ ms) (k : ∀ (I' : Mem) (R' : RMem), P I' R' → WW cc own nL rt ini d mc ms Post uc us (pc + 3) ls st (298, ShF, I', R')) : WW cc own nL rt ini d mc ms Post uc us pc ls st0 (298, ShF, I, R) := by
  refine r_callS hL hdg hM hd hn hst h8 hb ?_
  rintro r w' ⟨I', R', rfl, rfl, hP⟩
  exact k I' R' hP
theorem q_callSZR {idx n d_ : Nat} {y : MethodName} {cy : ByteArray} {nLy : Nat} {rty : Option FieldType} {As st0 : List MV} {P : Int → Mem → RMem → Prop} (hL : LkS own idx y cy nLy rty n) (hdg : decode cc pc = .ok (.invokestatic idx, 3)) (hM : CC d_ 0 0 y cy nLy rty As (298, ShF, I, R) (PZR P)) (hd : d_ + 1 ≤ d) (hn : As.length = n) (hst : st0 = As.reverse ++ st) (h8 : st.length ≤ 8) (hb : uc + 0 ≤ mc ∧ us + 0 ≤ ms) (k : ∀ (z : Int) (I' : Mem) (R' : RMem), P z I' R' → WW cc own nL rt ini d mc ms Post uc us (pc + 3) ls (.inl z :: st) (298, ShF, I', R')) : WW cc own nL rt ini d mc ms Post uc us pc ls st0 (298, ShF, I, R) := by
  refine r_callS hL hdg hM hd hn hst h8 hb ?_
  rintro r w' ⟨z, I', R', rfl, rfl, hP⟩
  exact k z I' R' hP
def MxOk (own : String) (idx : Nat) : Prop := Cond.methodLink own idx Lib.Math.max.name ∈ lw_U ∧ Cond.static Lib.Math.max.name ∈ lw_U ∧ Cond.initialized "java/lang/Math" ∈ lw_U ∧ Cond.code Lib.Math.max.name Lib.Math.max.code 2 (some .int) ∈ lw_U
def MnOk (own : String) (idx : Nat) : Prop := Cond.methodLink own idx Lib.Math.min.name ∈ lw_U ∧ Cond.static Lib.Math.min.name ∈ lw_U ∧ Cond.initialized "java/lang/Math" ∈ lw_U ∧ Cond.code Lib.Math.min.name Lib.Math.min.code 2 (some .int) ∈ lw_U
theorem q_mmax {idx : Nat} {x y : Int} (hm : MxOk own idx) (hdg : decode cc pc = .ok (.invokestatic idx, 3)) (hd : 1 ≤ d) (h8 : st.length ≤ 8) (hx : -2147483648 ≤ x ∧ x ≤ 2147483647) (hy : -2147483648 ≤ y ∧ y ≤ 2147483647) (hu : uc ≤ mc ∧ us ≤ ms) (k : WW cc own nL rt ini d mc ms Post uc us (pc + 3) ls (.inl (if x < y then y else x) :: st) w) : WW cc own nL rt ini d mc ms Post uc us pc ls (.inl y :: .inl x :: st) w := by
  intro l D dA b p e_ s m args below meth c H locs A hC hb0 hS hR hL
  have k := k l D dA b p e_ s m args below meth c H locs A hC hb0 hS hR hL
  have hts := hC.2.2.2.2.2.2.2.1
  have h9 : ((st.map (tv b)).map fun v => v.category).sum ≤ 8 := by rw [tv_sum]; exact h8
  refine va_mmax hC.1 hC.2.1 (hC.2.2.1.trans hL.1.symm) hC.2.2.2.2.2.2.1 (hts _ hm.1) (hts _ hm.2.1) (hts _ hm.2.2.1) (hts _ hm.2.2.2) (by show 1 ≤ d; exact hd) (by show _ ≤ 40 * d; omega) hu.1 hu.2 hdg ?_
  have e : (if Int32.ofInt x < Int32.ofInt y then Int32.ofInt y else Int32.ofInt x) = Int32.ofInt (if x < y then y else x) := by
    by_cases h : x < y
    · rw [if_pos h, if_pos ((i32_lt (by omega) (by omega)).mpr h)]
    · rw [if_neg h, if_neg (fun q => h ((i32_lt (by omega) (by omega)).mp q))]
  rw [e]
  exact k
theorem q_mmin {idx : Nat} {x y : Int} (hm : MnOk own idx) (hdg : decode cc pc = .ok (.invokestatic idx, 3)) (hd : 1 ≤ d) (h8 : st.length ≤ 8) (hx : -2147483648 ≤ x ∧ x ≤ 2147483647) (hy : -2147483648 ≤ y ∧ y ≤ 2147483647) (hu : uc ≤ mc ∧ us ≤ ms) (k : WW cc own nL rt ini d mc ms Post uc us (pc + 3) ls (.inl (if y < x then y else x) :: st) w) : WW cc own nL rt ini d mc ms Post uc us pc ls (.inl y :: .inl x :: st) w := by
  intro l D dA b p e_ s m args below meth c H locs A hC hb0 hS hR hL
  have k := k l D dA b p e_ s m args below meth c H locs A hC hb0 hS hR hL
  have hts := hC.2.2.2.2.2.2.2.1
  have h9 : ((st.map (tv b)).map fun v => v.category).sum ≤ 8 := by rw [tv_sum]; exact h8
  refine va_mmin hC.1 hC.2.1 (hC.2.2.1.trans hL.1.symm) hC.2.2.2.2.2.2.1 (hts _ hm.1) (hts _ hm.2.1) (hts _ hm.2.2.1) (hts _ hm.2.2.2) (by show 1 ≤ d; exact hd) (by show _ ≤ 40 * d; omega) hu.1 hu.2 hdg ?_
  have e : (if Int32.ofInt y < Int32.ofInt x then Int32.ofInt y else Int32.ofInt x) = Int32.ofInt (if y < x then y else x) := by
    by_cases h : y < x
    · rw [if_pos h, if_pos ((i32_lt (by omega) (by omega)).mpr h)]
    · rw [if_neg h, if_neg (fun q => h ((i32_lt (by omega) (by omega)).mp q))]
  rw [e]
  exact k

theorem q_ldc {idx : Nat} {v : Int32} {z : Int} (hc : Cond.constant own idx v ∈ lw_U) (hz : v = Int32.ofInt z) (hdg : decode cc pc = .ok (.ldc idx, 2)) (k : WW cc own nL rt ini d mc ms Post uc us (pc + 2) ls (.inl z :: st) w) : WW cc own nL rt ini d mc ms Post uc us pc ls st w := by
  intro l D dA b p e_ s m args below meth c H locs A hC hb0 hS hR hL
  have k := k l D dA b p e_ s m args below meth c H locs A hC hb0 hS hR hL
  subst hz
  exact lv_ldc hC.1 hC.2.1 hC.2.2.2.2.2.2.1 (hC.2.2.2.2.2.2.2.1 _ hc) hdg k
theorem q_iand255 {x : Int} (hdg : decode cc pc = .ok (.iand, 1)) (hx : -128 ≤ x ∧ x ≤ 255) (k : WW cc own nL rt ini d mc ms Post uc us (pc + 1) ls (.inl (x % 256) :: st) w) : WW cc own nL rt ini d mc ms Post uc us pc ls (.inl 255 :: .inl x :: st) w := by
  intro l D dA b p e_ s m args below meth c H locs A hC hb0 hS hR hL
  have k := k l D dA b p e_ s m args below meth c H locs A hC hb0 hS hR hL
  refine lv_iand hC.1 hC.2.1 hdg ?_
  have e : Int32.ofInt x &&& Int32.ofInt 255 = Int32.ofInt (x % 256) := by
    have h : ∀ n : Nat, n < 384 → Int32.ofInt ((n : Int) - 128) &&& Int32.ofInt 255 = Int32.ofInt (((n : Int) - 128) % 256) := by decide +kernel
    have h2 := h (x + 128).toNat (by omega)
    rw [show (((x + 128).toNat : Nat) : Int) - 128 = x by omega] at h2
    exact h2
  rw [e]
  exact k
end QW
end
section
theorem mx_X4_22 : MnOk RX4 22 := ⟨(mU 364 (by decide +kernel) (by decide +kernel)), (mU 365 (by decide +kernel) (by decide +kernel)), (mU 61 (by decide +kernel) (by decide +kernel)), (mU 366 (by decide +kernel) (by decide +kernel))⟩
theorem mx_X0_135 : MxOk RX0 135 := ⟨(mU 516 (by decide +kernel) (by decide +kernel)), (mU 517 (by decide +kernel) (by decide +kernel)), (mU 61 (by decide +kernel) (by decide +kernel)), (mU 518 (by decide +kernel) (by decide +kernel))⟩
theorem mx_X0_140 : MnOk RX0 140 := ⟨(mU 519 (by decide +kernel) (by decide +kernel)), (mU 365 (by decide +kernel) (by decide +kernel)), (mU 61 (by decide +kernel) (by decide +kernel)), (mU 366 (by decide +kernel) (by decide +kernel))⟩
theorem mx_X7_212 : MxOk RX7 212 := ⟨(mU 544 (by decide +kernel) (by decide +kernel)), (mU 517 (by decide +kernel) (by decide +kernel)), (mU 61 (by decide +kernel) (by decide +kernel)), (mU 518 (by decide +kernel) (by decide +kernel))⟩

/-! small methods; the styles -/
def StyAt (R : RMem) (a a1 : Nat) : Prop := SF a 5 0 ∧ R a 2 = some a1 ∧ SF a1 100 81
def SV (f : Int → Int) : Prop := ∀ p : Int, 1 ≤ p → p ≤ 80 → 0 ≤ f p ∧ f p ≤ 20
def cntF (f : Int → Int) : Nat → Int
  | 0 => 0
  | n + 1 => cntF f n + (if f ((n : Int) + 1) = 0 then 0 else 1)
theorem cntF_bd (f : Int → Int) (n : Nat) : 0 ≤ cntF f n ∧ cntF f n ≤ n := by
  induction n with
  | zero => simp [cntF]
  | succ n ih =>
    show 0 ≤ cntF f n + (if f ((n : Int) + 1) = 0 then 0 else 1) ∧ cntF f n + (if f ((n : Int) + 1) = 0 then 0 else 1) ≤ ((n + 1 : Nat) : Int)
    split <;> omega
theorem cntF_step (f : Int → Int) {p : Int} (h : 1 ≤ p) : cntF f p.toNat = cntF f (p - 1).toNat + (if f p = 0 then 0 else 1) := by
  obtain ⟨n, rfl⟩ : ∃ n : Nat, p = n + 1 := ⟨(p - 1).toNat, by omega⟩
  rw [show ((n : Int) + 1).toNat = n + 1 by omega, show ((n : Int) + 1 - 1).toNat = n by omega]
  rfl
theorem cntF_mono (f : Int → Int) {m n : Nat} (h : m ≤ n) : cntF f m ≤ cntF f n := by
  induction n with
  | zero => rw [show m = 0 by omega]; exact Int.le_refl _
  | succ n ih =>
    by_cases hm : m = n + 1
    · rw [hm]; exact Int.le_refl _
    · have h1 := ih (by omega)
      show cntF f m ≤ cntF f n + (if f ((n : Int) + 1) = 0 then 0 else 1)
      split <;> omega
def StpF (f : Int → Int) (p : Int) : Prop := 1 ≤ p ∧ p ≤ 80 ∧ f p ≠ 0
def TabF (f : Int → Int) (p : Int) : Prop := 1 ≤ p ∧ p ≤ 80 ∧ f p ≠ 0 ∧ f p ≤ 16
def PosR (f : Int → Int) (k z : Int) : Prop := (StpF f z ∧ cntF f (z - 1).toNat = k) ∨ (z = -9 ∧ ∀ p : Int, StpF f p → cntF f (p - 1).toNat ≠ k)
def LastR (f : Int → Int) (z : Int) : Prop := (TabF f z ∨ z = 0) ∧ ∀ p : Int, TabF f p → p ≤ z
def BehR (f : Int → Int) (c z : Int) : Prop := (TabF f z ∧ c < z ∧ ∀ p : Int, TabF f p → c < p → z ≤ p) ∨ (z = -9 ∧ ∀ p : Int, TabF f p → p ≤ c)
set_option maxHeartbeats 4000000 in
set_option maxRecDepth 100000 in
theorem c_isWithin (I : Mem) (R : RMem) (v lo hi : Int) (h1 : -2147483648 ≤ v ∧ v ≤ 2147483647) (h2 : -2147483648 ≤ lo ∧ lo ≤ 2147483647) (h3 : -2147483648 ≤ hi ∧ hi ≤ 2147483647) : CC 1 0 0 yX7_isWithin cX7_isWithin 3 (some .boolean) [.inl (v), .inl (lo), .inl (hi)] (298, ShF, I, R) (PF (b2i (lo ≤ v ∧ v ≤ hi)) I R) := by
  refine CC_of (own := RX7) (ini := false) (by decide +kernel) rfl (fun h => absurd h (by decide)) (Nat.le_of_ble_eq_true rfl) ?_
  show WW cX7_isWithin RX7 3 (some .boolean) false 1 0 0 (PF (b2i (lo ≤ v ∧ v ≤ hi)) I R) 0 0 0 [some (.inl (v)), some (.inl (lo)), some (.inl (hi))] [] (298, ShF, I, R)
  refine r_iload_n dX7_isWithin_0 rfl ?_
  refine r_iload_n dX7_isWithin_1 rfl ?_
  refine r_icmplt (tgt := 14) dX7_isWithin_2 (by decide) (by omega) (by omega) (fun h2 => ?_) (fun h2 => ?_)
  · refine r_iconst dX7_isWithin_14 ?_
    refine q_zretF dX7_isWithin_15 rfl (by decide) ?_
    first | exact b2i_t (by omega) | exact b2i_f (by omega)
  · refine r_iload_n dX7_isWithin_5 rfl ?_
    refine r_iload_n dX7_isWithin_6 rfl ?_
    refine r_icmpgt (tgt := 14) dX7_isWithin_7 (by decide) (by omega) (by omega) (fun h7 => ?_) (fun h7 => ?_)
    · refine r_iconst dX7_isWithin_14 ?_
      refine q_zretF dX7_isWithin_15 rfl (by decide) ?_
      first | exact b2i_t (by omega) | exact b2i_f (by omega)
    · refine r_iconst dX7_isWithin_10 ?_
      refine r_goto (tgt := 15) dX7_isWithin_11 (by decide) ?_
      refine q_zretF dX7_isWithin_15 rfl (by decide) ?_
      first | exact b2i_t (by omega) | exact b2i_f (by omega)
set_option maxHeartbeats 4000000 in
set_option maxRecDepth 100000 in
theorem c_in (I : Mem) (R : RMem) (v lo hi : Int) (h1 : -2147483648 ≤ v ∧ v ≤ 2147483647) (h2 : -2147483648 ≤ lo ∧ lo ≤ 2147483647) (h3 : -2147483648 ≤ hi ∧ hi ≤ 2147483647) : CC 1 0 0 yX8_in cX8_in 3 (some .boolean) [.inl (v), .inl (lo), .inl (hi)] (298, ShF, I, R) (PF (b2i (lo ≤ v ∧ v ≤ hi)) I R) := by
  refine CC_of (own := RX8) (ini := false) (by decide +kernel) rfl (fun h => absurd h (by decide)) (Nat.le_of_ble_eq_true rfl) ?_
  show WW cX8_in RX8 3 (some .boolean) false 1 0 0 (PF (b2i (lo ≤ v ∧ v ≤ hi)) I R) 0 0 0 [some (.inl (v)), some (.inl (lo)), some (.inl (hi))] [] (298, ShF, I, R)
  refine r_iload_n dX8_in_0 rfl ?_
  refine r_iload_n dX8_in_1 rfl ?_
  refine r_icmplt (tgt := 14) dX8_in_2 (by decide) (by omega) (by omega) (fun h2 => ?_) (fun h2 => ?_)
  · refine r_iconst dX8_in_14 ?_
    refine q_zretF dX8_in_15 rfl (by decide) ?_
    first | exact b2i_t (by omega) | exact b2i_f (by omega)
  · refine r_iload_n dX8_in_5 rfl ?_
    refine r_iload_n dX8_in_6 rfl ?_
    refine r_icmpgt (tgt := 14) dX8_in_7 (by decide) (by omega) (by omega) (fun h7 => ?_) (fun h7 => ?_)
    · refine r_iconst dX8_in_14 ?_
      refine q_zretF dX8_in_15 rfl (by decide) ?_
      first | exact b2i_t (by omega) | exact b2i_f (by omega)
    · refine r_iconst dX8_in_10 ?_
      refine r_goto (tgt := 15) dX8_in_11 (by decide) ?_
      refine q_zretF dX8_in_15 rfl (by decide) ?_
      first | exact b2i_t (by omega) | exact b2i_f (by omega)
set_option maxHeartbeats 4000000 in
set_option maxRecDepth 100000 in
theorem c_lesser (I : Mem) (R : RMem) (v u : Int) (h1 : -2147483648 ≤ v ∧ v ≤ 2147483647) (h2 : -2147483648 ≤ u ∧ u ≤ 2147483647) : CC 1 0 0 yX8_lesser cX8_lesser 2 (some .int) [.inl (v), .inl (u)] (298, ShF, I, R) (PF (if v < u then v else u) I R) := by
  refine CC_of (own := RX8) (ini := false) (by decide +kernel) rfl (fun h => absurd h (by decide)) (Nat.le_of_ble_eq_true rfl) ?_
  show WW cX8_lesser RX8 2 (some .int) false 1 0 0 (PF (if v < u then v else u) I R) 0 0 0 [some (.inl (v)), some (.inl (u))] [] (298, ShF, I, R)
  refine r_iload_n dX8_lesser_0 rfl ?_
  refine r_iload_n dX8_lesser_1 rfl ?_
  refine r_icmpge (tgt := 9) dX8_lesser_2 (by decide) (by omega) (by omega) (fun h2 => ?_) (fun h2 => ?_)
  · refine r_iload_n dX8_lesser_9 rfl ?_
    refine q_iretF dX8_lesser_10 rfl ?_
    first | exact (if_pos (by omega)).symm | exact (if_neg (by omega)).symm
  · refine r_iload_n dX8_lesser_5 rfl ?_
    refine r_goto (tgt := 10) dX8_lesser_6 (by decide) ?_
    refine q_iretF dX8_lesser_10 rfl ?_
    first | exact (if_pos (by omega)).symm | exact (if_neg (by omega)).symm
set_option maxHeartbeats 4000000 in
set_option maxRecDepth 100000 in
theorem c_hasStop (I : Mem) (R : RMem) {a a1 : Nat} (hs : StyAt R a a1) (hf : SV (I a1)) (p : Int) (hp : -2147483648 ≤ p ∧ p ≤ 2147483647) : CC 1 0 0 yX5_hasStop cX5_hasStop 2 (some .boolean) [.inr (some (a)), .inl (p)] (298, ShF, I, R) (PF (b2i (1 ≤ p ∧ p ≤ 80 ∧ I a1 p ≠ 0)) I R) := by
  refine CC_of (own := RX5) (ini := false) (by decide +kernel) rfl (fun h => absurd h (by decide)) (Nat.le_of_ble_eq_true rfl) ?_
  show WW cX5_hasStop RX5 2 (some .boolean) false 1 0 0 (PF (b2i (1 ≤ p ∧ p ≤ 80 ∧ I a1 p ≠ 0)) I R) 0 0 0 [some (.inr (some (a))), some (.inl (p))] [] (298, ShF, I, R)
  refine r_iload_n dX5_hasStop_0 rfl ?_
  refine r_iconst dX5_hasStop_1 ?_
  refine r_icmplt (tgt := 24) dX5_hasStop_2 (by decide) (by omega) (by omega) (fun h2 => ?_) (fun h2 => ?_)
  · refine r_iconst dX5_hasStop_24 ?_
    refine q_zretF dX5_hasStop_25 rfl (by decide) ?_
    first | exact b2i_t (by omega) | exact b2i_f (by omega)
  · refine r_iload_n dX5_hasStop_5 rfl ?_
    refine r_bipush dX5_hasStop_6 (by decide) ?_
    refine r_icmpgt (tgt := 24) dX5_hasStop_8 (by decide) (by omega) (by omega) (fun h8 => ?_) (fun h8 => ?_)
    · refine r_iconst dX5_hasStop_24 ?_
      refine q_zretF dX5_hasStop_25 rfl (by decide) ?_
      first | exact b2i_t (by omega) | exact b2i_f (by omega)
    · refine r_aload_n dX5_hasStop_11 rfl ?_
      refine q_getR fl_X5_15 dX5_hasStop_12 hs.1 hs.2.1 ?_
      refine r_iload_n dX5_hasStop_15 rfl ?_
      refine q_iald dX5_hasStop_16 hs.2.2 (by omega) ?_
      have hfp := hf p (by omega) (by omega)
      refine r_ifeq (tgt := 24) dX5_hasStop_17 (by decide) (by omega) (fun h17 => ?_) (fun h17 => ?_)
      · refine r_iconst dX5_hasStop_24 ?_
        refine q_zretF dX5_hasStop_25 rfl (by decide) ?_
        first | exact b2i_t (by omega) | exact b2i_f (by omega)
      · refine r_iconst dX5_hasStop_20 ?_
        refine r_goto (tgt := 25) dX5_hasStop_21 (by decide) ?_
        refine q_zretF dX5_hasStop_25 rfl (by decide) ?_
        first | exact b2i_t (by omega) | exact b2i_f (by omega)
set_option maxHeartbeats 4000000 in
set_option maxRecDepth 100000 in
theorem c_kindAt (I : Mem) (R : RMem) {a a1 : Nat} (hs : StyAt R a a1) (hf : SV (I a1)) (p : Int) (hp : -2147483648 ≤ p ∧ p ≤ 2147483647) : CC 2 0 0 yX5_kindAt cX5_kindAt 2 (some .int) [.inr (some (a)), .inl (p)] (298, ShF, I, R) (PF (if 1 ≤ p ∧ p ≤ 80 ∧ I a1 p ≠ 0 then ((I a1 p - 1) / 4) else -9) I R) := by
  refine CC_of (own := RX5) (ini := false) (by decide +kernel) rfl (fun h => absurd h (by decide)) (Nat.le_of_ble_eq_true rfl) ?_
  show WW cX5_kindAt RX5 2 (some .int) false 2 0 0 (PF (if 1 ≤ p ∧ p ≤ 80 ∧ I a1 p ≠ 0 then ((I a1 p - 1) / 4) else -9) I R) 0 0 0 [some (.inr (some (a))), some (.inl (p))] [] (298, ShF, I, R)
  refine r_aload_n dX5_kindAt_0 rfl ?_
  refine r_iload_n dX5_kindAt_1 rfl ?_
  refine q_callVF lk_X5_19 dX5_kindAt_2 (c_hasStop I R hs hf p hp) (by decide) hs.1 rfl rfl (Nat.le_of_ble_eq_true rfl) (by decide) ?_
  refine q_ifeqB (tgt := 21) dX5_kindAt_5 (by decide) (fun h5 => ?_) (fun h5 => ?_)
  · refine r_bipush dX5_kindAt_21 (by decide) ?_
    refine q_iretF dX5_kindAt_23 rfl ?_
    first | exact (if_pos (by omega)).symm | exact (if_neg (by omega)).symm
  · refine r_aload_n dX5_kindAt_8 rfl ?_
    refine q_getR fl_X5_15 dX5_kindAt_9 hs.1 hs.2.1 ?_
    refine r_iload_n dX5_kindAt_12 rfl ?_
    refine q_iald dX5_kindAt_13 hs.2.2 (by omega) ?_
    refine r_iconst dX5_kindAt_14 ?_
    refine r_isub dX5_kindAt_15 ?_
    refine r_iconst dX5_kindAt_16 ?_
    have hfp := hf p (by omega) (by omega)
    refine r_idiv dX5_kindAt_17 (by omega) (by omega) ?_
    refine r_goto (tgt := 23) dX5_kindAt_18 (by decide) ?_
    refine q_iretF dX5_kindAt_23 rfl ?_
    first | exact (if_pos (by omega)).symm | exact (if_neg (by omega)).symm
set_option maxHeartbeats 4000000 in
set_option maxRecDepth 100000 in
theorem c_leaderAt (I : Mem) (R : RMem) {a a1 : Nat} (hs : StyAt R a a1) (hf : SV (I a1)) (p : Int) (hp : -2147483648 ≤ p ∧ p ≤ 2147483647) : CC 2 0 0 yX5_leaderAt cX5_leaderAt 2 (some .int) [.inr (some (a)), .inl (p)] (298, ShF, I, R) (PF (if 1 ≤ p ∧ p ≤ 80 ∧ I a1 p ≠ 0 then ((I a1 p - 1) % 4) else -9) I R) := by
  refine CC_of (own := RX5) (ini := false) (by decide +kernel) rfl (fun h => absurd h (by decide)) (Nat.le_of_ble_eq_true rfl) ?_
  show WW cX5_leaderAt RX5 2 (some .int) false 2 0 0 (PF (if 1 ≤ p ∧ p ≤ 80 ∧ I a1 p ≠ 0 then ((I a1 p - 1) % 4) else -9) I R) 0 0 0 [some (.inr (some (a))), some (.inl (p))] [] (298, ShF, I, R)
  refine r_aload_n dX5_leaderAt_0 rfl ?_
  refine r_iload_n dX5_leaderAt_1 rfl ?_
  refine q_callVF lk_X5_19 dX5_leaderAt_2 (c_hasStop I R hs hf p hp) (by decide) hs.1 rfl rfl (Nat.le_of_ble_eq_true rfl) (by decide) ?_
  refine q_ifeqB (tgt := 21) dX5_leaderAt_5 (by decide) (fun h5 => ?_) (fun h5 => ?_)
  · refine r_bipush dX5_leaderAt_21 (by decide) ?_
    refine q_iretF dX5_leaderAt_23 rfl ?_
    first | exact (if_pos (by omega)).symm | exact (if_neg (by omega)).symm
  · refine r_aload_n dX5_leaderAt_8 rfl ?_
    refine q_getR fl_X5_15 dX5_leaderAt_9 hs.1 hs.2.1 ?_
    refine r_iload_n dX5_leaderAt_12 rfl ?_
    refine q_iald dX5_leaderAt_13 hs.2.2 (by omega) ?_
    refine r_iconst dX5_leaderAt_14 ?_
    refine r_isub dX5_leaderAt_15 ?_
    refine r_iconst dX5_leaderAt_16 ?_
    have hfp := hf p (by omega) (by omega)
    refine r_irem dX5_leaderAt_17 (by omega) (by omega) ?_
    refine r_goto (tgt := 23) dX5_leaderAt_18 (by decide) ?_
    refine q_iretF dX5_leaderAt_23 rfl ?_
    first | exact (if_pos (by omega)).symm | exact (if_neg (by omega)).symm
set_option maxHeartbeats 4000000 in
set_option maxRecDepth 100000 in
theorem c_hasTab (I : Mem) (R : RMem) {a a1 : Nat} (hs : StyAt R a a1) (hf : SV (I a1)) (p : Int) (hp : -2147483648 ≤ p ∧ p ≤ 2147483647) : CC 2 0 0 yX5_hasTab cX5_hasTab 2 (some .boolean) [.inr (some (a)), .inl (p)] (298, ShF, I, R) (PF (b2i (1 ≤ p ∧ p ≤ 80 ∧ I a1 p ≠ 0 ∧ I a1 p ≤ 16)) I R) := by
  refine CC_of (own := RX5) (ini := false) (by decide +kernel) rfl (fun h => absurd h (by decide)) (Nat.le_of_ble_eq_true rfl) ?_
  show WW cX5_hasTab RX5 2 (some .boolean) false 2 0 0 (PF (b2i (1 ≤ p ∧ p ≤ 80 ∧ I a1 p ≠ 0 ∧ I a1 p ≤ 16)) I R) 0 0 0 [some (.inr (some (a))), some (.inl (p))] [] (298, ShF, I, R)
  refine r_aload_n dX5_hasTab_0 rfl ?_
  refine r_iload_n dX5_hasTab_1 rfl ?_
  refine q_callVF lk_X5_19 dX5_hasTab_2 (c_hasStop I R hs hf p hp) (by decide) hs.1 rfl rfl (Nat.le_of_ble_eq_true rfl) (by decide) ?_
  refine q_ifeqB (tgt := 23) dX5_hasTab_5 (by decide) (fun h5 => ?_) (fun h5 => ?_)
  · refine r_iconst dX5_hasTab_23 ?_
    refine q_zretF dX5_hasTab_24 rfl (by decide) ?_
    first | exact b2i_t (by omega) | exact b2i_f (by omega)
  · refine r_aload_n dX5_hasTab_8 rfl ?_
    refine q_getR fl_X5_15 dX5_hasTab_9 hs.1 hs.2.1 ?_
    refine r_iload_n dX5_hasTab_12 rfl ?_
    refine q_iald dX5_hasTab_13 hs.2.2 (by omega) ?_
    have hfp := hf p (by omega) (by omega)
    refine r_bipush dX5_hasTab_14 (by decide) ?_
    refine r_icmpgt (tgt := 23) dX5_hasTab_16 (by decide) (by omega) (by omega) (fun h16 => ?_) (fun h16 => ?_)
    · refine r_iconst dX5_hasTab_23 ?_
      refine q_zretF dX5_hasTab_24 rfl (by decide) ?_
      first | exact b2i_t (by omega) | exact b2i_f (by omega)
    · refine r_iconst dX5_hasTab_19 ?_
      refine r_goto (tgt := 24) dX5_hasTab_20 (by decide) ?_
      refine q_zretF dX5_hasTab_24 rfl (by decide) ?_
      first | exact b2i_t (by omega) | exact b2i_f (by omega)
set_option maxHeartbeats 4000000 in
set_option maxRecDepth 100000 in
theorem c_stopsBefore (I : Mem) (R : RMem) {a a1 : Nat} (hs : StyAt R a a1) (hf : SV (I a1)) (pos : Int) (hp : -2147483648 ≤ pos ∧ pos ≤ 2147483647) : CC 1 0 0 yX5_stopsBefore cX5_stopsBefore 4 (some .int) [.inr (some (a)), .inl (pos)] (298, ShF, I, R) (PF (cntF (I a1) (if pos - 1 < 80 then pos - 1 else 80).toNat) I R) := by
  have hloop : ∀ (n : Nat) (stops p : Int), 81 < p + n → p ≤ 81 → 1 ≤ p → stops = cntF (I a1) (p - 1).toNat → (p = 1 ∨ p ≤ pos) → WW cX5_stopsBefore RX5 4 (some .int) false 1 0 0 (PF (cntF (I a1) (if pos - 1 < 80 then pos - 1 else 80).toNat) I R) 0 0 4 [some (.inr (some (a))), some (.inl (pos)), some (.inl (stops)), some (.inl (p))] [] (298, ShF, I, R) := by
    intro n
    induction n with
    | zero => intros; exfalso; omega
    | succ n ih =>
      intro stops p g1 g2 g3 g4 g5
      refine r_iload_n dX5_stopsBefore_4 rfl ?_
      refine r_bipush dX5_stopsBefore_5 (by decide) ?_
      refine r_icmpgt (tgt := 33) dX5_stopsBefore_7 (by decide) (by omega) (by omega) (fun h7 => ?_) (fun h7 => ?_)
      · refine r_iload_n dX5_stopsBefore_33 rfl ?_
        refine q_iretF dX5_stopsBefore_34 rfl ?_
        rw [g4]
        congr 1
        split <;> omega
      · refine r_iload_n dX5_stopsBefore_10 rfl ?_
        refine r_iload_n dX5_stopsBefore_11 rfl ?_
        refine r_icmpge (tgt := 33) dX5_stopsBefore_12 (by decide) (by omega) (by omega) (fun h12 => ?_) (fun h12 => ?_)
        · refine r_iload_n dX5_stopsBefore_33 rfl ?_
          refine q_iretF dX5_stopsBefore_34 rfl ?_
          rw [g4]
          congr 1
          split <;> omega
        · refine r_aload_n dX5_stopsBefore_15 rfl ?_
          refine q_getR fl_X5_15 dX5_stopsBefore_16 hs.1 hs.2.1 ?_
          refine r_iload_n dX5_stopsBefore_19 rfl ?_
          refine q_iald dX5_stopsBefore_20 hs.2.2 (by omega) ?_
          have hfp := hf p (by omega) (by omega)
          have hc := cntF_step (I a1) (p := p) (by omega)
          refine r_ifeq (tgt := 27) dX5_stopsBefore_21 (by decide) (by omega) (fun h21 => ?_) (fun h21 => ?_)
          · rw [if_pos h21] at hc
            refine r_iinc dX5_stopsBefore_27 rfl (by decide) ?_
            dsimp only [lset]
            refine r_goto (tgt := 4) dX5_stopsBefore_30 (by decide) ?_
            exact ih _ _ (by omega) (by omega) (by omega) (by rw [show p + 1 - 1 = p by omega, hc]; omega) (by omega)
          · rw [if_neg h21] at hc
            refine r_iinc dX5_stopsBefore_24 rfl (by decide) ?_
            dsimp only [lset]
            refine r_iinc dX5_stopsBefore_27 rfl (by decide) ?_
            dsimp only [lset]
            refine r_goto (tgt := 4) dX5_stopsBefore_30 (by decide) ?_
            exact ih _ _ (by omega) (by omega) (by omega) (by rw [show p + 1 - 1 = p by omega, hc]; omega) (by omega)
  refine CC_of (own := RX5) (ini := false) (by decide +kernel) rfl (fun h => absurd h (by decide)) (Nat.le_of_ble_eq_true rfl) ?_
  show WW cX5_stopsBefore RX5 4 (some .int) false 1 0 0 (PF (cntF (I a1) (if pos - 1 < 80 then pos - 1 else 80).toNat) I R) 0 0 0 [some (.inr (some (a))), some (.inl (pos)), none, none] [] (298, ShF, I, R)
  refine r_iconst dX5_stopsBefore_0 ?_
  refine r_istore_n dX5_stopsBefore_1 (by decide) ?_
  dsimp only [lset]
  refine r_iconst dX5_stopsBefore_2 ?_
  refine r_istore_n dX5_stopsBefore_3 (by decide) ?_
  dsimp only [lset]
  exact hloop 81 _ _ (by omega) (by omega) (by omega) rfl (by omega)
set_option maxHeartbeats 4000000 in
set_option maxRecDepth 100000 in
theorem c_positionOf (I : Mem) (R : RMem) {a a1 : Nat} (hs : StyAt R a a1) (hf : SV (I a1)) (k : Int) (hp : -2147483648 ≤ k ∧ k ≤ 2147483647) : CC 1 0 0 yX5_positionOf cX5_positionOf 4 (some .int) [.inr (some (a)), .inl (k)] (298, ShF, I, R) (PY (PosR (I a1) k) I R) := by
  have hloop : ∀ (n : Nat) (stops p : Int), 81 < p + n → p ≤ 81 → 1 ≤ p → stops = cntF (I a1) (p - 1).toNat → (∀ q : Int, q < p → StpF (I a1) q → cntF (I a1) (q - 1).toNat ≠ k) → WW cX5_positionOf RX5 4 (some .int) false 1 0 0 (PY (PosR (I a1) k) I R) 0 0 4 [some (.inr (some (a))), some (.inl (k)), some (.inl (stops)), some (.inl (p))] [] (298, ShF, I, R) := by
    intro n
    induction n with
    | zero => intros; exfalso; omega
    | succ n ih =>
      intro stops p g1 g2 g3 g4 g5
      refine r_iload_n dX5_positionOf_4 rfl ?_
      refine r_bipush dX5_positionOf_5 (by decide) ?_
      refine r_icmpgt (tgt := 35) dX5_positionOf_7 (by decide) (by omega) (by omega) (fun h7 => ?_) (fun h7 => ?_)
      · refine r_bipush dX5_positionOf_35 (by decide) ?_
        refine q_iretY dX5_positionOf_37 rfl ?_
        exact Or.inr ⟨rfl, fun q hq => g5 q (by have := hq.2.1; omega) hq⟩
      · refine r_aload_n dX5_positionOf_10 rfl ?_
        refine q_getR fl_X5_15 dX5_positionOf_11 hs.1 hs.2.1 ?_
        refine r_iload_n dX5_positionOf_14 rfl ?_
        refine q_iald dX5_positionOf_15 hs.2.2 (by omega) ?_
        have hfp := hf p (by omega) (by omega)
        have hc := cntF_step (I a1) (p := p) (by omega)
        have hb := cntF_bd (I a1) (p - 1).toNat
        refine r_ifeq (tgt := 29) dX5_positionOf_16 (by decide) (by omega) (fun h16 => ?_) (fun h16 => ?_)
        · rw [if_pos h16] at hc
          refine r_iinc dX5_positionOf_29 rfl (by decide) ?_
          dsimp only [lset]
          refine r_goto (tgt := 4) dX5_positionOf_32 (by decide) ?_
          exact ih _ _ (by omega) (by omega) (by omega) (by rw [show p + 1 - 1 = p by omega, hc]; omega) (fun q hq hq2 => by
            by_cases e : q = p
            · first | exact absurd h16 (e ▸ hq2.2.2) | (rw [e]; omega)
            · exact g5 q (by omega) hq2)
        · rw [if_neg h16] at hc
          refine r_iload_n dX5_positionOf_19 rfl ?_
          refine r_iload_n dX5_positionOf_20 rfl ?_
          refine r_icmpne (tgt := 26) dX5_positionOf_21 (by decide) (by omega) (by omega) (fun h21 => ?_) (fun h21 => ?_)
          · refine r_iinc dX5_positionOf_26 rfl (by decide) ?_
            dsimp only [lset]
            refine r_iinc dX5_positionOf_29 rfl (by decide) ?_
            dsimp only [lset]
            refine r_goto (tgt := 4) dX5_positionOf_32 (by decide) ?_
            exact ih _ _ (by omega) (by omega) (by omega) (by rw [show p + 1 - 1 = p by omega, hc]; omega) (fun q hq hq2 => by
              by_cases e : q = p
              · first | exact absurd h16 (e ▸ hq2.2.2) | (rw [e]; omega)
              · exact g5 q (by omega) hq2)
          · refine r_iload_n dX5_positionOf_24 rfl ?_
            refine q_iretY dX5_positionOf_25 rfl ?_
            exact Or.inl ⟨⟨by omega, by omega, h16⟩, by omega⟩
  refine CC_of (own := RX5) (ini := false) (by decide +kernel) rfl (fun h => absurd h (by decide)) (Nat.le_of_ble_eq_true rfl) ?_
  show WW cX5_positionOf RX5 4 (some .int) false 1 0 0 (PY (PosR (I a1) k) I R) 0 0 0 [some (.inr (some (a))), some (.inl (k)), none, none] [] (298, ShF, I, R)
  refine r_iconst dX5_positionOf_0 ?_
  refine r_istore_n dX5_positionOf_1 (by decide) ?_
  dsimp only [lset]
  refine r_iconst dX5_positionOf_2 ?_
  refine r_istore_n dX5_positionOf_3 (by decide) ?_
  dsimp only [lset]
  exact hloop 81 _ _ (by omega) (by omega) (by omega) rfl (fun q hq hq2 => by have := hq2.1; omega)
set_option maxHeartbeats 4000000 in
set_option maxRecDepth 100000 in
theorem c_lastTab (I : Mem) (R : RMem) {a a1 : Nat} (hs : StyAt R a a1) (hf : SV (I a1))  : CC 3 0 0 yX5_lastTab cX5_lastTab 2 (some .int) [.inr (some (a))] (298, ShF, I, R) (PY (LastR (I a1)) I R) := by
  have hloop : ∀ (n : Nat) (p : Int), p < n → p ≤ 80 → 0 ≤ p → (∀ q : Int, TabF (I a1) q → q ≤ p) → WW cX5_lastTab RX5 2 (some .int) false 3 0 0 (PY (LastR (I a1)) I R) 0 0 3 [some (.inr (some (a))), some (.inl (p))] [] (298, ShF, I, R) := by
    intro n
    induction n with
    | zero => intros; exfalso; omega
    | succ n ih =>
      intro p g1 g2 g3 g4
      refine r_iload_n dX5_lastTab_3 rfl ?_
      refine r_ifle (tgt := 23) dX5_lastTab_4 (by decide) (by omega) (fun h4 => ?_) (fun h4 => ?_)
      · refine r_iconst dX5_lastTab_23 ?_
        refine q_iretY dX5_lastTab_24 rfl ?_
        exact ⟨Or.inr rfl, fun q hq => by have := g4 q hq; omega⟩
      · refine r_aload_n dX5_lastTab_7 rfl ?_
        refine r_iload_n dX5_lastTab_8 rfl ?_
        refine q_callVF lk_X5_27 dX5_lastTab_9 (c_hasTab I R hs hf p (by omega)) (by decide) hs.1 rfl rfl (Nat.le_of_ble_eq_true rfl) (by decide) ?_
        refine q_ifeqB (tgt := 17) dX5_lastTab_12 (by decide) (fun h12 => ?_) (fun h12 => ?_)
        · refine r_iinc dX5_lastTab_17 rfl (by decide) ?_
          dsimp only [lset]
          refine r_goto (tgt := 3) dX5_lastTab_20 (by decide) ?_
          exact ih _ (by omega) (by omega) (by omega) (fun q hq => by
            have h9 := g4 q hq
            by_cases e : q = p
            · exact absurd (e ▸ ⟨hq.1, hq.2.1, hq.2.2.1, hq.2.2.2⟩) h12
            · omega)
        · refine r_iload_n dX5_lastTab_15 rfl ?_
          refine q_iretY dX5_lastTab_16 rfl ?_
          exact ⟨Or.inl ⟨h12.1, h12.2.1, h12.2.2.1, h12.2.2.2⟩, g4⟩
  refine CC_of (own := RX5) (ini := false) (by decide +kernel) rfl (fun h => absurd h (by decide)) (Nat.le_of_ble_eq_true rfl) ?_
  show WW cX5_lastTab RX5 2 (some .int) false 3 0 0 (PY (LastR (I a1)) I R) 0 0 0 [some (.inr (some (a))), none] [] (298, ShF, I, R)
  refine r_bipush dX5_lastTab_0 (by decide) ?_
  refine r_istore_n dX5_lastTab_2 (by decide) ?_
  dsimp only [lset]
  exact hloop 81 _ (by omega) (by omega) (by omega) (fun q hq => hq.2.1)
set_option maxHeartbeats 4000000 in
set_option maxRecDepth 100000 in
theorem c_tabBehind (I : Mem) (R : RMem) {a a1 : Nat} (hs : StyAt R a a1) (hf : SV (I a1)) (c : Int) (hc : 0 ≤ c ∧ c ≤ 100000) : CC 3 0 0 yX5_tabBehind cX5_tabBehind 3 (some .int) [.inr (some (a)), .inl (c)] (298, ShF, I, R) (PY (BehR (I a1) c) I R) := by
  have hloop : ∀ (n : Nat) (p : Int), 100082 < p + n → c < p → p ≤ 100001 → (∀ q : Int, TabF (I a1) q → c < q → p ≤ q) → WW cX5_tabBehind RX5 3 (some .int) false 3 0 0 (PY (BehR (I a1) c) I R) 0 0 4 [some (.inr (some (a))), some (.inl (c)), some (.inl (p))] [] (298, ShF, I, R) := by
    intro n
    induction n with
    | zero => intros; exfalso; omega
    | succ n ih =>
      intro p g1 g2 g3 g4
      refine r_iload_n dX5_tabBehind_4 rfl ?_
      refine r_bipush dX5_tabBehind_5 (by decide) ?_
      refine r_icmpgt (tgt := 26) dX5_tabBehind_7 (by decide) (by omega) (by omega) (fun h7 => ?_) (fun h7 => ?_)
      · refine r_bipush dX5_tabBehind_26 (by decide) ?_
        refine q_iretY dX5_tabBehind_28 rfl ?_
        exact Or.inr ⟨rfl, fun q hq => by
          have h1 := hq.2.1
          by_cases e : c < q
          · have := g4 q hq e
            omega
          · omega⟩
      · refine r_aload_n dX5_tabBehind_10 rfl ?_
        refine r_iload_n dX5_tabBehind_11 rfl ?_
        refine q_callVF lk_X5_27 dX5_tabBehind_12 (c_hasTab I R hs hf p (by omega)) (by decide) hs.1 rfl rfl (Nat.le_of_ble_eq_true rfl) (by decide) ?_
        refine q_ifeqB (tgt := 20) dX5_tabBehind_15 (by decide) (fun h15 => ?_) (fun h15 => ?_)
        · refine r_iinc dX5_tabBehind_20 rfl (by decide) ?_
          dsimp only [lset]
          refine r_goto (tgt := 4) dX5_tabBehind_23 (by decide) ?_
          exact ih _ (by omega) (by omega) (by omega) (fun q hq h => by
            have h9 := g4 q hq h
            by_cases e : q = p
            · exact absurd (e ▸ ⟨hq.1, hq.2.1, hq.2.2.1, hq.2.2.2⟩) h15
            · omega)
        · refine r_iload_n dX5_tabBehind_18 rfl ?_
          refine q_iretY dX5_tabBehind_19 rfl ?_
          exact Or.inl ⟨⟨h15.1, h15.2.1, h15.2.2.1, h15.2.2.2⟩, by omega, g4⟩
  refine CC_of (own := RX5) (ini := false) (by decide +kernel) rfl (fun h => absurd h (by decide)) (Nat.le_of_ble_eq_true rfl) ?_
  show WW cX5_tabBehind RX5 3 (some .int) false 3 0 0 (PY (BehR (I a1) c) I R) 0 0 0 [some (.inr (some (a))), some (.inl (c)), none] [] (298, ShF, I, R)
  refine r_iload_n dX5_tabBehind_0 rfl ?_
  refine r_iconst dX5_tabBehind_1 ?_
  refine r_iadd dX5_tabBehind_2 ?_
  refine r_istore_n dX5_tabBehind_3 (by decide) ?_
  dsimp only [lset]
  exact hloop 100082 _ (by omega) (by omega) (by omega) (fun q hq h => by omega)
end
section
/-! what writes into styles, paragraphs and states -/
theorem u2_at {α : Type} (f : Nat → Int → α) (a : Nat) (j : Int) (z : α) (a' : Nat) (j' : Int) : u2 f a j z a' j' = if a' = a ∧ j' = j then z else f a' j' := rfl
theorem ro_sty {R : RMem} (h : RefOk R) {k : Nat} (hk : k < 7) {i : Int} (hi : 0 ≤ i ∧ i < 4) : R (stB k + 1) i = some (stB k + (3 + 2 * i.toNat)) ∧ StyAt R (stB k + (3 + 2 * i.toNat)) (stB k + (4 + 2 * i.toNat)) := by
  obtain ⟨j, rfl⟩ : ∃ j : Nat, i = j := ⟨i.toNat, by omega⟩
  have h1 := (ro_st h hk).2.2.1 j (by omega)
  rw [Int.toNat_natCast]
  exact ⟨h1.1, sf_Y hk (by omega), h1.2, sf_YA hk (by omega)⟩
def ParAt (R : RMem) (a a1 : Nat) : Prop := SF a 1 0 ∧ R a 2 = some a1 ∧ SF a1 100 80
theorem ro_par {R : RMem} (h : RefOk R) {k : Nat} (hk : k < 7) {q : Nat} (hq : q < 8) : ParAt R (stB k + (11 + 2 * q)) (stB k + (12 + 2 * q)) := ⟨sf_P hk hq, (ro_st h hk).2.2.2 q hq, sf_PA hk hq⟩
theorem stB_apart {k q : Nat} (h : k ≠ q) : stB k + 27 ≤ stB q ∨ stB q + 27 ≤ stB k := by
  unfold stB
  split <;> split <;> omega
theorem stB_in {k : Nat} (h : k < 7) : 1 ≤ stB k ∧ stB k + 27 ≤ 290 ∧ (k = 0 → stB k = 1) ∧ (k ≠ 0 → 128 ≤ stB k) := by
  unfold stB
  split <;> omega
set_option maxHeartbeats 4000000 in
set_option maxRecDepth 100000 in
theorem c_putStop (I : Mem) (R : RMem) {a a1 : Nat} (hs : StyAt R a a1) (p kd le : Int) (hp : 1 ≤ p ∧ p ≤ 80) (hk : 0 ≤ kd ∧ kd ≤ 4) (hl : 0 ≤ le ∧ le ≤ 3) : CC 2 0 0 yX5_putStop cX5_putStop 4 none [.inr (some (a)), .inl (p), .inl (kd), .inl (le)] (298, ShF, I, R) (PW R (fun I1 => I1 = u2 I a1 p (1 + kd * 4 + le))) := by
  refine CC_of (own := RX5) (ini := false) (by decide +kernel) rfl (fun h => absurd h (by decide)) (Nat.le_of_ble_eq_true rfl) ?_
  show WW cX5_putStop RX5 4 none false 2 0 0 (PW R (fun I1 => I1 = u2 I a1 p (1 + kd * 4 + le))) 0 0 0 [some (.inr (some (a))), some (.inl (p)), some (.inl (kd)), some (.inl (le))] [] (298, ShF, I, R)
  refine r_iload_n dX5_putStop_0 rfl ?_
  refine r_iconst dX5_putStop_1 ?_
  refine r_bipush dX5_putStop_2 (by decide) ?_
  refine q_callSF lk_X5_23 dX5_putStop_4 (c_isWithin I R p 1 80 (by omega) (by decide) (by decide)) (by decide) rfl rfl (Nat.le_of_ble_eq_true rfl) (by decide) ?_
  refine q_ifeqB (tgt := 23) dX5_putStop_7 (by decide) (fun h7 => ?_) (fun h7 => ?_)
  · exact absurd hp h7
  · refine r_aload_n dX5_putStop_10 rfl ?_
    refine q_getR fl_X5_15 dX5_putStop_11 hs.1 hs.2.1 ?_
    refine r_iload_n dX5_putStop_14 rfl ?_
    refine r_iconst dX5_putStop_15 ?_
    refine r_iload_n dX5_putStop_16 rfl ?_
    refine r_iconst dX5_putStop_17 ?_
    refine r_imul dX5_putStop_18 ?_
    refine r_iadd dX5_putStop_19 ?_
    refine r_iload_n dX5_putStop_20 rfl ?_
    refine r_iadd dX5_putStop_21 ?_
    refine q_iast dX5_putStop_22 hs.2.2 (by omega) ?_
    refine q_vretW dX5_putStop_23 rfl ?_
    rfl
set_option maxHeartbeats 4000000 in
set_option maxRecDepth 100000 in
theorem c_dropStop (I : Mem) (R : RMem) {a a1 : Nat} (hs : StyAt R a a1) (p : Int) (hp : 1 ≤ p ∧ p ≤ 80) : CC 2 0 0 yX5_dropStop cX5_dropStop 2 none [.inr (some (a)), .inl (p)] (298, ShF, I, R) (PW R (fun I1 => I1 = u2 I a1 p 0)) := by
  refine CC_of (own := RX5) (ini := false) (by decide +kernel) rfl (fun h => absurd h (by decide)) (Nat.le_of_ble_eq_true rfl) ?_
  show WW cX5_dropStop RX5 2 none false 2 0 0 (PW R (fun I1 => I1 = u2 I a1 p 0)) 0 0 0 [some (.inr (some (a))), some (.inl (p))] [] (298, ShF, I, R)
  refine r_iload_n dX5_dropStop_0 rfl ?_
  refine r_iconst dX5_dropStop_1 ?_
  refine r_bipush dX5_dropStop_2 (by decide) ?_
  refine q_callSF lk_X5_23 dX5_dropStop_4 (c_isWithin I R p 1 80 (by omega) (by decide) (by decide)) (by decide) rfl rfl (Nat.le_of_ble_eq_true rfl) (by decide) ?_
  refine q_ifeqB (tgt := 17) dX5_dropStop_7 (by decide) (fun h7 => ?_) (fun h7 => ?_)
  · exact absurd hp h7
  · refine r_aload_n dX5_dropStop_10 rfl ?_
    refine q_getR fl_X5_15 dX5_dropStop_11 hs.1 hs.2.1 ?_
    refine r_iload_n dX5_dropStop_14 rfl ?_
    refine r_iconst dX5_dropStop_15 ?_
    refine q_iast dX5_dropStop_16 hs.2.2 (by omega) ?_
    refine q_vretW dX5_dropStop_17 rfl ?_
    rfl
set_option maxHeartbeats 4000000 in
set_option maxRecDepth 100000 in
theorem c_dropStops (I : Mem) (R : RMem) {a a1 : Nat} (hs : StyAt R a a1)  : CC 1 0 0 yX5_dropStops cX5_dropStops 2 none [.inr (some (a))] (298, ShF, I, R) (PW R (fun I1 => ∀ (x : Nat) (j : Int), I1 x j = if x = a1 ∧ 1 ≤ j ∧ j ≤ 80 then 0 else I x j)) := by
  have hloop : ∀ (n : Nat) (p : Int) (I1 : Mem), 81 < p + n → 1 ≤ p → p ≤ 81 → (∀ (x : Nat) (j : Int), I1 x j = if x = a1 ∧ 1 ≤ j ∧ j < p then 0 else I x j) → WW cX5_dropStops RX5 2 none false 1 0 0 (PW R (fun I1 => ∀ (x : Nat) (j : Int), I1 x j = if x = a1 ∧ 1 ≤ j ∧ j ≤ 80 then 0 else I x j)) 0 0 2 [some (.inr (some (a))), some (.inl (p))] [] (298, ShF, I1, R) := by
    intro n
    induction n with
    | zero => intros; exfalso; omega
    | succ n ih =>
      intro p I1 g1 g2 g3 g4
      refine r_iload_n dX5_dropStops_2 rfl ?_
      refine r_bipush dX5_dropStops_3 (by decide) ?_
      refine r_icmpgt (tgt := 21) dX5_dropStops_5 (by decide) (by omega) (by omega) (fun h5 => ?_) (fun h5 => ?_)
      · refine q_vretW dX5_dropStops_21 rfl ?_
        intro x j
        rw [g4 x j]
        by_cases h : x = a1 ∧ 1 ≤ j ∧ j ≤ 80
        · rw [if_pos h, if_pos (by omega)]
        · rw [if_neg h, if_neg (by omega)]
      · refine r_aload_n dX5_dropStops_8 rfl ?_
        refine q_getR fl_X5_15 dX5_dropStops_9 hs.1 hs.2.1 ?_
        refine r_iload_n dX5_dropStops_12 rfl ?_
        refine r_iconst dX5_dropStops_13 ?_
        refine q_iast dX5_dropStops_14 hs.2.2 (by omega) ?_
        refine r_iinc dX5_dropStops_15 rfl (by decide) ?_
        dsimp only [lset]
        refine r_goto (tgt := 2) dX5_dropStops_18 (by decide) ?_
        refine ih _ _ (by omega) (by omega) (by omega) (fun x j => ?_)
        rw [u2_at, g4 x j]
        by_cases h : x = a1 ∧ j = p
        · rw [if_pos h, if_pos (by omega)]
        · rw [if_neg h]
          by_cases h2 : x = a1 ∧ 1 ≤ j ∧ j < p
          · rw [if_pos h2, if_pos (by omega)]
          · rw [if_neg h2, if_neg (by omega)]
  refine CC_of (own := RX5) (ini := false) (by decide +kernel) rfl (fun h => absurd h (by decide)) (Nat.le_of_ble_eq_true rfl) ?_
  show WW cX5_dropStops RX5 2 none false 1 0 0 (PW R (fun I1 => ∀ (x : Nat) (j : Int), I1 x j = if x = a1 ∧ 1 ≤ j ∧ j ≤ 80 then 0 else I x j)) 0 0 0 [some (.inr (some (a))), none] [] (298, ShF, I, R)
  refine r_iconst dX5_dropStops_0 ?_
  refine r_istore_n dX5_dropStops_1 (by decide) ?_
  dsimp only [lset]
  exact hloop 81 _ _ (by omega) (by omega) (by omega) (fun x j => by rw [if_neg (by omega)])
set_option maxHeartbeats 4000000 in
set_option maxRecDepth 100000 in
theorem c_takeStopsOf (I : Mem) (R : RMem) {a a1 : Nat} (hs : StyAt R a a1) {o o1 : Nat} (ho : StyAt R o o1) : CC 1 0 0 yX5_takeStopsOf cX5_takeStopsOf 3 none [.inr (some (a)), .inr (some (o))] (298, ShF, I, R) (PW R (fun I1 => ∀ (x : Nat) (j : Int), I1 x j = if x = a1 ∧ 1 ≤ j ∧ j ≤ 80 then I o1 j else I x j)) := by
  have hloop : ∀ (n : Nat) (p : Int) (I1 : Mem), 81 < p + n → 1 ≤ p → p ≤ 81 → (∀ (x : Nat) (j : Int), I1 x j = if x = a1 ∧ 1 ≤ j ∧ j < p then I o1 j else I x j) → WW cX5_takeStopsOf RX5 3 none false 1 0 0 (PW R (fun I1 => ∀ (x : Nat) (j : Int), I1 x j = if x = a1 ∧ 1 ≤ j ∧ j ≤ 80 then I o1 j else I x j)) 0 0 2 [some (.inr (some (a))), some (.inr (some (o))), some (.inl (p))] [] (298, ShF, I1, R) := by
    intro n
    induction n with
    | zero => intros; exfalso; omega
    | succ n ih =>
      intro p I1 g1 g2 g3 g4
      refine r_iload_n dX5_takeStopsOf_2 rfl ?_
      refine r_bipush dX5_takeStopsOf_3 (by decide) ?_
      refine r_icmpgt (tgt := 26) dX5_takeStopsOf_5 (by decide) (by omega) (by omega) (fun h5 => ?_) (fun h5 => ?_)
      · refine q_vretW dX5_takeStopsOf_26 rfl ?_
        intro x j
        rw [g4 x j]
        by_cases h : x = a1 ∧ 1 ≤ j ∧ j ≤ 80
        · rw [if_pos h, if_pos (by omega)]
        · rw [if_neg h, if_neg (by omega)]
      · refine r_aload_n dX5_takeStopsOf_8 rfl ?_
        refine q_getR fl_X5_15 dX5_takeStopsOf_9 hs.1 hs.2.1 ?_
        refine r_iload_n dX5_takeStopsOf_12 rfl ?_
        refine r_aload_n dX5_takeStopsOf_13 rfl ?_
        refine q_getR fl_X5_15 dX5_takeStopsOf_14 ho.1 ho.2.1 ?_
        refine r_iload_n dX5_takeStopsOf_17 rfl ?_
        refine q_iald dX5_takeStopsOf_18 ho.2.2 (by omega) ?_
        refine q_iast dX5_takeStopsOf_19 hs.2.2 (by omega) ?_
        refine r_iinc dX5_takeStopsOf_20 rfl (by decide) ?_
        dsimp only [lset]
        refine r_goto (tgt := 2) dX5_takeStopsOf_23 (by decide) ?_
        refine ih _ _ (by omega) (by omega) (by omega) (fun x j => ?_)
        rw [u2_at, g4 x j, g4 o1 p, if_neg (show ¬ (o1 = a1 ∧ 1 ≤ p ∧ p < p) by omega)]
        by_cases h : x = a1 ∧ j = p
        · rw [if_pos h, if_pos (by omega), h.2]
        · rw [if_neg h]
          by_cases h2 : x = a1 ∧ 1 ≤ j ∧ j < p
          · rw [if_pos h2, if_pos (by omega)]
          · rw [if_neg h2, if_neg (by omega)]
  refine CC_of (own := RX5) (ini := false) (by decide +kernel) rfl (fun h => absurd h (by decide)) (Nat.le_of_ble_eq_true rfl) ?_
  show WW cX5_takeStopsOf RX5 3 none false 1 0 0 (PW R (fun I1 => ∀ (x : Nat) (j : Int), I1 x j = if x = a1 ∧ 1 ≤ j ∧ j ≤ 80 then I o1 j else I x j)) 0 0 0 [some (.inr (some (a))), some (.inr (some (o))), none] [] (298, ShF, I, R)
  refine r_iconst dX5_takeStopsOf_0 ?_
  refine r_istore_n dX5_takeStopsOf_1 (by decide) ?_
  dsimp only [lset]
  exact hloop 81 _ _ (by omega) (by omega) (by omega) (fun x j => by rw [if_neg (by omega)])
set_option maxHeartbeats 4000000 in
set_option maxRecDepth 100000 in
theorem c_append (I : Mem) (R : RMem) {a a1 : Nat} (hs : ParAt R a a1) (hne : a ≠ a1) (c : Int) (hl : 0 ≤ I a 1 ∧ I a 1 ≤ 79) : CC 2 0 0 yX1_append cX1_append 2 none [.inr (some (a)), .inl (c)] (298, ShF, I, R) (PW R (fun I1 => I1 = u2 (u2 I a1 (I a 1) c) a 1 (I a 1 + 1))) := by
  refine CC_of (own := RX1) (ini := false) (by decide +kernel) rfl (fun h => absurd h (by decide)) (Nat.le_of_ble_eq_true rfl) ?_
  show WW cX1_append RX1 2 none false 2 0 0 (PW R (fun I1 => I1 = u2 (u2 I a1 (I a 1) c) a 1 (I a 1 + 1))) 0 0 0 [some (.inr (some (a))), some (.inl (c))] [] (298, ShF, I, R)
  refine r_aload_n dX1_append_0 rfl ?_
  refine q_getI fl_X1_15 dX1_append_1 hs.1 ?_
  refine r_iconst dX1_append_4 ?_
  refine r_bipush dX1_append_5 (by decide) ?_
  refine q_callSF lk_X1_19 dX1_append_7 (c_isWithin I R (I a 1) 0 79 (by omega) (by decide) (by decide)) (by decide) rfl rfl (Nat.le_of_ble_eq_true rfl) (by decide) ?_
  refine q_ifeqB (tgt := 33) dX1_append_10 (by decide) (fun h10 => ?_) (fun h10 => ?_)
  · exact absurd hl h10
  · refine r_aload_n dX1_append_13 rfl ?_
    refine q_getR fl_X1_9 dX1_append_14 hs.1 hs.2.1 ?_
    refine r_aload_n dX1_append_17 rfl ?_
    refine q_getI fl_X1_15 dX1_append_18 hs.1 ?_
    refine r_iload_n dX1_append_21 rfl ?_
    refine q_iast dX1_append_22 hs.2.2 (by omega) ?_
    refine r_aload_n dX1_append_23 rfl ?_
    refine r_dup dX1_append_24 ?_
    refine q_getI fl_X1_15 dX1_append_25 hs.1 ?_
    refine r_iconst dX1_append_28 ?_
    refine r_iadd dX1_append_29 ?_
    refine q_putI fl_X1_15 dX1_append_30 hs.1 ?_
    refine q_vretW dX1_append_33 rfl ?_
    rw [u2_n (Or.inl hne)]
set_option maxHeartbeats 4000000 in
set_option maxRecDepth 100000 in
theorem c_characterAt (I : Mem) (R : RMem) {a a1 : Nat} (hs : ParAt R a a1) (i : Int) (hi : -2147483648 ≤ i ∧ i ≤ 2147483647) (hl : 0 ≤ I a 1 ∧ I a 1 ≤ 80) : CC 1 0 0 yX1_characterAt cX1_characterAt 3 (some .int) [.inr (some (a)), .inl (i)] (298, ShF, I, R) (PF (if 0 ≤ i ∧ i < I a 1 then I a1 i else -9) I R) := by
  refine CC_of (own := RX1) (ini := false) (by decide +kernel) rfl (fun h => absurd h (by decide)) (Nat.le_of_ble_eq_true rfl) ?_
  show WW cX1_characterAt RX1 3 (some .int) false 1 0 0 (PF (if 0 ≤ i ∧ i < I a 1 then I a1 i else -9) I R) 0 0 0 [some (.inr (some (a))), some (.inl (i)), none] [] (298, ShF, I, R)
  refine r_iload_n dX1_characterAt_0 rfl ?_
  refine r_iflt (tgt := 22) dX1_characterAt_1 (by decide) (by omega) (fun h1 => ?_) (fun h1 => ?_)
  · refine r_iconst dX1_characterAt_22 ?_
    refine r_istore_n dX1_characterAt_23 (by decide) ?_
    dsimp only [lset]
    refine r_iload_n dX1_characterAt_24 rfl ?_
    refine r_ifeq (tgt := 37) dX1_characterAt_25 (by decide) (by decide) (fun _ => ?_) (fun h => absurd h (by decide))
    refine r_bipush dX1_characterAt_37 (by decide) ?_
    refine q_iretF dX1_characterAt_39 rfl ?_
    first | exact (if_pos (by omega)).symm | exact (if_neg (by omega)).symm
  · refine r_iload_n dX1_characterAt_4 rfl ?_
    refine r_aload_n dX1_characterAt_5 rfl ?_
    refine q_getI fl_X1_15 dX1_characterAt_6 hs.1 ?_
    refine r_icmpge (tgt := 22) dX1_characterAt_9 (by decide) (by omega) (by omega) (fun h9 => ?_) (fun h9 => ?_)
    · refine r_iconst dX1_characterAt_22 ?_
      refine r_istore_n dX1_characterAt_23 (by decide) ?_
      dsimp only [lset]
      refine r_iload_n dX1_characterAt_24 rfl ?_
      refine r_ifeq (tgt := 37) dX1_characterAt_25 (by decide) (by decide) (fun _ => ?_) (fun h => absurd h (by decide))
      refine r_bipush dX1_characterAt_37 (by decide) ?_
      refine q_iretF dX1_characterAt_39 rfl ?_
      first | exact (if_pos (by omega)).symm | exact (if_neg (by omega)).symm
    · refine r_iload_n dX1_characterAt_12 rfl ?_
      refine r_bipush dX1_characterAt_13 (by decide) ?_
      refine r_icmpge (tgt := 22) dX1_characterAt_15 (by decide) (by omega) (by omega) (fun h15 => ?_) (fun h15 => ?_)
      · refine r_iconst dX1_characterAt_22 ?_
        refine r_istore_n dX1_characterAt_23 (by decide) ?_
        dsimp only [lset]
        refine r_iload_n dX1_characterAt_24 rfl ?_
        refine r_ifeq (tgt := 37) dX1_characterAt_25 (by decide) (by decide) (fun _ => ?_) (fun h => absurd h (by decide))
        refine r_bipush dX1_characterAt_37 (by decide) ?_
        refine q_iretF dX1_characterAt_39 rfl ?_
        first | exact (if_pos (by omega)).symm | exact (if_neg (by omega)).symm
      · refine r_iconst dX1_characterAt_18 ?_
        refine r_goto (tgt := 23) dX1_characterAt_19 (by decide) ?_
        refine r_istore_n dX1_characterAt_23 (by decide) ?_
        dsimp only [lset]
        refine r_iload_n dX1_characterAt_24 rfl ?_
        refine r_ifeq (tgt := 37) dX1_characterAt_25 (by decide) (by decide) (fun h => absurd h (by decide)) (fun _ => ?_)
        refine r_aload_n dX1_characterAt_28 rfl ?_
        refine q_getR fl_X1_9 dX1_characterAt_29 hs.1 hs.2.1 ?_
        refine r_iload_n dX1_characterAt_32 rfl ?_
        refine q_iald dX1_characterAt_33 hs.2.2 (by omega) ?_
        refine r_goto (tgt := 39) dX1_characterAt_34 (by decide) ?_
        refine q_iretF dX1_characterAt_39 rfl ?_
        first | exact (if_pos (by omega)).symm | exact (if_neg (by omega)).symm
set_option maxHeartbeats 4000000 in
set_option maxRecDepth 100000 in
theorem c_takeFrom (I : Mem) (R : RMem) {a a1 : Nat} (hs : ParAt R a a1) {o o1 : Nat} (ho : ParAt R o o1) (hd : a ≠ a1 ∧ o ≠ a ∧ o ≠ a1 ∧ o1 ≠ a ∧ o1 ≠ a1) : CC 1 0 0 yX1_takeFrom cX1_takeFrom 3 none [.inr (some (a)), .inr (some (o))] (298, ShF, I, R) (PW R (fun I1 => I1 a 0 = I o 0 ∧ I1 a 1 = I o 1 ∧ (∀ j : Int, 0 ≤ j → j < 80 → I1 a1 j = I o1 j) ∧ ∀ (x : Nat) (j : Int), x ≠ a → x ≠ a1 → I1 x j = I x j)) := by
  have hloop : ∀ (n : Nat) (p : Int) (I1 : Mem), 80 < p + n → 0 ≤ p → p ≤ 80 → I1 a 0 = I o 0 → I1 a 1 = I o 1 → (∀ j : Int, 0 ≤ j → j < p → I1 a1 j = I o1 j) → (∀ (x : Nat) (j : Int), x ≠ a → x ≠ a1 → I1 x j = I x j) → WW cX1_takeFrom RX1 3 none false 1 0 0 (PW R (fun I1 => I1 a 0 = I o 0 ∧ I1 a 1 = I o 1 ∧ (∀ j : Int, 0 ≤ j → j < 80 → I1 a1 j = I o1 j) ∧ ∀ (x : Nat) (j : Int), x ≠ a → x ≠ a1 → I1 x j = I x j)) 0 0 18 [some (.inr (some (a))), some (.inr (some (o))), some (.inl (p))] [] (298, ShF, I1, R) := by
    intro n
    induction n with
    | zero => intros; exfalso; omega
    | succ n ih =>
      intro p I1 g1 g2 g3 g4 g5 g6 g7
      refine r_iload_n dX1_takeFrom_18 rfl ?_
      refine r_bipush dX1_takeFrom_19 (by decide) ?_
      refine r_icmpge (tgt := 42) dX1_takeFrom_21 (by decide) (by omega) (by omega) (fun h21 => ?_) (fun h21 => ?_)
      · refine q_vretW dX1_takeFrom_42 rfl ?_
        exact ⟨g4, g5, fun j h1 h2 => g6 j h1 (by omega), g7⟩
      · refine r_aload_n dX1_takeFrom_24 rfl ?_
        refine q_getR fl_X1_9 dX1_takeFrom_25 hs.1 hs.2.1 ?_
        refine r_iload_n dX1_takeFrom_28 rfl ?_
        refine r_aload_n dX1_takeFrom_29 rfl ?_
        refine q_getR fl_X1_9 dX1_takeFrom_30 ho.1 ho.2.1 ?_
        refine r_iload_n dX1_takeFrom_33 rfl ?_
        refine q_iald dX1_takeFrom_34 ho.2.2 (by omega) ?_
        refine q_iast dX1_takeFrom_35 hs.2.2 (by omega) ?_
        refine r_iinc dX1_takeFrom_36 rfl (by decide) ?_
        dsimp only [lset]
        refine r_goto (tgt := 18) dX1_takeFrom_39 (by decide) ?_
        refine ih _ _ (by omega) (by omega) (by omega) (by rw [u2_n (Or.inl hd.1)]; exact g4) (by rw [u2_n (Or.inl hd.1)]; exact g5) (fun j h1 h2 => ?_) (fun x j h1 h2 => by rw [u2_n (Or.inl h2)]; exact g7 x j h1 h2)
        rw [u2_at]
        by_cases h : a1 = a1 ∧ j = p
        · rw [if_pos h, h.2]
          exact g7 o1 p hd.2.2.2.1 hd.2.2.2.2
        · rw [if_neg h]
          exact g6 j h1 (by omega)
  refine CC_of (own := RX1) (ini := false) (by decide +kernel) rfl (fun h => absurd h (by decide)) (Nat.le_of_ble_eq_true rfl) ?_
  show WW cX1_takeFrom RX1 3 none false 1 0 0 (PW R (fun I1 => I1 a 0 = I o 0 ∧ I1 a 1 = I o 1 ∧ (∀ j : Int, 0 ≤ j → j < 80 → I1 a1 j = I o1 j) ∧ ∀ (x : Nat) (j : Int), x ≠ a → x ≠ a1 → I1 x j = I x j)) 0 0 0 [some (.inr (some (a))), some (.inr (some (o))), none] [] (298, ShF, I, R)
  refine r_aload_n dX1_takeFrom_0 rfl ?_
  refine r_aload_n dX1_takeFrom_1 rfl ?_
  refine q_getI fl_X1_23 dX1_takeFrom_2 ho.1 ?_
  refine q_putI fl_X1_23 dX1_takeFrom_5 hs.1 ?_
  refine r_aload_n dX1_takeFrom_8 rfl ?_
  refine r_aload_n dX1_takeFrom_9 rfl ?_
  refine q_getI fl_X1_15 dX1_takeFrom_10 ho.1 ?_
  refine q_putI fl_X1_15 dX1_takeFrom_13 hs.1 ?_
  refine r_iconst dX1_takeFrom_16 ?_
  refine r_istore_n dX1_takeFrom_17 (by decide) ?_
  dsimp only [lset]
  refine hloop 81 _ _ (by omega) (by omega) (by omega) ?_ ?_ (fun j h1 h2 => by omega) (fun x j h1 h2 => ?_)
  · rw [u2_n (Or.inr (by decide)), u2_s]
  · rw [u2_s, u2_n (Or.inl hd.2.1)]
  · rw [u2_n (Or.inl h1), u2_n (Or.inl h1)]
/-- what a style, a paragraph, a state is -/
abbrev YV : Type := Int × Int × (Int → Int)
abbrev CS : Type := (Int × Int × Int) × (Nat → YV) × (Nat → YV)
def AtY (I : Mem) (a a1 : Nat) (y : YV) : Prop := I a 0 = y.1 ∧ I a 1 = y.2.1 ∧ ∀ p : Int, 1 ≤ p → p ≤ 80 → I a1 p = y.2.2 p
def AtP (I : Mem) (a a1 : Nat) (y : YV) : Prop := I a 0 = y.1 ∧ I a 1 = y.2.1 ∧ ∀ p : Int, 0 ≤ p → p < 80 → I a1 p = y.2.2 p
def AtS (I : Mem) (k : Nat) (π : Nat → Nat) (σ : CS) : Prop := I (stB k) 0 = σ.1.1 ∧ I (stB k) 1 = σ.1.2.1 ∧ I (stB k) 2 = σ.1.2.2 ∧ (∀ i : Nat, i < 4 → AtY I (stB k + (3 + 2 * i)) (stB k + (4 + 2 * i)) (σ.2.1 i)) ∧ ∀ i : Nat, i < 8 → AtP I (stB k + (11 + 2 * π i)) (stB k + (12 + 2 * π i)) (σ.2.2 i)
/-- the paragraphs' objects stand in some order -/
def StrS (R : RMem) (k : Nat) (π : Nat → Nat) : Prop := (∀ i : Nat, i < 8 → π i < 8 ∧ R (stB k + 2) i = some (stB k + (11 + 2 * π i))) ∧ ∀ i j : Nat, i < 8 → j < 8 → π i = π j → i = j
theorem AtY.kept {I I1 : Mem} {a a1 : Nat} {y : YV} (h : AtY I a a1 y) (h1 : ∀ j, I1 a j = I a j) (h2 : ∀ j, I1 a1 j = I a1 j) : AtY I1 a a1 y := ⟨(h1 0).trans h.1, (h1 1).trans h.2.1, fun p q1 q2 => (h2 p).trans (h.2.2 p q1 q2)⟩
theorem AtP.kept {I I1 : Mem} {a a1 : Nat} {y : YV} (h : AtP I a a1 y) (h1 : ∀ j, I1 a j = I a j) (h2 : ∀ j, I1 a1 j = I a1 j) : AtP I1 a a1 y := ⟨(h1 0).trans h.1, (h1 1).trans h.2.1, fun p q1 q2 => (h2 p).trans (h.2.2 p q1 q2)⟩
theorem AtS.kept {I I1 : Mem} {k : Nat} {π : Nat → Nat} {σ : CS} (hπ : ∀ i, i < 8 → π i < 8) (h : AtS I k π σ) (h1 : ∀ (x : Nat) (j : Int), stB k ≤ x → x < stB k + 27 → I1 x j = I x j) : AtS I1 k π σ := by
  refine ⟨(h1 _ _ (by omega) (by omega)).trans h.1, (h1 _ _ (by omega) (by omega)).trans h.2.1, (h1 _ _ (by omega) (by omega)).trans h.2.2.1, fun i hi => (h.2.2.2.1 i hi).kept (fun j => h1 _ j (by omega) (by omega)) (fun j => h1 _ j (by omega) (by omega)), fun i hi => ?_⟩
  have := hπ i hi
  exact (h.2.2.2.2 i hi).kept (fun j => h1 _ j (by omega) (by omega)) (fun j => h1 _ j (by omega) (by omega))
theorem str_at {R : RMem} {k : Nat} {π : Nat → Nat} (h : StrS R k π) {i : Int} (hi : 0 ≤ i ∧ i < 8) : R (stB k + 2) i = some (stB k + (11 + 2 * π i.toNat)) ∧ π i.toNat < 8 := by
  obtain ⟨j, rfl⟩ : ∃ j : Nat, i = j := ⟨i.toNat, by omega⟩
  rw [Int.toNat_natCast]
  exact ⟨(h.1 j (by omega)).2, (h.1 j (by omega)).1⟩
set_option maxHeartbeats 4000000 in
set_option maxRecDepth 100000 in
theorem c_takeAllOf (I : Mem) (R : RMem) (hRO : RefOk R) {k q : Nat} (hk : k < 7) (hq : q < 7) (hkq : k ≠ q) {π ρ : Nat → Nat} (hπ : StrS R k π) (hρ : StrS R q ρ) {σ : CS} (hσ : AtS I q ρ σ) : CC 2 0 0 yX3_takeAllOf cX3_takeAllOf 3 none [.inr (some (stB k)), .inr (some (stB q))] (298, ShF, I, R) (PW R (fun I1 => AtS I1 k π σ ∧ ∀ (x : Nat) (j : Int), x < stB k ∨ stB k + 27 ≤ x → I1 x j = I x j)) := by
  have hap := stB_apart hkq
  have hl2 : ∀ (n : Nat) (i : Int) (I1 : Mem), 8 < i + n → 0 ≤ i → i ≤ 8 → I1 (stB k) 0 = σ.1.1 → I1 (stB k) 1 = σ.1.2.1 → I1 (stB k) 2 = σ.1.2.2 → (∀ (x : Nat) (j : Int), x < stB k ∨ stB k + 27 ≤ x → I1 x j = I x j) → (∀ i : Nat, i < 4 → AtY I1 (stB k + (3 + 2 * i)) (stB k + (4 + 2 * i)) (σ.2.1 i)) → (∀ z : Nat, z < i.toNat → AtP I1 (stB k + (11 + 2 * π z)) (stB k + (12 + 2 * π z)) (σ.2.2 z)) → WW cX3_takeAllOf RX3 3 none false 2 0 0 (PW R (fun I1 => AtS I1 k π σ ∧ ∀ (x : Nat) (j : Int), x < stB k ∨ stB k + 27 ≤ x → I1 x j = I x j)) 0 0 90 [some (.inr (some (stB k))), some (.inr (some (stB q))), some (.inl (i))] [] (298, ShF, I1, R) := by
    intro n
    induction n with
    | zero => intros; exfalso; omega
    | succ n ih =>
      intro i I1 g1 g2 g3 g4 g5 g6 g7 g8 g9
      refine r_iload_n dX3_takeAllOf_90 rfl ?_
      refine r_bipush dX3_takeAllOf_91 (by decide) ?_
      refine r_icmpge (tgt := 117) dX3_takeAllOf_93 (by decide) (by omega) (by omega) (fun h93 => ?_) (fun h93 => ?_)
      · refine q_vretW dX3_takeAllOf_117 rfl ?_
        exact ⟨⟨g4, g5, g6, g8, fun z hz => g9 z (by omega)⟩, g7⟩
      · refine r_aload_n dX3_takeAllOf_96 rfl ?_
        refine q_getR fl_X3_26 dX3_takeAllOf_97 (sf_S0 hk) (ro_st hRO hk).2.1 ?_
        refine r_iload_n dX3_takeAllOf_100 rfl ?_
        refine q_aald (t := 4) (by decide) dX3_takeAllOf_101 (sf_S2 hk) (by omega) (str_at hπ (i := i) (by omega)).1 ?_
        refine r_aload_n dX3_takeAllOf_102 rfl ?_
        refine q_getR fl_X3_26 dX3_takeAllOf_103 (sf_S0 hq) (ro_st hRO hq).2.1 ?_
        refine r_iload_n dX3_takeAllOf_106 rfl ?_
        refine q_aald (t := 4) (by decide) dX3_takeAllOf_107 (sf_S2 hq) (by omega) (str_at hρ (i := i) (by omega)).1 ?_
        refine q_callVW lk_X3_45 dX3_takeAllOf_108 (c_takeFrom _ R (ro_par hRO hk (str_at hπ (i := i) (by omega)).2) (ro_par hRO hq (str_at hρ (i := i) (by omega)).2) (by have := stB_apart hkq; have := (str_at hπ (i := i) (by omega)).2; have := (str_at hρ (i := i) (by omega)).2; omega)) (by decide) (ro_par hRO hk (str_at hπ (i := i) (by omega)).2).1 rfl rfl (Nat.le_of_ble_eq_true rfl) (by decide) (fun I2 hI2 => ?_)
        refine r_iinc dX3_takeAllOf_111 rfl (by decide) ?_
        dsimp only [lset]
        refine r_goto (tgt := 90) dX3_takeAllOf_114 (by decide) ?_
        have hp1 := (str_at hπ (i := i) (by omega)).2
        have hp2 := (str_at hρ (i := i) (by omega)).2
        obtain ⟨e1, e2, e3, e4⟩ := hI2
        have hsrc := hσ.2.2.2.2 i.toNat (by omega)
        refine ih _ _ (by omega) (by omega) (by omega) (by rw [e4 _ _ (by omega) (by omega)]; exact g4) (by rw [e4 _ _ (by omega) (by omega)]; exact g5) (by rw [e4 _ _ (by omega) (by omega)]; exact g6) (fun x j hx => by rw [e4 _ _ (by omega) (by omega)]; exact g7 x j hx) (fun z hz => (g8 z hz).kept (fun j => e4 _ _ (by omega) (by omega)) (fun j => e4 _ _ (by omega) (by omega))) (fun z hz => ?_)
        by_cases hzi : z = i.toNat
        · subst hzi
          refine ⟨?_, ?_, fun p h1 h2 => ?_⟩
          · rw [e1, g7 _ _ (by omega)]; exact hsrc.1
          · rw [e2, g7 _ _ (by omega)]; exact hsrc.2.1
          · rw [e3 p h1 h2, g7 _ _ (by omega)]; exact hsrc.2.2 p h1 h2
        · have hne : π z ≠ π i.toNat := fun e => hzi (hπ.2 z i.toNat (by omega) (by omega) e)
          exact (g9 z (by omega)).kept (fun j => e4 _ _ (by omega) (by omega)) (fun j => e4 _ _ (by omega) (by omega))
  have hl1 : ∀ (n : Nat) (i : Int) (I1 : Mem), 8 < i + n → 0 ≤ i → i ≤ 4 → I1 (stB k) 0 = σ.1.1 → I1 (stB k) 1 = σ.1.2.1 → I1 (stB k) 2 = σ.1.2.2 → (∀ (x : Nat) (j : Int), x < stB k ∨ stB k + 27 ≤ x → I1 x j = I x j) → (∀ z : Nat, z < i.toNat → AtY I1 (stB k + (3 + 2 * z)) (stB k + (4 + 2 * z)) (σ.2.1 z)) → WW cX3_takeAllOf RX3 3 none false 2 0 0 (PW R (fun I1 => AtS I1 k π σ ∧ ∀ (x : Nat) (j : Int), x < stB k ∨ stB k + 27 ≤ x → I1 x j = I x j)) 0 0 26 [some (.inr (some (stB k))), some (.inr (some (stB q))), some (.inl (i))] [] (298, ShF, I1, R) := by
    intro n
    induction n with
    | zero => intros; exfalso; omega
    | succ n ih =>
      intro i I1 g1 g2 g3 g4 g5 g6 g7 g8
      refine r_iload_n dX3_takeAllOf_26 rfl ?_
      refine r_iconst dX3_takeAllOf_27 ?_
      refine r_icmpge (tgt := 88) dX3_takeAllOf_28 (by decide) (by omega) (by omega) (fun h28 => ?_) (fun h28 => ?_)
      · refine r_iconst dX3_takeAllOf_88 ?_
        refine r_istore_n dX3_takeAllOf_89 (by decide) ?_
        dsimp only [lset]
        exact hl2 9 _ _ (by omega) (by omega) (by omega) g4 g5 g6 g7 (fun z hz => g8 z (by omega)) (fun z hz => by omega)
      · refine r_aload_n dX3_takeAllOf_31 rfl ?_
        refine q_getR fl_X3_20 dX3_takeAllOf_32 (sf_S0 hk) (ro_st hRO hk).1 ?_
        refine r_iload_n dX3_takeAllOf_35 rfl ?_
        refine q_aald (t := 3) (by decide) dX3_takeAllOf_36 (sf_S1 hk) (by omega) (ro_sty hRO hk (i := i) (by omega)).1 ?_
        refine r_aload_n dX3_takeAllOf_37 rfl ?_
        refine q_getR fl_X3_20 dX3_takeAllOf_38 (sf_S0 hq) (ro_st hRO hq).1 ?_
        refine r_iload_n dX3_takeAllOf_41 rfl ?_
        refine q_aald (t := 3) (by decide) dX3_takeAllOf_42 (sf_S1 hq) (by omega) (ro_sty hRO hq (i := i) (by omega)).1 ?_
        refine q_getI fl_X3_35 dX3_takeAllOf_43 (ro_sty hRO hq (i := i) (by omega)).2.1 ?_
        refine q_putI fl_X3_35 dX3_takeAllOf_46 (ro_sty hRO hk (i := i) (by omega)).2.1 ?_
        refine r_aload_n dX3_takeAllOf_49 rfl ?_
        refine q_getR fl_X3_20 dX3_takeAllOf_50 (sf_S0 hk) (ro_st hRO hk).1 ?_
        refine r_iload_n dX3_takeAllOf_53 rfl ?_
        refine q_aald (t := 3) (by decide) dX3_takeAllOf_54 (sf_S1 hk) (by omega) (ro_sty hRO hk (i := i) (by omega)).1 ?_
        refine r_aload_n dX3_takeAllOf_55 rfl ?_
        refine q_getR fl_X3_20 dX3_takeAllOf_56 (sf_S0 hq) (ro_st hRO hq).1 ?_
        refine r_iload_n dX3_takeAllOf_59 rfl ?_
        refine q_aald (t := 3) (by decide) dX3_takeAllOf_60 (sf_S1 hq) (by omega) (ro_sty hRO hq (i := i) (by omega)).1 ?_
        refine q_getI fl_X3_38 dX3_takeAllOf_61 (ro_sty hRO hq (i := i) (by omega)).2.1 ?_
        refine q_putI fl_X3_38 dX3_takeAllOf_64 (ro_sty hRO hk (i := i) (by omega)).2.1 ?_
        refine r_aload_n dX3_takeAllOf_67 rfl ?_
        refine q_getR fl_X3_20 dX3_takeAllOf_68 (sf_S0 hk) (ro_st hRO hk).1 ?_
        refine r_iload_n dX3_takeAllOf_71 rfl ?_
        refine q_aald (t := 3) (by decide) dX3_takeAllOf_72 (sf_S1 hk) (by omega) (ro_sty hRO hk (i := i) (by omega)).1 ?_
        refine r_aload_n dX3_takeAllOf_73 rfl ?_
        refine q_getR fl_X3_20 dX3_takeAllOf_74 (sf_S0 hq) (ro_st hRO hq).1 ?_
        refine r_iload_n dX3_takeAllOf_77 rfl ?_
        refine q_aald (t := 3) (by decide) dX3_takeAllOf_78 (sf_S1 hq) (by omega) (ro_sty hRO hq (i := i) (by omega)).1 ?_
        refine q_callVW lk_X3_41 dX3_takeAllOf_79 (c_takeStopsOf _ R (ro_sty hRO hk (i := i) (by omega)).2 (ro_sty hRO hq (i := i) (by omega)).2) (by decide) (ro_sty hRO hk (i := i) (by omega)).2.1 rfl rfl (Nat.le_of_ble_eq_true rfl) (by decide) (fun I2 hI2 => ?_)
        refine r_iinc dX3_takeAllOf_82 rfl (by decide) ?_
        dsimp only [lset]
        refine r_goto (tgt := 26) dX3_takeAllOf_85 (by decide) ?_
        have hsrc := hσ.2.2.2.1 i.toNat (by omega)
        have hI3 : ∀ (x : Nat) (j : Int), x ≠ stB k + (3 + 2 * i.toNat) → x ≠ stB k + (4 + 2 * i.toNat) → I2 x j = I1 x j := fun x j h1 h2 => by
          rw [hI2 x j, if_neg (by omega), u2_n (Or.inl h1), u2_n (Or.inl h1)]
        refine ih _ _ (by omega) (by omega) (by omega) (by rw [hI3 _ _ (by omega) (by omega)]; exact g4) (by rw [hI3 _ _ (by omega) (by omega)]; exact g5) (by rw [hI3 _ _ (by omega) (by omega)]; exact g6) (fun x j hx => by rw [hI3 _ _ (by omega) (by omega)]; exact g7 x j hx) (fun z hz => ?_)
        by_cases hzi : z = i.toNat
        · subst hzi
          refine ⟨?_, ?_, fun p h1 h2 => ?_⟩
          · rw [hI2, if_neg (by omega), u2_n (Or.inr (by decide)), u2_s, g7 _ _ (by omega)]; exact hsrc.1
          · rw [hI2, if_neg (by omega), u2_s, u2_n (Or.inl (by omega)), g7 _ _ (by omega)]; exact hsrc.2.1
          · rw [hI2, if_pos ⟨rfl, h1, h2⟩, u2_n (Or.inl (by omega)), u2_n (Or.inl (by omega)), g7 _ _ (by omega)]; exact hsrc.2.2 p h1 h2
        · exact (g8 z (by omega)).kept (fun j => hI3 _ _ (by omega) (by omega)) (fun j => hI3 _ _ (by omega) (by omega))
  refine CC_of (own := RX3) (ini := false) (by decide +kernel) rfl (fun h => absurd h (by decide)) (Nat.le_of_ble_eq_true rfl) ?_
  show WW cX3_takeAllOf RX3 3 none false 2 0 0 (PW R (fun I1 => AtS I1 k π σ ∧ ∀ (x : Nat) (j : Int), x < stB k ∨ stB k + 27 ≤ x → I1 x j = I x j)) 0 0 0 [some (.inr (some (stB k))), some (.inr (some (stB q))), none] [] (298, ShF, I, R)
  refine r_aload_n dX3_takeAllOf_0 rfl ?_
  refine r_aload_n dX3_takeAllOf_1 rfl ?_
  refine q_getI fl_X3_9 dX3_takeAllOf_2 (sf_S0 hq) ?_
  refine q_putI fl_X3_9 dX3_takeAllOf_5 (sf_S0 hk) ?_
  refine r_aload_n dX3_takeAllOf_8 rfl ?_
  refine r_aload_n dX3_takeAllOf_9 rfl ?_
  refine q_getI fl_X3_15 dX3_takeAllOf_10 (sf_S0 hq) ?_
  refine q_putI fl_X3_15 dX3_takeAllOf_13 (sf_S0 hk) ?_
  refine r_aload_n dX3_takeAllOf_16 rfl ?_
  refine r_aload_n dX3_takeAllOf_17 rfl ?_
  refine q_getI fl_X3_32 dX3_takeAllOf_18 (sf_S0 hq) ?_
  refine q_putI fl_X3_32 dX3_takeAllOf_21 (sf_S0 hk) ?_
  refine r_iconst dX3_takeAllOf_24 ?_
  refine r_istore_n dX3_takeAllOf_25 (by decide) ?_
  dsimp only [lset]
  refine hl1 9 _ _ (by omega) (by omega) (by omega) ?_ ?_ ?_ (fun x j hx => ?_) (fun z hz => by omega)
  · rw [u2_n (Or.inr (by decide)), u2_n (Or.inr (by decide)), u2_s]; exact hσ.1
  · rw [u2_n (Or.inr (by decide)), u2_s, u2_n (Or.inl (by omega))]; exact hσ.2.1
  · rw [u2_s, u2_n (Or.inl (by omega)), u2_n (Or.inl (by omega))]; exact hσ.2.2.1
  · rw [u2_n (Or.inl (by omega)), u2_n (Or.inl (by omega)), u2_n (Or.inl (by omega))]
end
section
/-! the abstract state of the whole object, and the class's picture of it -/
abbrev AS : Type := CS × Nat × (Nat → CS) × Nat × (Int → Int)
def SavOk (R : RMem) (sg : Nat → Nat) : Prop := (∀ j : Nat, j < 6 → 1 ≤ sg j ∧ sg j < 7 ∧ R 28 j = some (stB (sg j))) ∧ ∀ i j : Nat, i < 6 → j < 6 → sg i = sg j → i = j
def RInv (R : RMem) (π sg : Nat → Nat) : Prop := RefOk R ∧ StrS R 0 π ∧ (∀ k : Nat, 1 ≤ k → k < 7 → StrS R k (fun i => i)) ∧ SavOk R sg
def CI (I : Mem) (R : RMem) (π sg : Nat → Nat) (a : AS) : Prop := RInv R π sg ∧ AtS I 0 π a.1 ∧ I 0 2 = a.2.1 ∧ (∀ j : Nat, j < a.2.1 → AtS I (sg j) (fun i => i) (a.2.2.1 j)) ∧ I 0 4 = a.2.2.2.1 ∧ ∀ j : Int, 0 ≤ j → j < a.2.2.2.1 → I 29 j = a.2.2.2.2 j
abbrev okc (c : Int) : Prop := (97 ≤ c ∧ c ≤ 122) ∨ (48 ≤ c ∧ c ≤ 57) ∨ c = 46 ∨ c = 44 ∨ c = 32 ∨ c = 9
def WfY (y : YV) : Prop := (0 ≤ y.1 ∧ y.1 ≤ 19) ∧ (0 ≤ y.2.1 ∧ y.2.1 ≤ 19) ∧ SV y.2.2 ∧ cntF y.2.2 80 ≤ 8
def WfP (y : YV) : Prop := (0 ≤ y.1 ∧ y.1 ≤ 3) ∧ (0 ≤ y.2.1 ∧ y.2.1 ≤ 80) ∧ ∀ j : Int, 0 ≤ j → j < y.2.1 → okc (y.2.2 j)
def WfS (σ : CS) : Prop := (20 ≤ σ.1.1 ∧ σ.1.1 ≤ 80) ∧ (2 ≤ σ.1.2.1 ∧ σ.1.2.1 ≤ 20) ∧ (0 ≤ σ.1.2.2 ∧ σ.1.2.2 ≤ 8) ∧ (∀ i : Nat, i < 4 → WfY (σ.2.1 i)) ∧ ∀ i : Nat, (i : Int) < σ.1.2.2 → WfP (σ.2.2 i)
def AbsOk (a : AS) : Prop := WfS a.1 ∧ a.2.1 ≤ 6 ∧ (∀ j : Nat, j < a.2.1 → WfS (a.2.2.1 j)) ∧ a.2.2.2.1 ≤ 100 ∧ ∀ j : Int, 0 ≤ j → j < a.2.2.2.1 → 0 ≤ a.2.2.2.2 j ∧ a.2.2.2.2 j ≤ 255
def nS (n : Nat) : Nat := if n = 6 then 6 else n + 1
def pushS (σs : Nat → CS) (n : Nat) (σ : CS) : Nat → CS := fun j => if n = 6 then (if j = 5 then σ else σs (j + 1)) else (if j = n then σ else σs j)
def psh (a : AS) : AS := (a.1, nS a.2.1, pushS a.2.2.1 a.2.1 a.1, a.2.2.2)
def wS (a : AS) (σ : CS) : AS := (σ, a.2)
/-- a public call of the class: its answer and the state behind it, and the other object's cells stay -/
def PC (fa : Int × AS) (I : Mem) : Option MV → Wd → Prop := PZR (fun z I1 R1 => z = fa.1 ∧ (∃ π1 sg1 : Nat → Nat, CI I1 R1 π1 sg1 fa.2) ∧ ∀ (x : Nat) (j : Int), 290 ≤ x → I1 x j = I x j)
theorem RefOk.kept {R R1 : RMem} (h : RefOk R) (hk : ∀ (x : Nat) (j : Int), x ≠ 28 → x ≠ 3 → ¬ (x = 30 ∧ j = 1) → R1 x j = R x j) : RefOk R1 := by
  have g : ∀ (x : Nat) (j : Int) (v : Option Nat), x ≠ 28 → x ≠ 3 → ¬ (x = 30 ∧ j = 1) → R x j = v → R1 x j = v := fun x j v h1 h2 h3 h4 => (hk x j h1 h2 h3).trans h4
  unfold RefOk at h ⊢
  refine ⟨g _ _ _ (by decide) (by decide) (by decide) h.1, g _ _ _ (by decide) (by decide) (by decide) h.2.1, g _ _ _ (by decide) (by decide) (by decide) h.2.2.1, g _ _ _ (by decide) (by decide) (by decide) h.2.2.2.1, g _ _ _ (by decide) (by decide) (by decide) h.2.2.2.2.1, g _ _ _ (by decide) (by decide) (by decide) h.2.2.2.2.2.1, g _ _ _ (by decide) (by decide) (by decide) h.2.2.2.2.2.2.1, g _ _ _ (by decide) (by decide) (by decide) h.2.2.2.2.2.2.2.1, g _ _ _ (by decide) (by decide) (by decide) h.2.2.2.2.2.2.2.2.1, g _ _ _ (by decide) (by decide) (by decide) h.2.2.2.2.2.2.2.2.2.1, g _ _ _ (by decide) (by decide) (by decide) h.2.2.2.2.2.2.2.2.2.2.1, g _ _ _ (by decide) (by decide) (by decide) h.2.2.2.2.2.2.2.2.2.2.2.1, g _ _ _ (by decide) (by decide) (by decide) h.2.2.2.2.2.2.2.2.2.2.2.2.1, g _ _ _ (by decide) (by decide) (by decide) h.2.2.2.2.2.2.2.2.2.2.2.2.2.1, g _ _ _ (by decide) (by decide) (by decide) h.2.2.2.2.2.2.2.2.2.2.2.2.2.2.1, g _ _ _ (by decide) (by decide) (by decide) h.2.2.2.2.2.2.2.2.2.2.2.2.2.2.2.1, g _ _ _ (by decide) (by decide) (by decide) h.2.2.2.2.2.2.2.2.2.2.2.2.2.2.2.2.1, g _ _ _ (by decide) (by decide) (by decide) h.2.2.2.2.2.2.2.2.2.2.2.2.2.2.2.2.2.1, g _ _ _ (by decide) (by decide) (by decide) h.2.2.2.2.2.2.2.2.2.2.2.2.2.2.2.2.2.2.1, g _ _ _ (by decide) (by decide) (by decide) h.2.2.2.2.2.2.2.2.2.2.2.2.2.2.2.2.2.2.2.1, g _ _ _ (by decide) (by decide) (by decide) h.2.2.2.2.2.2.2.2.2.2.2.2.2.2.2.2.2.2.2.2.1, g _ _ _ (by decide) (by decide) (by decide) h.2.2.2.2.2.2.2.2.2.2.2.2.2.2.2.2.2.2.2.2.2.1, g _ _ _ (by decide) (by decide) (by decide) h.2.2.2.2.2.2.2.2.2.2.2.2.2.2.2.2.2.2.2.2.2.2.1, g _ _ _ (by decide) (by decide) (by decide) h.2.2.2.2.2.2.2.2.2.2.2.2.2.2.2.2.2.2.2.2.2.2.2.1, g _ _ _ (by decide) (by decide) (by decide) h.2.2.2.2.2.2.2.2.2.2.2.2.2.2.2.2.2.2.2.2.2.2.2.2.1, g _ _ _ (by decide) (by decide) (by decide) h.2.2.2.2.2.2.2.2.2.2.2.2.2.2.2.2.2.2.2.2.2.2.2.2.2.1, fun i hi => g _ _ _ (by decide) (by decide) (by omega) (h.2.2.2.2.2.2.2.2.2.2.2.2.2.2.2.2.2.2.2.2.2.2.2.2.2.2.1 i hi), fun k hk2 => ?_⟩
  have h9 := h.2.2.2.2.2.2.2.2.2.2.2.2.2.2.2.2.2.2.2.2.2.2.2.2.2.2.2 k hk2
  have hb := stB_in hk2
  refine ⟨g _ _ _ (by omega) (by omega) (by omega) h9.1, g _ _ _ (by omega) (by omega) (by omega) h9.2.1, fun i hi => ⟨g _ _ _ (by omega) (by omega) (by omega) (h9.2.2.1 i hi).1, g _ _ _ (by omega) (by omega) (by omega) (h9.2.2.1 i hi).2⟩, fun i hi => g _ _ _ (by omega) (by omega) (by omega) (h9.2.2.2 i hi)⟩
theorem StrS.kept {R R1 : RMem} {k : Nat} {π : Nat → Nat} (h : StrS R k π) (hk : ∀ j : Int, R1 (stB k + 2) j = R (stB k + 2) j) : StrS R1 k π := ⟨fun i hi => ⟨(h.1 i hi).1, (hk i).trans (h.1 i hi).2⟩, h.2⟩
theorem sav_at {R : RMem} {sg : Nat → Nat} (h : SavOk R sg) {i : Int} (hi : 0 ≤ i ∧ i < 6) : R 28 i = some (stB (sg i.toNat)) ∧ 1 ≤ sg i.toNat ∧ sg i.toNat < 7 := by
  obtain ⟨j, rfl⟩ : ∃ j : Nat, i = j := ⟨i.toNat, by omega⟩
  rw [Int.toNat_natCast]
  have h1 := h.1 j (by omega)
  exact ⟨h1.2.2, h1.1, h1.2.1⟩
theorem RInv.sav {R R1 : RMem} {π sg sg1 : Nat → Nat} (h : RInv R π sg) (hk : ∀ (x : Nat) (j : Int), x ≠ 28 → R1 x j = R x j) (hs : SavOk R1 sg1) : RInv R1 π sg1 := by
  refine ⟨h.1.kept (fun x j h1 _ _ => hk x j h1), h.2.1.kept (fun j => hk _ j (by decide)), fun k h1 h2 => (h.2.2.1 k h1 h2).kept (fun j => hk _ j ?_), hs⟩
  have := stB_in h2
  omega
theorem CI.bl {I I1 : Mem} {R : RMem} {π sg : Nat → Nat} {a : AS} (h : CI I R π sg a) (hk : ∀ (x : Nat) (j : Int), x < 30 ∨ (128 ≤ x ∧ x < 290) → I1 x j = I x j) (h6 : a.2.1 ≤ 6) : CI I1 R π sg a := by
  refine ⟨h.1, h.2.1.kept (fun i hi => (h.1.2.1.1 i hi).1) (fun x j h1 h2 => hk x j ?_), (hk _ _ (by omega)).trans h.2.2.1, fun j hj => (h.2.2.2.1 j hj).kept (fun i hi => hi) (fun x z h1 h2 => hk x z ?_), (hk _ _ (by omega)).trans h.2.2.2.2.1, fun j h1 h2 => (hk _ _ (by omega)).trans (h.2.2.2.2.2 j h1 h2)⟩
  · have : stB 0 = 1 := rfl
    omega
  · have hq := h.1.2.2.2.1 j (by omega)
    have := stB_in hq.2.1
    omega
set_option maxHeartbeats 4000000 in
set_option maxRecDepth 100000 in
theorem c_saveState (I : Mem) (R : RMem) (π sg : Nat → Nat) (a : AS) (hI : CI I R π sg a) (hA : AbsOk a) : CC 3 0 0 yX7_saveState cX7_saveState 3 none [.inr (some 0)] (298, ShF, I, R) (PWR (fun I1 R1 => (∃ sg1 : Nat → Nat, CI I1 R1 π sg1 (psh a)) ∧ (∀ (x : Nat) (j : Int), 290 ≤ x ∨ (1 ≤ x ∧ x < 128) → I1 x j = I x j) ∧ ∀ (x : Nat) (j : Int), x ≠ 28 → R1 x j = R x j)) := by
  have hRO := hI.1.1
  have hn6 := hA.2.1
  have hS0 : SF (stB 0) 3 0 := sf_1
  have htail : ∀ (I1 : Mem) (R1 : RMem) (sg1 : Nat → Nat) (σs1 : Nat → CS) (c : Nat) (u v : Option MV), c ≤ 5 → RInv R1 π sg1 → AtS I1 0 π a.1 → I1 0 2 = c → (∀ j : Nat, j < c → AtS I1 (sg1 j) (fun i => i) (σs1 j)) → (∀ (x : Nat) (j : Int), x ≠ 0 ∨ j ≠ 2 → I1 x j = I x j) → (∀ (x : Nat) (j : Int), x ≠ 28 → R1 x j = R x j) → nS a.2.1 = c + 1 → (∀ j : Nat, j < c → pushS a.2.2.1 a.2.1 a.1 j = σs1 j) → pushS a.2.2.1 a.2.1 a.1 c = a.1 → WW cX7_saveState RX7 3 none false 3 0 0 (PWR (fun I1 R1 => (∃ sg1 : Nat → Nat, CI I1 R1 π sg1 (psh a)) ∧ (∀ (x : Nat) (j : Int), 290 ≤ x ∨ (1 ≤ x ∧ x < 128) → I1 x j = I x j) ∧ ∀ (x : Nat) (j : Int), x ≠ 28 → R1 x j = R x j)) 0 0 56 [some (.inr (some 0)), u, v] [] (298, ShF, I1, R1) := by
    intro I1 R1 sg1 σs1 c u v hc hR1 h0 hcnt hsv hIk hRk e1 e2 e3
    have hRO := hR1.1
    have hsa := sav_at hR1.2.2.2 (i := I1 0 2) (by omega)
    have hcc : (I1 0 2).toNat = c := by omega
    rw [hcc] at hsa
    refine r_aload_n dX7_saveState_56 rfl ?_
    refine q_getR fl_X7_16 dX7_saveState_57 sf_0 (ro_0_1 hRO) ?_
    refine r_aload_n dX7_saveState_60 rfl ?_
    refine q_getI fl_X7_137 dX7_saveState_61 sf_0 ?_
    refine q_aald (t := 2) (by decide) dX7_saveState_64 sf_28 (by omega) hsa.1 ?_
    refine r_aload_n dX7_saveState_65 rfl ?_
    refine q_getR fl_X7_12 dX7_saveState_66 sf_0 (ro_0_0 hRO) ?_
    refine q_callVW lk_X7_201 dX7_saveState_69 (c_takeAllOf I1 R1 hRO (k := sg1 c) (q := 0) hsa.2.2 (by omega) (by omega) (hR1.2.2.1 _ hsa.2.1 hsa.2.2) hR1.2.1 h0) (by decide) (sf_S0 hsa.2.2) rfl rfl (Nat.le_of_ble_eq_true rfl) (by decide) (fun I2 hI2 => ?_)
    refine r_aload_n dX7_saveState_72 rfl ?_
    refine r_dup dX7_saveState_73 ?_
    refine q_getI fl_X7_137 dX7_saveState_74 sf_0 ?_
    refine r_iconst dX7_saveState_77 ?_
    refine r_iadd dX7_saveState_78 ?_
    refine q_putI fl_X7_137 dX7_saveState_79 sf_0 ?_
    refine q_vretWR dX7_saveState_82 rfl ?_
    have hb := stB_in hsa.2.2
    have hb1 := hb.2.2.2 (by omega)
    have hI3 : ∀ (x : Nat) (j : Int), x ≠ 0 → u2 I2 0 2 (I2 0 2 + 1) x j = I2 x j := fun x j h => u2_n (Or.inl h)
    have hb0 : stB 0 = 1 := rfl
    refine ⟨⟨sg1, hR1, ?_, ?_, ?_, ?_, ?_⟩, ?_, hRk⟩
    · exact h0.kept (fun i hi => (hR1.2.1.1 i hi).1) (fun x j h1 h2 => by rw [hI3 _ _ (by omega)]; exact hI2.2 x j (by omega))
    · rw [u2_s, hI2.2 _ _ (by omega), hcnt]
      show ((c : Nat) : Int) + 1 = ((nS a.2.1 : Nat) : Int)
      rw [e1]
      omega
    · intro j hj
      have hj : j < c + 1 := by rw [← e1]; exact hj
      show AtS _ _ _ (pushS a.2.2.1 a.2.1 a.1 j)
      by_cases hjc : j = c
      · subst hjc
        rw [e3]
        exact hI2.1.kept (fun i hi => hi) (fun x z h1 h2 => hI3 x z (by omega))
      · rw [e2 j (by omega)]
        have hjs := hR1.2.2.2.1 j (by omega)
        have hne : sg1 j ≠ sg1 c := fun e => hjc (hR1.2.2.2.2 j c (by omega) (by omega) e)
        have hap := stB_apart hne
        have hbj := stB_in hjs.2.1
        exact (hsv j (by omega)).kept (fun i hi => hi) (fun x z h1 h2 => by rw [hI3 x z (by omega)]; exact hI2.2 x z (by omega))
    · rw [u2_n (Or.inr (by decide)), hI2.2 _ _ (by omega), hIk _ _ (by omega)]
      exact hI.2.2.2.2.1
    · intro j h1 h2
      rw [hI3 _ _ (by omega), hI2.2 _ _ (by omega), hIk _ _ (by omega)]
      exact hI.2.2.2.2.2 j h1 h2
    · intro x j hx
      rw [hI3 _ _ (by omega), hI2.2 _ _ (by omega), hIk _ _ (by omega)]
  have hsg := hI.1.2.2.2
  have hloop : a.2.1 = 6 → ∀ (n : Nat) (i : Int) (R1 : RMem), 6 < i + n → 1 ≤ i → i ≤ 6 → (∀ j : Int, 0 ≤ j → j < 6 → R1 28 j = if j < i - 1 then R 28 (j + 1) else R 28 j) → (∀ (x : Nat) (j : Int), x ≠ 28 → R1 x j = R x j) → WW cX7_saveState RX7 3 none false 3 0 0 (PWR (fun I1 R1 => (∃ sg1 : Nat → Nat, CI I1 R1 π sg1 (psh a)) ∧ (∀ (x : Nat) (j : Int), 290 ≤ x ∨ (1 ≤ x ∧ x < 128) → I1 x j = I x j) ∧ ∀ (x : Nat) (j : Int), x ≠ 28 → R1 x j = R x j)) 0 0 18 [some (.inr (some 0)), some (.inr (some (stB (sg 0)))), some (.inl (i))] [] (298, ShF, I, R1) := by
    intro hn n
    induction n with
    | zero => intros; exfalso; omega
    | succ n ih =>
      intro i R1 g1 g2 g3 g4 g5
      refine r_iload_n dX7_saveState_18 rfl ?_
      refine r_bipush dX7_saveState_19 (by decide) ?_
      refine r_icmpge (tgt := 44) dX7_saveState_21 (by decide) (by omega) (by omega) (fun h21 => ?_) (fun h21 => ?_)
      · refine r_aload_n dX7_saveState_44 rfl ?_
        refine q_getR fl_X7_16 dX7_saveState_45 sf_0 (ro_0_1 (hI.1.1.kept (fun x j h1 _ _ => g5 x j h1))) ?_
        refine r_iconst dX7_saveState_48 ?_
        refine r_aload_n dX7_saveState_49 rfl ?_
        refine q_aast (t := 2) (ci := 3) (by decide) dX7_saveState_50 sf_28 (by omega) (sf_S0 (hsg.1 0 (by omega)).2.1) ?_
        refine r_aload_n dX7_saveState_51 rfl ?_
        refine r_iconst dX7_saveState_52 ?_
        refine q_putI fl_X7_137 dX7_saveState_53 sf_0 ?_
        refine htail _ _ (fun j => if j < 5 then sg (j + 1) else sg 0) (fun j => a.2.2.1 (j + 1)) 5 _ _ (by omega) ?_ ?_ u2_s ?_ (fun x j h => u2_n h) (fun x j h => by rw [u2_n (Or.inl h)]; exact g5 x j h) ?_ ?_ ?_
        · refine hI.1.sav (fun x j h => by rw [u2_n (Or.inl h)]; exact g5 x j h) ⟨fun j hj => ?_, fun z j hz hj => ?_⟩
          · dsimp only
            by_cases h5 : j < 5
            · rw [if_pos h5, u2_n (Or.inr (by omega)), g4 _ (by omega) (by omega), if_pos (by omega)]
              have h7 := hsg.1 (j + 1) (by omega)
              exact ⟨h7.1, h7.2.1, h7.2.2⟩
            · rw [if_neg h5, show j = 5 by omega]
              have h7 := hsg.1 0 (by omega)
              exact ⟨h7.1, h7.2.1, u2_s⟩
          · dsimp only
            by_cases h5 : z < 5 <;> by_cases h6 : j < 5
            · rw [if_pos h5, if_pos h6]
              intro e
              have := hsg.2 _ _ (by omega) (by omega) e
              omega
            · rw [if_pos h5, if_neg h6]
              intro e
              have := hsg.2 _ _ (by omega) (by omega) e
              omega
            · rw [if_neg h5, if_pos h6]
              intro e
              have := hsg.2 _ _ (by omega) (by omega) e
              omega
            · intro _
              omega
        · exact hI.2.1.kept (fun i hi => (hI.1.2.1.1 i hi).1) (fun x j h1 h2 => u2_n (Or.inl (by have : stB 0 = 1 := rfl; omega)))
        · intro j hj
          rw [if_pos hj]
          have h7 := hsg.1 (j + 1) (by omega)
          have hb := stB_in h7.2.1
          exact (hI.2.2.2.1 (j + 1) (by omega)).kept (fun i hi => hi) (fun x z h1 h2 => u2_n (Or.inl (by omega)))
        · unfold nS
          rw [if_pos (by omega)]
        · intro j hj
          unfold pushS
          rw [if_pos (by omega), if_neg (by omega)]
        · unfold pushS
          rw [if_pos (by omega), if_pos rfl]
      · refine r_aload_n dX7_saveState_24 rfl ?_
        refine q_getR fl_X7_16 dX7_saveState_25 sf_0 (ro_0_1 (hI.1.1.kept (fun x j h1 _ _ => g5 x j h1))) ?_
        refine r_iload_n dX7_saveState_28 rfl ?_
        refine r_iconst dX7_saveState_29 ?_
        refine r_isub dX7_saveState_30 ?_
        refine r_aload_n dX7_saveState_31 rfl ?_
        refine q_getR fl_X7_16 dX7_saveState_32 sf_0 (ro_0_1 (hI.1.1.kept (fun x j h1 _ _ => g5 x j h1))) ?_
        refine r_iload_n dX7_saveState_35 rfl ?_
        refine q_aald (t := 2) (by decide) dX7_saveState_36 sf_28 (by omega) ((g4 i (by omega) (by omega)).trans ((if_neg (by omega)).trans (sav_at hsg (i := i) (by omega)).1)) ?_
        refine q_aast (t := 2) (ci := 3) (by decide) dX7_saveState_37 sf_28 (by omega) (sf_S0 (sav_at hsg (i := i) (by omega)).2.2) ?_
        refine r_iinc dX7_saveState_38 rfl (by decide) ?_
        dsimp only [lset]
        refine r_goto (tgt := 18) dX7_saveState_41 (by decide) ?_
        refine ih _ _ (by omega) (by omega) (by omega) (fun j h1 h2 => ?_) (fun x j h => by rw [u2_n (Or.inl h)]; exact g5 x j h)
        by_cases hj : j = i - 1
        · rw [hj, u2_s, if_pos (by omega), show i - 1 + 1 = i by omega]
          exact (sav_at hsg (i := i) (by omega)).1.symm
        · rw [u2_n (Or.inr hj), g4 j h1 h2]
          by_cases h3 : j < i - 1
          · rw [if_pos h3, if_pos (by omega)]
          · rw [if_neg h3, if_neg (by omega)]
  refine CC_of (own := RX7) (ini := false) (by decide +kernel) rfl (fun h => absurd h (by decide)) (Nat.le_of_ble_eq_true rfl) ?_
  show WW cX7_saveState RX7 3 none false 3 0 0 (PWR (fun I1 R1 => (∃ sg1 : Nat → Nat, CI I1 R1 π sg1 (psh a)) ∧ (∀ (x : Nat) (j : Int), 290 ≤ x ∨ (1 ≤ x ∧ x < 128) → I1 x j = I x j) ∧ ∀ (x : Nat) (j : Int), x ≠ 28 → R1 x j = R x j)) 0 0 0 [some (.inr (some 0)), none, none] [] (298, ShF, I, R)
  refine r_aload_n dX7_saveState_0 rfl ?_
  refine q_getI fl_X7_137 dX7_saveState_1 sf_0 ?_
  have hcnt := hI.2.2.1
  refine r_bipush dX7_saveState_4 (by decide) ?_
  refine r_icmplt (tgt := 56) dX7_saveState_6 (by decide) (by omega) (by omega) (fun h6 => ?_) (fun h6 => ?_)
  · refine htail I R sg a.2.2.1 a.2.1 _ _ (by omega) hI.1 hI.2.1 hI.2.2.1 hI.2.2.2.1 (fun _ _ _ => rfl) (fun _ _ _ => rfl) ?_ ?_ ?_
    · unfold nS
      rw [if_neg (by omega)]
    · intro j hj
      unfold pushS
      rw [if_neg (by omega), if_neg (by omega)]
    · unfold pushS
      rw [if_neg (by omega), if_pos rfl]
  · refine r_aload_n dX7_saveState_9 rfl ?_
    refine q_getR fl_X7_16 dX7_saveState_10 sf_0 (ro_0_1 hRO) ?_
    refine r_iconst dX7_saveState_13 ?_
    refine q_aald (t := 2) (by decide) dX7_saveState_14 sf_28 (by omega) ((hsg.1 0 (by omega)).2.2) ?_
    refine r_astore_n dX7_saveState_15 (by decide) ?_
    dsimp only [lset]
    refine r_iconst dX7_saveState_16 ?_
    refine r_istore_n dX7_saveState_17 (by decide) ?_
    dsimp only [lset]
    exact hloop (by omega) 7 _ _ (by omega) (by omega) (by omega) (fun j h1 h2 => by rw [if_neg (by omega)]) (fun _ _ _ => rfl)
end
section
/-! what the calls do, on the abstract state; the class's simple calls -/
def upY (g : Nat → YV) (i : Nat) (y : YV) : Nat → YV := fun j => if j = i then y else g j
def upF (g : Int → Int) (p v : Int) : Int → Int := fun q => if q = p then v else g q
def aSetNumber (a : AS) (wh v : Int) : Int × AS :=
  if wh = 0 ∧ 20 ≤ v ∧ v ≤ 80 then (a.1.1.1, wS (psh a) ((v, a.1.1.2), a.1.2))
  else if wh = 1 ∧ 2 ≤ v ∧ v ≤ 20 then (a.1.1.2.1, wS (psh a) ((a.1.1.1, v, a.1.1.2.2), a.1.2)) else (-1, a)
def aSetIndent (a : AS) (s wh v : Int) : Int × AS :=
  if (0 ≤ s ∧ s ≤ 3) ∧ (0 ≤ wh ∧ wh ≤ 1) ∧ (0 ≤ v ∧ v ≤ 19) then
    (if wh = 0 then ((a.1.2.1 s.toNat).1, wS (psh a) (a.1.1, upY a.1.2.1 s.toNat (v, (a.1.2.1 s.toNat).2), a.1.2.2))
     else ((a.1.2.1 s.toNat).2.1, wS (psh a) (a.1.1, upY a.1.2.1 s.toNat ((a.1.2.1 s.toNat).1, v, (a.1.2.1 s.toNat).2.2), a.1.2.2))) else (-1, a)
/-- a style with other stops -/
def setF (σ : CS) (i : Nat) (g : Int → Int) : CS := (σ.1, upY σ.2.1 i ((σ.2.1 i).1, (σ.2.1 i).2.1, g), σ.2.2)
def aSetStop (a : AS) (s p kd le : Int) : Int × AS :=
  if (0 ≤ s ∧ s ≤ 3) ∧ (1 ≤ p ∧ p ≤ 80) ∧ (0 ≤ kd ∧ kd ≤ 4) ∧ (0 ≤ le ∧ le ≤ (if kd = 4 then 0 else 3)) then
    (if (a.1.2.1 s.toNat).2.2 p = 0 ∧ 8 ≤ cntF (a.1.2.1 s.toNat).2.2 80 then (-3, a)
     else (cntF (upF (a.1.2.1 s.toNat).2.2 p (1 + kd * 4 + le)) (p - 1).toNat, wS (psh a) (setF a.1 s.toNat (upF (a.1.2.1 s.toNat).2.2 p (1 + kd * 4 + le))))) else (-1, a)
def posG (f : Int → Int) (k : Int) : Nat → Int
  | 0 => -9
  | n + 1 => if f ((n : Int) + 1) ≠ 0 ∧ cntF f n = k then (n : Int) + 1 else posG f k n
def posF (f : Int → Int) (k : Int) : Int := posG f k 80
def aRemoveStop (a : AS) (s k : Int) : Int × AS :=
  if (0 ≤ s ∧ s ≤ 3) ∧ posF (a.1.2.1 s.toNat).2.2 k ≠ -9 then
    (cntF (upF (a.1.2.1 s.toNat).2.2 (posF (a.1.2.1 s.toNat).2.2 k) 0) 80, wS (psh a) (setF a.1 s.toNat (upF (a.1.2.1 s.toNat).2.2 (posF (a.1.2.1 s.toNat).2.2 k) 0))) else (-1, a)
def aAppend (a : AS) (c : Int) : Int × AS :=
  if 0 ≤ c ∧ c ≤ 255 then (if 100 ≤ a.2.2.2.1 then (-3, a) else ((a.2.2.2.1 : Int) + 1, (a.1, a.2.1, a.2.2.1, a.2.2.2.1 + 1, upF a.2.2.2.2 a.2.2.2.1 c))) else (-1, a)
def clr (a : AS) : AS := (a.1, a.2.1, a.2.2.1, 0, a.2.2.2.2)
def aClear (a : AS) : Int × AS := ((a.2.2.2.1 : Int), clr a)
def setP (σ : CS) (i : Nat) (y : YV) : CS := (σ.1, σ.2.1, upY σ.2.2 i y)
def aAddPar (a : AS) (s : Int) : Int × AS :=
  if 0 ≤ s ∧ s ≤ 3 then (if 8 ≤ a.1.1.2.2 then (-3, a) else (a.1.1.2.2, wS (psh a) ((a.1.1.1, a.1.1.2.1, a.1.1.2.2 + 1), a.1.2.1, upY a.1.2.2 a.1.1.2.2.toNat (s, 0, (a.1.2.2 a.1.1.2.2.toNat).2.2)))) else (-1, a)
def rmF {α : Type} (g : Nat → α) (p c : Nat) : Nat → α := fun i => if p ≤ i ∧ i < c then g (i + 1) else if i = c then g p else g i
def isP (a : AS) (p : Int) : Prop := 0 ≤ p ∧ p ≤ a.1.1.2.2 - 1
def aRemPar (a : AS) (p : Int) : Int × AS :=
  if 0 ≤ p ∧ p ≤ a.1.1.2.2 - 1 then (a.1.1.2.2 - 1, wS (psh a) ((a.1.1.1, a.1.1.2.1, a.1.1.2.2 - 1), a.1.2.1, rmF a.1.2.2 p.toNat (a.1.1.2.2 - 1).toNat)) else (-1, a)
def aSetStyle (a : AS) (p s : Int) : Int × AS :=
  if (0 ≤ p ∧ p ≤ a.1.1.2.2 - 1) ∧ (0 ≤ s ∧ s ≤ 3) then ((a.1.2.2 p.toNat).1, wS (psh a) (setP a.1 p.toNat (s, (a.1.2.2 p.toNat).2))) else (-1, a)
def aUndo (a : AS) : Int × AS := if a.2.1 = 0 then (-2, a) else ((a.2.1 : Int) - 1, (a.2.2.1 (a.2.1 - 1), a.2.1 - 1, a.2.2))
theorem cntF_congr {f g : Int → Int} {n : Nat} (h : ∀ p : Int, 1 ≤ p → p ≤ n → f p = g p) : cntF f n = cntF g n := by
  induction n with
  | zero => rfl
  | succ n ih =>
    show cntF f n + (if f ((n : Int) + 1) = 0 then 0 else 1) = cntF g n + (if g ((n : Int) + 1) = 0 then 0 else 1)
    rw [ih (fun p h1 h2 => h p h1 (by omega)), h ((n : Int) + 1) (by omega) (by omega)]
theorem posG_spec {f : Int → Int} {k z : Int} (h : StpF f z ∧ cntF f (z - 1).toNat = k) : ∀ n : Nat, z ≤ n → posG f k n = z
  | 0, hn => by
    have := h.1.1
    omega
  | n + 1, hn => by
    show (if f ((n : Int) + 1) ≠ 0 ∧ cntF f n = k then (n : Int) + 1 else posG f k n) = z
    by_cases hz : z = (n : Int) + 1
    · rw [if_pos ?_]
      · exact hz.symm
      · have h1 := h.1.2.2
        have h2 := h.2
        rw [hz] at h1 h2
        rw [show ((n : Int) + 1 - 1).toNat = n by omega] at h2
        exact ⟨h1, h2⟩
    · rw [if_neg ?_]
      · exact posG_spec h n (by omega)
      · intro hh
        have h1 := h.1.2.2
        have hc := cntF_step f (p := z) h.1.1
        rw [if_neg h1] at hc
        have hm := cntF_mono f (m := z.toNat) (n := n) (by omega)
        have h2 := h.2
        have h3 := hh.2
        omega
theorem posG_none {f : Int → Int} {k : Int} (h : ∀ p : Int, StpF f p → cntF f (p - 1).toNat ≠ k) : ∀ n : Nat, n ≤ 80 → posG f k n = -9
  | 0, _ => rfl
  | n + 1, hn => by
    show (if f ((n : Int) + 1) ≠ 0 ∧ cntF f n = k then (n : Int) + 1 else posG f k n) = -9
    rw [if_neg ?_]
    · exact posG_none h n (by omega)
    · intro hh
      have := h ((n : Int) + 1) ⟨by omega, by omega, hh.1⟩
      rw [show ((n : Int) + 1 - 1).toNat = n by omega] at this
      exact this hh.2
theorem posR_F {f : Int → Int} {k z : Int} (h : PosR f k z) : z = posF f k ∧ (z ≠ -9 → StpF f z) := by
  rcases h with h | ⟨rfl, h⟩
  · exact ⟨(posG_spec h 80 (by have := h.1.2.1; omega)).symm, fun _ => h.1⟩
  · exact ⟨(posG_none h 80 (Nat.le_refl _)).symm, fun q => absurd rfl q⟩
theorem posR_congr {f g : Int → Int} (h : ∀ p : Int, 1 ≤ p → p ≤ 80 → f p = g p) {k z : Int} (hz : PosR f k z) : PosR g k z := by
  have st : ∀ p : Int, StpF g p → StpF f p := fun p q => ⟨q.1, q.2.1, by rw [h p q.1 q.2.1]; exact q.2.2⟩
  have ct : ∀ p : Int, StpF g p → cntF f (p - 1).toNat = cntF g (p - 1).toNat := fun p q => cntF_congr (fun x h1 h2 => h x h1 (by have := q.2.1; omega))
  rcases hz with ⟨h1, h2⟩ | ⟨h1, h2⟩
  · have h3 : StpF g z := ⟨h1.1, h1.2.1, by rw [← h z h1.1 h1.2.1]; exact h1.2.2⟩
    exact Or.inl ⟨h3, (ct z h3).symm.trans h2⟩
  · exact Or.inr ⟨h1, fun p q => by rw [← ct p q]; exact h2 p (st p q)⟩
theorem SV.congr {f g : Int → Int} (h : ∀ p : Int, 1 ≤ p → p ≤ 80 → f p = g p) (hf : SV g) : SV f := fun p h1 h2 => by rw [h p h1 h2]; exact hf p h1 h2
/-! places in the current state -/
theorem ry0 {R : RMem} (h : RefOk R) {i : Int} (hi : 0 ≤ i ∧ i < 4) : R 2 i = some (4 + 2 * i.toNat) ∧ StyAt R (4 + 2 * i.toNat) (5 + 2 * i.toNat) := by
  have h1 := ro_sty h (k := 0) (by omega) hi
  rw [show stB 0 = 1 from rfl, show 1 + (3 + 2 * i.toNat) = 4 + 2 * i.toNat by omega, show 1 + (4 + 2 * i.toNat) = 5 + 2 * i.toNat by omega] at h1
  exact h1
theorem rp0 {R : RMem} (h : RefOk R) {π : Nat → Nat} (hπ : StrS R 0 π) {i : Int} (hi : 0 ≤ i ∧ i < 8) : R 3 i = some (12 + 2 * π i.toNat) ∧ ParAt R (12 + 2 * π i.toNat) (13 + 2 * π i.toNat) ∧ π i.toNat < 8 := by
  have h1 := str_at hπ hi
  have h2 := ro_par h (k := 0) (by omega) h1.2
  rw [show stB 0 = 1 from rfl, show 1 + (11 + 2 * π i.toNat) = 12 + 2 * π i.toNat by omega] at h1 h2
  rw [show 1 + (12 + 2 * π i.toNat) = 13 + 2 * π i.toNat by omega] at h2
  exact ⟨h1.1, h2, h1.2⟩
theorem at0_y {I : Mem} {π : Nat → Nat} {σ : CS} (h : AtS I 0 π σ) {i : Int} (hi : 0 ≤ i ∧ i < 4) : AtY I (4 + 2 * i.toNat) (5 + 2 * i.toNat) (σ.2.1 i.toNat) := by
  have h1 := h.2.2.2.1 i.toNat (by omega)
  rw [show stB 0 = 1 from rfl, show 1 + (3 + 2 * i.toNat) = 4 + 2 * i.toNat by omega, show 1 + (4 + 2 * i.toNat) = 5 + 2 * i.toNat by omega] at h1
  exact h1
theorem at0_p {I : Mem} {π : Nat → Nat} {σ : CS} (h : AtS I 0 π σ) {i : Int} (hi : 0 ≤ i ∧ i < 8) : AtP I (12 + 2 * π i.toNat) (13 + 2 * π i.toNat) (σ.2.2 i.toNat) := by
  have h1 := h.2.2.2.2 i.toNat (by omega)
  rw [show stB 0 = 1 from rfl, show 1 + (11 + 2 * π i.toNat) = 12 + 2 * π i.toNat by omega, show 1 + (12 + 2 * π i.toNat) = 13 + 2 * π i.toNat by omega] at h1
  exact h1
theorem at0_mk {I : Mem} {π : Nat → Nat} {σ : CS} (h1 : I 1 0 = σ.1.1) (h2 : I 1 1 = σ.1.2.1) (h3 : I 1 2 = σ.1.2.2) (hy : ∀ i : Nat, i < 4 → AtY I (4 + 2 * i) (5 + 2 * i) (σ.2.1 i)) (hp : ∀ i : Nat, i < 8 → AtP I (12 + 2 * π i) (13 + 2 * π i) (σ.2.2 i)) : AtS I 0 π σ := by
  refine ⟨h1, h2, h3, fun i hi => ?_, fun i hi => ?_⟩
  · rw [show stB 0 = 1 from rfl, show 1 + (3 + 2 * i) = 4 + 2 * i by omega, show 1 + (4 + 2 * i) = 5 + 2 * i by omega]
    exact hy i hi
  · rw [show stB 0 = 1 from rfl, show 1 + (11 + 2 * π i) = 12 + 2 * π i by omega, show 1 + (12 + 2 * π i) = 13 + 2 * π i by omega]
    exact hp i hi
/-- the current state has changed, nothing else that counts -/
theorem CI.st {I I1 : Mem} {R : RMem} {π sg : Nat → Nat} {a : AS} {σ : CS} (h : CI I R π sg a) (h6 : a.2.1 ≤ 6) (h0 : AtS I1 0 π σ) (hk : ∀ (x : Nat) (j : Int), (x = 0 ∨ 28 ≤ x) → x < 30 ∨ 128 ≤ x → x < 290 → I1 x j = I x j) : CI I1 R π sg (wS a σ) := by
  refine ⟨h.1, h0, (hk _ _ (by omega) (by omega) (by omega)).trans h.2.2.1, fun j hj => (h.2.2.2.1 j hj).kept (fun i hi => hi) (fun x z h1 h2 => hk x z ?_ ?_ ?_), (hk _ _ (by omega) (by omega) (by omega)).trans h.2.2.2.2.1, fun j h1 h2 => (hk _ _ (by omega) (by omega) (by omega)).trans (h.2.2.2.2.2 j h1 h2)⟩ <;>
  · have hj : j < a.2.1 := hj
    have hq := h.1.2.2.2.1 j (by omega)
    have := stB_in hq.2.1
    omega
theorem CI.st2 {I I1 : Mem} {R R1 : RMem} {π π1 sg : Nat → Nat} {a : AS} {σ : CS} (h : CI I R π sg a) (hR : RInv R1 π1 sg) (h6 : a.2.1 ≤ 6) (h0 : AtS I1 0 π1 σ) (hk : ∀ (x : Nat) (j : Int), (x = 0 ∨ 28 ≤ x) → x < 30 ∨ 128 ≤ x → x < 290 → I1 x j = I x j) : CI I1 R1 π1 sg (wS a σ) := by
  refine ⟨hR, h0, (hk _ _ (by omega) (by omega) (by omega)).trans h.2.2.1, fun j hj => (h.2.2.2.1 j hj).kept (fun i hi => hi) (fun x z h1 h2 => hk x z ?_ ?_ ?_), (hk _ _ (by omega) (by omega) (by omega)).trans h.2.2.2.2.1, fun j h1 h2 => (hk _ _ (by omega) (by omega) (by omega)).trans (h.2.2.2.2.2 j h1 h2)⟩ <;>
  · have hj : j < a.2.1 := hj
    have hq := h.1.2.2.2.1 j (by omega)
    have := stB_in hq.2.1
    omega
theorem psh_6 (a : AS) (h : a.2.1 ≤ 6) : (psh a).2.1 ≤ 6 := by
  show nS a.2.1 ≤ 6
  unfold nS
  split <;> omega
set_option maxHeartbeats 4000000 in
set_option maxRecDepth 100000 in
theorem c_isStyle (I : Mem) (R : RMem) (s : Int) (hs : -2147483648 ≤ s ∧ s ≤ 2147483647) : CC 2 0 0 yX7_isStyle cX7_isStyle 2 (some .boolean) [.inr (some 0), .inl (s)] (298, ShF, I, R) (PF (b2i (0 ≤ s ∧ s ≤ 3)) I R) := by
  refine CC_of (own := RX7) (ini := false) (by decide +kernel) rfl (fun h => absurd h (by decide)) (Nat.le_of_ble_eq_true rfl) ?_
  show WW cX7_isStyle RX7 2 (some .boolean) false 2 0 0 (PF (b2i (0 ≤ s ∧ s ≤ 3)) I R) 0 0 0 [some (.inr (some 0)), some (.inl (s))] [] (298, ShF, I, R)
  refine r_iload_n dX7_isStyle_0 rfl ?_
  refine r_iconst dX7_isStyle_1 ?_
  refine r_iconst dX7_isStyle_2 ?_
  refine q_callSF lk_X7_38 dX7_isStyle_3 (c_isWithin I R s 0 3 hs (by decide) (by decide)) (by decide) rfl rfl (Nat.le_of_ble_eq_true rfl) (by decide) ?_
  refine q_zretF dX7_isStyle_6 rfl (b2i_01 _) ?_
  rfl
set_option maxHeartbeats 4000000 in
set_option maxRecDepth 100000 in
theorem c_isParagraph (I : Mem) (R : RMem) (hRO : RefOk R) (c : Int) (hc : I 1 2 = c) (hc8 : 0 ≤ c ∧ c ≤ 8) (p : Int) (hp : -2147483648 ≤ p ∧ p ≤ 2147483647) : CC 2 0 0 yX7_isParagraph cX7_isParagraph 2 (some .boolean) [.inr (some 0), .inl (p)] (298, ShF, I, R) (PF (b2i (0 ≤ p ∧ p ≤ c - 1)) I R) := by
  refine CC_of (own := RX7) (ini := false) (by decide +kernel) rfl (fun h => absurd h (by decide)) (Nat.le_of_ble_eq_true rfl) ?_
  show WW cX7_isParagraph RX7 2 (some .boolean) false 2 0 0 (PF (b2i (0 ≤ p ∧ p ≤ c - 1)) I R) 0 0 0 [some (.inr (some 0)), some (.inl (p))] [] (298, ShF, I, R)
  refine r_iload_n dX7_isParagraph_0 rfl ?_
  refine r_iconst dX7_isParagraph_1 ?_
  refine r_aload_n dX7_isParagraph_2 rfl ?_
  refine q_getR fl_X7_12 dX7_isParagraph_3 sf_0 (ro_0_0 hRO) ?_
  refine q_getI fl_X7_101 dX7_isParagraph_6 sf_1 ?_
  rw [hc]
  refine r_iconst dX7_isParagraph_9 ?_
  refine r_isub dX7_isParagraph_10 ?_
  refine q_callSF lk_X7_38 dX7_isParagraph_11 (c_isWithin I R p 0 (c - 1) hp (by decide) (by omega)) (by decide) rfl rfl (Nat.le_of_ble_eq_true rfl) (by decide) ?_
  refine q_zretF dX7_isParagraph_14 rfl (b2i_01 _) ?_
  rfl
set_option maxHeartbeats 4000000 in
set_option maxRecDepth 100000 in
theorem k_setNumber (I : Mem) (R : RMem) (π sg : Nat → Nat) (a : AS) (hI : CI I R π sg a) (hA : AbsOk a) (wh : Int) (hwh : -2147483648 ≤ wh ∧ wh ≤ 2147483647) (v : Int) (hv : -2147483648 ≤ v ∧ v ≤ 2147483647) : CC 4 0 0 yX7_setNumber cX7_setNumber 4 (some .int) [.inr (some 0), .inl (wh), .inl (v)] (298, ShF, I, R) (PC (aSetNumber a wh v) I) := by
  have hRO := hI.1.1
  have hcols : I 1 0 = a.1.1.1 := hI.2.1.1
  have hdist : I 1 1 = a.1.1.2.1 := hI.2.1.2.1
  have hcnt : I 1 2 = a.1.1.2.2 := hI.2.1.2.2.1
  have hW := hA.1
  have hW1 := hW.1
  have hW2 := hW.2.1
  have hW3 := hW.2.2.1
  refine CC_of (own := RX7) (ini := false) (by decide +kernel) rfl (fun h => absurd h (by decide)) (Nat.le_of_ble_eq_true rfl) ?_
  show WW cX7_setNumber RX7 4 (some .int) false 4 0 0 (PC (aSetNumber a wh v) I) 0 0 0 [some (.inr (some 0)), some (.inl (wh)), some (.inl (v)), none] [] (298, ShF, I, R)
  refine r_iload_n dX7_setNumber_0 rfl ?_
  refine r_ifne (tgt := 37) dX7_setNumber_1 (by decide) (by omega) (fun h1 => ?_) (fun h1 => ?_)
  · refine r_iload_n dX7_setNumber_37 rfl ?_
    refine r_iconst dX7_setNumber_38 ?_
    refine r_icmpne (tgt := 74) dX7_setNumber_39 (by decide) (by omega) (by omega) (fun h39 => ?_) (fun h39 => ?_)
    · refine r_iconst dX7_setNumber_74 ?_
      refine q_iretZR dX7_setNumber_75 rfl ?_
      have e : aSetNumber a wh v = (-1, a) := by
        unfold aSetNumber
        rw [if_neg (by omega), if_neg (by omega)]
      rw [e]
      exact ⟨rfl, ⟨π, sg, hI⟩, fun _ _ _ => rfl⟩
    · refine r_iload_n dX7_setNumber_42 rfl ?_
      refine r_iconst dX7_setNumber_43 ?_
      refine r_bipush dX7_setNumber_44 (by decide) ?_
      refine q_callSF lk_X7_38 dX7_setNumber_46 (c_isWithin I R v 2 20 hv (by decide) (by decide)) (by decide) rfl rfl (Nat.le_of_ble_eq_true rfl) (by decide) ?_
      refine q_ifeqB (tgt := 74) dX7_setNumber_49 (by decide) (fun h49 => ?_) (fun h49 => ?_)
      · refine r_iconst dX7_setNumber_74 ?_
        refine q_iretZR dX7_setNumber_75 rfl ?_
        have e : aSetNumber a wh v = (-1, a) := by
          unfold aSetNumber
          rw [if_neg (by omega), if_neg (by omega)]
        rw [e]
        exact ⟨rfl, ⟨π, sg, hI⟩, fun _ _ _ => rfl⟩
      · refine r_aload_n dX7_setNumber_52 rfl ?_
        refine q_callVWR lk_X7_42 dX7_setNumber_53 (c_saveState I R π sg a hI hA) (by decide) sf_0 rfl rfl (Nat.le_of_ble_eq_true rfl) (by decide) (fun I1 R1 hs => ?_)
        obtain ⟨⟨sg1, hI1⟩, hk1, hr1⟩ := hs
        have hRO1 := hI1.1.1
        have hI1' : AtS I1 0 π a.1 := hI1.2.1
        have h61 := psh_6 a hA.2.1
        refine r_aload_n dX7_setNumber_56 rfl ?_
        refine q_getR fl_X7_12 dX7_setNumber_57 sf_0 (ro_0_0 hRO1) ?_
        refine q_getI fl_X7_49 dX7_setNumber_60 sf_1 ?_
        refine r_istore_n dX7_setNumber_63 (by decide) ?_
        dsimp only [lset]
        refine r_aload_n dX7_setNumber_64 rfl ?_
        refine q_getR fl_X7_12 dX7_setNumber_65 sf_0 (ro_0_0 hRO1) ?_
        refine r_iload_n dX7_setNumber_68 rfl ?_
        refine q_putI fl_X7_49 dX7_setNumber_69 sf_1 ?_
        refine r_iload_n dX7_setNumber_72 rfl ?_
        refine q_iretZR dX7_setNumber_73 rfl ?_
        have e : aSetNumber a wh v = (a.1.1.2.1, wS (psh a) ((a.1.1.1, v, a.1.1.2.2), a.1.2)) := by
          unfold aSetNumber
          rw [if_neg (by omega), if_pos (by omega)]
        rw [e]
        refine ⟨hI1'.2.1, ⟨π, sg1, hI1.st h61 (at0_mk (by rw [u2_n (Or.inr (by decide))]; exact hI1'.1) u2_s (by rw [u2_n (Or.inr (by decide))]; exact hI1'.2.2.1) (fun i hi => ?_) (fun i hi => ?_)) (fun x j h1 _ _ => u2_n (Or.inl (by omega)))⟩, fun x j h => by rw [u2_n (Or.inl (by omega))]; exact hk1 x j (Or.inl h)⟩
        · have h9 := at0_y hI1' (i := i) (by omega)
          rw [Int.toNat_natCast] at h9
          exact h9.kept (fun j => u2_n (Or.inl (by omega))) (fun j => u2_n (Or.inl (by omega)))
        · have h9 := at0_p hI1' (i := i) (by omega)
          rw [Int.toNat_natCast] at h9
          exact h9.kept (fun j => u2_n (Or.inl (by omega))) (fun j => u2_n (Or.inl (by omega)))
  · refine r_iload_n dX7_setNumber_4 rfl ?_
    refine r_bipush dX7_setNumber_5 (by decide) ?_
    refine r_bipush dX7_setNumber_7 (by decide) ?_
    refine q_callSF lk_X7_38 dX7_setNumber_9 (c_isWithin I R v 20 80 hv (by decide) (by decide)) (by decide) rfl rfl (Nat.le_of_ble_eq_true rfl) (by decide) ?_
    refine q_ifeqB (tgt := 37) dX7_setNumber_12 (by decide) (fun h12 => ?_) (fun h12 => ?_)
    · refine r_iload_n dX7_setNumber_37 rfl ?_
      refine r_iconst dX7_setNumber_38 ?_
      refine r_icmpne (tgt := 74) dX7_setNumber_39 (by decide) (by omega) (by omega) (fun h39 => ?_) (fun h39 => ?_)
      · refine r_iconst dX7_setNumber_74 ?_
        refine q_iretZR dX7_setNumber_75 rfl ?_
        have e : aSetNumber a wh v = (-1, a) := by
          unfold aSetNumber
          rw [if_neg (by omega), if_neg (by omega)]
        rw [e]
        exact ⟨rfl, ⟨π, sg, hI⟩, fun _ _ _ => rfl⟩
      · refine r_iload_n dX7_setNumber_42 rfl ?_
        refine r_iconst dX7_setNumber_43 ?_
        refine r_bipush dX7_setNumber_44 (by decide) ?_
        refine q_callSF lk_X7_38 dX7_setNumber_46 (c_isWithin I R v 2 20 hv (by decide) (by decide)) (by decide) rfl rfl (Nat.le_of_ble_eq_true rfl) (by decide) ?_
        refine q_ifeqB (tgt := 74) dX7_setNumber_49 (by decide) (fun h49 => ?_) (fun h49 => ?_)
        · refine r_iconst dX7_setNumber_74 ?_
          refine q_iretZR dX7_setNumber_75 rfl ?_
          have e : aSetNumber a wh v = (-1, a) := by
            unfold aSetNumber
            rw [if_neg (by omega), if_neg (by omega)]
          rw [e]
          exact ⟨rfl, ⟨π, sg, hI⟩, fun _ _ _ => rfl⟩
        · refine r_aload_n dX7_setNumber_52 rfl ?_
          refine q_callVWR lk_X7_42 dX7_setNumber_53 (c_saveState I R π sg a hI hA) (by decide) sf_0 rfl rfl (Nat.le_of_ble_eq_true rfl) (by decide) (fun I1 R1 hs => ?_)
          obtain ⟨⟨sg1, hI1⟩, hk1, hr1⟩ := hs
          have hRO1 := hI1.1.1
          have hI1' : AtS I1 0 π a.1 := hI1.2.1
          have h61 := psh_6 a hA.2.1
          refine r_aload_n dX7_setNumber_56 rfl ?_
          refine q_getR fl_X7_12 dX7_setNumber_57 sf_0 (ro_0_0 hRO1) ?_
          refine q_getI fl_X7_49 dX7_setNumber_60 sf_1 ?_
          refine r_istore_n dX7_setNumber_63 (by decide) ?_
          dsimp only [lset]
          refine r_aload_n dX7_setNumber_64 rfl ?_
          refine q_getR fl_X7_12 dX7_setNumber_65 sf_0 (ro_0_0 hRO1) ?_
          refine r_iload_n dX7_setNumber_68 rfl ?_
          refine q_putI fl_X7_49 dX7_setNumber_69 sf_1 ?_
          refine r_iload_n dX7_setNumber_72 rfl ?_
          refine q_iretZR dX7_setNumber_73 rfl ?_
          have e : aSetNumber a wh v = (a.1.1.2.1, wS (psh a) ((a.1.1.1, v, a.1.1.2.2), a.1.2)) := by
            unfold aSetNumber
            rw [if_neg (by omega), if_pos (by omega)]
          rw [e]
          refine ⟨hI1'.2.1, ⟨π, sg1, hI1.st h61 (at0_mk (by rw [u2_n (Or.inr (by decide))]; exact hI1'.1) u2_s (by rw [u2_n (Or.inr (by decide))]; exact hI1'.2.2.1) (fun i hi => ?_) (fun i hi => ?_)) (fun x j h1 _ _ => u2_n (Or.inl (by omega)))⟩, fun x j h => by rw [u2_n (Or.inl (by omega))]; exact hk1 x j (Or.inl h)⟩
          · have h9 := at0_y hI1' (i := i) (by omega)
            rw [Int.toNat_natCast] at h9
            exact h9.kept (fun j => u2_n (Or.inl (by omega))) (fun j => u2_n (Or.inl (by omega)))
          · have h9 := at0_p hI1' (i := i) (by omega)
            rw [Int.toNat_natCast] at h9
            exact h9.kept (fun j => u2_n (Or.inl (by omega))) (fun j => u2_n (Or.inl (by omega)))
    · refine r_aload_n dX7_setNumber_15 rfl ?_
      refine q_callVWR lk_X7_42 dX7_setNumber_16 (c_saveState I R π sg a hI hA) (by decide) sf_0 rfl rfl (Nat.le_of_ble_eq_true rfl) (by decide) (fun I1 R1 hs => ?_)
      obtain ⟨⟨sg1, hI1⟩, hk1, hr1⟩ := hs
      have hRO1 := hI1.1.1
      have hI1' : AtS I1 0 π a.1 := hI1.2.1
      have h61 := psh_6 a hA.2.1
      refine r_aload_n dX7_setNumber_19 rfl ?_
      refine q_getR fl_X7_12 dX7_setNumber_20 sf_0 (ro_0_0 hRO1) ?_
      refine q_getI fl_X7_45 dX7_setNumber_23 sf_1 ?_
      refine r_istore_n dX7_setNumber_26 (by decide) ?_
      dsimp only [lset]
      refine r_aload_n dX7_setNumber_27 rfl ?_
      refine q_getR fl_X7_12 dX7_setNumber_28 sf_0 (ro_0_0 hRO1) ?_
      refine r_iload_n dX7_setNumber_31 rfl ?_
      refine q_putI fl_X7_45 dX7_setNumber_32 sf_1 ?_
      refine r_iload_n dX7_setNumber_35 rfl ?_
      refine q_iretZR dX7_setNumber_36 rfl ?_
      have e : aSetNumber a wh v = (a.1.1.1, wS (psh a) ((v, a.1.1.2), a.1.2)) := by
        unfold aSetNumber
        rw [if_pos (by omega)]
      rw [e]
      refine ⟨hI1'.1, ⟨π, sg1, hI1.st h61 (at0_mk u2_s (by rw [u2_n (Or.inr (by decide))]; exact hI1'.2.1) (by rw [u2_n (Or.inr (by decide))]; exact hI1'.2.2.1) (fun i hi => ?_) (fun i hi => ?_)) (fun x j h1 _ _ => u2_n (Or.inl (by omega)))⟩, fun x j h => by rw [u2_n (Or.inl (by omega))]; exact hk1 x j (Or.inl h)⟩
      · have h9 := at0_y hI1' (i := i) (by omega)
        rw [Int.toNat_natCast] at h9
        exact h9.kept (fun j => u2_n (Or.inl (by omega))) (fun j => u2_n (Or.inl (by omega)))
      · have h9 := at0_p hI1' (i := i) (by omega)
        rw [Int.toNat_natCast] at h9
        exact h9.kept (fun j => u2_n (Or.inl (by omega))) (fun j => u2_n (Or.inl (by omega)))
set_option maxHeartbeats 4000000 in
set_option maxRecDepth 100000 in
theorem k_setIndent (I : Mem) (R : RMem) (π sg : Nat → Nat) (a : AS) (hI : CI I R π sg a) (hA : AbsOk a) (s : Int) (hs : -2147483648 ≤ s ∧ s ≤ 2147483647) (wh : Int) (hwh : -2147483648 ≤ wh ∧ wh ≤ 2147483647) (v : Int) (hv : -2147483648 ≤ v ∧ v ≤ 2147483647) : CC 4 0 0 yX7_setIndent cX7_setIndent 6 (some .int) [.inr (some 0), .inl (s), .inl (wh), .inl (v)] (298, ShF, I, R) (PC (aSetIndent a s wh v) I) := by
  have hRO := hI.1.1
  have hcols : I 1 0 = a.1.1.1 := hI.2.1.1
  have hdist : I 1 1 = a.1.1.2.1 := hI.2.1.2.1
  have hcnt : I 1 2 = a.1.1.2.2 := hI.2.1.2.2.1
  have hW := hA.1
  have hW1 := hW.1
  have hW2 := hW.2.1
  have hW3 := hW.2.2.1
  refine CC_of (own := RX7) (ini := false) (by decide +kernel) rfl (fun h => absurd h (by decide)) (Nat.le_of_ble_eq_true rfl) ?_
  show WW cX7_setIndent RX7 6 (some .int) false 4 0 0 (PC (aSetIndent a s wh v) I) 0 0 0 [some (.inr (some 0)), some (.inl (s)), some (.inl (wh)), some (.inl (v)), none, none] [] (298, ShF, I, R)
  refine r_aload_n dX7_setIndent_0 rfl ?_
  refine r_iload_n dX7_setIndent_1 rfl ?_
  refine q_callVF lk_X7_52 dX7_setIndent_2 (c_isStyle I R s hs) (by decide) sf_0 rfl rfl (Nat.le_of_ble_eq_true rfl) (by decide) ?_
  refine q_ifeqB (tgt := 27) dX7_setIndent_5 (by decide) (fun h5 => ?_) (fun h5 => ?_)
  · refine r_iconst dX7_setIndent_27 ?_
    refine q_iretZR dX7_setIndent_28 rfl ?_
    have e : aSetIndent a s wh v = (-1, a) := by
      unfold aSetIndent
      rw [if_neg (by omega)]
    rw [e]
    exact ⟨rfl, ⟨π, sg, hI⟩, fun _ _ _ => rfl⟩
  · refine r_iload_n dX7_setIndent_8 rfl ?_
    refine r_iconst dX7_setIndent_9 ?_
    refine r_iconst dX7_setIndent_10 ?_
    refine q_callSF lk_X7_38 dX7_setIndent_11 (c_isWithin I R wh 0 1 hwh (by decide) (by decide)) (by decide) rfl rfl (Nat.le_of_ble_eq_true rfl) (by decide) ?_
    refine q_ifeqB (tgt := 27) dX7_setIndent_14 (by decide) (fun h14 => ?_) (fun h14 => ?_)
    · refine r_iconst dX7_setIndent_27 ?_
      refine q_iretZR dX7_setIndent_28 rfl ?_
      have e : aSetIndent a s wh v = (-1, a) := by
        unfold aSetIndent
        rw [if_neg (by omega)]
      rw [e]
      exact ⟨rfl, ⟨π, sg, hI⟩, fun _ _ _ => rfl⟩
    · refine r_iload_n dX7_setIndent_17 rfl ?_
      refine r_iconst dX7_setIndent_18 ?_
      refine r_bipush dX7_setIndent_19 (by decide) ?_
      refine q_callSF lk_X7_38 dX7_setIndent_21 (c_isWithin I R v 0 19 hv (by decide) (by decide)) (by decide) rfl rfl (Nat.le_of_ble_eq_true rfl) (by decide) ?_
      refine q_ifneB (tgt := 29) dX7_setIndent_24 (by decide) (fun h24 => ?_) (fun h24 => ?_)
      · refine r_aload_n dX7_setIndent_29 rfl ?_
        refine q_callVWR lk_X7_42 dX7_setIndent_30 (c_saveState I R π sg a hI hA) (by decide) sf_0 rfl rfl (Nat.le_of_ble_eq_true rfl) (by decide) (fun I1 R1 hs0 => ?_)
        obtain ⟨⟨sg1, hI1⟩, hk1, hr1⟩ := hs0
        have hRO1 := hI1.1.1
        have hI1' : AtS I1 0 π a.1 := hI1.2.1
        have h61 := psh_6 a hA.2.1
        refine r_aload_n dX7_setIndent_33 rfl ?_
        refine q_getR fl_X7_12 dX7_setIndent_34 sf_0 (ro_0_0 hRO1) ?_
        refine q_getR fl_X7_56 dX7_setIndent_37 sf_1 (ro_1_3 hRO1) ?_
        refine r_iload_n dX7_setIndent_40 rfl ?_
        refine q_aald (t := 3) (by decide) dX7_setIndent_41 sf_2 (by omega) (ry0 hRO1 (i := s) (by omega)).1 ?_
        refine r_astore dX7_setIndent_42 (by decide) ?_
        dsimp only [lset]
        refine r_iload_n dX7_setIndent_44 rfl ?_
        refine r_ifne (tgt := 64) dX7_setIndent_45 (by decide) (by omega) (fun h45 => ?_) (fun h45 => ?_)
        · refine r_aload dX7_setIndent_64 rfl ?_
          refine q_getI fl_X7_65 dX7_setIndent_66 (ry0 hRO1 (i := s) (by omega)).2.1 ?_
          refine r_istore dX7_setIndent_69 (by decide) ?_
          dsimp only [lset]
          refine r_aload dX7_setIndent_71 rfl ?_
          refine r_iload_n dX7_setIndent_73 rfl ?_
          refine q_putI fl_X7_65 dX7_setIndent_74 (ry0 hRO1 (i := s) (by omega)).2.1 ?_
          refine r_iload dX7_setIndent_77 rfl ?_
          refine q_iretZR dX7_setIndent_79 rfl ?_
          have e : aSetIndent a s wh v = ((a.1.2.1 s.toNat).2.1, wS (psh a) (a.1.1, upY a.1.2.1 s.toNat ((a.1.2.1 s.toNat).1, v, (a.1.2.1 s.toNat).2.2), a.1.2.2)) := by
            unfold aSetIndent
            rw [if_pos (by omega), if_neg (by omega)]
          rw [e]
          have hys := at0_y hI1' (i := s) (by omega)
          refine ⟨hys.2.1, ⟨π, sg1, hI1.st h61 (at0_mk ((u2_n (Or.inl (by omega))).trans hI1'.1) ((u2_n (Or.inl (by omega))).trans hI1'.2.1) ((u2_n (Or.inl (by omega))).trans hI1'.2.2.1) (fun i hi => ?_) (fun i hi => ?_)) (fun x j h1 _ _ => u2_n (Or.inl (by omega)))⟩, fun x j h => by rw [u2_n (Or.inl (by omega))]; exact hk1 x j (Or.inl h)⟩
          · show AtY _ _ _ (upY a.1.2.1 s.toNat _ i)
            unfold upY
            by_cases hi2 : i = s.toNat
            · rw [if_pos hi2, hi2]
              exact ⟨(u2_n (Or.inr (by decide))).trans hys.1, u2_s, fun p q1 q2 => (u2_n (Or.inl (by omega))).trans (hys.2.2 p q1 q2)⟩
            · rw [if_neg hi2]
              have h9 := at0_y hI1' (i := i) (by omega)
              rw [Int.toNat_natCast] at h9
              exact h9.kept (fun j => u2_n (Or.inl (by omega))) (fun j => u2_n (Or.inl (by omega)))
          · have h9 := at0_p hI1' (i := i) (by omega)
            rw [Int.toNat_natCast] at h9
            exact h9.kept (fun j => u2_n (Or.inl (by omega))) (fun j => u2_n (Or.inl (by omega)))
        · refine r_aload dX7_setIndent_48 rfl ?_
          refine q_getI fl_X7_60 dX7_setIndent_50 (ry0 hRO1 (i := s) (by omega)).2.1 ?_
          refine r_istore dX7_setIndent_53 (by decide) ?_
          dsimp only [lset]
          refine r_aload dX7_setIndent_55 rfl ?_
          refine r_iload_n dX7_setIndent_57 rfl ?_
          refine q_putI fl_X7_60 dX7_setIndent_58 (ry0 hRO1 (i := s) (by omega)).2.1 ?_
          refine r_goto (tgt := 77) dX7_setIndent_61 (by decide) ?_
          refine r_iload dX7_setIndent_77 rfl ?_
          refine q_iretZR dX7_setIndent_79 rfl ?_
          have e : aSetIndent a s wh v = ((a.1.2.1 s.toNat).1, wS (psh a) (a.1.1, upY a.1.2.1 s.toNat (v, (a.1.2.1 s.toNat).2), a.1.2.2)) := by
            unfold aSetIndent
            rw [if_pos (by omega), if_pos (by omega)]
          rw [e]
          have hys := at0_y hI1' (i := s) (by omega)
          refine ⟨hys.1, ⟨π, sg1, hI1.st h61 (at0_mk ((u2_n (Or.inl (by omega))).trans hI1'.1) ((u2_n (Or.inl (by omega))).trans hI1'.2.1) ((u2_n (Or.inl (by omega))).trans hI1'.2.2.1) (fun i hi => ?_) (fun i hi => ?_)) (fun x j h1 _ _ => u2_n (Or.inl (by omega)))⟩, fun x j h => by rw [u2_n (Or.inl (by omega))]; exact hk1 x j (Or.inl h)⟩
          · show AtY _ _ _ (upY a.1.2.1 s.toNat _ i)
            unfold upY
            by_cases hi2 : i = s.toNat
            · rw [if_pos hi2, hi2]
              exact ⟨u2_s, (u2_n (Or.inr (by decide))).trans hys.2.1, fun p q1 q2 => (u2_n (Or.inl (by omega))).trans (hys.2.2 p q1 q2)⟩
            · rw [if_neg hi2]
              have h9 := at0_y hI1' (i := i) (by omega)
              rw [Int.toNat_natCast] at h9
              exact h9.kept (fun j => u2_n (Or.inl (by omega))) (fun j => u2_n (Or.inl (by omega)))
          · have h9 := at0_p hI1' (i := i) (by omega)
            rw [Int.toNat_natCast] at h9
            exact h9.kept (fun j => u2_n (Or.inl (by omega))) (fun j => u2_n (Or.inl (by omega)))
      · refine r_iconst dX7_setIndent_27 ?_
        refine q_iretZR dX7_setIndent_28 rfl ?_
        have e : aSetIndent a s wh v = (-1, a) := by
          unfold aSetIndent
          rw [if_neg (by omega)]
        rw [e]
        exact ⟨rfl, ⟨π, sg, hI⟩, fun _ _ _ => rfl⟩
set_option maxHeartbeats 4000000 in
set_option maxRecDepth 100000 in
theorem k_appendCharacter (I : Mem) (R : RMem) (π sg : Nat → Nat) (a : AS) (hI : CI I R π sg a) (hA : AbsOk a) (c : Int) (hc : -2147483648 ≤ c ∧ c ≤ 2147483647) : CC 2 0 0 yX7_appendCharacter cX7_appendCharacter 2 (some .int) [.inr (some 0), .inl (c)] (298, ShF, I, R) (PC (aAppend a c) I) := by
  have hRO := hI.1.1
  have hcols : I 1 0 = a.1.1.1 := hI.2.1.1
  have hdist : I 1 1 = a.1.1.2.1 := hI.2.1.2.1
  have hcnt : I 1 2 = a.1.1.2.2 := hI.2.1.2.2.1
  have hW := hA.1
  have hW1 := hW.1
  have hW2 := hW.2.1
  have hW3 := hW.2.2.1
  refine CC_of (own := RX7) (ini := false) (by decide +kernel) rfl (fun h => absurd h (by decide)) (Nat.le_of_ble_eq_true rfl) ?_
  show WW cX7_appendCharacter RX7 2 (some .int) false 2 0 0 (PC (aAppend a c) I) 0 0 0 [some (.inr (some 0)), some (.inl (c))] [] (298, ShF, I, R)
  refine r_iload_n dX7_appendCharacter_0 rfl ?_
  refine r_iconst dX7_appendCharacter_1 ?_
  refine r_sipush dX7_appendCharacter_2 (by decide) ?_
  refine q_callSF lk_X7_38 dX7_appendCharacter_5 (c_isWithin I R c 0 255 hc (by decide) (by decide)) (by decide) rfl rfl (Nat.le_of_ble_eq_true rfl) (by decide) ?_
  refine q_ifneB (tgt := 13) dX7_appendCharacter_8 (by decide) (fun h8 => ?_) (fun h8 => ?_)
  · refine r_aload_n dX7_appendCharacter_13 rfl ?_
    refine q_getI fl_X7_86 dX7_appendCharacter_14 sf_0 ?_
    have htl := hI.2.2.2.2.1
    have htl2 := hA.2.2.2.1
    refine r_bipush dX7_appendCharacter_17 (by decide) ?_
    refine r_icmplt (tgt := 25) dX7_appendCharacter_19 (by decide) (by omega) (by omega) (fun h19 => ?_) (fun h19 => ?_)
    · refine r_aload_n dX7_appendCharacter_25 rfl ?_
      refine q_getR fl_X7_20 dX7_appendCharacter_26 sf_0 (ro_0_3 hRO) ?_
      refine r_aload_n dX7_appendCharacter_29 rfl ?_
      refine q_getI fl_X7_86 dX7_appendCharacter_30 sf_0 ?_
      refine r_iload_n dX7_appendCharacter_33 rfl ?_
      refine q_iast dX7_appendCharacter_34 sf_29 (by omega) ?_
      refine r_aload_n dX7_appendCharacter_35 rfl ?_
      refine r_dup dX7_appendCharacter_36 ?_
      refine q_getI fl_X7_86 dX7_appendCharacter_37 sf_0 ?_
      refine r_iconst dX7_appendCharacter_40 ?_
      refine r_iadd dX7_appendCharacter_41 ?_
      refine q_putI fl_X7_86 dX7_appendCharacter_42 sf_0 ?_
      refine r_aload_n dX7_appendCharacter_45 rfl ?_
      refine q_getI fl_X7_86 dX7_appendCharacter_46 sf_0 ?_
      refine q_iretZR dX7_appendCharacter_49 rfl ?_
      have e : aAppend a c = ((a.2.2.2.1 : Int) + 1, (a.1, a.2.1, a.2.2.1, a.2.2.2.1 + 1, upF a.2.2.2.2 a.2.2.2.1 c)) := by
        unfold aAppend
        rw [if_pos (by omega), if_neg (by omega)]
      rw [e]
      have hk : ∀ (x : Nat) (j : Int), x ≠ 0 → x ≠ 29 → u2 (u2 I 29 (I 0 4) c) 0 4 (u2 I 29 (I 0 4) c 0 4 + 1) x j = I x j := fun x j h1 h2 => by rw [u2_n (Or.inl h1), u2_n (Or.inl h2)]
      have hv : u2 (u2 I 29 (I 0 4) c) 0 4 (u2 I 29 (I 0 4) c 0 4 + 1) 0 4 = (a.2.2.2.1 : Int) + 1 := by rw [u2_s, u2_n (Or.inl (by decide)), htl]
      refine ⟨hv, ⟨π, sg, hI.1, ?_, ?_, ?_, ?_, ?_⟩, fun x j h => hk x j (by omega) (by omega)⟩
      · exact hI.2.1.kept (fun i hi => (hI.1.2.1.1 i hi).1) (fun x j h1 h2 => hk x j (by have : stB 0 = 1 := rfl; omega) (by have : stB 0 = 1 := rfl; omega))
      · exact (u2_n (Or.inr (by decide))).trans ((u2_n (Or.inl (by decide))).trans hI.2.2.1)
      · intro j hj
        have hj : j < a.2.1 := hj
        have hq := hI.1.2.2.2.1 j (by have := hA.2.1; omega)
        have hb := stB_in hq.2.1
        have hb2 := hb.2.2.2 (by omega)
        exact (hI.2.2.2.1 j hj).kept (fun i hi => hi) (fun x z h1 h2 => hk x z (by omega) (by omega))
      · rw [hv]
        show _ = ((a.2.2.2.1 + 1 : Nat) : Int)
        omega
      · intro j h1 h2
        have h2 : j < ((a.2.2.2.1 + 1 : Nat) : Int) := h2
        rw [u2_n (Or.inl (by decide)), u2_at]
        show _ = upF a.2.2.2.2 a.2.2.2.1 c j
        unfold upF
        by_cases hj : j = (a.2.2.2.1 : Int)
        · rw [if_pos ⟨rfl, by omega⟩, if_pos hj]
        · rw [if_neg (by omega), if_neg hj]
          exact hI.2.2.2.2.2 j h1 (by omega)
    · refine r_bipush dX7_appendCharacter_22 (by decide) ?_
      refine q_iretZR dX7_appendCharacter_24 rfl ?_
      have e : aAppend a c = (-3, a) := by
        unfold aAppend
        rw [if_pos (by omega), if_pos (by omega)]
      rw [e]
      exact ⟨rfl, ⟨π, sg, hI⟩, fun _ _ _ => rfl⟩
  · refine r_iconst dX7_appendCharacter_11 ?_
    refine q_iretZR dX7_appendCharacter_12 rfl ?_
    have e : aAppend a c = (-1, a) := by
      unfold aAppend
      rw [if_neg (by omega)]
    rw [e]
    exact ⟨rfl, ⟨π, sg, hI⟩, fun _ _ _ => rfl⟩
theorem CI.clr {I : Mem} {R : RMem} {π sg : Nat → Nat} {a : AS} (h : CI I R π sg a) (h6 : a.2.1 ≤ 6) : CI (u2 I 0 4 0) R π sg (clr a) := by
  refine ⟨h.1, h.2.1.kept (fun i hi => (h.1.2.1.1 i hi).1) (fun x j h1 h2 => u2_n (Or.inl (by have : stB 0 = 1 := rfl; omega))), (u2_n (Or.inr (by decide))).trans h.2.2.1, fun j hj => ?_, u2_s, fun j h1 h2 => ?_⟩
  · have hj : j < a.2.1 := hj
    have hq := h.1.2.2.2.1 j (by omega)
    have hb := stB_in hq.2.1
    exact (h.2.2.2.1 j hj).kept (fun i hi => hi) (fun x z h1 h2 => u2_n (Or.inl (by omega)))
  · have h2 : j < ((0 : Nat) : Int) := h2
    omega
set_option maxHeartbeats 4000000 in
set_option maxRecDepth 100000 in
theorem k_clearText (I : Mem) (R : RMem) (π sg : Nat → Nat) (a : AS) (hI : CI I R π sg a) (hA : AbsOk a)  : CC 2 0 0 yX7_clearText cX7_clearText 2 (some .int) [.inr (some 0)] (298, ShF, I, R) (PC (aClear a) I) := by
  refine CC_of (own := RX7) (ini := false) (by decide +kernel) rfl (fun h => absurd h (by decide)) (Nat.le_of_ble_eq_true rfl) ?_
  show WW cX7_clearText RX7 2 (some .int) false 2 0 0 (PC (aClear a) I) 0 0 0 [some (.inr (some 0)), none] [] (298, ShF, I, R)
  refine r_aload_n dX7_clearText_0 rfl ?_
  refine q_getI fl_X7_86 dX7_clearText_1 sf_0 ?_
  refine r_istore_n dX7_clearText_4 (by decide) ?_
  dsimp only [lset]
  refine r_aload_n dX7_clearText_5 rfl ?_
  refine r_iconst dX7_clearText_6 ?_
  refine q_putI fl_X7_86 dX7_clearText_7 sf_0 ?_
  refine r_iload_n dX7_clearText_10 rfl ?_
  refine q_iretZR dX7_clearText_11 rfl ?_
  exact ⟨hI.2.2.2.2.1, ⟨π, sg, hI.clr hA.2.1⟩, fun x j h => u2_n (Or.inl (by omega))⟩
end
section
/-! switches -/
section SW
variable {cc : ByteArray} {own : String} {nL : Nat} {rt : Option FieldType} {ini : Bool} {d mc ms : Nat} {Post : Option MV → Wd → Prop} {uc us pc : Nat} {ls : List (Option MV)} {st : List MV} {w : Wd}
theorem r_tsOut {dflt lo hi x : Int} {offs : Array Int} {len tgt : Nat} (hdg : decode cc pc = .ok (.tableswitch dflt lo hi offs, len)) (hx : -2147483648 ≤ x ∧ x ≤ 2147483647) (h : x < lo ∨ hi < x) (ht : (pc : Int) + dflt = (tgt : Int)) (k : WW cc own nL rt ini d mc ms Post uc us tgt ls st w) : WW cc own nL rt ini d mc ms Post uc us pc ls (.inl x :: st) w := by
  intro l D dA b p e_ s m args below meth c H locs A hC hb0 hS hR hL
  exact lv_tableOut hC.1 hC.2.1 hdg (by rw [i32_ti hx]; exact h) ht (k l D dA b p e_ s m args below meth c H locs A hC hb0 hS hR hL)
theorem r_tsIn {dflt lo hi x off : Int} {offs : Array Int} {len tgt : Nat} (hdg : decode cc pc = .ok (.tableswitch dflt lo hi offs, len)) (hx : -2147483648 ≤ x ∧ x ≤ 2147483647) (h : ¬ x < lo ∧ ¬ hi < x) (ho : offs[(x - lo).toNat]? = some off) (ht : (pc : Int) + off = (tgt : Int)) (k : WW cc own nL rt ini d mc ms Post uc us tgt ls st w) : WW cc own nL rt ini d mc ms Post uc us pc ls (.inl x :: st) w := by
  intro l D dA b p e_ s m args below meth c H locs A hC hb0 hS hR hL
  exact lv_tableIn hC.1 hC.2.1 hdg (by rw [i32_ti hx]; exact h.1) (by rw [i32_ti hx]; exact h.2) (by rw [i32_ti hx]; exact ho) ht (k l D dA b p e_ s m args below meth c H locs A hC hb0 hS hR hL)
theorem r_lkp {dflt x off : Int} {ps : Array (Int × Int)} {len tgt : Nat} (hdg : decode cc pc = .ok (.lookupswitch dflt ps, len)) (hx : -2147483648 ≤ x ∧ x ≤ 2147483647) (hp : (ps.toList.zip (ps.toList.drop 1)).all (fun (a, next) => a.1 < next.1) = true) (ho : Op.lookupswitch.offset ps.toList dflt x = off) (ht : (pc : Int) + off = (tgt : Int)) (k : WW cc own nL rt ini d mc ms Post uc us tgt ls st w) : WW cc own nL rt ini d mc ms Post uc us pc ls (.inl x :: st) w := by
  intro l D dA b p e_ s m args below meth c H locs A hC hb0 hS hR hL
  exact lv_lookup hC.1 hC.2.1 hdg hp (by rw [i32_ti hx]; exact ho) ht (k l D dA b p e_ s m args below meth c H locs A hC hb0 hS hR hL)
end SW
/-! more calls on the abstract state -/
def lastG (f : Int → Int) : Nat → Int
  | 0 => 0
  | n + 1 => if f ((n : Int) + 1) ≠ 0 ∧ f ((n : Int) + 1) ≤ 16 then (n : Int) + 1 else lastG f n
def behG (f : Int → Int) (c : Int) : Nat → Int
  | 0 => -9
  | n + 1 => if c < 80 - (n : Int) ∧ f (80 - (n : Int)) ≠ 0 ∧ f (80 - (n : Int)) ≤ 16 then 80 - (n : Int) else behG f c n
def dfl (D c : Int) : Int := (c / D + 1) * D
theorem lastR_G {f : Int → Int} {z : Int} (h : LastR f z) : z = lastG f 80 := by
  have key : ∀ n : Nat, n ≤ 80 → (∀ p : Int, TabF f p → n < p → False) ∨ True → ((∀ p : Int, TabF f p → p ≤ n) → z = lastG f n) := by
    intro n
    induction n with
    | zero =>
      intro _ _ h0
      rcases h.1 with h1 | h1
      · have := h0 z h1
        have := h1.1
        omega
      · exact h1
    | succ n ih =>
      intro hn _ h0
      show z = if f ((n : Int) + 1) ≠ 0 ∧ f ((n : Int) + 1) ≤ 16 then (n : Int) + 1 else lastG f n
      by_cases hc : f ((n : Int) + 1) ≠ 0 ∧ f ((n : Int) + 1) ≤ 16
      · rw [if_pos hc]
        have h1 := h.2 ((n : Int) + 1) ⟨by omega, by omega, hc.1, hc.2⟩
        rcases h.1 with h2 | h2
        · have := h0 z h2
          omega
        · omega
      · rw [if_neg hc]
        refine ih (by omega) (Or.inr trivial) (fun p hp => ?_)
        have h1 := h0 p hp
        by_cases hp2 : p = (n : Int) + 1
        · rw [hp2] at hp
          exact absurd ⟨hp.2.2.1, hp.2.2.2⟩ hc
        · omega
  exact key 80 (by omega) (Or.inr trivial) (fun p hp => hp.2.1)
theorem behR_G {f : Int → Int} {c z : Int} (hc : 0 ≤ c) (h : BehR f c z) : z = behG f c 80 := by
  have key : ∀ n : Nat, n ≤ 80 → (∀ p : Int, TabF f p → c < p → 80 - (n : Int) < p) → z = behG f c n := by
    intro n
    induction n with
    | zero =>
      intro _ h0
      rcases h with h | h
      · have := h0 z h.1 h.2.1
        have := h.1.2.1
        omega
      · exact h.1
    | succ n ih =>
      intro hn h0
      show z = if c < 80 - (n : Int) ∧ f (80 - (n : Int)) ≠ 0 ∧ f (80 - (n : Int)) ≤ 16 then 80 - (n : Int) else behG f c n
      by_cases hq : c < 80 - (n : Int) ∧ f (80 - (n : Int)) ≠ 0 ∧ f (80 - (n : Int)) ≤ 16
      · rw [if_pos hq]
        have ht : TabF f (80 - (n : Int)) := ⟨by omega, by omega, hq.2.1, hq.2.2⟩
        rcases h with h | h
        · have h1 := h.2.2 _ ht hq.1
          have h2 := h0 z h.1 h.2.1
          omega
        · have := h.2 _ ht
          omega
      · rw [if_neg hq]
        refine ih (by omega) (fun p hp hcp => ?_)
        have h1 := h0 p hp hcp
        by_cases hp2 : p = 80 - (n : Int)
        · rw [hp2] at hp hcp
          exact absurd ⟨hcp, hp.2.2.1, hp.2.2.2⟩ hq
        · omega
  exact key 80 (by omega) (fun p hp _ => by have := hp.1; omega)
def aStyleQ (a : AS) (s w : Int) : Int :=
  if 0 ≤ s ∧ s ≤ 3 then (if w = 0 then (a.1.2.1 s.toNat).1 else if w = 1 then (a.1.2.1 s.toNat).2.1 else if w = 2 then cntF (a.1.2.1 s.toNat).2.2 80 else if w = 3 then dfl a.1.1.2.1 (lastG (a.1.2.1 s.toNat).2.2 80) else -1) else -1
def aStopQ (a : AS) (s k w : Int) : Int :=
  if (0 ≤ s ∧ s ≤ 3) ∧ 0 ≤ k ∧ (0 ≤ w ∧ w ≤ 2) then
    (if posF (a.1.2.1 s.toNat).2.2 k = -9 ∨ w = 0 then posF (a.1.2.1 s.toNat).2.2 k else if w = 1 then ((a.1.2.1 s.toNat).2.2 (posF (a.1.2.1 s.toNat).2.2 k) - 1) / 4 else ((a.1.2.1 s.toNat).2.2 (posF (a.1.2.1 s.toNat).2.2 k) - 1) % 4) else -1
def aCharQ (a : AS) (p i : Int) : Int :=
  if (0 ≤ p ∧ p ≤ a.1.1.2.2 - 1) ∧ 0 ≤ i then (if i < (a.1.2.2 p.toNat).2.1 then (a.1.2.2 p.toNat).2.2 i else -9) else -1
theorem lastG_congr {f g : Int → Int} : ∀ n : Nat, n ≤ 80 → (∀ p : Int, 1 ≤ p → p ≤ 80 → f p = g p) → lastG f n = lastG g n
  | 0, _, _ => rfl
  | n + 1, hn, h => by
    show (if f ((n : Int) + 1) ≠ 0 ∧ f ((n : Int) + 1) ≤ 16 then (n : Int) + 1 else lastG f n) = if g ((n : Int) + 1) ≠ 0 ∧ g ((n : Int) + 1) ≤ 16 then (n : Int) + 1 else lastG g n
    rw [h _ (by omega) (by omega), lastG_congr n (by omega) h]
theorem behG_congr {f g : Int → Int} {c : Int} : ∀ n : Nat, n ≤ 80 → (∀ p : Int, 1 ≤ p → p ≤ 80 → f p = g p) → behG f c n = behG g c n
  | 0, _, _ => rfl
  | n + 1, hn, h => by
    show (if c < 80 - (n : Int) ∧ f (80 - (n : Int)) ≠ 0 ∧ f (80 - (n : Int)) ≤ 16 then 80 - (n : Int) else behG f c n) = if c < 80 - (n : Int) ∧ g (80 - (n : Int)) ≠ 0 ∧ g (80 - (n : Int)) ≤ 16 then 80 - (n : Int) else behG g c n
    rw [h _ (by omega) (by omega), behG_congr n (by omega) h]
theorem lastG_bd (f : Int → Int) : ∀ n : Nat, 0 ≤ lastG f n ∧ lastG f n ≤ n
  | 0 => by simp [lastG]
  | n + 1 => by
    have h := lastG_bd f n
    show 0 ≤ (if f ((n : Int) + 1) ≠ 0 ∧ f ((n : Int) + 1) ≤ 16 then (n : Int) + 1 else lastG f n) ∧ (if f ((n : Int) + 1) ≠ 0 ∧ f ((n : Int) + 1) ≤ 16 then (n : Int) + 1 else lastG f n) ≤ ((n + 1 : Nat) : Int)
    split <;> omega
/-! a style's stops, a paragraph have changed -/
theorem CI.sty {I I1 : Mem} {R : RMem} {π sg : Nat → Nat} {a : AS} (h : CI I R π sg a) (h6 : a.2.1 ≤ 6) {i : Nat} (hi : i < 4) {g : Int → Int} (hk : ∀ (x : Nat) (j : Int), x ≠ 5 + 2 * i → I1 x j = I x j) (hg : ∀ p : Int, 1 ≤ p → p ≤ 80 → I1 (5 + 2 * i) p = g p) : CI I1 R π sg (wS a (setF a.1 i g)) := by
  refine h.st h6 (at0_mk ((hk _ _ (by omega)).trans h.2.1.1) ((hk _ _ (by omega)).trans h.2.1.2.1) ((hk _ _ (by omega)).trans h.2.1.2.2.1) (fun q hq => ?_) (fun q hq => ?_)) (fun x j h1 h2 h3 => hk x j (by omega))
  · have h9 := at0_y h.2.1 (i := q) (by omega)
    rw [Int.toNat_natCast] at h9
    show AtY _ _ _ (upY a.1.2.1 i _ q)
    unfold upY
    by_cases hqi : q = i
    · subst hqi
      rw [if_pos rfl]
      exact ⟨(hk _ _ (by omega)).trans h9.1, (hk _ _ (by omega)).trans h9.2.1, hg⟩
    · rw [if_neg hqi]
      exact h9.kept (fun j => hk _ _ (by omega)) (fun j => hk _ _ (by omega))
  · have h9 := at0_p h.2.1 (i := q) (by omega)
    rw [Int.toNat_natCast] at h9
    exact h9.kept (fun j => hk _ _ (by omega)) (fun j => hk _ _ (by omega))
theorem CI.par {I I1 : Mem} {R : RMem} {π sg : Nat → Nat} {a : AS} (h : CI I R π sg a) (h6 : a.2.1 ≤ 6) {i : Nat} (hi : i < 8) {y : YV} (hk : ∀ (x : Nat) (j : Int), x ≠ 12 + 2 * π i → x ≠ 13 + 2 * π i → I1 x j = I x j) (hy : AtP I1 (12 + 2 * π i) (13 + 2 * π i) y) : CI I1 R π sg (wS a (setP a.1 i y)) := by
  have hpi := h.1.2.1
  have hp := (hpi.1 i hi).1
  refine h.st h6 (at0_mk ((hk _ _ (by omega) (by omega)).trans h.2.1.1) ((hk _ _ (by omega) (by omega)).trans h.2.1.2.1) ((hk _ _ (by omega) (by omega)).trans h.2.1.2.2.1) (fun q hq => ?_) (fun q hq => ?_)) (fun x j h1 h2 h3 => hk x j (by omega) (by omega))
  · have h9 := at0_y h.2.1 (i := q) (by omega)
    rw [Int.toNat_natCast] at h9
    exact h9.kept (fun j => hk _ _ (by omega) (by omega)) (fun j => hk _ _ (by omega) (by omega))
  · have h9 := at0_p h.2.1 (i := q) (by omega)
    rw [Int.toNat_natCast] at h9
    show AtP _ _ _ (upY a.1.2.2 i y q)
    unfold upY
    by_cases hqi : q = i
    · subst hqi
      rw [if_pos rfl]
      exact hy
    · rw [if_neg hqi]
      have hne : π q ≠ π i := fun e => hqi (hpi.2 q i hq hi e)
      exact h9.kept (fun j => hk _ _ (by omega) (by omega)) (fun j => hk _ _ (by omega) (by omega))
set_option maxHeartbeats 4000000 in
set_option maxRecDepth 100000 in
theorem c_multipleBehind (I : Mem) (R : RMem) (c D : Int) (hc : 0 ≤ c ∧ c ≤ 100000) (hD : 1 ≤ D ∧ D ≤ 1000) : CC 2 0 0 yX7_multipleBehind cX7_multipleBehind 3 (some .int) [.inl (c), .inl (D)] (298, ShF, I, R) (PF (dfl D c) I R) := by
  refine CC_of (own := RX7) (ini := false) (by decide +kernel) rfl (fun h => absurd h (by decide)) (Nat.le_of_ble_eq_true rfl) ?_
  show WW cX7_multipleBehind RX7 3 (some .int) false 2 0 0 (PF (dfl D c) I R) 0 0 0 [some (.inl (c)), some (.inl (D)), none] [] (298, ShF, I, R)
  refine r_iconst dX7_multipleBehind_0 ?_
  refine r_iload_n dX7_multipleBehind_1 rfl ?_
  refine q_mmax mx_X7_212 dX7_multipleBehind_2 (by decide) (Nat.le_of_ble_eq_true rfl) (by omega) (by omega) (by decide) ?_
  rw [show (if (1 : Int) < D then D else 1) = D by split <;> omega]
  refine r_istore_n dX7_multipleBehind_5 (by decide) ?_
  dsimp only [lset]
  refine r_iload_n dX7_multipleBehind_6 rfl ?_
  refine r_iload_n dX7_multipleBehind_7 rfl ?_
  refine r_idiv dX7_multipleBehind_8 (by omega) (by omega) ?_
  refine r_iconst dX7_multipleBehind_9 ?_
  refine r_iadd dX7_multipleBehind_10 ?_
  refine r_iload_n dX7_multipleBehind_11 rfl ?_
  refine r_imul dX7_multipleBehind_12 ?_
  refine q_iretF dX7_multipleBehind_13 rfl ?_
  rfl
set_option maxHeartbeats 4000000 in
set_option maxRecDepth 100000 in
theorem k_setStop (I : Mem) (R : RMem) (π sg : Nat → Nat) (a : AS) (hI : CI I R π sg a) (hA : AbsOk a) (s : Int) (hs : -2147483648 ≤ s ∧ s ≤ 2147483647) (p : Int) (hp : -2147483648 ≤ p ∧ p ≤ 2147483647) (kd : Int) (hkd : -2147483648 ≤ kd ∧ kd ≤ 2147483647) (le : Int) (hle : -2147483648 ≤ le ∧ le ≤ 2147483647) : CC 4 0 0 yX7_setStop cX7_setStop 6 (some .int) [.inr (some 0), .inl (s), .inl (p), .inl (kd), .inl (le)] (298, ShF, I, R) (PC (aSetStop a s p kd le) I) := by
  have hRO := hI.1.1
  have hcols : I 1 0 = a.1.1.1 := hI.2.1.1
  have hdist : I 1 1 = a.1.1.2.1 := hI.2.1.2.1
  have hcnt : I 1 2 = a.1.1.2.2 := hI.2.1.2.2.1
  have hW := hA.1
  have hW1 := hW.1
  have hW2 := hW.2.1
  have hW3 := hW.2.2.1
  refine CC_of (own := RX7) (ini := false) (by decide +kernel) rfl (fun h => absurd h (by decide)) (Nat.le_of_ble_eq_true rfl) ?_
  show WW cX7_setStop RX7 6 (some .int) false 4 0 0 (PC (aSetStop a s p kd le) I) 0 0 0 [some (.inr (some 0)), some (.inl (s)), some (.inl (p)), some (.inl (kd)), some (.inl (le)), none] [] (298, ShF, I, R)
  refine r_aload_n dX7_setStop_0 rfl ?_
  refine r_iload_n dX7_setStop_1 rfl ?_
  refine q_callVF lk_X7_52 dX7_setStop_2 (c_isStyle I R s hs) (by decide) sf_0 rfl rfl (Nat.le_of_ble_eq_true rfl) (by decide) ?_
  refine q_ifeqB (tgt := 46) dX7_setStop_5 (by decide) (fun h5 => ?_) (fun h5 => ?_)
  · refine r_iconst dX7_setStop_46 ?_
    refine q_iretZR dX7_setStop_47 rfl ?_
    have e : aSetStop a s p kd le = (-1, a) := by
      unfold aSetStop
      rw [if_neg (by split <;> omega)]
    rw [e]
    exact ⟨rfl, ⟨π, sg, hI⟩, fun _ _ _ => rfl⟩
  · refine r_iload_n dX7_setStop_8 rfl ?_
    refine r_iconst dX7_setStop_9 ?_
    refine r_bipush dX7_setStop_10 (by decide) ?_
    refine q_callSF lk_X7_38 dX7_setStop_12 (c_isWithin I R p 1 80 hp (by decide) (by decide)) (by decide) rfl rfl (Nat.le_of_ble_eq_true rfl) (by decide) ?_
    refine q_ifeqB (tgt := 46) dX7_setStop_15 (by decide) (fun h15 => ?_) (fun h15 => ?_)
    · refine r_iconst dX7_setStop_46 ?_
      refine q_iretZR dX7_setStop_47 rfl ?_
      have e : aSetStop a s p kd le = (-1, a) := by
        unfold aSetStop
        rw [if_neg (by split <;> omega)]
      rw [e]
      exact ⟨rfl, ⟨π, sg, hI⟩, fun _ _ _ => rfl⟩
    · refine r_iload_n dX7_setStop_18 rfl ?_
      refine r_iconst dX7_setStop_19 ?_
      refine r_iconst dX7_setStop_20 ?_
      refine q_callSF lk_X7_38 dX7_setStop_21 (c_isWithin I R kd 0 4 hkd (by decide) (by decide)) (by decide) rfl rfl (Nat.le_of_ble_eq_true rfl) (by decide) ?_
      refine q_ifeqB (tgt := 46) dX7_setStop_24 (by decide) (fun h24 => ?_) (fun h24 => ?_)
      · refine r_iconst dX7_setStop_46 ?_
        refine q_iretZR dX7_setStop_47 rfl ?_
        have e : aSetStop a s p kd le = (-1, a) := by
          unfold aSetStop
          rw [if_neg (by split <;> omega)]
        rw [e]
        exact ⟨rfl, ⟨π, sg, hI⟩, fun _ _ _ => rfl⟩
      · refine r_iload dX7_setStop_27 rfl ?_
        refine r_iconst dX7_setStop_29 ?_
        refine r_iload_n dX7_setStop_30 rfl ?_
        refine r_iconst dX7_setStop_31 ?_
        refine r_icmpne (tgt := 39) dX7_setStop_32 (by decide) (by omega) (by omega) (fun h32 => ?_) (fun h32 => ?_)
        · refine r_iconst dX7_setStop_39 ?_
          refine q_callSF lk_X7_38 dX7_setStop_40 (c_isWithin I R le 0 _ hle (by decide) (by decide)) (by decide) rfl rfl (Nat.le_of_ble_eq_true rfl) (by decide) ?_
          refine q_ifneB (tgt := 48) dX7_setStop_43 (by decide) (fun h43 => ?_) (fun h43 => ?_)
          · refine r_aload_n dX7_setStop_48 rfl ?_
            refine q_getR fl_X7_12 dX7_setStop_49 sf_0 (ro_0_0 hRO) ?_
            refine q_getR fl_X7_56 dX7_setStop_52 sf_1 (ro_1_3 hRO) ?_
            refine r_iload_n dX7_setStop_55 rfl ?_
            refine q_aald (t := 3) (by decide) dX7_setStop_56 sf_2 (by omega) (ry0 hRO (i := s) (by omega)).1 ?_
            have hy := at0_y hI.2.1 (i := s) (by omega)
            have hwy := hW.2.2.2.1 s.toNat (by omega)
            have hsv0 : SV (I (5 + 2 * s.toNat)) := hwy.2.2.1.congr hy.2.2
            have hcn : cntF (I (5 + 2 * s.toNat)) 80 = cntF (a.1.2.1 s.toNat).2.2 80 := cntF_congr hy.2.2
            refine r_astore dX7_setStop_57 (by decide) ?_
            dsimp only [lset]
            refine r_aload dX7_setStop_59 rfl ?_
            refine r_iload_n dX7_setStop_61 rfl ?_
            refine q_callVF lk_X7_68 dX7_setStop_62 (c_hasStop I R (ry0 hRO (i := s) (by omega)).2 hsv0 p (by omega)) (by decide) (ry0 hRO (i := s) (by omega)).2.1 rfl rfl (Nat.le_of_ble_eq_true rfl) (by decide) ?_
            refine q_ifneB (tgt := 83) dX7_setStop_65 (by decide) (fun h65 => ?_) (fun h65 => ?_)
            · refine r_aload_n dX7_setStop_83 rfl ?_
              refine q_callVWR lk_X7_42 dX7_setStop_84 (c_saveState I R π sg a hI hA) (by decide) sf_0 rfl rfl (Nat.le_of_ble_eq_true rfl) (by decide) (fun I1 R1 hsv => ?_)
              obtain ⟨⟨sg1, hI1⟩, hk1, hr1⟩ := hsv
              have hRO1 := hI1.1.1
              have hI1' : AtS I1 0 π a.1 := hI1.2.1
              have h61 := psh_6 a hA.2.1
              refine r_aload dX7_setStop_87 rfl ?_
              refine r_iload_n dX7_setStop_89 rfl ?_
              refine r_iload_n dX7_setStop_90 rfl ?_
              refine r_iload dX7_setStop_91 rfl ?_
              refine q_callVW lk_X7_75 dX7_setStop_93 (c_putStop I1 R1 (ry0 hRO1 (i := s) (by omega)).2 p kd le (by omega) (by omega) (by omega)) (by decide) (ry0 hRO (i := s) (by omega)).2.1 rfl rfl (Nat.le_of_ble_eq_true rfl) (by decide) (fun I2 hI2 => ?_)
              subst hI2
              have hwy1 := at0_y hI1' (i := s) (by omega)
              have hg2 : ∀ q : Int, 1 ≤ q → q ≤ 80 → u2 I1 (5 + 2 * s.toNat) p (1 + kd * 4 + le) (5 + 2 * s.toNat) q = upF (a.1.2.1 s.toNat).2.2 p (1 + kd * 4 + le) q := fun q h1 h2 => by
                rw [u2_at]
                unfold upF
                by_cases hq : q = p
                · rw [if_pos ⟨rfl, hq⟩, if_pos hq]
                · rw [if_neg (fun z => hq z.2), if_neg hq]
                  exact hwy1.2.2 q h1 h2
              have hsv1 : SV (u2 I1 (5 + 2 * s.toNat) p (1 + kd * 4 + le) (5 + 2 * s.toNat)) := SV.congr hg2 (fun q h1 h2 => by
                unfold upF
                by_cases hq : q = p
                · rw [if_pos hq]; omega
                · rw [if_neg hq]; exact hwy.2.2.1 q h1 h2)
              refine r_aload dX7_setStop_96 rfl ?_
              refine r_iload_n dX7_setStop_98 rfl ?_
              refine q_callVF lk_X7_71 dX7_setStop_99 (c_stopsBefore _ R1 (ry0 hRO1 (i := s) (by omega)).2 hsv1 p (by omega)) (by decide) (ry0 hRO (i := s) (by omega)).2.1 rfl rfl (Nat.le_of_ble_eq_true rfl) (by decide) ?_
              refine q_iretZR dX7_setStop_102 rfl ?_
              have hpp := hy.2.2 p (by omega) (by omega)
              have e : aSetStop a s p kd le = (cntF (upF (a.1.2.1 s.toNat).2.2 p (1 + kd * 4 + le)) (p - 1).toNat, wS (psh a) (setF a.1 s.toNat (upF (a.1.2.1 s.toNat).2.2 p (1 + kd * 4 + le)))) := by
                unfold aSetStop
                rw [if_pos (by split <;> omega), if_neg (by omega)]
              rw [e]
              refine ⟨?_, ⟨π, sg1, hI1.sty h61 (i := s.toNat) (by omega) (fun x j h => u2_n (Or.inl h)) hg2⟩, fun x j h => by rw [u2_n (Or.inl (by omega))]; exact hk1 x j (Or.inl h)⟩
              rw [show (if p - 1 < 80 then p - 1 else 80) = p - 1 by split <;> omega]
              exact cntF_congr (fun q h1 h2 => hg2 q h1 (by omega))
            · refine r_aload dX7_setStop_68 rfl ?_
              refine r_bipush dX7_setStop_70 (by decide) ?_
              refine q_callVF lk_X7_71 dX7_setStop_72 (c_stopsBefore I R (ry0 hRO (i := s) (by omega)).2 hsv0 81 (by decide)) (by decide) (ry0 hRO (i := s) (by omega)).2.1 rfl rfl (Nat.le_of_ble_eq_true rfl) (by decide) ?_
              rw [show (if (81 : Int) - 1 < 80 then (81 : Int) - 1 else 80).toNat = 80 by decide, hcn]
              have hcb := cntF_bd (a.1.2.1 s.toNat).2.2 80
              refine r_bipush dX7_setStop_75 (by decide) ?_
              refine r_icmplt (tgt := 83) dX7_setStop_77 (by decide) (by omega) (by omega) (fun h77 => ?_) (fun h77 => ?_)
              · refine r_aload_n dX7_setStop_83 rfl ?_
                refine q_callVWR lk_X7_42 dX7_setStop_84 (c_saveState I R π sg a hI hA) (by decide) sf_0 rfl rfl (Nat.le_of_ble_eq_true rfl) (by decide) (fun I1 R1 hsv => ?_)
                obtain ⟨⟨sg1, hI1⟩, hk1, hr1⟩ := hsv
                have hRO1 := hI1.1.1
                have hI1' : AtS I1 0 π a.1 := hI1.2.1
                have h61 := psh_6 a hA.2.1
                refine r_aload dX7_setStop_87 rfl ?_
                refine r_iload_n dX7_setStop_89 rfl ?_
                refine r_iload_n dX7_setStop_90 rfl ?_
                refine r_iload dX7_setStop_91 rfl ?_
                refine q_callVW lk_X7_75 dX7_setStop_93 (c_putStop I1 R1 (ry0 hRO1 (i := s) (by omega)).2 p kd le (by omega) (by omega) (by omega)) (by decide) (ry0 hRO (i := s) (by omega)).2.1 rfl rfl (Nat.le_of_ble_eq_true rfl) (by decide) (fun I2 hI2 => ?_)
                subst hI2
                have hwy1 := at0_y hI1' (i := s) (by omega)
                have hg2 : ∀ q : Int, 1 ≤ q → q ≤ 80 → u2 I1 (5 + 2 * s.toNat) p (1 + kd * 4 + le) (5 + 2 * s.toNat) q = upF (a.1.2.1 s.toNat).2.2 p (1 + kd * 4 + le) q := fun q h1 h2 => by
                  rw [u2_at]
                  unfold upF
                  by_cases hq : q = p
                  · rw [if_pos ⟨rfl, hq⟩, if_pos hq]
                  · rw [if_neg (fun z => hq z.2), if_neg hq]
                    exact hwy1.2.2 q h1 h2
                have hsv1 : SV (u2 I1 (5 + 2 * s.toNat) p (1 + kd * 4 + le) (5 + 2 * s.toNat)) := SV.congr hg2 (fun q h1 h2 => by
                  unfold upF
                  by_cases hq : q = p
                  · rw [if_pos hq]; omega
                  · rw [if_neg hq]; exact hwy.2.2.1 q h1 h2)
                refine r_aload dX7_setStop_96 rfl ?_
                refine r_iload_n dX7_setStop_98 rfl ?_
                refine q_callVF lk_X7_71 dX7_setStop_99 (c_stopsBefore _ R1 (ry0 hRO1 (i := s) (by omega)).2 hsv1 p (by omega)) (by decide) (ry0 hRO (i := s) (by omega)).2.1 rfl rfl (Nat.le_of_ble_eq_true rfl) (by decide) ?_
                refine q_iretZR dX7_setStop_102 rfl ?_
                have hpp := hy.2.2 p (by omega) (by omega)
                have e : aSetStop a s p kd le = (cntF (upF (a.1.2.1 s.toNat).2.2 p (1 + kd * 4 + le)) (p - 1).toNat, wS (psh a) (setF a.1 s.toNat (upF (a.1.2.1 s.toNat).2.2 p (1 + kd * 4 + le)))) := by
                  unfold aSetStop
                  rw [if_pos (by split <;> omega), if_neg (by omega)]
                rw [e]
                refine ⟨?_, ⟨π, sg1, hI1.sty h61 (i := s.toNat) (by omega) (fun x j h => u2_n (Or.inl h)) hg2⟩, fun x j h => by rw [u2_n (Or.inl (by omega))]; exact hk1 x j (Or.inl h)⟩
                rw [show (if p - 1 < 80 then p - 1 else 80) = p - 1 by split <;> omega]
                exact cntF_congr (fun q h1 h2 => hg2 q h1 (by omega))
              · refine r_bipush dX7_setStop_80 (by decide) ?_
                refine q_iretZR dX7_setStop_82 rfl ?_
                have hpp := hy.2.2 p (by omega) (by omega)
                have e : aSetStop a s p kd le = (-3, a) := by
                  unfold aSetStop
                  rw [if_pos (by split <;> omega), if_pos (by omega)]
                rw [e]
                exact ⟨rfl, ⟨π, sg, hI⟩, fun _ _ _ => rfl⟩
          · refine r_iconst dX7_setStop_46 ?_
            refine q_iretZR dX7_setStop_47 rfl ?_
            have e : aSetStop a s p kd le = (-1, a) := by
              unfold aSetStop
              rw [if_neg (by split <;> omega)]
            rw [e]
            exact ⟨rfl, ⟨π, sg, hI⟩, fun _ _ _ => rfl⟩
        · refine r_iconst dX7_setStop_35 ?_
          refine r_goto (tgt := 40) dX7_setStop_36 (by decide) ?_
          refine q_callSF lk_X7_38 dX7_setStop_40 (c_isWithin I R le 0 _ hle (by decide) (by decide)) (by decide) rfl rfl (Nat.le_of_ble_eq_true rfl) (by decide) ?_
          refine q_ifneB (tgt := 48) dX7_setStop_43 (by decide) (fun h43 => ?_) (fun h43 => ?_)
          · refine r_aload_n dX7_setStop_48 rfl ?_
            refine q_getR fl_X7_12 dX7_setStop_49 sf_0 (ro_0_0 hRO) ?_
            refine q_getR fl_X7_56 dX7_setStop_52 sf_1 (ro_1_3 hRO) ?_
            refine r_iload_n dX7_setStop_55 rfl ?_
            refine q_aald (t := 3) (by decide) dX7_setStop_56 sf_2 (by omega) (ry0 hRO (i := s) (by omega)).1 ?_
            have hy := at0_y hI.2.1 (i := s) (by omega)
            have hwy := hW.2.2.2.1 s.toNat (by omega)
            have hsv0 : SV (I (5 + 2 * s.toNat)) := hwy.2.2.1.congr hy.2.2
            have hcn : cntF (I (5 + 2 * s.toNat)) 80 = cntF (a.1.2.1 s.toNat).2.2 80 := cntF_congr hy.2.2
            refine r_astore dX7_setStop_57 (by decide) ?_
            dsimp only [lset]
            refine r_aload dX7_setStop_59 rfl ?_
            refine r_iload_n dX7_setStop_61 rfl ?_
            refine q_callVF lk_X7_68 dX7_setStop_62 (c_hasStop I R (ry0 hRO (i := s) (by omega)).2 hsv0 p (by omega)) (by decide) (ry0 hRO (i := s) (by omega)).2.1 rfl rfl (Nat.le_of_ble_eq_true rfl) (by decide) ?_
            refine q_ifneB (tgt := 83) dX7_setStop_65 (by decide) (fun h65 => ?_) (fun h65 => ?_)
            · refine r_aload_n dX7_setStop_83 rfl ?_
              refine q_callVWR lk_X7_42 dX7_setStop_84 (c_saveState I R π sg a hI hA) (by decide) sf_0 rfl rfl (Nat.le_of_ble_eq_true rfl) (by decide) (fun I1 R1 hsv => ?_)
              obtain ⟨⟨sg1, hI1⟩, hk1, hr1⟩ := hsv
              have hRO1 := hI1.1.1
              have hI1' : AtS I1 0 π a.1 := hI1.2.1
              have h61 := psh_6 a hA.2.1
              refine r_aload dX7_setStop_87 rfl ?_
              refine r_iload_n dX7_setStop_89 rfl ?_
              refine r_iload_n dX7_setStop_90 rfl ?_
              refine r_iload dX7_setStop_91 rfl ?_
              refine q_callVW lk_X7_75 dX7_setStop_93 (c_putStop I1 R1 (ry0 hRO1 (i := s) (by omega)).2 p kd le (by omega) (by omega) (by omega)) (by decide) (ry0 hRO (i := s) (by omega)).2.1 rfl rfl (Nat.le_of_ble_eq_true rfl) (by decide) (fun I2 hI2 => ?_)
              subst hI2
              have hwy1 := at0_y hI1' (i := s) (by omega)
              have hg2 : ∀ q : Int, 1 ≤ q → q ≤ 80 → u2 I1 (5 + 2 * s.toNat) p (1 + kd * 4 + le) (5 + 2 * s.toNat) q = upF (a.1.2.1 s.toNat).2.2 p (1 + kd * 4 + le) q := fun q h1 h2 => by
                rw [u2_at]
                unfold upF
                by_cases hq : q = p
                · rw [if_pos ⟨rfl, hq⟩, if_pos hq]
                · rw [if_neg (fun z => hq z.2), if_neg hq]
                  exact hwy1.2.2 q h1 h2
              have hsv1 : SV (u2 I1 (5 + 2 * s.toNat) p (1 + kd * 4 + le) (5 + 2 * s.toNat)) := SV.congr hg2 (fun q h1 h2 => by
                unfold upF
                by_cases hq : q = p
                · rw [if_pos hq]; omega
                · rw [if_neg hq]; exact hwy.2.2.1 q h1 h2)
              refine r_aload dX7_setStop_96 rfl ?_
              refine r_iload_n dX7_setStop_98 rfl ?_
              refine q_callVF lk_X7_71 dX7_setStop_99 (c_stopsBefore _ R1 (ry0 hRO1 (i := s) (by omega)).2 hsv1 p (by omega)) (by decide) (ry0 hRO (i := s) (by omega)).2.1 rfl rfl (Nat.le_of_ble_eq_true rfl) (by decide) ?_
              refine q_iretZR dX7_setStop_102 rfl ?_
              have hpp := hy.2.2 p (by omega) (by omega)
              have e : aSetStop a s p kd le = (cntF (upF (a.1.2.1 s.toNat).2.2 p (1 + kd * 4 + le)) (p - 1).toNat, wS (psh a) (setF a.1 s.toNat (upF (a.1.2.1 s.toNat).2.2 p (1 + kd * 4 + le)))) := by
                unfold aSetStop
                rw [if_pos (by split <;> omega), if_neg (by omega)]
              rw [e]
              refine ⟨?_, ⟨π, sg1, hI1.sty h61 (i := s.toNat) (by omega) (fun x j h => u2_n (Or.inl h)) hg2⟩, fun x j h => by rw [u2_n (Or.inl (by omega))]; exact hk1 x j (Or.inl h)⟩
              rw [show (if p - 1 < 80 then p - 1 else 80) = p - 1 by split <;> omega]
              exact cntF_congr (fun q h1 h2 => hg2 q h1 (by omega))
            · refine r_aload dX7_setStop_68 rfl ?_
              refine r_bipush dX7_setStop_70 (by decide) ?_
              refine q_callVF lk_X7_71 dX7_setStop_72 (c_stopsBefore I R (ry0 hRO (i := s) (by omega)).2 hsv0 81 (by decide)) (by decide) (ry0 hRO (i := s) (by omega)).2.1 rfl rfl (Nat.le_of_ble_eq_true rfl) (by decide) ?_
              rw [show (if (81 : Int) - 1 < 80 then (81 : Int) - 1 else 80).toNat = 80 by decide, hcn]
              have hcb := cntF_bd (a.1.2.1 s.toNat).2.2 80
              refine r_bipush dX7_setStop_75 (by decide) ?_
              refine r_icmplt (tgt := 83) dX7_setStop_77 (by decide) (by omega) (by omega) (fun h77 => ?_) (fun h77 => ?_)
              · refine r_aload_n dX7_setStop_83 rfl ?_
                refine q_callVWR lk_X7_42 dX7_setStop_84 (c_saveState I R π sg a hI hA) (by decide) sf_0 rfl rfl (Nat.le_of_ble_eq_true rfl) (by decide) (fun I1 R1 hsv => ?_)
                obtain ⟨⟨sg1, hI1⟩, hk1, hr1⟩ := hsv
                have hRO1 := hI1.1.1
                have hI1' : AtS I1 0 π a.1 := hI1.2.1
                have h61 := psh_6 a hA.2.1
                refine r_aload dX7_setStop_87 rfl ?_
                refine r_iload_n dX7_setStop_89 rfl ?_
                refine r_iload_n dX7_setStop_90 rfl ?_
                refine r_iload dX7_setStop_91 rfl ?_
                refine q_callVW lk_X7_75 dX7_setStop_93 (c_putStop I1 R1 (ry0 hRO1 (i := s) (by omega)).2 p kd le (by omega) (by omega) (by omega)) (by decide) (ry0 hRO (i := s) (by omega)).2.1 rfl rfl (Nat.le_of_ble_eq_true rfl) (by decide) (fun I2 hI2 => ?_)
                subst hI2
                have hwy1 := at0_y hI1' (i := s) (by omega)
                have hg2 : ∀ q : Int, 1 ≤ q → q ≤ 80 → u2 I1 (5 + 2 * s.toNat) p (1 + kd * 4 + le) (5 + 2 * s.toNat) q = upF (a.1.2.1 s.toNat).2.2 p (1 + kd * 4 + le) q := fun q h1 h2 => by
                  rw [u2_at]
                  unfold upF
                  by_cases hq : q = p
                  · rw [if_pos ⟨rfl, hq⟩, if_pos hq]
                  · rw [if_neg (fun z => hq z.2), if_neg hq]
                    exact hwy1.2.2 q h1 h2
                have hsv1 : SV (u2 I1 (5 + 2 * s.toNat) p (1 + kd * 4 + le) (5 + 2 * s.toNat)) := SV.congr hg2 (fun q h1 h2 => by
                  unfold upF
                  by_cases hq : q = p
                  · rw [if_pos hq]; omega
                  · rw [if_neg hq]; exact hwy.2.2.1 q h1 h2)
                refine r_aload dX7_setStop_96 rfl ?_
                refine r_iload_n dX7_setStop_98 rfl ?_
                refine q_callVF lk_X7_71 dX7_setStop_99 (c_stopsBefore _ R1 (ry0 hRO1 (i := s) (by omega)).2 hsv1 p (by omega)) (by decide) (ry0 hRO (i := s) (by omega)).2.1 rfl rfl (Nat.le_of_ble_eq_true rfl) (by decide) ?_
                refine q_iretZR dX7_setStop_102 rfl ?_
                have hpp := hy.2.2 p (by omega) (by omega)
                have e : aSetStop a s p kd le = (cntF (upF (a.1.2.1 s.toNat).2.2 p (1 + kd * 4 + le)) (p - 1).toNat, wS (psh a) (setF a.1 s.toNat (upF (a.1.2.1 s.toNat).2.2 p (1 + kd * 4 + le)))) := by
                  unfold aSetStop
                  rw [if_pos (by split <;> omega), if_neg (by omega)]
                rw [e]
                refine ⟨?_, ⟨π, sg1, hI1.sty h61 (i := s.toNat) (by omega) (fun x j h => u2_n (Or.inl h)) hg2⟩, fun x j h => by rw [u2_n (Or.inl (by omega))]; exact hk1 x j (Or.inl h)⟩
                rw [show (if p - 1 < 80 then p - 1 else 80) = p - 1 by split <;> omega]
                exact cntF_congr (fun q h1 h2 => hg2 q h1 (by omega))
              · refine r_bipush dX7_setStop_80 (by decide) ?_
                refine q_iretZR dX7_setStop_82 rfl ?_
                have hpp := hy.2.2 p (by omega) (by omega)
                have e : aSetStop a s p kd le = (-3, a) := by
                  unfold aSetStop
                  rw [if_pos (by split <;> omega), if_pos (by omega)]
                rw [e]
                exact ⟨rfl, ⟨π, sg, hI⟩, fun _ _ _ => rfl⟩
          · refine r_iconst dX7_setStop_46 ?_
            refine q_iretZR dX7_setStop_47 rfl ?_
            have e : aSetStop a s p kd le = (-1, a) := by
              unfold aSetStop
              rw [if_neg (by split <;> omega)]
            rw [e]
            exact ⟨rfl, ⟨π, sg, hI⟩, fun _ _ _ => rfl⟩
set_option maxHeartbeats 4000000 in
set_option maxRecDepth 100000 in
theorem k_removeStop (I : Mem) (R : RMem) (π sg : Nat → Nat) (a : AS) (hI : CI I R π sg a) (hA : AbsOk a) (s : Int) (hs : -2147483648 ≤ s ∧ s ≤ 2147483647) (k : Int) (hk : -2147483648 ≤ k ∧ k ≤ 2147483647) : CC 4 0 0 yX7_removeStop cX7_removeStop 5 (some .int) [.inr (some 0), .inl (s), .inl (k)] (298, ShF, I, R) (PC (aRemoveStop a s k) I) := by
  have hRO := hI.1.1
  have hcols : I 1 0 = a.1.1.1 := hI.2.1.1
  have hdist : I 1 1 = a.1.1.2.1 := hI.2.1.2.1
  have hcnt : I 1 2 = a.1.1.2.2 := hI.2.1.2.2.1
  have hW := hA.1
  have hW1 := hW.1
  have hW2 := hW.2.1
  have hW3 := hW.2.2.1
  refine CC_of (own := RX7) (ini := false) (by decide +kernel) rfl (fun h => absurd h (by decide)) (Nat.le_of_ble_eq_true rfl) ?_
  show WW cX7_removeStop RX7 5 (some .int) false 4 0 0 (PC (aRemoveStop a s k) I) 0 0 0 [some (.inr (some 0)), some (.inl (s)), some (.inl (k)), none, none] [] (298, ShF, I, R)
  refine r_aload_n dX7_removeStop_0 rfl ?_
  refine r_iload_n dX7_removeStop_1 rfl ?_
  refine q_callVF lk_X7_52 dX7_removeStop_2 (c_isStyle I R s hs) (by decide) sf_0 rfl rfl (Nat.le_of_ble_eq_true rfl) (by decide) ?_
  refine q_ifneB (tgt := 10) dX7_removeStop_5 (by decide) (fun h5 => ?_) (fun h5 => ?_)
  · refine r_aload_n dX7_removeStop_10 rfl ?_
    refine q_getR fl_X7_12 dX7_removeStop_11 sf_0 (ro_0_0 hRO) ?_
    refine q_getR fl_X7_56 dX7_removeStop_14 sf_1 (ro_1_3 hRO) ?_
    refine r_iload_n dX7_removeStop_17 rfl ?_
    refine q_aald (t := 3) (by decide) dX7_removeStop_18 sf_2 (by omega) (ry0 hRO (i := s) (by omega)).1 ?_
    have hy := at0_y hI.2.1 (i := s) (by omega)
    have hwy := hW.2.2.2.1 s.toNat (by omega)
    have hsv0 : SV (I (5 + 2 * s.toNat)) := hwy.2.2.1.congr hy.2.2
    have hcn : cntF (I (5 + 2 * s.toNat)) 80 = cntF (a.1.2.1 s.toNat).2.2 80 := cntF_congr hy.2.2
    refine r_astore_n dX7_removeStop_19 (by decide) ?_
    dsimp only [lset]
    refine r_aload_n dX7_removeStop_20 rfl ?_
    refine r_iload_n dX7_removeStop_21 rfl ?_
    refine q_callVY lk_X7_79 dX7_removeStop_22 (c_positionOf I R (ry0 hRO (i := s) (by omega)).2 hsv0 k hk) (by decide) (ry0 hRO (i := s) (by omega)).2.1 rfl rfl (Nat.le_of_ble_eq_true rfl) (by decide) (fun z hz => ?_)
    obtain ⟨hz1, hz2⟩ := posR_F (posR_congr hy.2.2 hz)
    have hzr : z = -9 ∨ (1 ≤ z ∧ z ≤ 80) := by
      by_cases h9 : z = -9
      · exact Or.inl h9
      · exact Or.inr ⟨(hz2 h9).1, (hz2 h9).2.1⟩
    refine r_istore dX7_removeStop_25 (by decide) ?_
    dsimp only [lset]
    refine r_iload dX7_removeStop_27 rfl ?_
    refine r_bipush dX7_removeStop_29 (by decide) ?_
    refine r_icmpne (tgt := 36) dX7_removeStop_31 (by decide) (by omega) (by omega) (fun h31 => ?_) (fun h31 => ?_)
    · refine r_aload_n dX7_removeStop_36 rfl ?_
      refine q_callVWR lk_X7_42 dX7_removeStop_37 (c_saveState I R π sg a hI hA) (by decide) sf_0 rfl rfl (Nat.le_of_ble_eq_true rfl) (by decide) (fun I1 R1 hsv => ?_)
      obtain ⟨⟨sg1, hI1⟩, hk1, hr1⟩ := hsv
      have hRO1 := hI1.1.1
      have hI1' : AtS I1 0 π a.1 := hI1.2.1
      have h61 := psh_6 a hA.2.1
      refine r_aload_n dX7_removeStop_40 rfl ?_
      refine r_iload dX7_removeStop_41 rfl ?_
      refine q_callVW lk_X7_82 dX7_removeStop_43 (c_dropStop I1 R1 (ry0 hRO1 (i := s) (by omega)).2 z (by omega)) (by decide) (ry0 hRO (i := s) (by omega)).2.1 rfl rfl (Nat.le_of_ble_eq_true rfl) (by decide) (fun I2 hI2 => ?_)
      subst hI2
      have hwy1 := at0_y hI1' (i := s) (by omega)
      have hg2 : ∀ q : Int, 1 ≤ q → q ≤ 80 → u2 I1 (5 + 2 * s.toNat) z 0 (5 + 2 * s.toNat) q = upF (a.1.2.1 s.toNat).2.2 z 0 q := fun q h1 h2 => by
        rw [u2_at]
        unfold upF
        by_cases hq : q = z
        · rw [if_pos ⟨rfl, hq⟩, if_pos hq]
        · rw [if_neg (fun y => hq y.2), if_neg hq]
          exact hwy1.2.2 q h1 h2
      have hsv1 : SV (u2 I1 (5 + 2 * s.toNat) z 0 (5 + 2 * s.toNat)) := SV.congr hg2 (fun q h1 h2 => by
        unfold upF
        by_cases hq : q = z
        · rw [if_pos hq]; omega
        · rw [if_neg hq]; exact hwy.2.2.1 q h1 h2)
      refine r_aload_n dX7_removeStop_46 rfl ?_
      refine r_bipush dX7_removeStop_47 (by decide) ?_
      refine q_callVF lk_X7_71 dX7_removeStop_49 (c_stopsBefore _ R1 (ry0 hRO1 (i := s) (by omega)).2 hsv1 81 (by decide)) (by decide) (ry0 hRO (i := s) (by omega)).2.1 rfl rfl (Nat.le_of_ble_eq_true rfl) (by decide) ?_
      rw [show (if (81 : Int) - 1 < 80 then (81 : Int) - 1 else 80).toNat = 80 by decide]
      refine q_iretZR dX7_removeStop_52 rfl ?_
      have e : aRemoveStop a s k = (cntF (upF (a.1.2.1 s.toNat).2.2 (posF (a.1.2.1 s.toNat).2.2 k) 0) 80, wS (psh a) (setF a.1 s.toNat (upF (a.1.2.1 s.toNat).2.2 (posF (a.1.2.1 s.toNat).2.2 k) 0))) := by
        unfold aRemoveStop
        rw [if_pos (by omega)]
      rw [e, ← hz1]
      exact ⟨cntF_congr hg2, ⟨π, sg1, hI1.sty h61 (i := s.toNat) (by omega) (fun x j h => u2_n (Or.inl h)) hg2⟩, fun x j h => by rw [u2_n (Or.inl (by omega))]; exact hk1 x j (Or.inl h)⟩
    · refine r_iconst dX7_removeStop_34 ?_
      refine q_iretZR dX7_removeStop_35 rfl ?_
      have e : aRemoveStop a s k = (-1, a) := by
        unfold aRemoveStop
        rw [if_neg (by omega)]
      rw [e]
      exact ⟨rfl, ⟨π, sg, hI⟩, fun _ _ _ => rfl⟩
  · refine r_iconst dX7_removeStop_8 ?_
    refine q_iretZR dX7_removeStop_9 rfl ?_
    have e : aRemoveStop a s k = (-1, a) := by
      unfold aRemoveStop
      rw [if_neg (by omega)]
    rw [e]
    exact ⟨rfl, ⟨π, sg, hI⟩, fun _ _ _ => rfl⟩
set_option maxHeartbeats 4000000 in
set_option maxRecDepth 100000 in
theorem k_addParagraph (I : Mem) (R : RMem) (π sg : Nat → Nat) (a : AS) (hI : CI I R π sg a) (hA : AbsOk a) (s : Int) (hs : -2147483648 ≤ s ∧ s ≤ 2147483647) : CC 4 0 0 yX7_addParagraph cX7_addParagraph 3 (some .int) [.inr (some 0), .inl (s)] (298, ShF, I, R) (PC (aAddPar a s) I) := by
  have hRO := hI.1.1
  have hcols : I 1 0 = a.1.1.1 := hI.2.1.1
  have hdist : I 1 1 = a.1.1.2.1 := hI.2.1.2.1
  have hcnt : I 1 2 = a.1.1.2.2 := hI.2.1.2.2.1
  have hW := hA.1
  have hW1 := hW.1
  have hW2 := hW.2.1
  have hW3 := hW.2.2.1
  refine CC_of (own := RX7) (ini := false) (by decide +kernel) rfl (fun h => absurd h (by decide)) (Nat.le_of_ble_eq_true rfl) ?_
  show WW cX7_addParagraph RX7 3 (some .int) false 4 0 0 (PC (aAddPar a s) I) 0 0 0 [some (.inr (some 0)), some (.inl (s)), none] [] (298, ShF, I, R)
  refine r_aload_n dX7_addParagraph_0 rfl ?_
  refine r_iload_n dX7_addParagraph_1 rfl ?_
  refine q_callVF lk_X7_52 dX7_addParagraph_2 (c_isStyle I R s hs) (by decide) sf_0 rfl rfl (Nat.le_of_ble_eq_true rfl) (by decide) ?_
  refine q_ifneB (tgt := 10) dX7_addParagraph_5 (by decide) (fun h5 => ?_) (fun h5 => ?_)
  · refine r_aload_n dX7_addParagraph_10 rfl ?_
    refine q_getR fl_X7_12 dX7_addParagraph_11 sf_0 (ro_0_0 hRO) ?_
    refine q_getI fl_X7_101 dX7_addParagraph_14 sf_1 ?_
    rw [hcnt]
    refine r_bipush dX7_addParagraph_17 (by decide) ?_
    refine r_icmplt (tgt := 25) dX7_addParagraph_19 (by decide) (by omega) (by omega) (fun h19 => ?_) (fun h19 => ?_)
    · refine r_aload_n dX7_addParagraph_25 rfl ?_
      refine q_callVWR lk_X7_42 dX7_addParagraph_26 (c_saveState I R π sg a hI hA) (by decide) sf_0 rfl rfl (Nat.le_of_ble_eq_true rfl) (by decide) (fun I1 R1 hsv => ?_)
      obtain ⟨⟨sg1, hI1⟩, hk1, hr1⟩ := hsv
      have hRO1 := hI1.1.1
      have hI1' : AtS I1 0 π a.1 := hI1.2.1
      have h61 := psh_6 a hA.2.1
      have hc1 : I1 1 2 = a.1.1.2.2 := hI1'.2.2.1
      refine r_aload_n dX7_addParagraph_29 rfl ?_
      refine q_getR fl_X7_12 dX7_addParagraph_30 sf_0 (ro_0_0 hRO1) ?_
      refine q_getI fl_X7_101 dX7_addParagraph_33 sf_1 ?_
      rw [hc1]
      refine r_istore_n dX7_addParagraph_36 (by decide) ?_
      dsimp only [lset]
      refine r_aload_n dX7_addParagraph_37 rfl ?_
      refine q_getR fl_X7_12 dX7_addParagraph_38 sf_0 (ro_0_0 hRO1) ?_
      refine q_getR fl_X7_104 dX7_addParagraph_41 sf_1 (ro_1_4 hRO1) ?_
      refine r_iload_n dX7_addParagraph_44 rfl ?_
      refine q_aald (t := 4) (by decide) dX7_addParagraph_45 sf_3 (by omega) (rp0 hRO1 hI1.1.2.1 (i := a.1.1.2.2) (by omega)).1 ?_
      refine r_iload_n dX7_addParagraph_46 rfl ?_
      refine q_putI fl_X7_108 dX7_addParagraph_47 (rp0 hRO1 hI1.1.2.1 (i := a.1.1.2.2) (by omega)).2.1.1 ?_
      refine r_aload_n dX7_addParagraph_50 rfl ?_
      refine q_getR fl_X7_12 dX7_addParagraph_51 sf_0 (ro_0_0 hRO1) ?_
      refine q_getR fl_X7_104 dX7_addParagraph_54 sf_1 (ro_1_4 hRO1) ?_
      refine r_iload_n dX7_addParagraph_57 rfl ?_
      refine q_aald (t := 4) (by decide) dX7_addParagraph_58 sf_3 (by omega) (rp0 hRO1 hI1.1.2.1 (i := a.1.1.2.2) (by omega)).1 ?_
      refine r_iconst dX7_addParagraph_59 ?_
      refine q_putI fl_X7_113 dX7_addParagraph_60 (rp0 hRO1 hI1.1.2.1 (i := a.1.1.2.2) (by omega)).2.1.1 ?_
      refine r_aload_n dX7_addParagraph_63 rfl ?_
      refine q_getR fl_X7_12 dX7_addParagraph_64 sf_0 (ro_0_0 hRO1) ?_
      refine r_dup dX7_addParagraph_67 ?_
      refine q_getI fl_X7_101 dX7_addParagraph_68 sf_1 ?_
      refine r_iconst dX7_addParagraph_71 ?_
      refine r_iadd dX7_addParagraph_72 ?_
      refine q_putI fl_X7_101 dX7_addParagraph_73 sf_1 ?_
      refine r_iload_n dX7_addParagraph_76 rfl ?_
      refine q_iretZR dX7_addParagraph_77 rfl ?_
      have e : aAddPar a s = (a.1.1.2.2, wS (psh a) ((a.1.1.1, a.1.1.2.1, a.1.1.2.2 + 1), a.1.2.1, upY a.1.2.2 a.1.1.2.2.toNat (s, 0, (a.1.2.2 a.1.1.2.2.toNat).2.2))) := by
        unfold aAddPar
        rw [if_pos (by omega), if_neg (by omega)]
      rw [e]
      have hpi := hI1.1.2.1
      have hpp := (hpi.1 a.1.1.2.2.toNat (by omega)).1
      have hk : ∀ (x : Nat) (j : Int), x ≠ 12 + 2 * π a.1.1.2.2.toNat → ¬ (x = 1 ∧ j = 2) → u2 (u2 (u2 I1 (12 + 2 * π a.1.1.2.2.toNat) 0 s) (12 + 2 * π a.1.1.2.2.toNat) 1 0) 1 2 (u2 (u2 I1 (12 + 2 * π a.1.1.2.2.toNat) 0 s) (12 + 2 * π a.1.1.2.2.toNat) 1 0 1 2 + 1) x j = I1 x j := fun x j h1 h2 => by
        rw [u2_n (by omega), u2_n (Or.inl h1), u2_n (Or.inl h1)]
      refine ⟨rfl, ⟨π, sg1, hI1.st h61 (at0_mk ((hk _ _ (by omega) (by omega)).trans hI1'.1) ((hk _ _ (by omega) (by omega)).trans hI1'.2.1) ?_ (fun i hi => ?_) (fun i hi => ?_)) (fun x j h1 h2 h3 => hk x j (by omega) (by omega))⟩, fun x j h => by rw [hk _ _ (by omega) (by omega)]; exact hk1 x j (Or.inl h)⟩
      · rw [u2_s, u2_n (Or.inl (by omega)), u2_n (Or.inl (by omega)), hc1]
      · have h9 := at0_y hI1' (i := i) (by omega)
        rw [Int.toNat_natCast] at h9
        exact h9.kept (fun j => hk _ _ (by omega) (by omega)) (fun j => hk _ _ (by omega) (by omega))
      · have h9 := at0_p hI1' (i := i) (by omega)
        rw [Int.toNat_natCast] at h9
        show AtP _ _ _ (upY a.1.2.2 a.1.1.2.2.toNat _ i)
        unfold upY
        by_cases hi2 : i = a.1.1.2.2.toNat
        · rw [if_pos hi2, hi2]
          rw [hi2] at h9
          refine ⟨?_, ?_, fun q h1 h2 => ?_⟩
          · rw [u2_n (Or.inl (by omega)), u2_n (Or.inr (by decide)), u2_s]
          · rw [u2_n (Or.inl (by omega)), u2_s]
          · rw [hk _ _ (by omega) (by omega)]
            exact h9.2.2 q h1 h2
        · rw [if_neg hi2]
          have hne : π i ≠ π a.1.1.2.2.toNat := fun z => hi2 (hpi.2 _ _ hi (by omega) z)
          exact h9.kept (fun j => hk _ _ (by omega) (by omega)) (fun j => hk _ _ (by omega) (by omega))
    · refine r_bipush dX7_addParagraph_22 (by decide) ?_
      refine q_iretZR dX7_addParagraph_24 rfl ?_
      have e : aAddPar a s = (-3, a) := by
        unfold aAddPar
        rw [if_pos (by omega), if_pos (by omega)]
      rw [e]
      exact ⟨rfl, ⟨π, sg, hI⟩, fun _ _ _ => rfl⟩
  · refine r_iconst dX7_addParagraph_8 ?_
    refine q_iretZR dX7_addParagraph_9 rfl ?_
    have e : aAddPar a s = (-1, a) := by
      unfold aAddPar
      rw [if_neg (by omega)]
    rw [e]
    exact ⟨rfl, ⟨π, sg, hI⟩, fun _ _ _ => rfl⟩
set_option maxHeartbeats 4000000 in
set_option maxRecDepth 100000 in
theorem k_setStyle (I : Mem) (R : RMem) (π sg : Nat → Nat) (a : AS) (hI : CI I R π sg a) (hA : AbsOk a) (p : Int) (hp : -2147483648 ≤ p ∧ p ≤ 2147483647) (s : Int) (hs : -2147483648 ≤ s ∧ s ≤ 2147483647) : CC 4 0 0 yX7_setStyle cX7_setStyle 4 (some .int) [.inr (some 0), .inl (p), .inl (s)] (298, ShF, I, R) (PC (aSetStyle a p s) I) := by
  have hRO := hI.1.1
  have hcols : I 1 0 = a.1.1.1 := hI.2.1.1
  have hdist : I 1 1 = a.1.1.2.1 := hI.2.1.2.1
  have hcnt : I 1 2 = a.1.1.2.2 := hI.2.1.2.2.1
  have hW := hA.1
  have hW1 := hW.1
  have hW2 := hW.2.1
  have hW3 := hW.2.2.1
  refine CC_of (own := RX7) (ini := false) (by decide +kernel) rfl (fun h => absurd h (by decide)) (Nat.le_of_ble_eq_true rfl) ?_
  show WW cX7_setStyle RX7 4 (some .int) false 4 0 0 (PC (aSetStyle a p s) I) 0 0 0 [some (.inr (some 0)), some (.inl (p)), some (.inl (s)), none] [] (298, ShF, I, R)
  refine r_aload_n dX7_setStyle_0 rfl ?_
  refine r_iload_n dX7_setStyle_1 rfl ?_
  refine q_callVF lk_X7_116 dX7_setStyle_2 (c_isParagraph I R hRO a.1.1.2.2 hcnt hW3 p hp) (by decide) sf_0 rfl rfl (Nat.le_of_ble_eq_true rfl) (by decide) ?_
  refine q_ifeqB (tgt := 16) dX7_setStyle_5 (by decide) (fun h5 => ?_) (fun h5 => ?_)
  · refine r_iconst dX7_setStyle_16 ?_
    refine q_iretZR dX7_setStyle_17 rfl ?_
    have e : aSetStyle a p s = (-1, a) := by
      unfold aSetStyle
      rw [if_neg (by omega)]
    rw [e]
    exact ⟨rfl, ⟨π, sg, hI⟩, fun _ _ _ => rfl⟩
  · refine r_aload_n dX7_setStyle_8 rfl ?_
    refine r_iload_n dX7_setStyle_9 rfl ?_
    refine q_callVF lk_X7_52 dX7_setStyle_10 (c_isStyle I R s hs) (by decide) sf_0 rfl rfl (Nat.le_of_ble_eq_true rfl) (by decide) ?_
    refine q_ifneB (tgt := 18) dX7_setStyle_13 (by decide) (fun h13 => ?_) (fun h13 => ?_)
    · refine r_aload_n dX7_setStyle_18 rfl ?_
      refine q_callVWR lk_X7_42 dX7_setStyle_19 (c_saveState I R π sg a hI hA) (by decide) sf_0 rfl rfl (Nat.le_of_ble_eq_true rfl) (by decide) (fun I1 R1 hsv => ?_)
      obtain ⟨⟨sg1, hI1⟩, hk1, hr1⟩ := hsv
      have hRO1 := hI1.1.1
      have hI1' : AtS I1 0 π a.1 := hI1.2.1
      have h61 := psh_6 a hA.2.1
      refine r_aload_n dX7_setStyle_22 rfl ?_
      refine q_getR fl_X7_12 dX7_setStyle_23 sf_0 (ro_0_0 hRO1) ?_
      refine q_getR fl_X7_104 dX7_setStyle_26 sf_1 (ro_1_4 hRO1) ?_
      refine r_iload_n dX7_setStyle_29 rfl ?_
      refine q_aald (t := 4) (by decide) dX7_setStyle_30 sf_3 (by omega) (rp0 hRO1 hI1.1.2.1 (i := p) (by omega)).1 ?_
      refine q_getI fl_X7_108 dX7_setStyle_31 (rp0 hRO1 hI1.1.2.1 (i := p) (by omega)).2.1.1 ?_
      refine r_istore_n dX7_setStyle_34 (by decide) ?_
      dsimp only [lset]
      refine r_aload_n dX7_setStyle_35 rfl ?_
      refine q_getR fl_X7_12 dX7_setStyle_36 sf_0 (ro_0_0 hRO1) ?_
      refine q_getR fl_X7_104 dX7_setStyle_39 sf_1 (ro_1_4 hRO1) ?_
      refine r_iload_n dX7_setStyle_42 rfl ?_
      refine q_aald (t := 4) (by decide) dX7_setStyle_43 sf_3 (by omega) (rp0 hRO1 hI1.1.2.1 (i := p) (by omega)).1 ?_
      refine r_iload_n dX7_setStyle_44 rfl ?_
      refine q_putI fl_X7_108 dX7_setStyle_45 (rp0 hRO1 hI1.1.2.1 (i := p) (by omega)).2.1.1 ?_
      refine r_iload_n dX7_setStyle_48 rfl ?_
      refine q_iretZR dX7_setStyle_49 rfl ?_
      have e : aSetStyle a p s = ((a.1.2.2 p.toNat).1, wS (psh a) (setP a.1 p.toNat (s, (a.1.2.2 p.toNat).2))) := by
        unfold aSetStyle
        rw [if_pos (by omega)]
      rw [e]
      have h9 := at0_p hI1' (i := p) (by omega)
      have hpp := (hI1.1.2.1.1 p.toNat (by omega)).1
      exact ⟨h9.1, ⟨π, sg1, hI1.par h61 (i := p.toNat) (by omega) (fun x j h1 h2 => u2_n (Or.inl h1)) ⟨u2_s, (u2_n (Or.inr (by decide))).trans h9.2.1, fun q h1 h2 => (u2_n (Or.inl (by omega))).trans (h9.2.2 q h1 h2)⟩⟩, fun x j h => by rw [u2_n (Or.inl (by omega))]; exact hk1 x j (Or.inl h)⟩
    · refine r_iconst dX7_setStyle_16 ?_
      refine q_iretZR dX7_setStyle_17 rfl ?_
      have e : aSetStyle a p s = (-1, a) := by
        unfold aSetStyle
        rw [if_neg (by omega)]
      rw [e]
      exact ⟨rfl, ⟨π, sg, hI⟩, fun _ _ _ => rfl⟩
set_option maxHeartbeats 4000000 in
set_option maxRecDepth 100000 in
theorem k_undo (I : Mem) (R : RMem) (π sg : Nat → Nat) (a : AS) (hI : CI I R π sg a) (hA : AbsOk a)  : CC 4 0 0 yX7_undo cX7_undo 1 (some .int) [.inr (some 0)] (298, ShF, I, R) (PC (aUndo a) I) := by
  have hRO := hI.1.1
  have hcols : I 1 0 = a.1.1.1 := hI.2.1.1
  have hdist : I 1 1 = a.1.1.2.1 := hI.2.1.2.1
  have hcnt : I 1 2 = a.1.1.2.2 := hI.2.1.2.2.1
  have hW := hA.1
  have hW1 := hW.1
  have hW2 := hW.2.1
  have hW3 := hW.2.2.1
  refine CC_of (own := RX7) (ini := false) (by decide +kernel) rfl (fun h => absurd h (by decide)) (Nat.le_of_ble_eq_true rfl) ?_
  show WW cX7_undo RX7 1 (some .int) false 4 0 0 (PC (aUndo a) I) 0 0 0 [some (.inr (some 0))] [] (298, ShF, I, R)
  refine r_aload_n dX7_undo_0 rfl ?_
  refine q_getI fl_X7_137 dX7_undo_1 sf_0 ?_
  have hn6 := hA.2.1
  have hnn := hI.2.2.1
  rw [hnn]
  refine r_iconst dX7_undo_4 ?_
  refine r_icmpge (tgt := 11) dX7_undo_5 (by decide) (by omega) (by omega) (fun h5 => ?_) (fun h5 => ?_)
  · refine r_aload_n dX7_undo_11 rfl ?_
    refine r_dup dX7_undo_12 ?_
    refine q_getI fl_X7_137 dX7_undo_13 sf_0 ?_
    refine r_iconst dX7_undo_16 ?_
    rw [hnn]
    refine r_isub dX7_undo_17 ?_
    refine q_putI fl_X7_137 dX7_undo_18 sf_0 ?_
    have hv : u2 I 0 2 ((a.2.1 : Int) - 1) 0 2 = (a.2.1 : Int) - 1 := u2_s
    refine r_aload_n dX7_undo_21 rfl ?_
    refine q_getR fl_X7_12 dX7_undo_22 sf_0 (ro_0_0 hRO) ?_
    refine r_aload_n dX7_undo_25 rfl ?_
    refine q_getR fl_X7_16 dX7_undo_26 sf_0 (ro_0_1 hRO) ?_
    refine r_aload_n dX7_undo_29 rfl ?_
    refine q_getI fl_X7_137 dX7_undo_30 sf_0 ?_
    refine q_aald (t := 2) (by decide) dX7_undo_33 sf_28 (by rw [hv]; omega) (hv.symm ▸ (sav_at hI.1.2.2.2 (i := (a.2.1 : Int) - 1) (by omega)).1) ?_
    have hsa := sav_at hI.1.2.2.2 (i := (a.2.1 : Int) - 1) (by omega)
    have hbl := stB_in hsa.2.2
    have hb0 : stB 0 = 1 := rfl
    have hsav := hI.2.2.2.1 (a.2.1 - 1) (by omega)
    have hnt : ((a.2.1 : Int) - 1).toNat = a.2.1 - 1 := by omega
    refine q_callVW lk_X7_201 dX7_undo_34 (c_takeAllOf _ R hRO (k := 0) (q := sg ((a.2.1 : Int) - 1).toNat) (by omega) hsa.2.2 (by omega) hI.1.2.1 (hI.1.2.2.1 _ hsa.2.1 hsa.2.2) (σ := a.2.2.1 (a.2.1 - 1)) (by rw [hnt] at hsa hbl ⊢; exact hsav.kept (fun i hi => hi) (fun x j h1 h2 => u2_n (Or.inl (by omega))))) (by decide) sf_1 rfl rfl (Nat.le_of_ble_eq_true rfl) (by decide) (fun I2 hI2 => ?_)
    refine r_aload_n dX7_undo_37 rfl ?_
    refine q_getI fl_X7_137 dX7_undo_38 sf_0 ?_
    refine q_iretZR dX7_undo_41 rfl ?_
    have e : aUndo a = ((a.2.1 : Int) - 1, (a.2.2.1 (a.2.1 - 1), a.2.1 - 1, a.2.2)) := by
      unfold aUndo
      rw [if_neg (by omega)]
    rw [e]
    have hk : ∀ (x : Nat) (j : Int), x = 0 ∨ 28 ≤ x → ¬ (x = 0 ∧ j = 2) → I2 x j = I x j := fun x j h1 h2 => by rw [hI2.2 x j (by omega), u2_n (by omega)]
    have hcc : I2 0 2 = (a.2.1 : Int) - 1 := by rw [hI2.2 _ _ (by omega)]; exact hv
    refine ⟨hcc, ⟨π, sg, hI.1, hI2.1, ?_, fun j hj => ?_, (hk _ _ (by omega) (by omega)).trans hI.2.2.2.2.1, fun j h1 h2 => (hk _ _ (by omega) (by omega)).trans (hI.2.2.2.2.2 j h1 h2)⟩, fun x j h => hk x j (by omega) (by omega)⟩
    · rw [hcc]
      show _ = ((a.2.1 - 1 : Nat) : Int)
      omega
    · have hj : j < a.2.1 - 1 := hj
      have hq := hI.1.2.2.2.1 j (by omega)
      have hb := stB_in hq.2.1
      exact (hI.2.2.2.1 j (by omega)).kept (fun i hi => hi) (fun x z h1 h2 => hk x z (by omega) (by omega))
  · refine r_bipush dX7_undo_8 (by decide) ?_
    refine q_iretZR dX7_undo_10 rfl ?_
    have e : aUndo a = (-2, a) := by
      unfold aUndo
      rw [if_pos (by omega)]
    rw [e]
    exact ⟨rfl, ⟨π, sg, hI⟩, fun _ _ _ => rfl⟩
set_option maxHeartbeats 4000000 in
set_option maxRecDepth 100000 in
theorem k_character (I : Mem) (R : RMem) (π sg : Nat → Nat) (a : AS) (hI : CI I R π sg a) (hA : AbsOk a) (p : Int) (hp : -2147483648 ≤ p ∧ p ≤ 2147483647) (i : Int) (hi : -2147483648 ≤ i ∧ i ≤ 2147483647) : CC 4 0 0 yX7_character cX7_character 3 (some .int) [.inr (some 0), .inl (p), .inl (i)] (298, ShF, I, R) (PF (aCharQ a p i) I R) := by
  have hRO := hI.1.1
  have hcols : I 1 0 = a.1.1.1 := hI.2.1.1
  have hdist : I 1 1 = a.1.1.2.1 := hI.2.1.2.1
  have hcnt : I 1 2 = a.1.1.2.2 := hI.2.1.2.2.1
  have hW := hA.1
  have hW1 := hW.1
  have hW2 := hW.2.1
  have hW3 := hW.2.2.1
  refine CC_of (own := RX7) (ini := false) (by decide +kernel) rfl (fun h => absurd h (by decide)) (Nat.le_of_ble_eq_true rfl) ?_
  show WW cX7_character RX7 3 (some .int) false 4 0 0 (PF (aCharQ a p i) I R) 0 0 0 [some (.inr (some 0)), some (.inl (p)), some (.inl (i))] [] (298, ShF, I, R)
  refine r_aload_n dX7_character_0 rfl ?_
  refine r_iload_n dX7_character_1 rfl ?_
  refine q_callVF lk_X7_116 dX7_character_2 (c_isParagraph I R hRO a.1.1.2.2 hcnt hW3 p hp) (by decide) sf_0 rfl rfl (Nat.le_of_ble_eq_true rfl) (by decide) ?_
  refine q_ifeqB (tgt := 12) dX7_character_5 (by decide) (fun h5 => ?_) (fun h5 => ?_)
  · refine r_iconst dX7_character_12 ?_
    refine q_iretF dX7_character_13 rfl ?_
    unfold aCharQ
    rw [if_neg (by omega)]
  · refine r_iload_n dX7_character_8 rfl ?_
    refine r_ifge (tgt := 14) dX7_character_9 (by decide) (by omega) (fun h9 => ?_) (fun h9 => ?_)
    · refine r_aload_n dX7_character_14 rfl ?_
      refine q_getR fl_X7_12 dX7_character_15 sf_0 (ro_0_0 hRO) ?_
      refine q_getR fl_X7_104 dX7_character_18 sf_1 (ro_1_4 hRO) ?_
      refine r_iload_n dX7_character_21 rfl ?_
      refine q_aald (t := 4) (by decide) dX7_character_22 sf_3 (by omega) (rp0 hRO hI.1.2.1 (i := p) (by omega)).1 ?_
      refine r_iload_n dX7_character_23 rfl ?_
      have h9 := at0_p hI.2.1 (i := p) (by omega)
      have hwp := hW.2.2.2.2 p.toNat (by omega)
      have hwl := hwp.2.1
      have h92 := h9.2.1
      refine q_callVF lk_X7_153 dX7_character_24 (c_characterAt I R (rp0 hRO hI.1.2.1 (i := p) (by omega)).2.1 i hi (by omega)) (by decide) (rp0 hRO hI.1.2.1 (i := p) (by omega)).2.1.1 rfl rfl (Nat.le_of_ble_eq_true rfl) (by decide) ?_
      refine q_iretF dX7_character_27 rfl ?_
      unfold aCharQ
      rw [if_pos (show (0 ≤ p ∧ p ≤ a.1.1.2.2 - 1) ∧ 0 ≤ i by omega), h92]
      by_cases hil : i < (a.1.2.2 p.toNat).2.1
      · rw [if_pos (by omega), if_pos hil]
        exact h9.2.2 i (by omega) (by omega)
      · rw [if_neg (by omega), if_neg hil]
    · refine r_iconst dX7_character_12 ?_
      refine q_iretF dX7_character_13 rfl ?_
      unfold aCharQ
      rw [if_neg (by omega)]
set_option maxHeartbeats 4000000 in
set_option maxRecDepth 100000 in
theorem k_stop (I : Mem) (R : RMem) (π sg : Nat → Nat) (a : AS) (hI : CI I R π sg a) (hA : AbsOk a) (s : Int) (hs : -2147483648 ≤ s ∧ s ≤ 2147483647) (k : Int) (hk : -2147483648 ≤ k ∧ k ≤ 2147483647) (w : Int) (hw : -2147483648 ≤ w ∧ w ≤ 2147483647) : CC 4 0 0 yX7_stop cX7_stop 6 (some .int) [.inr (some 0), .inl (s), .inl (k), .inl (w)] (298, ShF, I, R) (PF (aStopQ a s k w) I R) := by
  have hRO := hI.1.1
  have hcols : I 1 0 = a.1.1.1 := hI.2.1.1
  have hdist : I 1 1 = a.1.1.2.1 := hI.2.1.2.1
  have hcnt : I 1 2 = a.1.1.2.2 := hI.2.1.2.2.1
  have hW := hA.1
  have hW1 := hW.1
  have hW2 := hW.2.1
  have hW3 := hW.2.2.1
  refine CC_of (own := RX7) (ini := false) (by decide +kernel) rfl (fun h => absurd h (by decide)) (Nat.le_of_ble_eq_true rfl) ?_
  show WW cX7_stop RX7 6 (some .int) false 4 0 0 (PF (aStopQ a s k w) I R) 0 0 0 [some (.inr (some 0)), some (.inl (s)), some (.inl (k)), some (.inl (w)), none, none] [] (298, ShF, I, R)
  refine r_aload_n dX7_stop_0 rfl ?_
  refine r_iload_n dX7_stop_1 rfl ?_
  refine q_callVF lk_X7_52 dX7_stop_2 (c_isStyle I R s hs) (by decide) sf_0 rfl rfl (Nat.le_of_ble_eq_true rfl) (by decide) ?_
  refine q_ifeqB (tgt := 21) dX7_stop_5 (by decide) (fun h5 => ?_) (fun h5 => ?_)
  · refine r_iconst dX7_stop_21 ?_
    refine q_iretF dX7_stop_22 rfl ?_
    unfold aStopQ
    rw [if_neg (by omega)]
  · refine r_iload_n dX7_stop_8 rfl ?_
    refine r_iflt (tgt := 21) dX7_stop_9 (by decide) (by omega) (fun h9 => ?_) (fun h9 => ?_)
    · refine r_iconst dX7_stop_21 ?_
      refine q_iretF dX7_stop_22 rfl ?_
      unfold aStopQ
      rw [if_neg (by omega)]
    · refine r_iload_n dX7_stop_12 rfl ?_
      refine r_iconst dX7_stop_13 ?_
      refine r_iconst dX7_stop_14 ?_
      refine q_callSF lk_X7_38 dX7_stop_15 (c_isWithin I R w 0 2 hw (by decide) (by decide)) (by decide) rfl rfl (Nat.le_of_ble_eq_true rfl) (by decide) ?_
      refine q_ifneB (tgt := 23) dX7_stop_18 (by decide) (fun h18 => ?_) (fun h18 => ?_)
      · refine r_aload_n dX7_stop_23 rfl ?_
        refine q_getR fl_X7_12 dX7_stop_24 sf_0 (ro_0_0 hRO) ?_
        refine q_getR fl_X7_56 dX7_stop_27 sf_1 (ro_1_3 hRO) ?_
        refine r_iload_n dX7_stop_30 rfl ?_
        refine q_aald (t := 3) (by decide) dX7_stop_31 sf_2 (by omega) (ry0 hRO (i := s) (by omega)).1 ?_
        have hy := at0_y hI.2.1 (i := s) (by omega)
        have hwy := hW.2.2.2.1 s.toNat (by omega)
        have hsv0 : SV (I (5 + 2 * s.toNat)) := hwy.2.2.1.congr hy.2.2
        have hcn : cntF (I (5 + 2 * s.toNat)) 80 = cntF (a.1.2.1 s.toNat).2.2 80 := cntF_congr hy.2.2
        refine r_astore dX7_stop_32 (by decide) ?_
        dsimp only [lset]
        refine r_aload dX7_stop_34 rfl ?_
        refine r_iload_n dX7_stop_36 rfl ?_
        refine q_callVY lk_X7_79 dX7_stop_37 (c_positionOf I R (ry0 hRO (i := s) (by omega)).2 hsv0 k hk) (by decide) (ry0 hRO (i := s) (by omega)).2.1 rfl rfl (Nat.le_of_ble_eq_true rfl) (by decide) (fun z hz => ?_)
        obtain ⟨hz1, hz2⟩ := posR_F (posR_congr hy.2.2 hz)
        have hzr : z = -9 ∨ (1 ≤ z ∧ z ≤ 80) := by
          by_cases h9 : z = -9
          · exact Or.inl h9
          · exact Or.inr ⟨(hz2 h9).1, (hz2 h9).2.1⟩
        refine r_istore dX7_stop_40 (by decide) ?_
        dsimp only [lset]
        refine r_iload dX7_stop_42 rfl ?_
        refine r_bipush dX7_stop_44 (by decide) ?_
        refine r_icmpeq (tgt := 53) dX7_stop_46 (by decide) (by omega) (by omega) (fun h46 => ?_) (fun h46 => ?_)
        · refine r_iload dX7_stop_53 rfl ?_
          refine q_iretF dX7_stop_55 rfl ?_
          unfold aStopQ
          rw [if_pos (show (0 ≤ s ∧ s ≤ 3) ∧ 0 ≤ k ∧ (0 ≤ w ∧ w ≤ 2) by omega)]
          rw [← hz1, if_pos (by omega)]
        · refine r_iload_n dX7_stop_49 rfl ?_
          refine r_ifne (tgt := 56) dX7_stop_50 (by decide) (by omega) (fun h50 => ?_) (fun h50 => ?_)
          · refine r_iload_n dX7_stop_56 rfl ?_
            refine r_iconst dX7_stop_57 ?_
            refine r_icmpne (tgt := 71) dX7_stop_58 (by decide) (by omega) (by omega) (fun h58 => ?_) (fun h58 => ?_)
            · refine r_aload dX7_stop_71 rfl ?_
              refine r_iload dX7_stop_73 rfl ?_
              refine q_callVF lk_X7_150 dX7_stop_75 (c_leaderAt I R (ry0 hRO (i := s) (by omega)).2 hsv0 z (by omega)) (by decide) (ry0 hRO (i := s) (by omega)).2.1 rfl rfl (Nat.le_of_ble_eq_true rfl) (by decide) ?_
              refine q_iretF dX7_stop_78 rfl ?_
              have hzn : z ≠ -9 := by omega
              have hst := hz2 hzn
              have hyz := hy.2.2 z hst.1 hst.2.1
              have hnz := hst.2.2
              unfold aStopQ
              rw [if_pos (show (0 ≤ s ∧ s ≤ 3) ∧ 0 ≤ k ∧ (0 ≤ w ∧ w ≤ 2) by omega)]
              rw [← hz1, if_neg (show ¬ (z = -9 ∨ w = 0) by omega), if_pos (show 1 ≤ z ∧ z ≤ 80 ∧ I (5 + 2 * s.toNat) z ≠ 0 from ⟨hst.1, hst.2.1, by rw [hyz]; exact hnz⟩), hyz]
              first | (rw [if_pos (show w = 1 by omega)]; done) | (rw [if_neg (show ¬ w = 1 by omega)]; done)
            · refine r_aload dX7_stop_61 rfl ?_
              refine r_iload dX7_stop_63 rfl ?_
              refine q_callVF lk_X7_147 dX7_stop_65 (c_kindAt I R (ry0 hRO (i := s) (by omega)).2 hsv0 z (by omega)) (by decide) (ry0 hRO (i := s) (by omega)).2.1 rfl rfl (Nat.le_of_ble_eq_true rfl) (by decide) ?_
              refine r_goto (tgt := 78) dX7_stop_68 (by decide) ?_
              refine q_iretF dX7_stop_78 rfl ?_
              have hzn : z ≠ -9 := by omega
              have hst := hz2 hzn
              have hyz := hy.2.2 z hst.1 hst.2.1
              have hnz := hst.2.2
              unfold aStopQ
              rw [if_pos (show (0 ≤ s ∧ s ≤ 3) ∧ 0 ≤ k ∧ (0 ≤ w ∧ w ≤ 2) by omega)]
              rw [← hz1, if_neg (show ¬ (z = -9 ∨ w = 0) by omega), if_pos (show 1 ≤ z ∧ z ≤ 80 ∧ I (5 + 2 * s.toNat) z ≠ 0 from ⟨hst.1, hst.2.1, by rw [hyz]; exact hnz⟩), hyz]
              first | (rw [if_pos (show w = 1 by omega)]; done) | (rw [if_neg (show ¬ w = 1 by omega)]; done)
          · refine r_iload dX7_stop_53 rfl ?_
            refine q_iretF dX7_stop_55 rfl ?_
            unfold aStopQ
            rw [if_pos (show (0 ≤ s ∧ s ≤ 3) ∧ 0 ≤ k ∧ (0 ≤ w ∧ w ≤ 2) by omega)]
            rw [← hz1, if_pos (by omega)]
      · refine r_iconst dX7_stop_21 ?_
        refine q_iretF dX7_stop_22 rfl ?_
        unfold aStopQ
        rw [if_neg (by omega)]
set_option maxHeartbeats 4000000 in
set_option maxRecDepth 100000 in
theorem k_style (I : Mem) (R : RMem) (π sg : Nat → Nat) (a : AS) (hI : CI I R π sg a) (hA : AbsOk a) (s : Int) (hs : -2147483648 ≤ s ∧ s ≤ 2147483647) (w : Int) (hw : -2147483648 ≤ w ∧ w ≤ 2147483647) : CC 4 0 0 yX7_style cX7_style 4 (some .int) [.inr (some 0), .inl (s), .inl (w)] (298, ShF, I, R) (PF (aStyleQ a s w) I R) := by
  have hRO := hI.1.1
  have hcols : I 1 0 = a.1.1.1 := hI.2.1.1
  have hdist : I 1 1 = a.1.1.2.1 := hI.2.1.2.1
  have hcnt : I 1 2 = a.1.1.2.2 := hI.2.1.2.2.1
  have hW := hA.1
  have hW1 := hW.1
  have hW2 := hW.2.1
  have hW3 := hW.2.2.1
  refine CC_of (own := RX7) (ini := false) (by decide +kernel) rfl (fun h => absurd h (by decide)) (Nat.le_of_ble_eq_true rfl) ?_
  show WW cX7_style RX7 4 (some .int) false 4 0 0 (PF (aStyleQ a s w) I R) 0 0 0 [some (.inr (some 0)), some (.inl (s)), some (.inl (w)), none] [] (298, ShF, I, R)
  refine r_aload_n dX7_style_0 rfl ?_
  refine r_iload_n dX7_style_1 rfl ?_
  refine q_callVF lk_X7_52 dX7_style_2 (c_isStyle I R s hs) (by decide) sf_0 rfl rfl (Nat.le_of_ble_eq_true rfl) (by decide) ?_
  refine q_ifneB (tgt := 10) dX7_style_5 (by decide) (fun h5 => ?_) (fun h5 => ?_)
  · refine r_aload_n dX7_style_10 rfl ?_
    refine q_getR fl_X7_12 dX7_style_11 sf_0 (ro_0_0 hRO) ?_
    refine q_getR fl_X7_56 dX7_style_14 sf_1 (ro_1_3 hRO) ?_
    refine r_iload_n dX7_style_17 rfl ?_
    refine q_aald (t := 3) (by decide) dX7_style_18 sf_2 (by omega) (ry0 hRO (i := s) (by omega)).1 ?_
    have hy := at0_y hI.2.1 (i := s) (by omega)
    have hwy := hW.2.2.2.1 s.toNat (by omega)
    have hsv0 : SV (I (5 + 2 * s.toNat)) := hwy.2.2.1.congr hy.2.2
    have hcn : cntF (I (5 + 2 * s.toNat)) 80 = cntF (a.1.2.1 s.toNat).2.2 80 := cntF_congr hy.2.2
    refine r_astore_n dX7_style_19 (by decide) ?_
    dsimp only [lset]
    refine r_iload_n dX7_style_20 rfl ?_
    rcases (show w = 0 ∨ w = 1 ∨ w = 2 ∨ w = 3 ∨ (w < 0 ∨ 3 < w) by omega) with rfl | rfl | rfl | rfl | hww
    · refine r_tsIn (off := 31) (tgt := 52) dX7_style_21 (by decide) (by decide) rfl (by decide) ?_
      refine r_aload_n dX7_style_52 rfl ?_
      refine q_getI fl_X7_60 dX7_style_53 (ry0 hRO (i := s) (by omega)).2.1 ?_
      refine q_iretF dX7_style_56 rfl ?_
      unfold aStyleQ
      rw [if_pos (by omega), if_pos rfl]
      exact hy.1
    · refine r_tsIn (off := 36) (tgt := 57) dX7_style_21 (by decide) (by decide) rfl (by decide) ?_
      refine r_aload_n dX7_style_57 rfl ?_
      refine q_getI fl_X7_65 dX7_style_58 (ry0 hRO (i := s) (by omega)).2.1 ?_
      refine q_iretF dX7_style_61 rfl ?_
      unfold aStyleQ
      rw [if_pos (by omega), if_neg (by decide), if_pos rfl]
      exact hy.2.1
    · refine r_tsIn (off := 41) (tgt := 62) dX7_style_21 (by decide) (by decide) rfl (by decide) ?_
      refine r_aload_n dX7_style_62 rfl ?_
      refine r_bipush dX7_style_63 (by decide) ?_
      refine q_callVF lk_X7_71 dX7_style_65 (c_stopsBefore I R (ry0 hRO (i := s) (by omega)).2 hsv0 81 (by decide)) (by decide) (ry0 hRO (i := s) (by omega)).2.1 rfl rfl (Nat.le_of_ble_eq_true rfl) (by decide) ?_
      rw [show (if (81 : Int) - 1 < 80 then (81 : Int) - 1 else 80).toNat = 80 by decide, hcn]
      refine q_iretF dX7_style_68 rfl ?_
      unfold aStyleQ
      rw [if_pos (by omega), if_neg (by decide), if_neg (by decide), if_pos rfl]
    · refine r_tsIn (off := 48) (tgt := 69) dX7_style_21 (by decide) (by decide) rfl (by decide) ?_
      refine r_aload_n dX7_style_69 rfl ?_
      refine q_callVY lk_X7_140 dX7_style_70 (c_lastTab I R (ry0 hRO (i := s) (by omega)).2 hsv0) (by decide) (ry0 hRO (i := s) (by omega)).2.1 rfl rfl (Nat.le_of_ble_eq_true rfl) (by decide) (fun z hz => ?_)
      have hz1 := lastR_G hz
      rw [lastG_congr 80 (Nat.le_refl _) hy.2.2] at hz1
      have hlb := lastG_bd (a.1.2.1 s.toNat).2.2 80
      refine r_aload_n dX7_style_73 rfl ?_
      refine q_getR fl_X7_12 dX7_style_74 sf_0 (ro_0_0 hRO) ?_
      refine q_getI fl_X7_49 dX7_style_77 sf_1 ?_
      refine q_callSF lk_X7_143 dX7_style_80 (c_multipleBehind I R z (I 1 1) (by omega) (by omega)) (by decide) rfl rfl (Nat.le_of_ble_eq_true rfl) (by decide) ?_
      refine q_iretF dX7_style_83 rfl ?_
      unfold aStyleQ
      rw [if_pos (by omega), if_neg (by decide), if_neg (by decide), if_neg (by decide), if_pos rfl, hdist, hz1]
    · refine r_tsOut (tgt := 84) dX7_style_21 hw hww (by decide) ?_
      refine r_iconst dX7_style_84 ?_
      refine q_iretF dX7_style_85 rfl ?_
      unfold aStyleQ
      rw [if_pos (by omega), if_neg (by omega), if_neg (by omega), if_neg (by omega), if_neg (by omega)]
  · refine r_iconst dX7_style_8 ?_
    refine q_iretF dX7_style_9 rfl ?_
    unfold aStyleQ
    rw [if_neg (by omega)]
end
section
/-! texts: the class -/
def fbad (tx : Int → Int) : Nat → Int
  | 0 => -1
  | n + 1 => if fbad tx n ≠ -1 then fbad tx n else if okc (tx n) then -1 else n
theorem fbad_keep {tx : Int → Int} {m : Nat} (h : fbad tx m ≠ -1) : ∀ n : Nat, m ≤ n → fbad tx n = fbad tx m
  | 0, hn => by rw [show m = 0 by omega]
  | n + 1, hn => by
    by_cases hm : m = n + 1
    · rw [hm]
    · have h1 := fbad_keep h n (by omega)
      show (if fbad tx n ≠ -1 then fbad tx n else if okc (tx n) then -1 else (n : Int)) = _
      rw [h1, if_pos h]
theorem fbad_ok {tx : Int → Int} : ∀ n : Nat, fbad tx n = -1 → ∀ j : Int, 0 ≤ j → j < n → okc (tx j)
  | 0, _, j, h1, h2 => by omega
  | n + 1, h, j, h1, h2 => by
    have hu : (if fbad tx n ≠ -1 then fbad tx n else if okc (tx n) then -1 else (n : Int)) = -1 := h
    by_cases hb : fbad tx n ≠ -1
    · rw [if_pos hb] at hu
      exact absurd hu hb
    · rw [if_neg hb] at hu
      by_cases hj : j = n
      · rw [hj]
        by_cases ho : okc (tx n)
        · exact ho
        · rw [if_neg ho] at hu
          omega
      · exact fbad_ok n (Decidable.not_not.mp hb) j h1 (by omega)
def mixF (tx : Int → Int) (tl : Int) (ch : Int → Int) : Int → Int := fun j => if 0 ≤ j ∧ j < tl then tx j else ch j
def wordF (ch : Int → Int) (len tc lc L : Int) : Int → Int := fun j => if j = len then tc else if len < j ∧ j ≤ len + L then lc else ch j
def dgt (w : Int) : Int := if 10000 ≤ w then 5 else if 1000 ≤ w then 4 else if 100 ≤ w then 3 else if 10 ≤ w then 2 else 1
def dig (w i : Int) : Int := if i = 0 then w % 10 else if i = 1 then w / 10 % 10 else if i = 2 then w / 100 % 10 else if i = 3 then w / 1000 % 10 else w / 10000 % 10
def amtF (ch : Int → Int) (len h : Int) : Int → Int := fun j =>
  if j = len then 9 else if len < j ∧ j ≤ len + dgt (h / 100) then 48 + dig (h / 100) (dgt (h / 100) - (j - len)) else if j = len + dgt (h / 100) + 1 then 46 else if j = len + dgt (h / 100) + 2 then 48 + h / 10 % 10 else if j = len + dgt (h / 100) + 3 then 48 + h % 10 else ch j
theorem dgt_in (w : Int) : (dgt w = 5 ∧ 10000 ≤ w) ∨ (dgt w = 4 ∧ 1000 ≤ w ∧ w < 10000) ∨ (dgt w = 3 ∧ 100 ≤ w ∧ w < 1000) ∨ (dgt w = 2 ∧ 10 ≤ w ∧ w < 100) ∨ (dgt w = 1 ∧ w < 10) := by
  unfold dgt
  split
  · omega
  · split
    · omega
    · split
      · omega
      · split <;> omega
def aTakeText (a : AS) (p : Int) : Int × AS :=
  if 0 ≤ p ∧ p ≤ a.1.1.2.2 - 1 then
    (if fbad a.2.2.2.2 a.2.2.2.1 ≠ -1 then (-2000 - fbad a.2.2.2.2 a.2.2.2.1, a) else if 80 < a.2.2.2.1 then (-3, a)
     else ((a.2.2.2.1 : Int), clr (wS (psh a) (setP a.1 p.toNat ((a.1.2.2 p.toNat).1, (a.2.2.2.1 : Int), mixF a.2.2.2.2 a.2.2.2.1 (a.1.2.2 p.toNat).2.2))))) else (-1, a)
def aAddWord (a : AS) (p t l L : Int) : Int × AS :=
  if (0 ≤ p ∧ p ≤ a.1.1.2.2 - 1) ∧ (0 ≤ t ∧ t ≤ 1) ∧ (0 ≤ l ∧ l ≤ 25) ∧ (1 ≤ L ∧ L ≤ 30) then
    (if 80 < (a.1.2.2 p.toNat).2.1 + 1 + L then (-3, a) else ((a.1.2.2 p.toNat).2.1 + 1 + L, wS (psh a) (setP a.1 p.toNat ((a.1.2.2 p.toNat).1, (a.1.2.2 p.toNat).2.1 + 1 + L, wordF (a.1.2.2 p.toNat).2.2 (a.1.2.2 p.toNat).2.1 (if t = 1 then 9 else 32) (97 + l) L)))) else (-1, a)
def aAddAmount (a : AS) (p h : Int) : Int × AS :=
  if (0 ≤ p ∧ p ≤ a.1.1.2.2 - 1) ∧ (0 ≤ h ∧ h ≤ 9999999) then
    (if 80 < (a.1.2.2 p.toNat).2.1 + 4 + dgt (h / 100) then (-3, a) else ((a.1.2.2 p.toNat).2.1 + 4 + dgt (h / 100), wS (psh a) (setP a.1 p.toNat ((a.1.2.2 p.toNat).1, (a.1.2.2 p.toNat).2.1 + 4 + dgt (h / 100), amtF (a.1.2.2 p.toNat).2.2 (a.1.2.2 p.toNat).2.1 h)))) else (-1, a)
/-- a paragraph that grows: n of its characters stand as g has them -/
def PG (I I1 : Mem) (a b : Nat) (n : Int) (g : Int → Int) : Prop := I a 1 = n ∧ (∀ j : Int, 0 ≤ j → I b j = if j < n then g j else I1 b j) ∧ ∀ (x : Nat) (j : Int), x ≠ b → ¬ (x = a ∧ j = 1) → I x j = I1 x j
theorem PG.step {I I1 : Mem} {a b : Nat} {n c : Int} {g : Int → Int} (h : PG I I1 a b n g) (hne : a ≠ b) (hc : g n = c) : PG (u2 (u2 I b (I a 1) c) a 1 (I a 1 + 1)) I1 a b (n + 1) g := by
  refine ⟨by rw [u2_s, h.1], fun j hj => ?_, fun x j h1 h2 => by rw [u2_n (by omega), u2_n (Or.inl h1)]; exact h.2.2 x j h1 h2⟩
  rw [u2_n (Or.inl (Ne.symm hne)), u2_at, h.1]
  by_cases hjn : j = n
  · rw [if_pos ⟨rfl, hjn⟩, if_pos (by omega), hjn, hc]
  · rw [if_neg (fun z => hjn z.2), h.2.1 j hj]
    by_cases hl : j < n
    · rw [if_pos hl, if_pos (by omega)]
    · rw [if_neg hl, if_neg (by omega)]
theorem PG.end {I I1 : Mem} {a b : Nat} {n st : Int} {g : Int → Int} (h : PG I I1 a b n g) (hne : a ≠ b) (h0 : I1 a 0 = st) (hg : ∀ j : Int, n ≤ j → j < 80 → I1 b j = g j) : AtP I a b (st, n, g) := by
  refine ⟨(h.2.2 _ _ hne (by omega)).trans h0, h.1, fun p h1 h2 => ?_⟩
  rw [h.2.1 p h1]
  by_cases hl : p < n
  · rw [if_pos hl]
  · rw [if_neg hl]
    exact hg p (by omega) h2
theorem rmF_pick {p c i : Nat} (hc : c < 8) (hp : p ≤ c) (hi : i < 8) : ∃ q : Nat, q < 8 ∧ (∀ (α : Type) (g : Nat → α), rmF g p c i = g q) ∧ ((p ≤ i ∧ i < c ∧ q = i + 1) ∨ (i = c ∧ q = p) ∨ (¬ (p ≤ i ∧ i < c) ∧ i ≠ c ∧ q = i)) := by
  by_cases h1 : p ≤ i ∧ i < c
  · exact ⟨i + 1, by omega, fun α g => if_pos h1, Or.inl ⟨h1.1, h1.2, rfl⟩⟩
  · by_cases h2 : i = c
    · exact ⟨p, by omega, fun α g => (if_neg h1).trans (if_pos h2), Or.inr (Or.inl ⟨h2, rfl⟩)⟩
    · exact ⟨i, hi, fun α g => (if_neg h1).trans (if_neg h2), Or.inr (Or.inr ⟨h1, h2, rfl⟩)⟩
set_option maxHeartbeats 4000000 in
set_option maxRecDepth 100000 in
theorem c_isDigit (I : Mem) (R : RMem) (c : Int) (hc : -2147483648 ≤ c ∧ c ≤ 2147483647) : CC 2 0 0 yX7_isDigit cX7_isDigit 1 (some .boolean) [.inl (c)] (298, ShF, I, R) (PF (b2i (48 ≤ c ∧ c ≤ 57)) I R) := by
  refine CC_of (own := RX7) (ini := false) (by decide +kernel) rfl (fun h => absurd h (by decide)) (Nat.le_of_ble_eq_true rfl) ?_
  show WW cX7_isDigit RX7 1 (some .boolean) false 2 0 0 (PF (b2i (48 ≤ c ∧ c ≤ 57)) I R) 0 0 0 [some (.inl (c))] [] (298, ShF, I, R)
  refine r_iload_n dX7_isDigit_0 rfl ?_
  refine r_bipush dX7_isDigit_1 (by decide) ?_
  refine r_bipush dX7_isDigit_3 (by decide) ?_
  refine q_callSF lk_X7_38 dX7_isDigit_5 (c_isWithin I R c 48 57 hc (by decide) (by decide)) (by decide) rfl rfl (Nat.le_of_ble_eq_true rfl) (by decide) ?_
  refine q_zretF dX7_isDigit_8 rfl (b2i_01 _) ?_
  rfl
set_option maxHeartbeats 4000000 in
set_option maxRecDepth 100000 in
theorem c_isParagraphCharacter (I : Mem) (R : RMem) (c : Int) (hc : -2147483648 ≤ c ∧ c ≤ 2147483647) : CC 3 0 0 yX7_isParagraphCharacter cX7_isParagraphCharacter 1 (some .boolean) [.inl (c)] (298, ShF, I, R) (PF (b2i (okc c)) I R) := by
  refine CC_of (own := RX7) (ini := false) (by decide +kernel) rfl (fun h => absurd h (by decide)) (Nat.le_of_ble_eq_true rfl) ?_
  show WW cX7_isParagraphCharacter RX7 1 (some .boolean) false 3 0 0 (PF (b2i (okc c)) I R) 0 0 0 [some (.inl (c))] [] (298, ShF, I, R)
  refine r_iload_n dX7_isParagraphCharacter_0 rfl ?_
  refine r_bipush dX7_isParagraphCharacter_1 (by decide) ?_
  refine r_bipush dX7_isParagraphCharacter_3 (by decide) ?_
  refine q_callSF lk_X7_38 dX7_isParagraphCharacter_5 (c_isWithin I R c 97 122 hc (by decide) (by decide)) (by decide) rfl rfl (Nat.le_of_ble_eq_true rfl) (by decide) ?_
  refine q_ifneB (tgt := 42) dX7_isParagraphCharacter_8 (by decide) (fun h8 => ?_) (fun h8 => ?_)
  · refine r_iconst dX7_isParagraphCharacter_42 ?_
    refine r_goto (tgt := 47) dX7_isParagraphCharacter_43 (by decide) ?_
    refine q_zretF dX7_isParagraphCharacter_47 rfl (by decide) ?_
    first | exact b2i_t (by omega) | exact b2i_f (by omega)
  · refine r_iload_n dX7_isParagraphCharacter_11 rfl ?_
    refine q_callSF lk_X7_209 dX7_isParagraphCharacter_12 (c_isDigit I R c hc) (by decide) rfl rfl (Nat.le_of_ble_eq_true rfl) (by decide) ?_
    refine q_ifneB (tgt := 42) dX7_isParagraphCharacter_15 (by decide) (fun h15 => ?_) (fun h15 => ?_)
    · refine r_iconst dX7_isParagraphCharacter_42 ?_
      refine r_goto (tgt := 47) dX7_isParagraphCharacter_43 (by decide) ?_
      refine q_zretF dX7_isParagraphCharacter_47 rfl (by decide) ?_
      first | exact b2i_t (by omega) | exact b2i_f (by omega)
    · refine r_iload_n dX7_isParagraphCharacter_18 rfl ?_
      refine r_bipush dX7_isParagraphCharacter_19 (by decide) ?_
      refine r_icmpeq (tgt := 42) dX7_isParagraphCharacter_21 (by decide) (by omega) (by omega) (fun h21 => ?_) (fun h21 => ?_)
      · refine r_iconst dX7_isParagraphCharacter_42 ?_
        refine r_goto (tgt := 47) dX7_isParagraphCharacter_43 (by decide) ?_
        refine q_zretF dX7_isParagraphCharacter_47 rfl (by decide) ?_
        first | exact b2i_t (by omega) | exact b2i_f (by omega)
      · refine r_iload_n dX7_isParagraphCharacter_24 rfl ?_
        refine r_bipush dX7_isParagraphCharacter_25 (by decide) ?_
        refine r_icmpeq (tgt := 42) dX7_isParagraphCharacter_27 (by decide) (by omega) (by omega) (fun h27 => ?_) (fun h27 => ?_)
        · refine r_iconst dX7_isParagraphCharacter_42 ?_
          refine r_goto (tgt := 47) dX7_isParagraphCharacter_43 (by decide) ?_
          refine q_zretF dX7_isParagraphCharacter_47 rfl (by decide) ?_
          first | exact b2i_t (by omega) | exact b2i_f (by omega)
        · refine r_iload_n dX7_isParagraphCharacter_30 rfl ?_
          refine r_bipush dX7_isParagraphCharacter_31 (by decide) ?_
          refine r_icmpeq (tgt := 42) dX7_isParagraphCharacter_33 (by decide) (by omega) (by omega) (fun h33 => ?_) (fun h33 => ?_)
          · refine r_iconst dX7_isParagraphCharacter_42 ?_
            refine r_goto (tgt := 47) dX7_isParagraphCharacter_43 (by decide) ?_
            refine q_zretF dX7_isParagraphCharacter_47 rfl (by decide) ?_
            first | exact b2i_t (by omega) | exact b2i_f (by omega)
          · refine r_iload_n dX7_isParagraphCharacter_36 rfl ?_
            refine r_bipush dX7_isParagraphCharacter_37 (by decide) ?_
            refine r_icmpne (tgt := 46) dX7_isParagraphCharacter_39 (by decide) (by omega) (by omega) (fun h39 => ?_) (fun h39 => ?_)
            · refine r_iconst dX7_isParagraphCharacter_46 ?_
              refine q_zretF dX7_isParagraphCharacter_47 rfl (by decide) ?_
              first | exact b2i_t (by omega) | exact b2i_f (by omega)
            · refine r_iconst dX7_isParagraphCharacter_42 ?_
              refine r_goto (tgt := 47) dX7_isParagraphCharacter_43 (by decide) ?_
              refine q_zretF dX7_isParagraphCharacter_47 rfl (by decide) ?_
              first | exact b2i_t (by omega) | exact b2i_f (by omega)
set_option maxHeartbeats 4000000 in
set_option maxRecDepth 100000 in
theorem c_digitsOf (I : Mem) (R : RMem) (w : Int) (hw : 0 ≤ w ∧ w ≤ 99999) : CC 1 0 0 yX7_digitsOf cX7_digitsOf 3 (some .int) [.inl (w)] (298, ShF, I, R) (PF (dgt w) I R) := by
  have hD := dgt_in w
  have hloop : ∀ (n : Nat) (e dg u : Int), e < n → ((e = 4 ∧ u = 10000) ∨ (e = 3 ∧ u = 1000) ∨ (e = 2 ∧ u = 100) ∨ (e = 1 ∧ u = 10) ∨ (e = 0 ∧ u = 1)) → ((dg = dgt w - e ∧ e ≤ dgt w - 1) ∨ (dg = 1 ∧ dgt w - 1 < e)) → WW cX7_digitsOf RX7 3 (some .int) false 1 0 0 (PF (dgt w) I R) 0 0 6 [some (.inl (w)), some (.inl (dg)), some (.inl (u))] [] (298, ShF, I, R) := by
    intro n
    induction n with
    | zero => intros; exfalso; omega
    | succ n ih =>
      intro e dg u g1 g2 g3
      refine r_iload_n dX7_digitsOf_6 rfl ?_
      refine r_iconst dX7_digitsOf_7 ?_
      refine r_icmple (tgt := 27) dX7_digitsOf_8 (by decide) (by omega) (by omega) (fun h8 => ?_) (fun h8 => ?_)
      · refine r_iload_n dX7_digitsOf_27 rfl ?_
        refine q_iretF dX7_digitsOf_28 rfl ?_
        omega
      · refine r_iload_n dX7_digitsOf_11 rfl ?_
        refine r_iload_n dX7_digitsOf_12 rfl ?_
        refine r_icmplt (tgt := 19) dX7_digitsOf_13 (by decide) (by omega) (by omega) (fun h13 => ?_) (fun h13 => ?_)
        · refine r_iload_n dX7_digitsOf_19 rfl ?_
          refine r_bipush dX7_digitsOf_20 (by decide) ?_
          refine r_idiv dX7_digitsOf_22 (by omega) (by omega) ?_
          refine r_istore_n dX7_digitsOf_23 (by decide) ?_
          dsimp only [lset]
          refine r_goto (tgt := 6) dX7_digitsOf_24 (by decide) ?_
          exact ih (e - 1) _ _ (by omega) (by omega) (by omega)
        · refine r_iinc dX7_digitsOf_16 rfl (by decide) ?_
          dsimp only [lset]
          refine r_iload_n dX7_digitsOf_19 rfl ?_
          refine r_bipush dX7_digitsOf_20 (by decide) ?_
          refine r_idiv dX7_digitsOf_22 (by omega) (by omega) ?_
          refine r_istore_n dX7_digitsOf_23 (by decide) ?_
          dsimp only [lset]
          refine r_goto (tgt := 6) dX7_digitsOf_24 (by decide) ?_
          exact ih (e - 1) _ _ (by omega) (by omega) (by omega)
  refine CC_of (own := RX7) (ini := false) (by decide +kernel) rfl (fun h => absurd h (by decide)) (Nat.le_of_ble_eq_true rfl) ?_
  show WW cX7_digitsOf RX7 3 (some .int) false 1 0 0 (PF (dgt w) I R) 0 0 0 [some (.inl (w)), none, none] [] (298, ShF, I, R)
  refine r_iconst dX7_digitsOf_0 ?_
  refine r_istore_n dX7_digitsOf_1 (by decide) ?_
  dsimp only [lset]
  refine r_sipush dX7_digitsOf_2 (by decide) ?_
  refine r_istore_n dX7_digitsOf_5 (by decide) ?_
  dsimp only [lset]
  exact hloop 5 4 _ _ (by omega) (by omega) (by omega)
set_option maxHeartbeats 4000000 in
set_option maxRecDepth 100000 in
theorem k_removeParagraph (I : Mem) (R : RMem) (π sg : Nat → Nat) (a : AS) (hI : CI I R π sg a) (hA : AbsOk a) (p : Int) (hp : -2147483648 ≤ p ∧ p ≤ 2147483647) : CC 4 0 0 yX7_removeParagraph cX7_removeParagraph 4 (some .int) [.inr (some 0), .inl (p)] (298, ShF, I, R) (PC (aRemPar a p) I) := by
  have hRO := hI.1.1
  have hcols : I 1 0 = a.1.1.1 := hI.2.1.1
  have hdist : I 1 1 = a.1.1.2.1 := hI.2.1.2.1
  have hcnt : I 1 2 = a.1.1.2.2 := hI.2.1.2.2.1
  have hW := hA.1
  have hW1 := hW.1
  have hW2 := hW.2.1
  have hW3 := hW.2.2.1
  have htail : ∀ (I1 : Mem) (R1 : RMem) (sg1 : Nat → Nat), 0 ≤ p ∧ p ≤ a.1.1.2.2 - 1 → CI I1 R1 π sg1 (psh a) → (∀ (x : Nat) (j : Int), 290 ≤ x ∨ (1 ≤ x ∧ x < 128) → I1 x j = I x j) → ∀ (n : Nat) (i : Int) (R2 : RMem), a.1.1.2.2 < i + n + 1 → p ≤ i → i ≤ a.1.1.2.2 - 1 → (∀ j : Int, 0 ≤ j → j < 8 → R2 3 j = if p ≤ j ∧ j < i then R1 3 (j + 1) else R1 3 j) → (∀ (x : Nat) (j : Int), x ≠ 3 → R2 x j = R1 x j) → WW cX7_removeParagraph RX7 4 (some .int) false 4 0 0 (PC (aRemPar a p) I) 0 0 39 [some (.inr (some 0)), some (.inl p), some (.inr (some (12 + 2 * π p.toNat))), some (.inl i)] [] (298, ShF, u2 I1 1 2 (a.1.1.2.2 - 1), R2) := by
    intro I1 R1 sg1 hp1 hI1 hk1 n
    have hRO1 := hI1.1.1
    have hI1' : AtS I1 0 π a.1 := hI1.2.1
    have h61 := psh_6 a hA.2.1
    have hstr := hI1.1.2.1
    induction n with
    | zero => intros; exfalso; omega
    | succ n ih =>
      intro i R2 g1 g2 g3 g4 g5
      have hRO2 := hRO1.kept (fun x j _ h2 _ => g5 x j h2)
      have hc2 : u2 I1 1 2 (a.1.1.2.2 - 1) 1 2 = a.1.1.2.2 - 1 := u2_s
      refine r_iload_n dX7_removeParagraph_39 rfl ?_
      refine r_aload_n dX7_removeParagraph_40 rfl ?_
      refine q_getR fl_X7_12 dX7_removeParagraph_41 sf_0 (ro_0_0 hRO2) ?_
      refine q_getI fl_X7_101 dX7_removeParagraph_44 sf_1 ?_
      rw [hc2]
      refine r_icmpge (tgt := 76) dX7_removeParagraph_47 (by decide) (by omega) (by omega) (fun h47 => ?_) (fun h47 => ?_)
      · refine r_aload_n dX7_removeParagraph_76 rfl ?_
        refine q_getR fl_X7_12 dX7_removeParagraph_77 sf_0 (ro_0_0 hRO2) ?_
        refine q_getR fl_X7_104 dX7_removeParagraph_80 sf_1 (ro_1_4 hRO2) ?_
        refine r_aload_n dX7_removeParagraph_83 rfl ?_
        refine q_getR fl_X7_12 dX7_removeParagraph_84 sf_0 (ro_0_0 hRO2) ?_
        refine q_getI fl_X7_101 dX7_removeParagraph_87 sf_1 ?_
        rw [hc2]
        refine r_aload_n dX7_removeParagraph_90 rfl ?_
        refine q_aast (t := 4) (ci := 1) (by decide) dX7_removeParagraph_91 sf_3 (by omega) (rp0 hRO1 hstr (i := p) (by omega)).2.1.1 ?_
        refine r_aload_n dX7_removeParagraph_92 rfl ?_
        refine q_getR fl_X7_12 dX7_removeParagraph_93 sf_0 (ro_0_0 (hRO2.kept (fun x j _ h2 _ => u2_n (Or.inl h2)))) ?_
        refine q_getI fl_X7_101 dX7_removeParagraph_96 sf_1 ?_
        rw [hc2]
        refine q_iretZR dX7_removeParagraph_99 rfl ?_
        have e : aRemPar a p = (a.1.1.2.2 - 1, wS (psh a) ((a.1.1.1, a.1.1.2.1, a.1.1.2.2 - 1), a.1.2.1, rmF a.1.2.2 p.toNat (a.1.1.2.2 - 1).toNat)) := by
          unfold aRemPar
          rw [if_pos (by omega)]
        rw [e]
        have hpk := fun (i : Nat) (hi : i < 8) => rmF_pick (p := p.toNat) (c := (a.1.1.2.2 - 1).toNat) (by omega) (by omega) hi
        have hk : ∀ (x : Nat) (j : Int), ¬ (x = 1 ∧ j = 2) → u2 I1 1 2 (a.1.1.2.2 - 1) x j = I1 x j := fun x j h => u2_n (by omega)
        have hst2 : StrS (u2 R2 3 (a.1.1.2.2 - 1) (some (12 + 2 * π p.toNat))) 0 (rmF π p.toNat (a.1.1.2.2 - 1).toNat) := by
          refine ⟨fun q hq => ?_, fun q r hq hr hqr => ?_⟩
          · obtain ⟨z, hz, hz2, hz3⟩ := hpk q hq
            rw [hz2]
            have hzz := rp0 hRO1 hstr (i := z) (by omega)
            rw [Int.toNat_natCast] at hzz
            refine ⟨(hstr.1 z hz).1, ?_⟩
            show u2 R2 3 _ _ 3 (q : Int) = some (1 + (11 + 2 * π z))
            rw [show 1 + (11 + 2 * π z) = 12 + 2 * π z by omega, u2_at]
            rcases hz3 with h | h | h
            · rw [if_neg (by omega), g4 _ (by omega) (by omega), if_pos (by omega), show ((q : Int) + 1) = (z : Int) by omega]
              exact hzz.1
            · rw [if_pos (by omega), show p.toNat = z by omega]
            · rw [if_neg (by omega), g4 _ (by omega) (by omega), if_neg (by omega), show (q : Int) = (z : Int) by omega]
              exact hzz.1
          · obtain ⟨z, hz, hz2, hz3⟩ := hpk q hq
            obtain ⟨y, hy, hy2, hy3⟩ := hpk r hr
            rw [hz2, hy2] at hqr
            have := hstr.2 z y hz hy hqr
            omega
        have hRO3 : RefOk (u2 R2 3 (a.1.1.2.2 - 1) (some (12 + 2 * π p.toNat))) := hRO2.kept (fun x j _ h2 _ => u2_n (Or.inl h2))
        have hRI : RInv (u2 R2 3 (a.1.1.2.2 - 1) (some (12 + 2 * π p.toNat))) (rmF π p.toNat (a.1.1.2.2 - 1).toNat) sg1 := by
          refine ⟨hRO3, hst2, fun k h1 h2 => (hI1.1.2.2.1 k h1 h2).kept (fun j => ?_), ⟨fun j hj => ?_, hI1.1.2.2.2.2⟩⟩
          · have := stB_in h2
            rw [u2_n (Or.inl (by omega))]
            exact g5 _ _ (by omega)
          · have h9 := hI1.1.2.2.2.1 j hj
            exact ⟨h9.1, h9.2.1, by rw [u2_n (Or.inl (by decide)), g5 _ _ (by decide)]; exact h9.2.2⟩
        have hAt : AtS (u2 I1 1 2 (a.1.1.2.2 - 1)) 0 (rmF π p.toNat (a.1.1.2.2 - 1).toNat) ((a.1.1.1, a.1.1.2.1, a.1.1.2.2 - 1), a.1.2.1, rmF a.1.2.2 p.toNat (a.1.1.2.2 - 1).toNat) := by
          refine at0_mk ((hk _ _ (by decide)).trans hI1'.1) ((hk _ _ (by decide)).trans hI1'.2.1) u2_s (fun q hq => ?_) (fun q hq => ?_)
          · have h9 := at0_y hI1' (i := q) (by omega)
            rw [Int.toNat_natCast] at h9
            exact h9.kept (fun j => hk _ _ (by omega)) (fun j => hk _ _ (by omega))
          · obtain ⟨z, hz, hz2, hz3⟩ := hpk q hq
            show AtP _ _ _ (rmF a.1.2.2 p.toNat (a.1.1.2.2 - 1).toNat q)
            rw [hz2, hz2]
            have h9 := at0_p hI1' (i := z) (by omega)
            rw [Int.toNat_natCast] at h9
            exact h9.kept (fun j => hk _ _ (by omega)) (fun j => hk _ _ (by omega))
        exact ⟨rfl, ⟨rmF π p.toNat (a.1.1.2.2 - 1).toNat, sg1, hI1.st2 hRI h61 hAt (fun x j h1 h2 h3 => hk x j (by omega))⟩, fun x j h => by rw [hk _ _ (by omega)]; exact hk1 x j (Or.inl h)⟩
      · refine r_aload_n dX7_removeParagraph_50 rfl ?_
        refine q_getR fl_X7_12 dX7_removeParagraph_51 sf_0 (ro_0_0 hRO2) ?_
        refine q_getR fl_X7_104 dX7_removeParagraph_54 sf_1 (ro_1_4 hRO2) ?_
        refine r_iload_n dX7_removeParagraph_57 rfl ?_
        refine r_aload_n dX7_removeParagraph_58 rfl ?_
        refine q_getR fl_X7_12 dX7_removeParagraph_59 sf_0 (ro_0_0 hRO2) ?_
        refine q_getR fl_X7_104 dX7_removeParagraph_62 sf_1 (ro_1_4 hRO2) ?_
        refine r_iload_n dX7_removeParagraph_65 rfl ?_
        refine r_iconst dX7_removeParagraph_66 ?_
        refine r_iadd dX7_removeParagraph_67 ?_
        refine q_aald (t := 4) (by decide) dX7_removeParagraph_68 sf_3 (by omega) ((g4 (i + 1) (by omega) (by omega)).trans ((if_neg (by omega)).trans (rp0 hRO1 hstr (i := i + 1) (by omega)).1)) ?_
        refine q_aast (t := 4) (ci := 1) (by decide) dX7_removeParagraph_69 sf_3 (by omega) (rp0 hRO1 hstr (i := i + 1) (by omega)).2.1.1 ?_
        refine r_iinc dX7_removeParagraph_70 rfl (by decide) ?_
        dsimp only [lset]
        refine r_goto (tgt := 39) dX7_removeParagraph_73 (by decide) ?_
        refine ih _ _ (by omega) (by omega) (by omega) (fun j h1 h2 => ?_) (fun x j h => by rw [u2_n (Or.inl h)]; exact g5 x j h)
        rw [u2_at]
        by_cases hj : j = i
        · rw [if_pos ⟨rfl, hj⟩, if_pos (by omega), hj]
          exact (rp0 hRO1 hstr (i := i + 1) (by omega)).1.symm
        · rw [if_neg (fun z => hj z.2), g4 j h1 h2]
          by_cases h3 : p ≤ j ∧ j < i
          · rw [if_pos h3, if_pos (by omega)]
          · rw [if_neg h3, if_neg (by omega)]
  refine CC_of (own := RX7) (ini := false) (by decide +kernel) rfl (fun h => absurd h (by decide)) (Nat.le_of_ble_eq_true rfl) ?_
  show WW cX7_removeParagraph RX7 4 (some .int) false 4 0 0 (PC (aRemPar a p) I) 0 0 0 [some (.inr (some 0)), some (.inl (p)), none, none] [] (298, ShF, I, R)
  refine r_aload_n dX7_removeParagraph_0 rfl ?_
  refine r_iload_n dX7_removeParagraph_1 rfl ?_
  refine q_callVF lk_X7_116 dX7_removeParagraph_2 (c_isParagraph I R hRO a.1.1.2.2 hcnt hW3 p hp) (by decide) sf_0 rfl rfl (Nat.le_of_ble_eq_true rfl) (by decide) ?_
  refine q_ifneB (tgt := 10) dX7_removeParagraph_5 (by decide) (fun h5 => ?_) (fun h5 => ?_)
  · refine r_aload_n dX7_removeParagraph_10 rfl ?_
    refine q_callVWR lk_X7_42 dX7_removeParagraph_11 (c_saveState I R π sg a hI hA) (by decide) sf_0 rfl rfl (Nat.le_of_ble_eq_true rfl) (by decide) (fun I1 R1 hsv => ?_)
    obtain ⟨⟨sg1, hI1⟩, hk1, hr1⟩ := hsv
    have hRO1 := hI1.1.1
    have hI1' : AtS I1 0 π a.1 := hI1.2.1
    have h61 := psh_6 a hA.2.1
    have hc1 : I1 1 2 = a.1.1.2.2 := hI1'.2.2.1
    refine r_aload_n dX7_removeParagraph_14 rfl ?_
    refine q_getR fl_X7_12 dX7_removeParagraph_15 sf_0 (ro_0_0 hRO1) ?_
    refine q_getR fl_X7_104 dX7_removeParagraph_18 sf_1 (ro_1_4 hRO1) ?_
    refine r_iload_n dX7_removeParagraph_21 rfl ?_
    refine q_aald (t := 4) (by decide) dX7_removeParagraph_22 sf_3 (by omega) (rp0 hRO1 hI1.1.2.1 (i := p) (by omega)).1 ?_
    refine r_astore_n dX7_removeParagraph_23 (by decide) ?_
    dsimp only [lset]
    refine r_aload_n dX7_removeParagraph_24 rfl ?_
    refine q_getR fl_X7_12 dX7_removeParagraph_25 sf_0 (ro_0_0 hRO1) ?_
    refine r_dup dX7_removeParagraph_28 ?_
    refine q_getI fl_X7_101 dX7_removeParagraph_29 sf_1 ?_
    rw [hc1]
    refine r_iconst dX7_removeParagraph_32 ?_
    refine r_isub dX7_removeParagraph_33 ?_
    refine q_putI fl_X7_101 dX7_removeParagraph_34 sf_1 ?_
    refine r_iload_n dX7_removeParagraph_37 rfl ?_
    refine r_istore_n dX7_removeParagraph_38 (by decide) ?_
    dsimp only [lset]
    exact htail I1 R1 sg1 (by omega) hI1 hk1 9 p R1 (by omega) (by omega) (by omega) (fun j _ _ => (if_neg (by omega)).symm) (fun _ _ _ => rfl)
  · refine r_iconst dX7_removeParagraph_8 ?_
    refine q_iretZR dX7_removeParagraph_9 rfl ?_
    have e : aRemPar a p = (-1, a) := by
      unfold aRemPar
      rw [if_neg (by omega)]
    rw [e]
    exact ⟨rfl, ⟨π, sg, hI⟩, fun _ _ _ => rfl⟩
set_option maxHeartbeats 4000000 in
set_option maxRecDepth 100000 in
theorem k_takeText (I : Mem) (R : RMem) (π sg : Nat → Nat) (a : AS) (hI : CI I R π sg a) (hA : AbsOk a) (p : Int) (hp : -2147483648 ≤ p ∧ p ≤ 2147483647) : CC 4 0 0 yX7_takeText cX7_takeText 4 (some .int) [.inr (some 0), .inl (p)] (298, ShF, I, R) (PC (aTakeText a p) I) := by
  have hRO := hI.1.1
  have hcols : I 1 0 = a.1.1.1 := hI.2.1.1
  have hdist : I 1 1 = a.1.1.2.1 := hI.2.1.2.1
  have hcnt : I 1 2 = a.1.1.2.2 := hI.2.1.2.2.1
  have hW := hA.1
  have hW1 := hW.1
  have hW2 := hW.2.1
  have hW3 := hW.2.2.1
  have htl := hI.2.2.2.2.1
  have htl2 := hA.2.2.2.1
  have htail : ∀ (I1 : Mem) (R1 : RMem) (sg1 : Nat → Nat), 0 ≤ p ∧ p ≤ a.1.1.2.2 - 1 → fbad a.2.2.2.2 a.2.2.2.1 = -1 → ¬ 80 < a.2.2.2.1 → CI I1 R1 π sg1 (psh a) → (∀ (x : Nat) (j : Int), 290 ≤ x ∨ (1 ≤ x ∧ x < 128) → I1 x j = I x j) → ∀ (n : Nat) (i : Int) (I2 : Mem), a.2.2.2.1 < i + n → 0 ≤ i → i ≤ a.2.2.2.1 → PG I2 I1 (12 + 2 * π p.toNat) (13 + 2 * π p.toNat) i (mixF a.2.2.2.2 a.2.2.2.1 (a.1.2.2 p.toNat).2.2) → WW cX7_takeText RX7 4 (some .int) false 4 0 0 (PC (aTakeText a p) I) 0 0 77 [some (.inr (some 0)), some (.inl p), some (.inr (some (12 + 2 * π p.toNat))), some (.inl i)] [] (298, ShF, I2, R1) := by
    intro I1 R1 sg1 hp1 hfb h80 hI1 hk1 n
    have hRO1 := hI1.1.1
    have hI1' : AtS I1 0 π a.1 := hI1.2.1
    have h61 := psh_6 a hA.2.1
    have hpar := rp0 hRO1 hI1.1.2.1 (i := p) (by omega)
    have hpp := hpar.2.2
    have h9 := at0_p hI1' (i := p) (by omega)
    induction n with
    | zero => intros; exfalso; omega
    | succ n ih =>
      intro i I2 g1 g2 g3 g4
      have ht : I2 0 4 = a.2.2.2.1 := by rw [g4.2.2 _ _ (by omega) (by omega)]; exact hI1.2.2.2.2.1
      have htx : ∀ j : Int, 0 ≤ j → j < a.2.2.2.1 → I2 29 j = a.2.2.2.2 j := fun j h1 h2 => by rw [g4.2.2 _ _ (by omega) (by omega)]; exact hI1.2.2.2.2.2 j h1 h2
      refine r_iload_n dX7_takeText_77 rfl ?_
      refine r_aload_n dX7_takeText_78 rfl ?_
      refine q_getI fl_X7_86 dX7_takeText_79 sf_0 ?_
      rw [ht]
      refine r_icmpge (tgt := 101) dX7_takeText_82 (by decide) (by omega) (by omega) (fun h82 => ?_) (fun h82 => ?_)
      · refine r_aload_n dX7_takeText_101 rfl ?_
        refine r_iconst dX7_takeText_102 ?_
        refine q_putI fl_X7_86 dX7_takeText_103 sf_0 ?_
        refine r_aload_n dX7_takeText_106 rfl ?_
        refine q_getI fl_X7_113 dX7_takeText_107 hpar.2.1.1 ?_
        refine q_iretZR dX7_takeText_110 rfl ?_
        have e : aTakeText a p = ((a.2.2.2.1 : Int), clr (wS (psh a) (setP a.1 p.toNat ((a.1.2.2 p.toNat).1, (a.2.2.2.1 : Int), mixF a.2.2.2.2 a.2.2.2.1 (a.1.2.2 p.toNat).2.2)))) := by
          unfold aTakeText
          rw [if_pos (by omega), if_neg (by omega), if_neg h80]
        rw [e]
        have hi : i = a.2.2.2.1 := by omega
        rw [hi] at g4
        have hAt := g4.end (by omega) h9.1 (fun j h1 h2 => (h9.2.2 j (by omega) h2).trans (if_neg (by omega)).symm)
        have hfin := (hI1.par h61 (i := p.toNat) (by omega) (fun x j h1 h2 => g4.2.2 x j h2 (by omega)) hAt).clr h61
        exact ⟨by rw [u2_n (Or.inl (by omega))]; exact g4.1, ⟨π, sg1, hfin⟩, fun x j h => by rw [u2_n (Or.inl (by omega)), g4.2.2 _ _ (by omega) (by omega)]; exact hk1 x j (Or.inl h)⟩
      · refine r_aload_n dX7_takeText_85 rfl ?_
        refine r_aload_n dX7_takeText_86 rfl ?_
        refine q_getR fl_X7_20 dX7_takeText_87 sf_0 (ro_0_3 hRO1) ?_
        refine r_iload_n dX7_takeText_90 rfl ?_
        refine q_iald dX7_takeText_91 sf_29 (by omega) ?_
        rw [htx i (by omega) (by omega)]
        refine q_callVW lk_X7_122 dX7_takeText_92 (c_append I2 R1 hpar.2.1 (by omega) (a.2.2.2.2 i) (by have := g4.1; omega)) (by decide) hpar.2.1.1 rfl rfl (Nat.le_of_ble_eq_true rfl) (by decide) (fun I3 hI3 => ?_)
        subst hI3
        refine r_iinc dX7_takeText_95 rfl (by decide) ?_
        dsimp only [lset]
        refine r_goto (tgt := 77) dX7_takeText_98 (by decide) ?_
        exact ih _ _ (by omega) (by omega) (by omega) (g4.step (by omega) (if_pos (by omega)))
  have hloop : ∀ (n : Nat) (i : Int), a.2.2.2.1 < i + n → 0 ≤ i → i ≤ a.2.2.2.1 → fbad a.2.2.2.2 i.toNat = -1 → (0 ≤ p ∧ p ≤ a.1.1.2.2 - 1) → WW cX7_takeText RX7 4 (some .int) false 4 0 0 (PC (aTakeText a p) I) 0 0 12 [some (.inr (some 0)), some (.inl (p)), some (.inl (i)), none] [] (298, ShF, I, R) := by
    intro n
    induction n with
    | zero => intros; exfalso; omega
    | succ n ih =>
      intro i g1 g2 g3 g4 g5
      refine r_iload_n dX7_takeText_12 rfl ?_
      refine r_aload_n dX7_takeText_13 rfl ?_
      refine q_getI fl_X7_86 dX7_takeText_14 sf_0 ?_
      rw [htl]
      refine r_icmpge (tgt := 44) dX7_takeText_17 (by decide) (by omega) (by omega) (fun h17 => ?_) (fun h17 => ?_)
      · refine r_aload_n dX7_takeText_44 rfl ?_
        refine q_getI fl_X7_86 dX7_takeText_45 sf_0 ?_
        rw [htl]
        have hi : i = a.2.2.2.1 := by omega
        have hfb : fbad a.2.2.2.2 a.2.2.2.1 = -1 := by
          rw [hi, Int.toNat_natCast] at g4
          exact g4
        refine r_bipush dX7_takeText_48 (by decide) ?_
        refine r_icmple (tgt := 56) dX7_takeText_50 (by decide) (by omega) (by omega) (fun h50 => ?_) (fun h50 => ?_)
        · refine r_aload_n dX7_takeText_56 rfl ?_
          refine q_callVWR lk_X7_42 dX7_takeText_57 (c_saveState I R π sg a hI hA) (by decide) sf_0 rfl rfl (Nat.le_of_ble_eq_true rfl) (by decide) (fun I1 R1 hsv => ?_)
          obtain ⟨⟨sg1, hI1⟩, hk1, hr1⟩ := hsv
          have hRO1 := hI1.1.1
          have hI1' : AtS I1 0 π a.1 := hI1.2.1
          have h61 := psh_6 a hA.2.1
          refine r_aload_n dX7_takeText_60 rfl ?_
          refine q_getR fl_X7_12 dX7_takeText_61 sf_0 (ro_0_0 hRO1) ?_
          refine q_getR fl_X7_104 dX7_takeText_64 sf_1 (ro_1_4 hRO1) ?_
          refine r_iload_n dX7_takeText_67 rfl ?_
          refine q_aald (t := 4) (by decide) dX7_takeText_68 sf_3 (by omega) (rp0 hRO1 hI1.1.2.1 (i := p) (by omega)).1 ?_
          refine r_astore_n dX7_takeText_69 (by decide) ?_
          dsimp only [lset]
          refine r_aload_n dX7_takeText_70 rfl ?_
          refine r_iconst dX7_takeText_71 ?_
          refine q_putI fl_X7_113 dX7_takeText_72 (rp0 hRO1 hI1.1.2.1 (i := p) (by omega)).2.1.1 ?_
          refine r_iconst dX7_takeText_75 ?_
          refine r_istore_n dX7_takeText_76 (by decide) ?_
          dsimp only [lset]
          have hppp := (rp0 hRO1 hI1.1.2.1 (i := p) (by omega)).2.2
          refine htail I1 R1 sg1 g5 hfb (by omega) hI1 hk1 101 0 _ (by omega) (by omega) (by omega) ⟨u2_s, fun j h1 => ?_, fun x j h1 h2 => u2_n (by omega)⟩
          rw [u2_n (Or.inl (by omega)), if_neg (by omega)]
        · refine r_bipush dX7_takeText_53 (by decide) ?_
          refine q_iretZR dX7_takeText_55 rfl ?_
          have e : aTakeText a p = (-3, a) := by
            unfold aTakeText
            rw [if_pos (by omega), if_neg (by omega), if_pos (by omega)]
          rw [e]
          exact ⟨rfl, ⟨π, sg, hI⟩, fun _ _ _ => rfl⟩
      · refine r_aload_n dX7_takeText_20 rfl ?_
        refine q_getR fl_X7_20 dX7_takeText_21 sf_0 (ro_0_3 hRO) ?_
        refine r_iload_n dX7_takeText_24 rfl ?_
        refine q_iald dX7_takeText_25 sf_29 (by omega) ?_
        have htx := hI.2.2.2.2.2 i (by omega) (by omega)
        have htr := hA.2.2.2.2 i (by omega) (by omega)
        rw [htx]
        have hst : fbad a.2.2.2.2 (i.toNat + 1) = if okc (a.2.2.2.2 i) then -1 else i := by
          show (if fbad a.2.2.2.2 i.toNat ≠ -1 then fbad a.2.2.2.2 i.toNat else if okc (a.2.2.2.2 i.toNat) then -1 else (i.toNat : Int)) = _
          rw [if_neg (by omega), show ((i.toNat : Nat) : Int) = i by omega]
        refine q_callSF lk_X7_119 dX7_takeText_26 (c_isParagraphCharacter I R (a.2.2.2.2 i) (by omega)) (by decide) rfl rfl (Nat.le_of_ble_eq_true rfl) (by decide) ?_
        refine q_ifneB (tgt := 38) dX7_takeText_29 (by decide) (fun h29 => ?_) (fun h29 => ?_)
        · refine r_iinc dX7_takeText_38 rfl (by decide) ?_
          dsimp only [lset]
          refine r_goto (tgt := 12) dX7_takeText_41 (by decide) ?_
          exact ih _ (by omega) (by omega) (by omega) (by rw [show (i + 1).toNat = i.toNat + 1 by omega, hst, if_pos h29]) g5
        · refine r_sipush dX7_takeText_32 (by decide) ?_
          refine r_iload_n dX7_takeText_35 rfl ?_
          refine r_isub dX7_takeText_36 ?_
          refine q_iretZR dX7_takeText_37 rfl ?_
          rw [if_neg h29] at hst
          have hkeep := fbad_keep (tx := a.2.2.2.2) (m := i.toNat + 1) (by omega) a.2.2.2.1 (by omega)
          have e : aTakeText a p = (-2000 - i, a) := by
            unfold aTakeText
            rw [if_pos (by omega), if_pos (by omega), hkeep, hst]
          rw [e]
          exact ⟨rfl, ⟨π, sg, hI⟩, fun _ _ _ => rfl⟩
  refine CC_of (own := RX7) (ini := false) (by decide +kernel) rfl (fun h => absurd h (by decide)) (Nat.le_of_ble_eq_true rfl) ?_
  show WW cX7_takeText RX7 4 (some .int) false 4 0 0 (PC (aTakeText a p) I) 0 0 0 [some (.inr (some 0)), some (.inl (p)), none, none] [] (298, ShF, I, R)
  refine r_aload_n dX7_takeText_0 rfl ?_
  refine r_iload_n dX7_takeText_1 rfl ?_
  refine q_callVF lk_X7_116 dX7_takeText_2 (c_isParagraph I R hRO a.1.1.2.2 hcnt hW3 p hp) (by decide) sf_0 rfl rfl (Nat.le_of_ble_eq_true rfl) (by decide) ?_
  refine q_ifneB (tgt := 10) dX7_takeText_5 (by decide) (fun h5 => ?_) (fun h5 => ?_)
  · refine r_iconst dX7_takeText_10 ?_
    refine r_istore_n dX7_takeText_11 (by decide) ?_
    dsimp only [lset]
    exact hloop 101 _ (by omega) (by omega) (by omega) rfl (by omega)
  · refine r_iconst dX7_takeText_8 ?_
    refine q_iretZR dX7_takeText_9 rfl ?_
    have e : aTakeText a p = (-1, a) := by
      unfold aTakeText
      rw [if_neg (by omega)]
    rw [e]
    exact ⟨rfl, ⟨π, sg, hI⟩, fun _ _ _ => rfl⟩
end
section
/-! words and amounts: the class -/
set_option maxHeartbeats 4000000 in
set_option maxRecDepth 100000 in
theorem k_addWord (I : Mem) (R : RMem) (π sg : Nat → Nat) (a : AS) (hI : CI I R π sg a) (hA : AbsOk a) (p : Int) (hp : -2147483648 ≤ p ∧ p ≤ 2147483647) (t : Int) (ht : -2147483648 ≤ t ∧ t ≤ 2147483647) (l : Int) (hl : -2147483648 ≤ l ∧ l ≤ 2147483647) (L : Int) (hL : -2147483648 ≤ L ∧ L ≤ 2147483647) : CC 4 0 0 yX7_addWord cX7_addWord 7 (some .int) [.inr (some 0), .inl (p), .inl (t), .inl (l), .inl (L)] (298, ShF, I, R) (PC (aAddWord a p t l L) I) := by
  have hRO := hI.1.1
  have hcols : I 1 0 = a.1.1.1 := hI.2.1.1
  have hdist : I 1 1 = a.1.1.2.1 := hI.2.1.2.1
  have hcnt : I 1 2 = a.1.1.2.2 := hI.2.1.2.2.1
  have hW := hA.1
  have hW1 := hW.1
  have hW2 := hW.2.1
  have hW3 := hW.2.2.1
  have htail : ∀ (I1 : Mem) (R1 : RMem) (sg1 : Nat → Nat), ((0 ≤ p ∧ p ≤ a.1.1.2.2 - 1) ∧ (0 ≤ t ∧ t ≤ 1) ∧ (0 ≤ l ∧ l ≤ 25) ∧ (1 ≤ L ∧ L ≤ 30) ∧ (a.1.2.2 p.toNat).2.1 + 1 + L ≤ 80) → CI I1 R1 π sg1 (psh a) → (∀ (x : Nat) (j : Int), 290 ≤ x ∨ (1 ≤ x ∧ x < 128) → I1 x j = I x j) → ∀ (n : Nat) (i : Int) (I2 : Mem), L < i + n → 0 ≤ i → i ≤ L → PG I2 I1 (12 + 2 * π p.toNat) (13 + 2 * π p.toNat) ((a.1.2.2 p.toNat).2.1 + 1 + i) (wordF (a.1.2.2 p.toNat).2.2 (a.1.2.2 p.toNat).2.1 (if t = 1 then 9 else 32) (97 + l) L) → WW cX7_addWord RX7 7 (some .int) false 4 0 0 (PC (aAddWord a p t l L) I) 0 0 93 [some (.inr (some 0)), some (.inl p), some (.inl t), some (.inl l), some (.inl L), some (.inr (some (12 + 2 * π p.toNat))), some (.inl i)] [] (298, ShF, I2, R1) := by
    intro I1 R1 sg1 hcond hI1 hk1 n
    have hRO1 := hI1.1.1
    have hI1' : AtS I1 0 π a.1 := hI1.2.1
    have h61 := psh_6 a hA.2.1
    have hpar := rp0 hRO1 hI1.1.2.1 (i := p) (by omega)
    have hpp := hpar.2.2
    have h9 := at0_p hI1' (i := p) (by omega)
    have hwl := (hW.2.2.2.2 p.toNat (by omega)).2.1
    induction n with
    | zero => intros; exfalso; omega
    | succ n ih =>
      intro i I2 g1 g2 g3 g4
      refine r_iload dX7_addWord_93 rfl ?_
      refine r_iload dX7_addWord_95 rfl ?_
      refine r_icmpge (tgt := 115) dX7_addWord_97 (by decide) (by omega) (by omega) (fun h97 => ?_) (fun h97 => ?_)
      · refine r_aload dX7_addWord_115 rfl ?_
        refine q_getI fl_X7_113 dX7_addWord_117 hpar.2.1.1 ?_
        refine q_iretZR dX7_addWord_120 rfl ?_
        have e : aAddWord a p t l L = ((a.1.2.2 p.toNat).2.1 + 1 + L, wS (psh a) (setP a.1 p.toNat ((a.1.2.2 p.toNat).1, (a.1.2.2 p.toNat).2.1 + 1 + L, (wordF (a.1.2.2 p.toNat).2.2 (a.1.2.2 p.toNat).2.1 (if t = 1 then 9 else 32) (97 + l) L)))) := by
          unfold aAddWord
          rw [if_pos (by omega), if_neg (by omega)]
        rw [e]
        rw [show i = L by omega] at g4
        have hAt := g4.end (by omega) h9.1 (fun j h1 h2 => (h9.2.2 j (by omega) h2).trans (by unfold wordF; rw [if_neg (by omega), if_neg (by omega)]))
        exact ⟨g4.1, ⟨π, sg1, hI1.par h61 (i := p.toNat) (by omega) (fun x j h1 h2 => g4.2.2 x j h2 (by omega)) hAt⟩, fun x j h => by rw [g4.2.2 _ _ (by omega) (by omega)]; exact hk1 x j (Or.inl h)⟩
      · refine r_aload dX7_addWord_100 rfl ?_
        refine r_bipush dX7_addWord_102 (by decide) ?_
        refine r_iload_n dX7_addWord_104 rfl ?_
        refine r_iadd dX7_addWord_105 ?_
        refine q_callVW lk_X7_122 dX7_addWord_106 (c_append I2 R1 hpar.2.1 (by omega) _ (by have := g4.1; omega)) (by decide) hpar.2.1.1 rfl rfl (Nat.le_of_ble_eq_true rfl) (by decide) (fun I3 hI3 => ?_)
        refine r_iinc dX7_addWord_109 rfl (by decide) ?_
        dsimp only [lset]
        refine r_goto (tgt := 93) dX7_addWord_112 (by decide) ?_
        subst hI3
        have hst := g4.step (c := 97 + l) (by omega) (by unfold wordF; rw [if_neg (by omega), if_pos (by omega)])
        rw [show (a.1.2.2 p.toNat).2.1 + 1 + i + 1 = (a.1.2.2 p.toNat).2.1 + 1 + (i + 1) by omega] at hst
        exact ih _ _ (by omega) (by omega) (by omega) hst
  refine CC_of (own := RX7) (ini := false) (by decide +kernel) rfl (fun h => absurd h (by decide)) (Nat.le_of_ble_eq_true rfl) ?_
  show WW cX7_addWord RX7 7 (some .int) false 4 0 0 (PC (aAddWord a p t l L) I) 0 0 0 [some (.inr (some 0)), some (.inl (p)), some (.inl (t)), some (.inl (l)), some (.inl (L)), none, none] [] (298, ShF, I, R)
  refine r_aload_n dX7_addWord_0 rfl ?_
  refine r_iload_n dX7_addWord_1 rfl ?_
  refine q_callVF lk_X7_116 dX7_addWord_2 (c_isParagraph I R hRO a.1.1.2.2 hcnt hW3 p hp) (by decide) sf_0 rfl rfl (Nat.le_of_ble_eq_true rfl) (by decide) ?_
  refine q_ifeqB (tgt := 38) dX7_addWord_5 (by decide) (fun h5 => ?_) (fun h5 => ?_)
  · refine r_iconst dX7_addWord_38 ?_
    refine q_iretZR dX7_addWord_39 rfl ?_
    have e : aAddWord a p t l L = (-1, a) := by
      unfold aAddWord
      rw [if_neg (by omega)]
    rw [e]
    exact ⟨rfl, ⟨π, sg, hI⟩, fun _ _ _ => rfl⟩
  · refine r_iload_n dX7_addWord_8 rfl ?_
    refine r_iconst dX7_addWord_9 ?_
    refine r_iconst dX7_addWord_10 ?_
    refine q_callSF lk_X7_38 dX7_addWord_11 (c_isWithin I R t 0 1 ht (by decide) (by decide)) (by decide) rfl rfl (Nat.le_of_ble_eq_true rfl) (by decide) ?_
    refine q_ifeqB (tgt := 38) dX7_addWord_14 (by decide) (fun h14 => ?_) (fun h14 => ?_)
    · refine r_iconst dX7_addWord_38 ?_
      refine q_iretZR dX7_addWord_39 rfl ?_
      have e : aAddWord a p t l L = (-1, a) := by
        unfold aAddWord
        rw [if_neg (by omega)]
      rw [e]
      exact ⟨rfl, ⟨π, sg, hI⟩, fun _ _ _ => rfl⟩
    · refine r_iload_n dX7_addWord_17 rfl ?_
      refine r_iconst dX7_addWord_18 ?_
      refine r_bipush dX7_addWord_19 (by decide) ?_
      refine q_callSF lk_X7_38 dX7_addWord_21 (c_isWithin I R l 0 25 hl (by decide) (by decide)) (by decide) rfl rfl (Nat.le_of_ble_eq_true rfl) (by decide) ?_
      refine q_ifeqB (tgt := 38) dX7_addWord_24 (by decide) (fun h24 => ?_) (fun h24 => ?_)
      · refine r_iconst dX7_addWord_38 ?_
        refine q_iretZR dX7_addWord_39 rfl ?_
        have e : aAddWord a p t l L = (-1, a) := by
          unfold aAddWord
          rw [if_neg (by omega)]
        rw [e]
        exact ⟨rfl, ⟨π, sg, hI⟩, fun _ _ _ => rfl⟩
      · refine r_iload dX7_addWord_27 rfl ?_
        refine r_iconst dX7_addWord_29 ?_
        refine r_bipush dX7_addWord_30 (by decide) ?_
        refine q_callSF lk_X7_38 dX7_addWord_32 (c_isWithin I R L 1 30 hL (by decide) (by decide)) (by decide) rfl rfl (Nat.le_of_ble_eq_true rfl) (by decide) ?_
        refine q_ifneB (tgt := 40) dX7_addWord_35 (by decide) (fun h35 => ?_) (fun h35 => ?_)
        · refine r_aload_n dX7_addWord_40 rfl ?_
          refine q_getR fl_X7_12 dX7_addWord_41 sf_0 (ro_0_0 hRO) ?_
          refine q_getR fl_X7_104 dX7_addWord_44 sf_1 (ro_1_4 hRO) ?_
          refine r_iload_n dX7_addWord_47 rfl ?_
          refine q_aald (t := 4) (by decide) dX7_addWord_48 sf_3 (by omega) (rp0 hRO hI.1.2.1 (i := p) (by omega)).1 ?_
          have h90 := at0_p hI.2.1 (i := p) (by omega)
          have hwl := (hW.2.2.2.2 p.toNat (by omega)).2.1
          have hlen := h90.2.1
          refine r_astore dX7_addWord_49 (by decide) ?_
          dsimp only [lset]
          refine r_aload dX7_addWord_51 rfl ?_
          refine q_getI fl_X7_113 dX7_addWord_53 (rp0 hRO hI.1.2.1 (i := p) (by omega)).2.1.1 ?_
          rw [hlen]
          refine r_iconst dX7_addWord_56 ?_
          refine r_iadd dX7_addWord_57 ?_
          refine r_iload dX7_addWord_58 rfl ?_
          refine r_iadd dX7_addWord_60 ?_
          refine r_bipush dX7_addWord_61 (by decide) ?_
          refine r_icmple (tgt := 69) dX7_addWord_63 (by decide) (by omega) (by omega) (fun h63 => ?_) (fun h63 => ?_)
          · refine r_aload_n dX7_addWord_69 rfl ?_
            refine q_callVWR lk_X7_42 dX7_addWord_70 (c_saveState I R π sg a hI hA) (by decide) sf_0 rfl rfl (Nat.le_of_ble_eq_true rfl) (by decide) (fun I1 R1 hsv => ?_)
            obtain ⟨⟨sg1, hI1⟩, hk1, hr1⟩ := hsv
            have hRO1 := hI1.1.1
            have hI1' : AtS I1 0 π a.1 := hI1.2.1
            have h61 := psh_6 a hA.2.1
            have hpar := rp0 hRO1 hI1.1.2.1 (i := p) (by omega)
            have hpp := hpar.2.2
            have h9 := at0_p hI1' (i := p) (by omega)
            have hlen1 := h9.2.1
            have hpg0 : ∀ g : Int → Int, (∀ j : Int, 0 ≤ j → j < (a.1.2.2 p.toNat).2.1 → g j = (a.1.2.2 p.toNat).2.2 j) → PG I1 I1 (12 + 2 * π p.toNat) (13 + 2 * π p.toNat) (a.1.2.2 p.toNat).2.1 g := fun g hg => ⟨hlen1, fun j h1 => by
              by_cases hj : j < (a.1.2.2 p.toNat).2.1
              · rw [if_pos hj, hg j h1 hj]; exact h9.2.2 j h1 (by omega)
              · rw [if_neg hj], fun _ _ _ _ => rfl⟩
            refine r_aload dX7_addWord_73 rfl ?_
            refine r_iload_n dX7_addWord_75 rfl ?_
            refine r_iconst dX7_addWord_76 ?_
            refine r_icmpne (tgt := 85) dX7_addWord_77 (by decide) (by omega) (by omega) (fun h77 => ?_) (fun h77 => ?_)
            · refine r_bipush dX7_addWord_85 (by decide) ?_
              refine q_callVW lk_X7_122 dX7_addWord_87 (c_append I1 R1 hpar.2.1 (by omega) _ (by omega)) (by decide) (rp0 hRO hI.1.2.1 (i := p) (by omega)).2.1.1 rfl rfl (Nat.le_of_ble_eq_true rfl) (by decide) (fun I3 hI3 => ?_)
              refine r_iconst dX7_addWord_90 ?_
              refine r_istore dX7_addWord_91 (by decide) ?_
              dsimp only [lset]
              subst hI3
              have hst := (hpg0 (wordF (a.1.2.2 p.toNat).2.2 (a.1.2.2 p.toNat).2.1 (if t = 1 then 9 else 32) (97 + l) L) (fun j h1 h2 => by unfold wordF; rw [if_neg (by omega), if_neg (by omega)])).step (c := (if t = 1 then 9 else 32)) (by omega) (by unfold wordF; rw [if_pos rfl])
              first | rw [if_pos (show t = 1 by omega)] at hst | rw [if_neg (show ¬ t = 1 by omega)] at hst
              exact htail I1 R1 sg1 (by omega) hI1 hk1 31 0 _ (by omega) (by omega) (by omega) (by first | (rw [if_pos (show t = 1 by omega), Int.add_zero]; exact hst) | (rw [if_neg (show ¬ t = 1 by omega), Int.add_zero]; exact hst))
            · refine r_bipush dX7_addWord_80 (by decide) ?_
              refine r_goto (tgt := 87) dX7_addWord_82 (by decide) ?_
              refine q_callVW lk_X7_122 dX7_addWord_87 (c_append I1 R1 hpar.2.1 (by omega) _ (by omega)) (by decide) (rp0 hRO hI.1.2.1 (i := p) (by omega)).2.1.1 rfl rfl (Nat.le_of_ble_eq_true rfl) (by decide) (fun I3 hI3 => ?_)
              refine r_iconst dX7_addWord_90 ?_
              refine r_istore dX7_addWord_91 (by decide) ?_
              dsimp only [lset]
              subst hI3
              have hst := (hpg0 (wordF (a.1.2.2 p.toNat).2.2 (a.1.2.2 p.toNat).2.1 (if t = 1 then 9 else 32) (97 + l) L) (fun j h1 h2 => by unfold wordF; rw [if_neg (by omega), if_neg (by omega)])).step (c := (if t = 1 then 9 else 32)) (by omega) (by unfold wordF; rw [if_pos rfl])
              first | rw [if_pos (show t = 1 by omega)] at hst | rw [if_neg (show ¬ t = 1 by omega)] at hst
              exact htail I1 R1 sg1 (by omega) hI1 hk1 31 0 _ (by omega) (by omega) (by omega) (by first | (rw [if_pos (show t = 1 by omega), Int.add_zero]; exact hst) | (rw [if_neg (show ¬ t = 1 by omega), Int.add_zero]; exact hst))
          · refine r_bipush dX7_addWord_66 (by decide) ?_
            refine q_iretZR dX7_addWord_68 rfl ?_
            have e : aAddWord a p t l L = (-3, a) := by
              unfold aAddWord
              rw [if_pos (by omega), if_pos (by omega)]
            rw [e]
            exact ⟨rfl, ⟨π, sg, hI⟩, fun _ _ _ => rfl⟩
        · refine r_iconst dX7_addWord_38 ?_
          refine q_iretZR dX7_addWord_39 rfl ?_
          have e : aAddWord a p t l L = (-1, a) := by
            unfold aAddWord
            rw [if_neg (by omega)]
          rw [e]
          exact ⟨rfl, ⟨π, sg, hI⟩, fun _ _ _ => rfl⟩
set_option maxHeartbeats 4000000 in
set_option maxRecDepth 100000 in
theorem k_addAmount (I : Mem) (R : RMem) (π sg : Nat → Nat) (a : AS) (hI : CI I R π sg a) (hA : AbsOk a) (p : Int) (hp : -2147483648 ≤ p ∧ p ≤ 2147483647) (h : Int) (hh : -2147483648 ≤ h ∧ h ≤ 2147483647) : CC 4 0 0 yX7_addAmount cX7_addAmount 6 (some .int) [.inr (some 0), .inl (p), .inl (h)] (298, ShF, I, R) (PC (aAddAmount a p h) I) := by
  have hRO := hI.1.1
  have hcols : I 1 0 = a.1.1.1 := hI.2.1.1
  have hdist : I 1 1 = a.1.1.2.1 := hI.2.1.2.1
  have hcnt : I 1 2 = a.1.1.2.2 := hI.2.1.2.2.1
  have hW := hA.1
  have hW1 := hW.1
  have hW2 := hW.2.1
  have hW3 := hW.2.2.1
  have hD := dgt_in (h / 100)
  have htail : ∀ (I1 : Mem) (R1 : RMem) (sg1 : Nat → Nat), ((0 ≤ p ∧ p ≤ a.1.1.2.2 - 1) ∧ (0 ≤ h ∧ h ≤ 9999999) ∧ (a.1.2.2 p.toNat).2.1 + 4 + dgt (h / 100) ≤ 80) → CI I1 R1 π sg1 (psh a) → (∀ (x : Nat) (j : Int), 290 ≤ x ∨ (1 ≤ x ∧ x < 128) → I1 x j = I x j) → ∀ (n : Nat) (e u m : Int) (I2 : Mem), e + 1 < n → ((e = 4 ∧ u = 10000) ∨ (e = 3 ∧ u = 1000) ∨ (e = 2 ∧ u = 100) ∨ (e = 1 ∧ u = 10) ∨ (e = 0 ∧ u = 1) ∨ (e = -1 ∧ u = 0)) → ((m = dgt (h / 100) - 1 - e ∧ e ≤ dgt (h / 100) - 1) ∨ (m = 0 ∧ dgt (h / 100) - 1 < e)) → PG I2 I1 (12 + 2 * π p.toNat) (13 + 2 * π p.toNat) ((a.1.2.2 p.toNat).2.1 + 1 + m) (amtF (a.1.2.2 p.toNat).2.2 (a.1.2.2 p.toNat).2.1 h) → WW cX7_addAmount RX7 6 (some .int) false 4 0 0 (PC (aAddAmount a p h) I) 0 0 73 [some (.inr (some 0)), some (.inl p), some (.inl h), some (.inr (some (12 + 2 * π p.toNat))), some (.inl (h / 100)), some (.inl u)] [] (298, ShF, I2, R1) := by
    intro I1 R1 sg1 hcond hI1 hk1 n
    have hRO1 := hI1.1.1
    have hI1' : AtS I1 0 π a.1 := hI1.2.1
    have h61 := psh_6 a hA.2.1
    have hpar := rp0 hRO1 hI1.1.2.1 (i := p) (by omega)
    have hpp := hpar.2.2
    have h9 := at0_p hI1' (i := p) (by omega)
    have hwl := (hW.2.2.2.2 p.toNat (by omega)).2.1
    induction n with
    | zero => intros; exfalso; omega
    | succ n ih =>
      intro e u m I2 g1 g2 g3 g4
      have hg1 := g4.1
      refine r_iload dX7_addAmount_73 rfl ?_
      refine r_ifle (tgt := 116) dX7_addAmount_75 (by decide) (by omega) (fun h75 => ?_) (fun h75 => ?_)
      · refine r_aload_n dX7_addAmount_116 rfl ?_
        refine r_bipush dX7_addAmount_117 (by decide) ?_
        refine q_callVW lk_X7_122 dX7_addAmount_119 (c_append I2 R1 hpar.2.1 (by omega) _ (by omega)) (by decide) hpar.2.1.1 rfl rfl (Nat.le_of_ble_eq_true rfl) (by decide) (fun I3 hI3 => ?_)
        subst hI3
        have hs1 := g4.step (c := 46) (by omega) (by unfold amtF; rw [if_neg (by omega), if_neg (by omega), if_pos (by omega)])
        have hs1l := hs1.1
        refine r_aload_n dX7_addAmount_122 rfl ?_
        refine r_bipush dX7_addAmount_123 (by decide) ?_
        refine r_iload_n dX7_addAmount_125 rfl ?_
        refine r_bipush dX7_addAmount_126 (by decide) ?_
        refine r_idiv dX7_addAmount_128 (by omega) (by omega) ?_
        refine r_bipush dX7_addAmount_129 (by decide) ?_
        refine r_irem dX7_addAmount_131 (by omega) (by omega) ?_
        refine r_iadd dX7_addAmount_132 ?_
        refine q_callVW lk_X7_122 dX7_addAmount_133 (c_append _ R1 hpar.2.1 (by omega) _ (by omega)) (by decide) hpar.2.1.1 rfl rfl (Nat.le_of_ble_eq_true rfl) (by decide) (fun I4 hI4 => ?_)
        subst hI4
        have hs2 := hs1.step (c := 48 + h / 10 % 10) (by omega) (by unfold amtF; rw [if_neg (by omega), if_neg (by omega), if_neg (by omega), if_pos (by omega)])
        have hs2l := hs2.1
        refine r_aload_n dX7_addAmount_136 rfl ?_
        refine r_bipush dX7_addAmount_137 (by decide) ?_
        refine r_iload_n dX7_addAmount_139 rfl ?_
        refine r_bipush dX7_addAmount_140 (by decide) ?_
        refine r_irem dX7_addAmount_142 (by omega) (by omega) ?_
        refine r_iadd dX7_addAmount_143 ?_
        refine q_callVW lk_X7_122 dX7_addAmount_144 (c_append _ R1 hpar.2.1 (by omega) _ (by omega)) (by decide) hpar.2.1.1 rfl rfl (Nat.le_of_ble_eq_true rfl) (by decide) (fun I5 hI5 => ?_)
        subst hI5
        have hs3 := hs2.step (c := 48 + h % 10) (by omega) (by unfold amtF; rw [if_neg (by omega), if_neg (by omega), if_neg (by omega), if_neg (by omega), if_pos (by omega)])
        rw [show (a.1.2.2 p.toNat).2.1 + 1 + m + 1 + 1 + 1 = (a.1.2.2 p.toNat).2.1 + 4 + dgt (h / 100) by omega] at hs3
        refine r_aload_n dX7_addAmount_147 rfl ?_
        refine q_getI fl_X7_113 dX7_addAmount_148 hpar.2.1.1 ?_
        refine q_iretZR dX7_addAmount_151 rfl ?_
        have e9 : aAddAmount a p h = ((a.1.2.2 p.toNat).2.1 + 4 + dgt (h / 100), wS (psh a) (setP a.1 p.toNat ((a.1.2.2 p.toNat).1, (a.1.2.2 p.toNat).2.1 + 4 + dgt (h / 100), (amtF (a.1.2.2 p.toNat).2.2 (a.1.2.2 p.toNat).2.1 h)))) := by
          unfold aAddAmount
          rw [if_pos (by omega), if_neg (by omega)]
        rw [e9]
        have hAt := hs3.end (by omega) h9.1 (fun j h1 h2 => (h9.2.2 j (by omega) h2).trans (by unfold amtF; rw [if_neg (by omega), if_neg (by omega), if_neg (by omega), if_neg (by omega), if_neg (by omega)]))
        exact ⟨hs3.1, ⟨π, sg1, hI1.par h61 (i := p.toNat) (by omega) (fun x j h1 h2 => hs3.2.2 x j h2 (by omega)) hAt⟩, fun x j h => by rw [hs3.2.2 _ _ (by omega) (by omega)]; exact hk1 x j (Or.inl h)⟩
      · refine r_iload dX7_addAmount_78 rfl ?_
        refine r_iconst dX7_addAmount_80 ?_
        refine r_icmpeq (tgt := 91) dX7_addAmount_81 (by decide) (by omega) (by omega) (fun h81 => ?_) (fun h81 => ?_)
        · refine r_aload_n dX7_addAmount_91 rfl ?_
          refine r_bipush dX7_addAmount_92 (by decide) ?_
          refine r_iload dX7_addAmount_94 rfl ?_
          refine r_iload dX7_addAmount_96 rfl ?_
          refine r_idiv dX7_addAmount_98 (by omega) (by omega) ?_
          have hq0 : 0 ≤ h / 100 / u := Int.ediv_nonneg (by omega) (by omega)
          have hq1 : h / 100 / u ≤ h / 100 := Int.ediv_le_self _ (by omega)
          refine r_bipush dX7_addAmount_99 (by decide) ?_
          refine r_irem dX7_addAmount_101 (by omega) (by omega) ?_
          refine r_iadd dX7_addAmount_102 ?_
          refine q_callVW lk_X7_122 dX7_addAmount_103 (c_append I2 R1 hpar.2.1 (by omega) _ (by omega)) (by decide) hpar.2.1.1 rfl rfl (Nat.le_of_ble_eq_true rfl) (by decide) (fun I3 hI3 => ?_)
          subst hI3
          have hst := g4.step (c := 48 + h / 100 / u % 10) (by omega) (by
            unfold amtF dig
            rw [if_neg (by omega), if_pos (by omega)]
            rcases g2 with h | h | h | h | h | h
            · rw [if_neg (by omega), if_neg (by omega), if_neg (by omega), if_neg (by omega), h.2]
            · rw [if_neg (by omega), if_neg (by omega), if_neg (by omega), if_pos (by omega), h.2]
            · rw [if_neg (by omega), if_neg (by omega), if_pos (by omega), h.2]
            · rw [if_neg (by omega), if_pos (by omega), h.2]
            · rw [if_pos (by omega), h.2, Int.ediv_one]
            · omega)
          rw [show (a.1.2.2 p.toNat).2.1 + 1 + m + 1 = (a.1.2.2 p.toNat).2.1 + 1 + (m + 1) by omega] at hst
          refine r_iload dX7_addAmount_106 rfl ?_
          refine r_bipush dX7_addAmount_108 (by decide) ?_
          refine r_idiv dX7_addAmount_110 (by omega) (by omega) ?_
          refine r_istore dX7_addAmount_111 (by decide) ?_
          dsimp only [lset]
          refine r_goto (tgt := 73) dX7_addAmount_113 (by decide) ?_
          first | exact ih (e - 1) _ (m + 1) _ (by omega) (by omega) (by omega) hst | exact ih (e - 1) _ m _ (by omega) (by omega) (by omega) g4
        · refine r_iload dX7_addAmount_84 rfl ?_
          refine r_iload dX7_addAmount_86 rfl ?_
          refine r_icmplt (tgt := 106) dX7_addAmount_88 (by decide) (by omega) (by omega) (fun h88 => ?_) (fun h88 => ?_)
          · refine r_iload dX7_addAmount_106 rfl ?_
            refine r_bipush dX7_addAmount_108 (by decide) ?_
            refine r_idiv dX7_addAmount_110 (by omega) (by omega) ?_
            refine r_istore dX7_addAmount_111 (by decide) ?_
            dsimp only [lset]
            refine r_goto (tgt := 73) dX7_addAmount_113 (by decide) ?_
            first | exact ih (e - 1) _ (m + 1) _ (by omega) (by omega) (by omega) hst | exact ih (e - 1) _ m _ (by omega) (by omega) (by omega) g4
          · refine r_aload_n dX7_addAmount_91 rfl ?_
            refine r_bipush dX7_addAmount_92 (by decide) ?_
            refine r_iload dX7_addAmount_94 rfl ?_
            refine r_iload dX7_addAmount_96 rfl ?_
            refine r_idiv dX7_addAmount_98 (by omega) (by omega) ?_
            have hq0 : 0 ≤ h / 100 / u := Int.ediv_nonneg (by omega) (by omega)
            have hq1 : h / 100 / u ≤ h / 100 := Int.ediv_le_self _ (by omega)
            refine r_bipush dX7_addAmount_99 (by decide) ?_
            refine r_irem dX7_addAmount_101 (by omega) (by omega) ?_
            refine r_iadd dX7_addAmount_102 ?_
            refine q_callVW lk_X7_122 dX7_addAmount_103 (c_append I2 R1 hpar.2.1 (by omega) _ (by omega)) (by decide) hpar.2.1.1 rfl rfl (Nat.le_of_ble_eq_true rfl) (by decide) (fun I3 hI3 => ?_)
            subst hI3
            have hst := g4.step (c := 48 + h / 100 / u % 10) (by omega) (by
              unfold amtF dig
              rw [if_neg (by omega), if_pos (by omega)]
              rcases g2 with h | h | h | h | h | h
              · rw [if_neg (by omega), if_neg (by omega), if_neg (by omega), if_neg (by omega), h.2]
              · rw [if_neg (by omega), if_neg (by omega), if_neg (by omega), if_pos (by omega), h.2]
              · rw [if_neg (by omega), if_neg (by omega), if_pos (by omega), h.2]
              · rw [if_neg (by omega), if_pos (by omega), h.2]
              · rw [if_pos (by omega), h.2, Int.ediv_one]
              · omega)
            rw [show (a.1.2.2 p.toNat).2.1 + 1 + m + 1 = (a.1.2.2 p.toNat).2.1 + 1 + (m + 1) by omega] at hst
            refine r_iload dX7_addAmount_106 rfl ?_
            refine r_bipush dX7_addAmount_108 (by decide) ?_
            refine r_idiv dX7_addAmount_110 (by omega) (by omega) ?_
            refine r_istore dX7_addAmount_111 (by decide) ?_
            dsimp only [lset]
            refine r_goto (tgt := 73) dX7_addAmount_113 (by decide) ?_
            first | exact ih (e - 1) _ (m + 1) _ (by omega) (by omega) (by omega) hst | exact ih (e - 1) _ m _ (by omega) (by omega) (by omega) g4
  refine CC_of (own := RX7) (ini := false) (by decide +kernel) rfl (fun h => absurd h (by decide)) (Nat.le_of_ble_eq_true rfl) ?_
  show WW cX7_addAmount RX7 6 (some .int) false 4 0 0 (PC (aAddAmount a p h) I) 0 0 0 [some (.inr (some 0)), some (.inl (p)), some (.inl (h)), none, none, none] [] (298, ShF, I, R)
  refine r_aload_n dX7_addAmount_0 rfl ?_
  refine r_iload_n dX7_addAmount_1 rfl ?_
  refine q_callVF lk_X7_116 dX7_addAmount_2 (c_isParagraph I R hRO a.1.1.2.2 hcnt hW3 p hp) (by decide) sf_0 rfl rfl (Nat.le_of_ble_eq_true rfl) (by decide) ?_
  refine q_ifeqB (tgt := 18) dX7_addAmount_5 (by decide) (fun h5 => ?_) (fun h5 => ?_)
  · refine r_iconst dX7_addAmount_18 ?_
    refine q_iretZR dX7_addAmount_19 rfl ?_
    have e : aAddAmount a p h = (-1, a) := by
      unfold aAddAmount
      rw [if_neg (by omega)]
    rw [e]
    exact ⟨rfl, ⟨π, sg, hI⟩, fun _ _ _ => rfl⟩
  · refine r_iload_n dX7_addAmount_8 rfl ?_
    refine r_iconst dX7_addAmount_9 ?_
    refine q_ldc (z := 9999999) co_X7_125 rfl dX7_addAmount_10 ?_
    refine q_callSF lk_X7_38 dX7_addAmount_12 (c_isWithin I R h 0 9999999 hh (by decide) (by decide)) (by decide) rfl rfl (Nat.le_of_ble_eq_true rfl) (by decide) ?_
    refine q_ifneB (tgt := 20) dX7_addAmount_15 (by decide) (fun h15 => ?_) (fun h15 => ?_)
    · refine r_aload_n dX7_addAmount_20 rfl ?_
      refine q_getR fl_X7_12 dX7_addAmount_21 sf_0 (ro_0_0 hRO) ?_
      refine q_getR fl_X7_104 dX7_addAmount_24 sf_1 (ro_1_4 hRO) ?_
      refine r_iload_n dX7_addAmount_27 rfl ?_
      refine q_aald (t := 4) (by decide) dX7_addAmount_28 sf_3 (by omega) (rp0 hRO hI.1.2.1 (i := p) (by omega)).1 ?_
      have h90 := at0_p hI.2.1 (i := p) (by omega)
      have hwl := (hW.2.2.2.2 p.toNat (by omega)).2.1
      have hlen := h90.2.1
      refine r_astore_n dX7_addAmount_29 (by decide) ?_
      dsimp only [lset]
      refine r_iload_n dX7_addAmount_30 rfl ?_
      refine r_bipush dX7_addAmount_31 (by decide) ?_
      refine r_idiv dX7_addAmount_33 (by omega) (by omega) ?_
      refine r_istore dX7_addAmount_34 (by decide) ?_
      dsimp only [lset]
      refine r_aload_n dX7_addAmount_36 rfl ?_
      refine q_getI fl_X7_113 dX7_addAmount_37 (rp0 hRO hI.1.2.1 (i := p) (by omega)).2.1.1 ?_
      rw [hlen]
      refine r_iconst dX7_addAmount_40 ?_
      refine r_iadd dX7_addAmount_41 ?_
      refine r_iload dX7_addAmount_42 rfl ?_
      refine q_callSF lk_X7_126 dX7_addAmount_44 (c_digitsOf I R (h / 100) (by omega)) (by decide) rfl rfl (Nat.le_of_ble_eq_true rfl) (by decide) ?_
      refine r_iadd dX7_addAmount_47 ?_
      refine r_iconst dX7_addAmount_48 ?_
      refine r_iadd dX7_addAmount_49 ?_
      refine r_bipush dX7_addAmount_50 (by decide) ?_
      refine r_icmple (tgt := 58) dX7_addAmount_52 (by decide) (by omega) (by omega) (fun h52 => ?_) (fun h52 => ?_)
      · refine r_aload_n dX7_addAmount_58 rfl ?_
        refine q_callVWR lk_X7_42 dX7_addAmount_59 (c_saveState I R π sg a hI hA) (by decide) sf_0 rfl rfl (Nat.le_of_ble_eq_true rfl) (by decide) (fun I1 R1 hsv => ?_)
        obtain ⟨⟨sg1, hI1⟩, hk1, hr1⟩ := hsv
        have hRO1 := hI1.1.1
        have hI1' : AtS I1 0 π a.1 := hI1.2.1
        have h61 := psh_6 a hA.2.1
        have hpar := rp0 hRO1 hI1.1.2.1 (i := p) (by omega)
        have hpp := hpar.2.2
        have h9 := at0_p hI1' (i := p) (by omega)
        have hlen1 := h9.2.1
        have hpg0 : ∀ g : Int → Int, (∀ j : Int, 0 ≤ j → j < (a.1.2.2 p.toNat).2.1 → g j = (a.1.2.2 p.toNat).2.2 j) → PG I1 I1 (12 + 2 * π p.toNat) (13 + 2 * π p.toNat) (a.1.2.2 p.toNat).2.1 g := fun g hg => ⟨hlen1, fun j h1 => by
          by_cases hj : j < (a.1.2.2 p.toNat).2.1
          · rw [if_pos hj, hg j h1 hj]; exact h9.2.2 j h1 (by omega)
          · rw [if_neg hj], fun _ _ _ _ => rfl⟩
        refine r_aload_n dX7_addAmount_62 rfl ?_
        refine r_bipush dX7_addAmount_63 (by decide) ?_
        refine q_callVW lk_X7_122 dX7_addAmount_65 (c_append I1 R1 hpar.2.1 (by omega) _ (by omega)) (by decide) (rp0 hRO hI.1.2.1 (i := p) (by omega)).2.1.1 rfl rfl (Nat.le_of_ble_eq_true rfl) (by decide) (fun I3 hI3 => ?_)
        refine r_sipush dX7_addAmount_68 (by decide) ?_
        refine r_istore dX7_addAmount_71 (by decide) ?_
        dsimp only [lset]
        subst hI3
        have hst := (hpg0 (amtF (a.1.2.2 p.toNat).2.2 (a.1.2.2 p.toNat).2.1 h) (fun j h1 h2 => by unfold amtF; rw [if_neg (by omega), if_neg (by omega), if_neg (by omega), if_neg (by omega), if_neg (by omega)])).step (c := 9) (by omega) (by unfold amtF; rw [if_pos rfl])
        exact htail I1 R1 sg1 (by omega) hI1 hk1 6 4 _ 0 _ (by omega) (by omega) (by omega) (by rw [Int.add_zero]; exact hst)
      · refine r_bipush dX7_addAmount_55 (by decide) ?_
        refine q_iretZR dX7_addAmount_57 rfl ?_
        have e : aAddAmount a p h = (-3, a) := by
          unfold aAddAmount
          rw [if_pos (by omega), if_pos (by omega)]
        rw [e]
        exact ⟨rfl, ⟨π, sg, hI⟩, fun _ _ _ => rfl⟩
    · refine r_iconst dX7_addAmount_18 ?_
      refine q_iretZR dX7_addAmount_19 rfl ?_
      have e : aAddAmount a p h = (-1, a) := by
        unfold aAddAmount
        rw [if_neg (by omega)]
      rw [e]
      exact ⟨rfl, ⟨π, sg, hI⟩, fun _ _ _ => rfl⟩
end
