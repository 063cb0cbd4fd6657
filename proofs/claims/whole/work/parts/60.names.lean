-- ===== PART A: goes FIRST, ahead of the names: the tables' words, and 'selects' of the private methods out of them =====
/-- a private method of a class that the tables say can be made, by its rows of tables_1 -/
def lw_okq (q : MethodName × Nat) : Prop := (q.1.cls ≠ "java/lang/invoke/MethodHandle" ∧ q.1.cls ≠ "java/lang/invoke/VarHandle") ∧ Cond.instantiable q.1.cls q.2 ∈ tables_1 ∧ Cond.privateMethod q.1 ∈ tables_1 ∧ Cond.instanceMethod q.1 ∈ tables_1
theorem lw_p0 : lw_okq (⟨"JetTrees", "takeStep", "(LJetTrees$State;)V"⟩, 6) := ⟨⟨by decide +kernel, by decide +kernel⟩, List.mem_of_getElem? (i := 19) (by decide +kernel), List.mem_of_getElem? (i := 191) (by decide +kernel), List.mem_of_getElem? (i := 192) (by decide +kernel)⟩
theorem lw_p1 : lw_okq (⟨"JetTrees", "replaceTrack", "(LJetTrees$Body;)V"⟩, 6) := ⟨⟨by decide +kernel, by decide +kernel⟩, List.mem_of_getElem? (i := 19) (by decide +kernel), List.mem_of_getElem? (i := 204) (by decide +kernel), List.mem_of_getElem? (i := 205) (by decide +kernel)⟩
theorem lw_p2 : lw_okq (⟨"JetTrees", "gatheredNow", "()LJetTrees$Tree;"⟩, 6) := ⟨⟨by decide +kernel, by decide +kernel⟩, List.mem_of_getElem? (i := 19) (by decide +kernel), List.mem_of_getElem? (i := 256) (by decide +kernel), List.mem_of_getElem? (i := 257) (by decide +kernel)⟩
theorem lw_p3 : lw_okq (⟨"JetTrees$Gatherer", "putIn", "(LJetTrees$Knot;)V"⟩, 9) := ⟨⟨by decide +kernel, by decide +kernel⟩, List.mem_of_getElem? (i := 260) (by decide +kernel), List.mem_of_getElem? (i := 437) (by decide +kernel), List.mem_of_getElem? (i := 438) (by decide +kernel)⟩
theorem lw_p4 : lw_okq (⟨"JetTrees$Gatherer", "findLeast", "()V"⟩, 9) := ⟨⟨by decide +kernel, by decide +kernel⟩, List.mem_of_getElem? (i := 260) (by decide +kernel), List.mem_of_getElem? (i := 449) (by decide +kernel), List.mem_of_getElem? (i := 450) (by decide +kernel)⟩
theorem lw_p5 : lw_okq (⟨"JetTrees$Gatherer", "offerAlone", "(I)V"⟩, 9) := ⟨⟨by decide +kernel, by decide +kernel⟩, List.mem_of_getElem? (i := 260) (by decide +kernel), List.mem_of_getElem? (i := 453) (by decide +kernel), List.mem_of_getElem? (i := 454) (by decide +kernel)⟩
theorem lw_p6 : lw_okq (⟨"JetTrees$Gatherer", "offer", "(IIJJ)V"⟩, 9) := ⟨⟨by decide +kernel, by decide +kernel⟩, List.mem_of_getElem? (i := 260) (by decide +kernel), List.mem_of_getElem? (i := 457) (by decide +kernel), List.mem_of_getElem? (i := 458) (by decide +kernel)⟩
theorem lw_p7 : lw_okq (⟨"JetTrees$Gatherer", "offerTwo", "(II)V"⟩, 9) := ⟨⟨by decide +kernel, by decide +kernel⟩, List.mem_of_getElem? (i := 260) (by decide +kernel), List.mem_of_getElem? (i := 461) (by decide +kernel), List.mem_of_getElem? (i := 462) (by decide +kernel)⟩
theorem lw_p8 : lw_okq (⟨"JetTrees$Gatherer", "goToBeam", "(I)V"⟩, 9) := ⟨⟨by decide +kernel, by decide +kernel⟩, List.mem_of_getElem? (i := 260) (by decide +kernel), List.mem_of_getElem? (i := 482) (by decide +kernel), List.mem_of_getElem? (i := 483) (by decide +kernel)⟩
theorem lw_p9 : lw_okq (⟨"JetTrees$Gatherer", "takeOut", "(I)V"⟩, 9) := ⟨⟨by decide +kernel, by decide +kernel⟩, List.mem_of_getElem? (i := 260) (by decide +kernel), List.mem_of_getElem? (i := 529) (by decide +kernel), List.mem_of_getElem? (i := 530) (by decide +kernel)⟩
theorem lw_p10 : lw_okq (⟨"JetTrees$Gatherer", "joinBest", "(I)V"⟩, 9) := ⟨⟨by decide +kernel, by decide +kernel⟩, List.mem_of_getElem? (i := 260) (by decide +kernel), List.mem_of_getElem? (i := 533) (by decide +kernel), List.mem_of_getElem? (i := 534) (by decide +kernel)⟩
theorem lw_p11 : lw_okq (⟨"JetTrees$Gatherer", "joinedBody", "(LJetTrees$Body;LJetTrees$Body;)LJetTrees$Body;"⟩, 9) := ⟨⟨by decide +kernel, by decide +kernel⟩, List.mem_of_getElem? (i := 260) (by decide +kernel), List.mem_of_getElem? (i := 537) (by decide +kernel), List.mem_of_getElem? (i := 538) (by decide +kernel)⟩
theorem lw_p12 : lw_okq (⟨"JetTrees", "treeAt", "(I)LJetTrees$Tree;"⟩, 6) := ⟨⟨by decide +kernel, by decide +kernel⟩, List.mem_of_getElem? (i := 19) (by decide +kernel), List.mem_of_getElem? (i := 570) (by decide +kernel), List.mem_of_getElem? (i := 571) (by decide +kernel)⟩
theorem lw_p13 : lw_okq (⟨"JetTrees", "knotAt", "(II)LJetTrees$Knot;"⟩, 6) := ⟨⟨by decide +kernel, by decide +kernel⟩, List.mem_of_getElem? (i := 19) (by decide +kernel), List.mem_of_getElem? (i := 596) (by decide +kernel), List.mem_of_getElem? (i := 597) (by decide +kernel)⟩
theorem lw_p14 : lw_okq (⟨"JetTrees", "treeBits", "()I"⟩, 6) := ⟨⟨by decide +kernel, by decide +kernel⟩, List.mem_of_getElem? (i := 19) (by decide +kernel), List.mem_of_getElem? (i := 642) (by decide +kernel), List.mem_of_getElem? (i := 643) (by decide +kernel)⟩
theorem lw_p15 : lw_okq (⟨"JetTrees", "stepAt", "(II)LJetTrees$Step;"⟩, 6) := ⟨⟨by decide +kernel, by decide +kernel⟩, List.mem_of_getElem? (i := 19) (by decide +kernel), List.mem_of_getElem? (i := 688) (by decide +kernel), List.mem_of_getElem? (i := 689) (by decide +kernel)⟩
def lw_privs_1 : List (MethodName × Nat) := [(⟨"JetTrees", "takeStep", "(LJetTrees$State;)V"⟩, 6), (⟨"JetTrees", "replaceTrack", "(LJetTrees$Body;)V"⟩, 6), (⟨"JetTrees", "gatheredNow", "()LJetTrees$Tree;"⟩, 6), (⟨"JetTrees$Gatherer", "putIn", "(LJetTrees$Knot;)V"⟩, 9), (⟨"JetTrees$Gatherer", "findLeast", "()V"⟩, 9), (⟨"JetTrees$Gatherer", "offerAlone", "(I)V"⟩, 9), (⟨"JetTrees$Gatherer", "offer", "(IIJJ)V"⟩, 9), (⟨"JetTrees$Gatherer", "offerTwo", "(II)V"⟩, 9), (⟨"JetTrees$Gatherer", "goToBeam", "(I)V"⟩, 9), (⟨"JetTrees$Gatherer", "takeOut", "(I)V"⟩, 9), (⟨"JetTrees$Gatherer", "joinBest", "(I)V"⟩, 9), (⟨"JetTrees$Gatherer", "joinedBody", "(LJetTrees$Body;LJetTrees$Body;)LJetTrees$Body;"⟩, 9), (⟨"JetTrees", "treeAt", "(I)LJetTrees$Tree;"⟩, 6), (⟨"JetTrees", "knotAt", "(II)LJetTrees$Knot;"⟩, 6), (⟨"JetTrees", "treeBits", "()I"⟩, 6), (⟨"JetTrees", "stepAt", "(II)LJetTrees$Step;"⟩, 6)]
theorem lw_r1 : ∀ q ∈ lw_privs_1, lw_okq q := List.forall_mem_cons.mpr ⟨lw_p0, List.forall_mem_cons.mpr ⟨lw_p1, List.forall_mem_cons.mpr ⟨lw_p2, List.forall_mem_cons.mpr ⟨lw_p3, List.forall_mem_cons.mpr ⟨lw_p4, List.forall_mem_cons.mpr ⟨lw_p5, List.forall_mem_cons.mpr ⟨lw_p6, List.forall_mem_cons.mpr ⟨lw_p7, List.forall_mem_cons.mpr ⟨lw_p8, List.forall_mem_cons.mpr ⟨lw_p9, List.forall_mem_cons.mpr ⟨lw_p10, List.forall_mem_cons.mpr ⟨lw_p11, List.forall_mem_cons.mpr ⟨lw_p12, List.forall_mem_cons.mpr ⟨lw_p13, List.forall_mem_cons.mpr ⟨lw_p14, List.forall_mem_cons.mpr ⟨lw_p15, fun _ h => absurd h List.not_mem_nil⟩⟩⟩⟩⟩⟩⟩⟩⟩⟩⟩⟩⟩⟩⟩⟩
theorem lw_p16 : lw_okq (⟨"JetTrees", "jetByWeight", "(II)LJetTrees$Knot;"⟩, 6) := ⟨⟨by decide +kernel, by decide +kernel⟩, List.mem_of_getElem? (i := 19) (by decide +kernel), List.mem_of_getElem? (i := 709) (by decide +kernel), List.mem_of_getElem? (i := 710) (by decide +kernel)⟩
theorem lw_p17 : lw_okq (⟨"JetTrees", "keptAt", "(I)[J"⟩, 6) := ⟨⟨by decide +kernel, by decide +kernel⟩, List.mem_of_getElem? (i := 19) (by decide +kernel), List.mem_of_getElem? (i := 841) (by decide +kernel), List.mem_of_getElem? (i := 842) (by decide +kernel)⟩
theorem lw_p18 : lw_okq (⟨"JetTrees$Event", "asTheyComeAhead", "()[LJetTrees$Body;"⟩, 1) := ⟨⟨by decide +kernel, by decide +kernel⟩, List.mem_of_getElem? (i := 34) (by decide +kernel), List.mem_of_getElem? (i := 948) (by decide +kernel), List.mem_of_getElem? (i := 949) (by decide +kernel)⟩
theorem lw_p19 : lw_okq (⟨"JetTrees$Event", "wayToNext", "(I)I"⟩, 1) := ⟨⟨by decide +kernel, by decide +kernel⟩, List.mem_of_getElem? (i := 34) (by decide +kernel), List.mem_of_getElem? (i := 967) (by decide +kernel), List.mem_of_getElem? (i := 968) (by decide +kernel)⟩
theorem lw_p20 : lw_okq (⟨"JetTrees$Cones", "stillFrom", "(LJetTrees$Body;I)J"⟩, 7) := ⟨⟨by decide +kernel, by decide +kernel⟩, List.mem_of_getElem? (i := 1024) (by decide +kernel), List.mem_of_getElem? (i := 1085) (by decide +kernel), List.mem_of_getElem? (i := 1086) (by decide +kernel)⟩
theorem lw_p21 : lw_okq (⟨"JetTrees$Cones", "isFound", "(J)Z"⟩, 7) := ⟨⟨by decide +kernel, by decide +kernel⟩, List.mem_of_getElem? (i := 1024) (by decide +kernel), List.mem_of_getElem? (i := 1091) (by decide +kernel), List.mem_of_getElem? (i := 1092) (by decide +kernel)⟩
theorem lw_p22 : lw_okq (⟨"JetTrees$Cones", "heaviest", "(I)I"⟩, 7) := ⟨⟨by decide +kernel, by decide +kernel⟩, List.mem_of_getElem? (i := 1024) (by decide +kernel), List.mem_of_getElem? (i := 1109) (by decide +kernel), List.mem_of_getElem? (i := 1110) (by decide +kernel)⟩
theorem lw_p23 : lw_okq (⟨"JetTrees$Cones", "makePatch", "(I)V"⟩, 7) := ⟨⟨by decide +kernel, by decide +kernel⟩, List.mem_of_getElem? (i := 1024) (by decide +kernel), List.mem_of_getElem? (i := 1114) (by decide +kernel), List.mem_of_getElem? (i := 1115) (by decide +kernel)⟩
theorem lw_p24 : lw_okq (⟨"JetTrees$Cones", "removeSet", "(I)V"⟩, 7) := ⟨⟨by decide +kernel, by decide +kernel⟩, List.mem_of_getElem? (i := 1024) (by decide +kernel), List.mem_of_getElem? (i := 1118) (by decide +kernel), List.mem_of_getElem? (i := 1119) (by decide +kernel)⟩
theorem lw_p25 : lw_okq (⟨"JetTrees$Cones", "settle", "(III)V"⟩, 7) := ⟨⟨by decide +kernel, by decide +kernel⟩, List.mem_of_getElem? (i := 1024) (by decide +kernel), List.mem_of_getElem? (i := 1122) (by decide +kernel), List.mem_of_getElem? (i := 1123) (by decide +kernel)⟩
theorem lw_p26 : lw_okq (⟨"JetTrees$Cones", "divide", "(IIJ)V"⟩, 7) := ⟨⟨by decide +kernel, by decide +kernel⟩, List.mem_of_getElem? (i := 1024) (by decide +kernel), List.mem_of_getElem? (i := 1128) (by decide +kernel), List.mem_of_getElem? (i := 1129) (by decide +kernel)⟩
theorem lw_p27 : lw_okq (⟨"JetTrees$Tiling", "lessThan", "(I)I"⟩, 6) := ⟨⟨by decide +kernel, by decide +kernel⟩, List.mem_of_getElem? (i := 983) (by decide +kernel), List.mem_of_getElem? (i := 1145) (by decide +kernel), List.mem_of_getElem? (i := 1146) (by decide +kernel)⟩
theorem lw_p28 : lw_okq (⟨"JetTreesModel", "tracks", "()I"⟩, 27) := ⟨⟨by decide +kernel, by decide +kernel⟩, List.mem_of_getElem? (i := 1185) (by decide +kernel), List.mem_of_getElem? (i := 1294) (by decide +kernel), List.mem_of_getElem? (i := 1295) (by decide +kernel)⟩
theorem lw_p29 : lw_okq (⟨"JetTreesModel", "keepNow", "()V"⟩, 27) := ⟨⟨by decide +kernel, by decide +kernel⟩, List.mem_of_getElem? (i := 1185) (by decide +kernel), List.mem_of_getElem? (i := 1301) (by decide +kernel), List.mem_of_getElem? (i := 1302) (by decide +kernel)⟩
theorem lw_p30 : lw_okq (⟨"JetTreesModel", "layTrack", "(IIII)V"⟩, 27) := ⟨⟨by decide +kernel, by decide +kernel⟩, List.mem_of_getElem? (i := 1185) (by decide +kernel), List.mem_of_getElem? (i := 1305) (by decide +kernel), List.mem_of_getElem? (i := 1306) (by decide +kernel)⟩
theorem lw_p31 : lw_okq (⟨"JetTreesModel", "counted", "(I)I"⟩, 27) := ⟨⟨by decide +kernel, by decide +kernel⟩, List.mem_of_getElem? (i := 1185) (by decide +kernel), List.mem_of_getElem? (i := 1309) (by decide +kernel), List.mem_of_getElem? (i := 1310) (by decide +kernel)⟩
def lw_privs_2 : List (MethodName × Nat) := [(⟨"JetTrees", "jetByWeight", "(II)LJetTrees$Knot;"⟩, 6), (⟨"JetTrees", "keptAt", "(I)[J"⟩, 6), (⟨"JetTrees$Event", "asTheyComeAhead", "()[LJetTrees$Body;"⟩, 1), (⟨"JetTrees$Event", "wayToNext", "(I)I"⟩, 1), (⟨"JetTrees$Cones", "stillFrom", "(LJetTrees$Body;I)J"⟩, 7), (⟨"JetTrees$Cones", "isFound", "(J)Z"⟩, 7), (⟨"JetTrees$Cones", "heaviest", "(I)I"⟩, 7), (⟨"JetTrees$Cones", "makePatch", "(I)V"⟩, 7), (⟨"JetTrees$Cones", "removeSet", "(I)V"⟩, 7), (⟨"JetTrees$Cones", "settle", "(III)V"⟩, 7), (⟨"JetTrees$Cones", "divide", "(IIJ)V"⟩, 7), (⟨"JetTrees$Tiling", "lessThan", "(I)I"⟩, 6), (⟨"JetTreesModel", "tracks", "()I"⟩, 27), (⟨"JetTreesModel", "keepNow", "()V"⟩, 27), (⟨"JetTreesModel", "layTrack", "(IIII)V"⟩, 27), (⟨"JetTreesModel", "counted", "(I)I"⟩, 27)]
theorem lw_r2 : ∀ q ∈ lw_privs_2, lw_okq q := List.forall_mem_cons.mpr ⟨lw_p16, List.forall_mem_cons.mpr ⟨lw_p17, List.forall_mem_cons.mpr ⟨lw_p18, List.forall_mem_cons.mpr ⟨lw_p19, List.forall_mem_cons.mpr ⟨lw_p20, List.forall_mem_cons.mpr ⟨lw_p21, List.forall_mem_cons.mpr ⟨lw_p22, List.forall_mem_cons.mpr ⟨lw_p23, List.forall_mem_cons.mpr ⟨lw_p24, List.forall_mem_cons.mpr ⟨lw_p25, List.forall_mem_cons.mpr ⟨lw_p26, List.forall_mem_cons.mpr ⟨lw_p27, List.forall_mem_cons.mpr ⟨lw_p28, List.forall_mem_cons.mpr ⟨lw_p29, List.forall_mem_cons.mpr ⟨lw_p30, List.forall_mem_cons.mpr ⟨lw_p31, fun _ h => absurd h List.not_mem_nil⟩⟩⟩⟩⟩⟩⟩⟩⟩⟩⟩⟩⟩⟩⟩⟩
theorem lw_p32 : lw_okq (⟨"JetTreesModel", "isTrack", "(I)Z"⟩, 27) := ⟨⟨by decide +kernel, by decide +kernel⟩, List.mem_of_getElem? (i := 1185) (by decide +kernel), List.mem_of_getElem? (i := 1317) (by decide +kernel), List.mem_of_getElem? (i := 1318) (by decide +kernel)⟩
theorem lw_p33 : lw_okq (⟨"JetTreesModel", "ofTrack", "(II)I"⟩, 27) := ⟨⟨by decide +kernel, by decide +kernel⟩, List.mem_of_getElem? (i := 1185) (by decide +kernel), List.mem_of_getElem? (i := 1321) (by decide +kernel), List.mem_of_getElem? (i := 1322) (by decide +kernel)⟩
theorem lw_p34 : lw_okq (⟨"JetTreesModel", "draw", "(I)I"⟩, 27) := ⟨⟨by decide +kernel, by decide +kernel⟩, List.mem_of_getElem? (i := 1185) (by decide +kernel), List.mem_of_getElem? (i := 1337) (by decide +kernel), List.mem_of_getElem? (i := 1338) (by decide +kernel)⟩
theorem lw_p35 : lw_okq (⟨"JetTreesModel", "gatherNow", "()V"⟩, 27) := ⟨⟨by decide +kernel, by decide +kernel⟩, List.mem_of_getElem? (i := 1185) (by decide +kernel), List.mem_of_getElem? (i := 1356) (by decide +kernel), List.mem_of_getElem? (i := 1357) (by decide +kernel)⟩
theorem lw_p36 : lw_okq (⟨"JetTreesModel", "layTracks", "()V"⟩, 27) := ⟨⟨by decide +kernel, by decide +kernel⟩, List.mem_of_getElem? (i := 1185) (by decide +kernel), List.mem_of_getElem? (i := 1360) (by decide +kernel), List.mem_of_getElem? (i := 1361) (by decide +kernel)⟩
theorem lw_p37 : lw_okq (⟨"JetTreesModel", "come", "(IIIII)V"⟩, 27) := ⟨⟨by decide +kernel, by decide +kernel⟩, List.mem_of_getElem? (i := 1185) (by decide +kernel), List.mem_of_getElem? (i := 1364) (by decide +kernel), List.mem_of_getElem? (i := 1365) (by decide +kernel)⟩
theorem lw_p38 : lw_okq (⟨"JetTreesModel", "gatherAll", "(III)V"⟩, 27) := ⟨⟨by decide +kernel, by decide +kernel⟩, List.mem_of_getElem? (i := 1185) (by decide +kernel), List.mem_of_getElem? (i := 1368) (by decide +kernel), List.mem_of_getElem? (i := 1369) (by decide +kernel)⟩
theorem lw_p39 : lw_okq (⟨"JetTreesModel", "isAhead", "(II)Z"⟩, 27) := ⟨⟨by decide +kernel, by decide +kernel⟩, List.mem_of_getElem? (i := 1185) (by decide +kernel), List.mem_of_getElem? (i := 1372) (by decide +kernel), List.mem_of_getElem? (i := 1373) (by decide +kernel)⟩
theorem lw_p40 : lw_okq (⟨"JetTreesModel", "isSooner", "(IIII)Z"⟩, 27) := ⟨⟨by decide +kernel, by decide +kernel⟩, List.mem_of_getElem? (i := 1185) (by decide +kernel), List.mem_of_getElem? (i := 1376) (by decide +kernel), List.mem_of_getElem? (i := 1377) (by decide +kernel)⟩
theorem lw_p41 : lw_okq (⟨"JetTreesModel", "upOf", "(II)J"⟩, 27) := ⟨⟨by decide +kernel, by decide +kernel⟩, List.mem_of_getElem? (i := 1185) (by decide +kernel), List.mem_of_getElem? (i := 1380) (by decide +kernel), List.mem_of_getElem? (i := 1381) (by decide +kernel)⟩
theorem lw_p42 : lw_okq (⟨"JetTreesModel", "downOf", "(II)J"⟩, 27) := ⟨⟨by decide +kernel, by decide +kernel⟩, List.mem_of_getElem? (i := 1185) (by decide +kernel), List.mem_of_getElem? (i := 1390) (by decide +kernel), List.mem_of_getElem? (i := 1391) (by decide +kernel)⟩
theorem lw_p43 : lw_okq (⟨"JetTreesModel", "join", "(II)V"⟩, 27) := ⟨⟨by decide +kernel, by decide +kernel⟩, List.mem_of_getElem? (i := 1185) (by decide +kernel), List.mem_of_getElem? (i := 1397) (by decide +kernel), List.mem_of_getElem? (i := 1398) (by decide +kernel)⟩
theorem lw_p44 : lw_okq (⟨"JetTreesModel", "layTree", "(I)V"⟩, 27) := ⟨⟨by decide +kernel, by decide +kernel⟩, List.mem_of_getElem? (i := 1185) (by decide +kernel), List.mem_of_getElem? (i := 1410) (by decide +kernel), List.mem_of_getElem? (i := 1411) (by decide +kernel)⟩
theorem lw_p45 : lw_okq (⟨"JetTreesModel", "clearTree", "(I)V"⟩, 27) := ⟨⟨by decide +kernel, by decide +kernel⟩, List.mem_of_getElem? (i := 1185) (by decide +kernel), List.mem_of_getElem? (i := 1414) (by decide +kernel), List.mem_of_getElem? (i := 1415) (by decide +kernel)⟩
theorem lw_p46 : lw_okq (⟨"JetTreesModel", "jetsOf", "(I)I"⟩, 27) := ⟨⟨by decide +kernel, by decide +kernel⟩, List.mem_of_getElem? (i := 1185) (by decide +kernel), List.mem_of_getElem? (i := 1421) (by decide +kernel), List.mem_of_getElem? (i := 1422) (by decide +kernel)⟩
theorem lw_p47 : lw_okq (⟨"JetTreesModel", "ofTree", "(II)I"⟩, 27) := ⟨⟨by decide +kernel, by decide +kernel⟩, List.mem_of_getElem? (i := 1185) (by decide +kernel), List.mem_of_getElem? (i := 1425) (by decide +kernel), List.mem_of_getElem? (i := 1426) (by decide +kernel)⟩
def lw_privs_3 : List (MethodName × Nat) := [(⟨"JetTreesModel", "isTrack", "(I)Z"⟩, 27), (⟨"JetTreesModel", "ofTrack", "(II)I"⟩, 27), (⟨"JetTreesModel", "draw", "(I)I"⟩, 27), (⟨"JetTreesModel", "gatherNow", "()V"⟩, 27), (⟨"JetTreesModel", "layTracks", "()V"⟩, 27), (⟨"JetTreesModel", "come", "(IIIII)V"⟩, 27), (⟨"JetTreesModel", "gatherAll", "(III)V"⟩, 27), (⟨"JetTreesModel", "isAhead", "(II)Z"⟩, 27), (⟨"JetTreesModel", "isSooner", "(IIII)Z"⟩, 27), (⟨"JetTreesModel", "upOf", "(II)J"⟩, 27), (⟨"JetTreesModel", "downOf", "(II)J"⟩, 27), (⟨"JetTreesModel", "join", "(II)V"⟩, 27), (⟨"JetTreesModel", "layTree", "(I)V"⟩, 27), (⟨"JetTreesModel", "clearTree", "(I)V"⟩, 27), (⟨"JetTreesModel", "jetsOf", "(I)I"⟩, 27), (⟨"JetTreesModel", "ofTree", "(II)I"⟩, 27)]
theorem lw_r3 : ∀ q ∈ lw_privs_3, lw_okq q := List.forall_mem_cons.mpr ⟨lw_p32, List.forall_mem_cons.mpr ⟨lw_p33, List.forall_mem_cons.mpr ⟨lw_p34, List.forall_mem_cons.mpr ⟨lw_p35, List.forall_mem_cons.mpr ⟨lw_p36, List.forall_mem_cons.mpr ⟨lw_p37, List.forall_mem_cons.mpr ⟨lw_p38, List.forall_mem_cons.mpr ⟨lw_p39, List.forall_mem_cons.mpr ⟨lw_p40, List.forall_mem_cons.mpr ⟨lw_p41, List.forall_mem_cons.mpr ⟨lw_p42, List.forall_mem_cons.mpr ⟨lw_p43, List.forall_mem_cons.mpr ⟨lw_p44, List.forall_mem_cons.mpr ⟨lw_p45, List.forall_mem_cons.mpr ⟨lw_p46, List.forall_mem_cons.mpr ⟨lw_p47, fun _ h => absurd h List.not_mem_nil⟩⟩⟩⟩⟩⟩⟩⟩⟩⟩⟩⟩⟩⟩⟩⟩
theorem lw_p48 : lw_okq (⟨"JetTreesModel", "isKnot", "(II)Z"⟩, 27) := ⟨⟨by decide +kernel, by decide +kernel⟩, List.mem_of_getElem? (i := 1185) (by decide +kernel), List.mem_of_getElem? (i := 1433) (by decide +kernel), List.mem_of_getElem? (i := 1434) (by decide +kernel)⟩
theorem lw_p49 : lw_okq (⟨"JetTreesModel", "isTree", "(I)Z"⟩, 27) := ⟨⟨by decide +kernel, by decide +kernel⟩, List.mem_of_getElem? (i := 1185) (by decide +kernel), List.mem_of_getElem? (i := 1437) (by decide +kernel), List.mem_of_getElem? (i := 1438) (by decide +kernel)⟩
theorem lw_p50 : lw_okq (⟨"JetTreesModel", "leavesOf", "(II)J"⟩, 27) := ⟨⟨by decide +kernel, by decide +kernel⟩, List.mem_of_getElem? (i := 1185) (by decide +kernel), List.mem_of_getElem? (i := 1441) (by decide +kernel), List.mem_of_getElem? (i := 1442) (by decide +kernel)⟩
theorem lw_p51 : lw_okq (⟨"JetTreesModel", "isJoined", "(II)Z"⟩, 27) := ⟨⟨by decide +kernel, by decide +kernel⟩, List.mem_of_getElem? (i := 1185) (by decide +kernel), List.mem_of_getElem? (i := 1445) (by decide +kernel), List.mem_of_getElem? (i := 1446) (by decide +kernel)⟩
theorem lw_p52 : lw_okq (⟨"JetTreesModel", "ofKnot", "(III)I"⟩, 27) := ⟨⟨by decide +kernel, by decide +kernel⟩, List.mem_of_getElem? (i := 1185) (by decide +kernel), List.mem_of_getElem? (i := 1449) (by decide +kernel), List.mem_of_getElem? (i := 1450) (by decide +kernel)⟩
theorem lw_p53 : lw_okq (⟨"JetTreesModel", "layLeaves", "(IJ)V"⟩, 27) := ⟨⟨by decide +kernel, by decide +kernel⟩, List.mem_of_getElem? (i := 1185) (by decide +kernel), List.mem_of_getElem? (i := 1456) (by decide +kernel), List.mem_of_getElem? (i := 1457) (by decide +kernel)⟩
theorem lw_p54 : lw_okq (⟨"JetTreesModel", "weightOf", "(II)I"⟩, 27) := ⟨⟨by decide +kernel, by decide +kernel⟩, List.mem_of_getElem? (i := 1185) (by decide +kernel), List.mem_of_getElem? (i := 1460) (by decide +kernel), List.mem_of_getElem? (i := 1461) (by decide +kernel)⟩
theorem lw_p55 : lw_okq (⟨"JetTreesModel", "allTracks", "()J"⟩, 27) := ⟨⟨by decide +kernel, by decide +kernel⟩, List.mem_of_getElem? (i := 1185) (by decide +kernel), List.mem_of_getElem? (i := 1487) (by decide +kernel), List.mem_of_getElem? (i := 1488) (by decide +kernel)⟩
theorem lw_p56 : lw_okq (⟨"JetTreesModel", "weightsOf", "(J)I"⟩, 27) := ⟨⟨by decide +kernel, by decide +kernel⟩, List.mem_of_getElem? (i := 1185) (by decide +kernel), List.mem_of_getElem? (i := 1491) (by decide +kernel), List.mem_of_getElem? (i := 1492) (by decide +kernel)⟩
theorem lw_p57 : lw_okq (⟨"JetTreesModel", "squareOfTracks", "(II)I"⟩, 27) := ⟨⟨by decide +kernel, by decide +kernel⟩, List.mem_of_getElem? (i := 1185) (by decide +kernel), List.mem_of_getElem? (i := 1503) (by decide +kernel), List.mem_of_getElem? (i := 1504) (by decide +kernel)⟩
theorem lw_p58 : lw_okq (⟨"JetTreesModel", "aboveOf", "(II)I"⟩, 27) := ⟨⟨by decide +kernel, by decide +kernel⟩, List.mem_of_getElem? (i := 1185) (by decide +kernel), List.mem_of_getElem? (i := 1519) (by decide +kernel), List.mem_of_getElem? (i := 1520) (by decide +kernel)⟩
theorem lw_p59 : lw_okq (⟨"JetTreesModel", "joinedBy", "(II)I"⟩, 27) := ⟨⟨by decide +kernel, by decide +kernel⟩, List.mem_of_getElem? (i := 1185) (by decide +kernel), List.mem_of_getElem? (i := 1523) (by decide +kernel), List.mem_of_getElem? (i := 1524) (by decide +kernel)⟩
theorem lw_p60 : lw_okq (⟨"JetTreesModel", "cameBy", "(II)I"⟩, 27) := ⟨⟨by decide +kernel, by decide +kernel⟩, List.mem_of_getElem? (i := 1185) (by decide +kernel), List.mem_of_getElem? (i := 1527) (by decide +kernel), List.mem_of_getElem? (i := 1528) (by decide +kernel)⟩
theorem lw_p61 : lw_okq (⟨"JetTreesModel", "ofStep", "(III)I"⟩, 27) := ⟨⟨by decide +kernel, by decide +kernel⟩, List.mem_of_getElem? (i := 1185) (by decide +kernel), List.mem_of_getElem? (i := 1531) (by decide +kernel), List.mem_of_getElem? (i := 1532) (by decide +kernel)⟩
theorem lw_p62 : lw_okq (⟨"JetTreesModel", "wentBy", "(II)I"⟩, 27) := ⟨⟨by decide +kernel, by decide +kernel⟩, List.mem_of_getElem? (i := 1185) (by decide +kernel), List.mem_of_getElem? (i := 1535) (by decide +kernel), List.mem_of_getElem? (i := 1536) (by decide +kernel)⟩
theorem lw_p63 : lw_okq (⟨"JetTreesModel", "isStep", "(II)Z"⟩, 27) := ⟨⟨by decide +kernel, by decide +kernel⟩, List.mem_of_getElem? (i := 1185) (by decide +kernel), List.mem_of_getElem? (i := 1543) (by decide +kernel), List.mem_of_getElem? (i := 1544) (by decide +kernel)⟩
def lw_privs_4 : List (MethodName × Nat) := [(⟨"JetTreesModel", "isKnot", "(II)Z"⟩, 27), (⟨"JetTreesModel", "isTree", "(I)Z"⟩, 27), (⟨"JetTreesModel", "leavesOf", "(II)J"⟩, 27), (⟨"JetTreesModel", "isJoined", "(II)Z"⟩, 27), (⟨"JetTreesModel", "ofKnot", "(III)I"⟩, 27), (⟨"JetTreesModel", "layLeaves", "(IJ)V"⟩, 27), (⟨"JetTreesModel", "weightOf", "(II)I"⟩, 27), (⟨"JetTreesModel", "allTracks", "()J"⟩, 27), (⟨"JetTreesModel", "weightsOf", "(J)I"⟩, 27), (⟨"JetTreesModel", "squareOfTracks", "(II)I"⟩, 27), (⟨"JetTreesModel", "aboveOf", "(II)I"⟩, 27), (⟨"JetTreesModel", "joinedBy", "(II)I"⟩, 27), (⟨"JetTreesModel", "cameBy", "(II)I"⟩, 27), (⟨"JetTreesModel", "ofStep", "(III)I"⟩, 27), (⟨"JetTreesModel", "wentBy", "(II)I"⟩, 27), (⟨"JetTreesModel", "isStep", "(II)Z"⟩, 27)]
theorem lw_r4 : ∀ q ∈ lw_privs_4, lw_okq q := List.forall_mem_cons.mpr ⟨lw_p48, List.forall_mem_cons.mpr ⟨lw_p49, List.forall_mem_cons.mpr ⟨lw_p50, List.forall_mem_cons.mpr ⟨lw_p51, List.forall_mem_cons.mpr ⟨lw_p52, List.forall_mem_cons.mpr ⟨lw_p53, List.forall_mem_cons.mpr ⟨lw_p54, List.forall_mem_cons.mpr ⟨lw_p55, List.forall_mem_cons.mpr ⟨lw_p56, List.forall_mem_cons.mpr ⟨lw_p57, List.forall_mem_cons.mpr ⟨lw_p58, List.forall_mem_cons.mpr ⟨lw_p59, List.forall_mem_cons.mpr ⟨lw_p60, List.forall_mem_cons.mpr ⟨lw_p61, List.forall_mem_cons.mpr ⟨lw_p62, List.forall_mem_cons.mpr ⟨lw_p63, fun _ h => absurd h List.not_mem_nil⟩⟩⟩⟩⟩⟩⟩⟩⟩⟩⟩⟩⟩⟩⟩⟩
theorem lw_p64 : lw_okq (⟨"JetTreesModel", "stepsOf", "(I)I"⟩, 27) := ⟨⟨by decide +kernel, by decide +kernel⟩, List.mem_of_getElem? (i := 1185) (by decide +kernel), List.mem_of_getElem? (i := 1547) (by decide +kernel), List.mem_of_getElem? (i := 1548) (by decide +kernel)⟩
theorem lw_p65 : lw_okq (⟨"JetTreesModel", "layOf", "(I)V"⟩, 27) := ⟨⟨by decide +kernel, by decide +kernel⟩, List.mem_of_getElem? (i := 1185) (by decide +kernel), List.mem_of_getElem? (i := 1556) (by decide +kernel), List.mem_of_getElem? (i := 1557) (by decide +kernel)⟩
theorem lw_p66 : lw_okq (⟨"JetTreesModel", "upOfStep", "(II)J"⟩, 27) := ⟨⟨by decide +kernel, by decide +kernel⟩, List.mem_of_getElem? (i := 1185) (by decide +kernel), List.mem_of_getElem? (i := 1560) (by decide +kernel), List.mem_of_getElem? (i := 1561) (by decide +kernel)⟩
theorem lw_p67 : lw_okq (⟨"JetTreesModel", "downOfStep", "(II)J"⟩, 27) := ⟨⟨by decide +kernel, by decide +kernel⟩, List.mem_of_getElem? (i := 1185) (by decide +kernel), List.mem_of_getElem? (i := 1564) (by decide +kernel), List.mem_of_getElem? (i := 1565) (by decide +kernel)⟩
theorem lw_p68 : lw_okq (⟨"JetTreesModel", "jetBy", "(II)I"⟩, 27) := ⟨⟨by decide +kernel, by decide +kernel⟩, List.mem_of_getElem? (i := 1185) (by decide +kernel), List.mem_of_getElem? (i := 1583) (by decide +kernel), List.mem_of_getElem? (i := 1584) (by decide +kernel)⟩
theorem lw_p69 : lw_okq (⟨"JetTreesModel", "isJet", "(II)Z"⟩, 27) := ⟨⟨by decide +kernel, by decide +kernel⟩, List.mem_of_getElem? (i := 1185) (by decide +kernel), List.mem_of_getElem? (i := 1587) (by decide +kernel), List.mem_of_getElem? (i := 1588) (by decide +kernel)⟩
theorem lw_p70 : lw_okq (⟨"JetTreesModel", "isHeavier", "(III)Z"⟩, 27) := ⟨⟨by decide +kernel, by decide +kernel⟩, List.mem_of_getElem? (i := 1185) (by decide +kernel), List.mem_of_getElem? (i := 1591) (by decide +kernel), List.mem_of_getElem? (i := 1592) (by decide +kernel)⟩
theorem lw_p71 : lw_okq (⟨"JetTreesModel", "isAheadIn", "(III)Z"⟩, 27) := ⟨⟨by decide +kernel, by decide +kernel⟩, List.mem_of_getElem? (i := 1185) (by decide +kernel), List.mem_of_getElem? (i := 1595) (by decide +kernel), List.mem_of_getElem? (i := 1596) (by decide +kernel)⟩
theorem lw_p72 : lw_okq (⟨"JetTreesModel", "layStanding", "(IIZ)V"⟩, 27) := ⟨⟨by decide +kernel, by decide +kernel⟩, List.mem_of_getElem? (i := 1185) (by decide +kernel), List.mem_of_getElem? (i := 1607) (by decide +kernel), List.mem_of_getElem? (i := 1608) (by decide +kernel)⟩
theorem lw_p73 : lw_okq (⟨"JetTreesModel", "ofRow", "(I)I"⟩, 27) := ⟨⟨by decide +kernel, by decide +kernel⟩, List.mem_of_getElem? (i := 1185) (by decide +kernel), List.mem_of_getElem? (i := 1611) (by decide +kernel), List.mem_of_getElem? (i := 1612) (by decide +kernel)⟩
theorem lw_p74 : lw_okq (⟨"JetTreesModel", "isCut", "(II)Z"⟩, 27) := ⟨⟨by decide +kernel, by decide +kernel⟩, List.mem_of_getElem? (i := 1185) (by decide +kernel), List.mem_of_getElem? (i := 1619) (by decide +kernel), List.mem_of_getElem? (i := 1620) (by decide +kernel)⟩
theorem lw_p75 : lw_okq (⟨"JetTreesModel", "stepsTo", "(II)I"⟩, 27) := ⟨⟨by decide +kernel, by decide +kernel⟩, List.mem_of_getElem? (i := 1185) (by decide +kernel), List.mem_of_getElem? (i := 1623) (by decide +kernel), List.mem_of_getElem? (i := 1624) (by decide +kernel)⟩
theorem lw_p76 : lw_okq (⟨"JetTreesModel", "isKept", "(I)Z"⟩, 27) := ⟨⟨by decide +kernel, by decide +kernel⟩, List.mem_of_getElem? (i := 1185) (by decide +kernel), List.mem_of_getElem? (i := 1650) (by decide +kernel), List.mem_of_getElem? (i := 1651) (by decide +kernel)⟩
theorem lw_p77 : lw_okq (⟨"JetTreesModel", "keptAt", "(II)J"⟩, 27) := ⟨⟨by decide +kernel, by decide +kernel⟩, List.mem_of_getElem? (i := 1185) (by decide +kernel), List.mem_of_getElem? (i := 1654) (by decide +kernel), List.mem_of_getElem? (i := 1655) (by decide +kernel)⟩
theorem lw_p78 : lw_okq (⟨"JetTreesModel", "isInOne", "(IJ)Z"⟩, 27) := ⟨⟨by decide +kernel, by decide +kernel⟩, List.mem_of_getElem? (i := 1185) (by decide +kernel), List.mem_of_getElem? (i := 1663) (by decide +kernel), List.mem_of_getElem? (i := 1664) (by decide +kernel)⟩
theorem lw_p79 : lw_okq (⟨"JetTreesModel", "isWeak", "(IIII)Z"⟩, 27) := ⟨⟨by decide +kernel, by decide +kernel⟩, List.mem_of_getElem? (i := 1185) (by decide +kernel), List.mem_of_getElem? (i := 1674) (by decide +kernel), List.mem_of_getElem? (i := 1675) (by decide +kernel)⟩
def lw_privs_5 : List (MethodName × Nat) := [(⟨"JetTreesModel", "stepsOf", "(I)I"⟩, 27), (⟨"JetTreesModel", "layOf", "(I)V"⟩, 27), (⟨"JetTreesModel", "upOfStep", "(II)J"⟩, 27), (⟨"JetTreesModel", "downOfStep", "(II)J"⟩, 27), (⟨"JetTreesModel", "jetBy", "(II)I"⟩, 27), (⟨"JetTreesModel", "isJet", "(II)Z"⟩, 27), (⟨"JetTreesModel", "isHeavier", "(III)Z"⟩, 27), (⟨"JetTreesModel", "isAheadIn", "(III)Z"⟩, 27), (⟨"JetTreesModel", "layStanding", "(IIZ)V"⟩, 27), (⟨"JetTreesModel", "ofRow", "(I)I"⟩, 27), (⟨"JetTreesModel", "isCut", "(II)Z"⟩, 27), (⟨"JetTreesModel", "stepsTo", "(II)I"⟩, 27), (⟨"JetTreesModel", "isKept", "(I)Z"⟩, 27), (⟨"JetTreesModel", "keptAt", "(II)J"⟩, 27), (⟨"JetTreesModel", "isInOne", "(IJ)Z"⟩, 27), (⟨"JetTreesModel", "isWeak", "(IIII)Z"⟩, 27)]
theorem lw_r5 : ∀ q ∈ lw_privs_5, lw_okq q := List.forall_mem_cons.mpr ⟨lw_p64, List.forall_mem_cons.mpr ⟨lw_p65, List.forall_mem_cons.mpr ⟨lw_p66, List.forall_mem_cons.mpr ⟨lw_p67, List.forall_mem_cons.mpr ⟨lw_p68, List.forall_mem_cons.mpr ⟨lw_p69, List.forall_mem_cons.mpr ⟨lw_p70, List.forall_mem_cons.mpr ⟨lw_p71, List.forall_mem_cons.mpr ⟨lw_p72, List.forall_mem_cons.mpr ⟨lw_p73, List.forall_mem_cons.mpr ⟨lw_p74, List.forall_mem_cons.mpr ⟨lw_p75, List.forall_mem_cons.mpr ⟨lw_p76, List.forall_mem_cons.mpr ⟨lw_p77, List.forall_mem_cons.mpr ⟨lw_p78, List.forall_mem_cons.mpr ⟨lw_p79, fun _ h => absurd h List.not_mem_nil⟩⟩⟩⟩⟩⟩⟩⟩⟩⟩⟩⟩⟩⟩⟩⟩
theorem lw_p80 : lw_okq (⟨"JetTreesModel", "partOf", "(III)I"⟩, 27) := ⟨⟨by decide +kernel, by decide +kernel⟩, List.mem_of_getElem? (i := 1185) (by decide +kernel), List.mem_of_getElem? (i := 1678) (by decide +kernel), List.mem_of_getElem? (i := 1679) (by decide +kernel)⟩
theorem lw_p81 : lw_okq (⟨"JetTreesModel", "squareOfParts", "(II)J"⟩, 27) := ⟨⟨by decide +kernel, by decide +kernel⟩, List.mem_of_getElem? (i := 1185) (by decide +kernel), List.mem_of_getElem? (i := 1682) (by decide +kernel), List.mem_of_getElem? (i := 1683) (by decide +kernel)⟩
theorem lw_p82 : lw_okq (⟨"JetTreesModel", "leavesOfLent", "(IJ)J"⟩, 27) := ⟨⟨by decide +kernel, by decide +kernel⟩, List.mem_of_getElem? (i := 1185) (by decide +kernel), List.mem_of_getElem? (i := 1693) (by decide +kernel), List.mem_of_getElem? (i := 1694) (by decide +kernel)⟩
theorem lw_p83 : lw_okq (⟨"JetTreesModel", "squareIn", "(III)J"⟩, 27) := ⟨⟨by decide +kernel, by decide +kernel⟩, List.mem_of_getElem? (i := 1185) (by decide +kernel), List.mem_of_getElem? (i := 1712) (by decide +kernel), List.mem_of_getElem? (i := 1713) (by decide +kernel)⟩
theorem lw_p84 : lw_okq (⟨"JetTreesModel", "layApart", "(III)V"⟩, 27) := ⟨⟨by decide +kernel, by decide +kernel⟩, List.mem_of_getElem? (i := 1185) (by decide +kernel), List.mem_of_getElem? (i := 1734) (by decide +kernel), List.mem_of_getElem? (i := 1735) (by decide +kernel)⟩
theorem lw_p85 : lw_okq (⟨"JetTreesModel", "weightsIn", "(IJ)I"⟩, 27) := ⟨⟨by decide +kernel, by decide +kernel⟩, List.mem_of_getElem? (i := 1185) (by decide +kernel), List.mem_of_getElem? (i := 1742) (by decide +kernel), List.mem_of_getElem? (i := 1743) (by decide +kernel)⟩
theorem lw_p86 : lw_okq (⟨"JetTreesModel", "unlikeOf", "(II)I"⟩, 27) := ⟨⟨by decide +kernel, by decide +kernel⟩, List.mem_of_getElem? (i := 1185) (by decide +kernel), List.mem_of_getElem? (i := 1750) (by decide +kernel), List.mem_of_getElem? (i := 1751) (by decide +kernel)⟩
theorem lw_p87 : lw_okq (⟨"JetTreesModel", "hasJet", "(IJ)Z"⟩, 27) := ⟨⟨by decide +kernel, by decide +kernel⟩, List.mem_of_getElem? (i := 1185) (by decide +kernel), List.mem_of_getElem? (i := 1754) (by decide +kernel), List.mem_of_getElem? (i := 1755) (by decide +kernel)⟩
theorem lw_p88 : lw_okq (⟨"JetTreesModel", "pairOf", "(III)J"⟩, 27) := ⟨⟨by decide +kernel, by decide +kernel⟩, List.mem_of_getElem? (i := 1185) (by decide +kernel), List.mem_of_getElem? (i := 1778) (by decide +kernel), List.mem_of_getElem? (i := 1779) (by decide +kernel)⟩
theorem lw_p89 : lw_okq (⟨"JetTreesModel", "findTwo", "()Z"⟩, 27) := ⟨⟨by decide +kernel, by decide +kernel⟩, List.mem_of_getElem? (i := 1185) (by decide +kernel), List.mem_of_getElem? (i := 1794) (by decide +kernel), List.mem_of_getElem? (i := 1795) (by decide +kernel)⟩
theorem lw_p90 : lw_okq (⟨"JetTreesModel", "isRoundOf", "(I)Z"⟩, 27) := ⟨⟨by decide +kernel, by decide +kernel⟩, List.mem_of_getElem? (i := 1185) (by decide +kernel), List.mem_of_getElem? (i := 1802) (by decide +kernel), List.mem_of_getElem? (i := 1803) (by decide +kernel)⟩
theorem lw_p91 : lw_okq (⟨"JetTreesModel", "tileOf", "(III)I"⟩, 27) := ⟨⟨by decide +kernel, by decide +kernel⟩, List.mem_of_getElem? (i := 1185) (by decide +kernel), List.mem_of_getElem? (i := 1813) (by decide +kernel), List.mem_of_getElem? (i := 1814) (by decide +kernel)⟩
theorem lw_p92 : lw_okq (⟨"JetTreesModel", "tracksIn", "(II)I"⟩, 27) := ⟨⟨by decide +kernel, by decide +kernel⟩, List.mem_of_getElem? (i := 1185) (by decide +kernel), List.mem_of_getElem? (i := 1817) (by decide +kernel), List.mem_of_getElem? (i := 1818) (by decide +kernel)⟩
theorem lw_p93 : lw_okq (⟨"JetTreesModel", "isFirstIn", "(II)Z"⟩, 27) := ⟨⟨by decide +kernel, by decide +kernel⟩, List.mem_of_getElem? (i := 1185) (by decide +kernel), List.mem_of_getElem? (i := 1821) (by decide +kernel), List.mem_of_getElem? (i := 1822) (by decide +kernel)⟩
theorem lw_p94 : lw_okq (⟨"JetTreesModel", "pedestalOf", "(I)I"⟩, 27) := ⟨⟨by decide +kernel, by decide +kernel⟩, List.mem_of_getElem? (i := 1185) (by decide +kernel), List.mem_of_getElem? (i := 1829) (by decide +kernel), List.mem_of_getElem? (i := 1830) (by decide +kernel)⟩
theorem lw_p95 : lw_okq (⟨"JetTreesModel", "balanceOf", "(I)I"⟩, 27) := ⟨⟨by decide +kernel, by decide +kernel⟩, List.mem_of_getElem? (i := 1185) (by decide +kernel), List.mem_of_getElem? (i := 1841) (by decide +kernel), List.mem_of_getElem? (i := 1842) (by decide +kernel)⟩
def lw_privs_6 : List (MethodName × Nat) := [(⟨"JetTreesModel", "partOf", "(III)I"⟩, 27), (⟨"JetTreesModel", "squareOfParts", "(II)J"⟩, 27), (⟨"JetTreesModel", "leavesOfLent", "(IJ)J"⟩, 27), (⟨"JetTreesModel", "squareIn", "(III)J"⟩, 27), (⟨"JetTreesModel", "layApart", "(III)V"⟩, 27), (⟨"JetTreesModel", "weightsIn", "(IJ)I"⟩, 27), (⟨"JetTreesModel", "unlikeOf", "(II)I"⟩, 27), (⟨"JetTreesModel", "hasJet", "(IJ)Z"⟩, 27), (⟨"JetTreesModel", "pairOf", "(III)J"⟩, 27), (⟨"JetTreesModel", "findTwo", "()Z"⟩, 27), (⟨"JetTreesModel", "isRoundOf", "(I)Z"⟩, 27), (⟨"JetTreesModel", "tileOf", "(III)I"⟩, 27), (⟨"JetTreesModel", "tracksIn", "(II)I"⟩, 27), (⟨"JetTreesModel", "isFirstIn", "(II)Z"⟩, 27), (⟨"JetTreesModel", "pedestalOf", "(I)I"⟩, 27), (⟨"JetTreesModel", "balanceOf", "(I)I"⟩, 27)]
theorem lw_r6 : ∀ q ∈ lw_privs_6, lw_okq q := List.forall_mem_cons.mpr ⟨lw_p80, List.forall_mem_cons.mpr ⟨lw_p81, List.forall_mem_cons.mpr ⟨lw_p82, List.forall_mem_cons.mpr ⟨lw_p83, List.forall_mem_cons.mpr ⟨lw_p84, List.forall_mem_cons.mpr ⟨lw_p85, List.forall_mem_cons.mpr ⟨lw_p86, List.forall_mem_cons.mpr ⟨lw_p87, List.forall_mem_cons.mpr ⟨lw_p88, List.forall_mem_cons.mpr ⟨lw_p89, List.forall_mem_cons.mpr ⟨lw_p90, List.forall_mem_cons.mpr ⟨lw_p91, List.forall_mem_cons.mpr ⟨lw_p92, List.forall_mem_cons.mpr ⟨lw_p93, List.forall_mem_cons.mpr ⟨lw_p94, List.forall_mem_cons.mpr ⟨lw_p95, fun _ h => absurd h List.not_mem_nil⟩⟩⟩⟩⟩⟩⟩⟩⟩⟩⟩⟩⟩⟩⟩⟩
theorem lw_p96 : lw_okq (⟨"JetTreesModel", "coneOf", "(III)J"⟩, 27) := ⟨⟨by decide +kernel, by decide +kernel⟩, List.mem_of_getElem? (i := 1185) (by decide +kernel), List.mem_of_getElem? (i := 1853) (by decide +kernel), List.mem_of_getElem? (i := 1854) (by decide +kernel)⟩
theorem lw_p97 : lw_okq (⟨"JetTreesModel", "isSteady", "(IIJ)Z"⟩, 27) := ⟨⟨by decide +kernel, by decide +kernel⟩, List.mem_of_getElem? (i := 1185) (by decide +kernel), List.mem_of_getElem? (i := 1860) (by decide +kernel), List.mem_of_getElem? (i := 1861) (by decide +kernel)⟩
theorem lw_p98 : lw_okq (⟨"JetTreesModel", "layMean", "(J)V"⟩, 27) := ⟨⟨by decide +kernel, by decide +kernel⟩, List.mem_of_getElem? (i := 1185) (by decide +kernel), List.mem_of_getElem? (i := 1864) (by decide +kernel), List.mem_of_getElem? (i := 1865) (by decide +kernel)⟩
theorem lw_p99 : lw_okq (⟨"JetTreesModel", "layStill", "(I)V"⟩, 27) := ⟨⟨by decide +kernel, by decide +kernel⟩, List.mem_of_getElem? (i := 1185) (by decide +kernel), List.mem_of_getElem? (i := 1872) (by decide +kernel), List.mem_of_getElem? (i := 1873) (by decide +kernel)⟩
theorem lw_p100 : lw_okq (⟨"JetTreesModel", "stillFrom", "(II)J"⟩, 27) := ⟨⟨by decide +kernel, by decide +kernel⟩, List.mem_of_getElem? (i := 1185) (by decide +kernel), List.mem_of_getElem? (i := 1876) (by decide +kernel), List.mem_of_getElem? (i := 1877) (by decide +kernel)⟩
theorem lw_p101 : lw_okq (⟨"JetTreesModel", "heaviest", "(I)I"⟩, 27) := ⟨⟨by decide +kernel, by decide +kernel⟩, List.mem_of_getElem? (i := 1185) (by decide +kernel), List.mem_of_getElem? (i := 1884) (by decide +kernel), List.mem_of_getElem? (i := 1885) (by decide +kernel)⟩
theorem lw_p102 : lw_okq (⟨"JetTreesModel", "isMerged", "(III)Z"⟩, 27) := ⟨⟨by decide +kernel, by decide +kernel⟩, List.mem_of_getElem? (i := 1185) (by decide +kernel), List.mem_of_getElem? (i := 1888) (by decide +kernel), List.mem_of_getElem? (i := 1889) (by decide +kernel)⟩
theorem lw_p103 : lw_okq (⟨"JetTreesModel", "part", "(II)V"⟩, 27) := ⟨⟨by decide +kernel, by decide +kernel⟩, List.mem_of_getElem? (i := 1185) (by decide +kernel), List.mem_of_getElem? (i := 1893) (by decide +kernel), List.mem_of_getElem? (i := 1894) (by decide +kernel)⟩
def lw_privs_7 : List (MethodName × Nat) := [(⟨"JetTreesModel", "coneOf", "(III)J"⟩, 27), (⟨"JetTreesModel", "isSteady", "(IIJ)Z"⟩, 27), (⟨"JetTreesModel", "layMean", "(J)V"⟩, 27), (⟨"JetTreesModel", "layStill", "(I)V"⟩, 27), (⟨"JetTreesModel", "stillFrom", "(II)J"⟩, 27), (⟨"JetTreesModel", "heaviest", "(I)I"⟩, 27), (⟨"JetTreesModel", "isMerged", "(III)Z"⟩, 27), (⟨"JetTreesModel", "part", "(II)V"⟩, 27)]
theorem lw_r7 : ∀ q ∈ lw_privs_7, lw_okq q := List.forall_mem_cons.mpr ⟨lw_p96, List.forall_mem_cons.mpr ⟨lw_p97, List.forall_mem_cons.mpr ⟨lw_p98, List.forall_mem_cons.mpr ⟨lw_p99, List.forall_mem_cons.mpr ⟨lw_p100, List.forall_mem_cons.mpr ⟨lw_p101, List.forall_mem_cons.mpr ⟨lw_p102, List.forall_mem_cons.mpr ⟨lw_p103, fun _ h => absurd h List.not_mem_nil⟩⟩⟩⟩⟩⟩⟩⟩
def lw_privs : List (MethodName × Nat) := lw_privs_1 ++ (lw_privs_2 ++ (lw_privs_3 ++ (lw_privs_4 ++ (lw_privs_5 ++ (lw_privs_6 ++ (lw_privs_7))))))
def lw_tbl : List Cond := k2_sels lw_privs ++ tables_1
theorem lw_privs_ok : ∀ q ∈ lw_privs, lw_okq q := by
  show ∀ q ∈ lw_privs_1 ++ (lw_privs_2 ++ (lw_privs_3 ++ (lw_privs_4 ++ (lw_privs_5 ++ (lw_privs_6 ++ (lw_privs_7)))))), lw_okq q
  exact List.forall_mem_append.mpr ⟨lw_r1, List.forall_mem_append.mpr ⟨lw_r2, List.forall_mem_append.mpr ⟨lw_r3, List.forall_mem_append.mpr ⟨lw_r4, List.forall_mem_append.mpr ⟨lw_r5, List.forall_mem_append.mpr ⟨lw_r6, lw_r7⟩⟩⟩⟩⟩⟩
/-- the streams that the claim lets the run draw from -/
abbrev lw_cs : List Choice := [Jvm.Choice.named "NaN.bits"]
theorem lw_bits : nanBits ∈ lw_cs := by first | decide | exact List.mem_cons_self | simp [lw_cs, nanBits]

def RX0 : String := "JetTrees$Body"
def TX0 : u_T := fun k => match k with
  | 0 => ("JetTrees$Body", "number", "I", true)
  | 1 => ("JetTrees$Body", "across", "I", true)
  | 2 => ("JetTrees$Body", "round", "I", true)
  | _ => ("JetTrees$Body", "weight", "I", true)
def tyX0 : Nat → FieldType := fun k => match k with
  | 0 => .int
  | 1 => .int
  | 2 => .int
  | _ => .int
abbrev wsX00 : List Cond := u_ws RX0 TX0 4
theorem nmX0 : ∀ a, a < 4 → ∀ b, b < 4 → a ≠ b → (TX0 a).2.1 ≠ (TX0 b).2.1 := by decide +kernel
theorem tyX0_ok : ∀ k, k < 4 → parseFieldDescriptor (TX0 k).2.2.1 = some (tyX0 k) := by decide +kernel
abbrev cX0_init : ByteArray := prog_2_method_1_code
def yX0_init : MethodName := ⟨RX0, "<init>", "(IIII)V"⟩
abbrev cX0_numbered : ByteArray := prog_2_method_2_code
def yX0_numbered : MethodName := ⟨RX0, "numbered", "(I)LJetTrees$Body;"⟩
abbrev cX0_isAheadOf : ByteArray := prog_2_method_3_code
def yX0_isAheadOf : MethodName := ⟨RX0, "isAheadOf", "(LJetTrees$Body;)Z"⟩
abbrev cX0_squareTo : ByteArray := prog_2_method_4_code
def yX0_squareTo : MethodName := ⟨RX0, "squareTo", "(LJetTrees$Body;)I"⟩
abbrev cX0_squareTo_ : ByteArray := prog_2_method_5_code
def yX0_squareTo_ : MethodName := ⟨RX0, "squareTo", "(II)I"⟩
abbrev cX0_pairedWith : ByteArray := prog_2_method_6_code
def yX0_pairedWith : MethodName := ⟨RX0, "pairedWith", "(LJetTrees$Body;)J"⟩
abbrev cX0_lesserWay : ByteArray := prog_2_method_7_code
def yX0_lesserWay : MethodName := ⟨RX0, "lesserWay", "(II)I"⟩
abbrev cX0_wayFromTo : ByteArray := prog_2_method_8_code
def yX0_wayFromTo : MethodName := ⟨RX0, "wayFromTo", "(II)I"⟩
def RX1 : String := "JetTrees$Branches"
def TX1 : u_T := fun k => match k with
  | _ => ("", "", "", false)
def tyX1 : Nat → FieldType := fun k => match k with
  | _ => .int
abbrev wsX10 : List Cond := u_ws RX1 TX1 0
theorem nmX1 : ∀ a, a < 0 → ∀ b, b < 0 → a ≠ b → (TX1 a).2.1 ≠ (TX1 b).2.1 := by decide +kernel
theorem tyX1_ok : ∀ k, k < 0 → parseFieldDescriptor (TX1 k).2.2.1 = some (tyX1 k) := by decide +kernel
abbrev cX1_gatheredApart : ByteArray := prog_3_method_2_code
def yX1_gatheredApart : MethodName := ⟨RX1, "gatheredApart", "(LJetTrees$Tree;LJetTrees$Knot;II)LJetTrees$Tree;"⟩
abbrev cX1_groomed : ByteArray := prog_3_method_3_code
def yX1_groomed : MethodName := ⟨RX1, "groomed", "(LJetTrees$Knot;IZI)LJetTrees$Knot;"⟩
abbrev cX1_trimmed : ByteArray := prog_3_method_4_code
def yX1_trimmed : MethodName := ⟨RX1, "trimmed", "(LJetTrees$Tree;LJetTrees$Knot;I)J"⟩
abbrev cX1_pruned : ByteArray := prog_3_method_5_code
def yX1_pruned : MethodName := ⟨RX1, "pruned", "(LJetTrees$Tree;LJetTrees$Knot;II)J"⟩
abbrev cX1_splitsOf : ByteArray := prog_3_method_6_code
def yX1_splitsOf : MethodName := ⟨RX1, "splitsOf", "(LJetTrees$Knot;)I"⟩
abbrev cX1_splitAt : ByteArray := prog_3_method_7_code
def yX1_splitAt : MethodName := ⟨RX1, "splitAt", "(LJetTrees$Knot;I)LJetTrees$Knot;"⟩
abbrev cX1_lightShare : ByteArray := prog_3_method_8_code
def yX1_lightShare : MethodName := ⟨RX1, "lightShare", "(LJetTrees$Knot;)I"⟩
abbrev cX1_widthBits : ByteArray := prog_3_method_9_code
def yX1_widthBits : MethodName := ⟨RX1, "widthBits", "(LJetTrees$Tree;LJetTrees$Knot;)J"⟩
abbrev cX1_closenessBits : ByteArray := prog_3_method_10_code
def yX1_closenessBits : MethodName := ⟨RX1, "closenessBits", "(LJetTrees$Tree;LJetTrees$Knot;)J"⟩
abbrev cX1_tauBits : ByteArray := prog_3_method_11_code
def yX1_tauBits : MethodName := ⟨RX1, "tauBits", "(LJetTrees$Tree;LJetTrees$Knot;I)J"⟩
abbrev cX1_latestJoined : ByteArray := prog_3_method_12_code
def yX1_latestJoined : MethodName := ⟨RX1, "latestJoined", "([LJetTrees$Knot;I)I"⟩
abbrev cX1_leastSquare : ByteArray := prog_3_method_13_code
def yX1_leastSquare : MethodName := ⟨RX1, "leastSquare", "(LJetTrees$Body;[LJetTrees$Knot;I)I"⟩
abbrev cX1_quotientBits : ByteArray := prog_3_method_14_code
def yX1_quotientBits : MethodName := ⟨RX1, "quotientBits", "(JJ)J"⟩
def RX2 : String := "JetTrees$Cones"
def TX2 : u_T := fun k => match k with
  | 0 => ("JetTrees$Cones", "tracks", "[LJetTrees$Body;", true)
  | 1 => ("JetTrees$Cones", "sum", "LJetTrees$Sum;", true)
  | 2 => ("JetTrees$Cones", "otherSum", "LJetTrees$Sum;", true)
  | 3 => ("JetTrees$Cones", "sets", "[J", true)
  | 4 => ("JetTrees$Cones", "setCount", "I", false)
  | 5 => ("JetTrees$Cones", "patches", "[J", true)
  | _ => ("JetTrees$Cones", "patchCount", "I", false)
def tyX2 : Nat → FieldType := fun k => match k with
  | 0 => .array (.object "JetTrees$Body")
  | 1 => .object "JetTrees$Sum"
  | 2 => .object "JetTrees$Sum"
  | 3 => .array .long
  | 4 => .int
  | 5 => .array .long
  | _ => .int
abbrev wsX20 : List Cond := u_ws RX2 TX2 7
theorem nmX2 : ∀ a, a < 7 → ∀ b, b < 7 → a ≠ b → (TX2 a).2.1 ≠ (TX2 b).2.1 := by decide +kernel
theorem tyX2_ok : ∀ k, k < 7 → parseFieldDescriptor (TX2 k).2.2.1 = some (tyX2 k) := by decide +kernel
abbrev cX2_init : ByteArray := prog_4_method_1_code
def yX2_init : MethodName := ⟨RX2, "<init>", "([LJetTrees$Body;)V"⟩
abbrev cX2_tracksAbout : ByteArray := prog_4_method_2_code
def yX2_tracksAbout : MethodName := ⟨RX2, "tracksAbout", "(III)J"⟩
abbrev cX2_weightOf : ByteArray := prog_4_method_3_code
def yX2_weightOf : MethodName := ⟨RX2, "weightOf", "(J)I"⟩
abbrev cX2_isSteady : ByteArray := prog_4_method_4_code
def yX2_isSteady : MethodName := ⟨RX2, "isSteady", "(IIJ)Z"⟩
abbrev cX2_findStill : ByteArray := prog_4_method_5_code
def yX2_findStill : MethodName := ⟨RX2, "findStill", "(I)V"⟩
abbrev cX2_isFound : ByteArray := prog_4_method_6_code
def yX2_isFound : MethodName := ⟨RX2, "isFound", "(J)Z"⟩
abbrev cX2_stillFrom : ByteArray := prog_4_method_7_code
def yX2_stillFrom : MethodName := ⟨RX2, "stillFrom", "(LJetTrees$Body;I)J"⟩
abbrev cX2_stillAt : ByteArray := prog_4_method_8_code
def yX2_stillAt : MethodName := ⟨RX2, "stillAt", "(I)J"⟩
abbrev cX2_patchAt : ByteArray := prog_4_method_9_code
def yX2_patchAt : MethodName := ⟨RX2, "patchAt", "(I)J"⟩
abbrev cX2_shareOut : ByteArray := prog_4_method_10_code
def yX2_shareOut : MethodName := ⟨RX2, "shareOut", "(I)V"⟩
abbrev cX2_heaviest : ByteArray := prog_4_method_11_code
def yX2_heaviest : MethodName := ⟨RX2, "heaviest", "(I)I"⟩
abbrev cX2_makePatch : ByteArray := prog_4_method_12_code
def yX2_makePatch : MethodName := ⟨RX2, "makePatch", "(I)V"⟩
abbrev cX2_removeSet : ByteArray := prog_4_method_13_code
def yX2_removeSet : MethodName := ⟨RX2, "removeSet", "(I)V"⟩
abbrev cX2_settle : ByteArray := prog_4_method_14_code
def yX2_settle : MethodName := ⟨RX2, "settle", "(III)V"⟩
abbrev cX2_divide : ByteArray := prog_4_method_15_code
def yX2_divide : MethodName := ⟨RX2, "divide", "(IIJ)V"⟩
def RX3 : String := "JetTrees$Event"
def TX3 : u_T := fun k => match k with
  | _ => ("JetTrees$Event", "tracks", "[LJetTrees$Body;", true)
def tyX3 : Nat → FieldType := fun k => match k with
  | _ => .array (.object "JetTrees$Body")
abbrev wsX30 : List Cond := u_ws RX3 TX3 1
theorem nmX3 : ∀ a, a < 1 → ∀ b, b < 1 → a ≠ b → (TX3 a).2.1 ≠ (TX3 b).2.1 := by decide +kernel
theorem tyX3_ok : ∀ k, k < 1 → parseFieldDescriptor (TX3 k).2.2.1 = some (tyX3 k) := by decide +kernel
abbrev cX3_init : ByteArray := prog_5_method_1_code
def yX3_init : MethodName := ⟨RX3, "<init>", "([LJetTrees$Body;)V"⟩
abbrev cX3_size : ByteArray := prog_5_method_2_code
def yX3_size : MethodName := ⟨RX3, "size", "()I"⟩
abbrev cX3_trackAt : ByteArray := prog_5_method_3_code
def yX3_trackAt : MethodName := ⟨RX3, "trackAt", "(I)LJetTrees$Body;"⟩
abbrev cX3_copiedTo : ByteArray := prog_5_method_4_code
def yX3_copiedTo : MethodName := ⟨RX3, "copiedTo", "(I)[LJetTrees$Body;"⟩
abbrev cX3_weightOfAll : ByteArray := prog_5_method_5_code
def yX3_weightOfAll : MethodName := ⟨RX3, "weightOfAll", "()I"⟩
abbrev cX3_nearestTo : ByteArray := prog_5_method_6_code
def yX3_nearestTo : MethodName := ⟨RX3, "nearestTo", "(LJetTrees$Body;)I"⟩
abbrev cX3_asTheyComeAhead : ByteArray := prog_5_method_7_code
def yX3_asTheyComeAhead : MethodName := ⟨RX3, "asTheyComeAhead", "()[LJetTrees$Body;"⟩
abbrev cX3_spanned : ByteArray := prog_5_method_8_code
def yX3_spanned : MethodName := ⟨RX3, "spanned", "(II)I"⟩
abbrev cX3_leastWithoutWay : ByteArray := prog_5_method_9_code
def yX3_leastWithoutWay : MethodName := ⟨RX3, "leastWithoutWay", "([LJetTrees$Body;[I)I"⟩
abbrev cX3_putTogether : ByteArray := prog_5_method_10_code
def yX3_putTogether : MethodName := ⟨RX3, "putTogether", "([III)V"⟩
abbrev cX3_greatestGap : ByteArray := prog_5_method_11_code
def yX3_greatestGap : MethodName := ⟨RX3, "greatestGap", "(Z)I"⟩
abbrev cX3_wayToNext : ByteArray := prog_5_method_12_code
def yX3_wayToNext : MethodName := ⟨RX3, "wayToNext", "(I)I"⟩
abbrev cX3_tiledBy : ByteArray := prog_5_method_13_code
def yX3_tiledBy : MethodName := ⟨RX3, "tiledBy", "(I)LJetTrees$Tiling;"⟩
abbrev cX3_balanceAbout : ByteArray := prog_5_method_14_code
def yX3_balanceAbout : MethodName := ⟨RX3, "balanceAbout", "(I)I"⟩
def RX4 : String := "JetTrees$Gatherer"
def TX4 : u_T := fun k => match k with
  | 0 => ("JetTrees$Gatherer", "tracks", "[LJetTrees$Body;", true)
  | 1 => ("JetTrees$Gatherer", "tree", "LJetTrees$Tree;", true)
  | 2 => ("JetTrees$Gatherer", "sum", "LJetTrees$Sum;", true)
  | 3 => ("JetTrees$Gatherer", "open", "[LJetTrees$Knot;", true)
  | 4 => ("JetTrees$Gatherer", "openCount", "I", false)
  | 5 => ("JetTrees$Gatherer", "bestFirst", "I", false)
  | 6 => ("JetTrees$Gatherer", "bestSecond", "I", false)
  | 7 => ("JetTrees$Gatherer", "bestUp", "J", false)
  | _ => ("JetTrees$Gatherer", "bestDown", "J", false)
def tyX4 : Nat → FieldType := fun k => match k with
  | 0 => .array (.object "JetTrees$Body")
  | 1 => .object "JetTrees$Tree"
  | 2 => .object "JetTrees$Sum"
  | 3 => .array (.object "JetTrees$Knot")
  | 4 => .int
  | 5 => .int
  | 6 => .int
  | 7 => .long
  | _ => .long
abbrev wsX40 : List Cond := u_ws RX4 TX4 9
theorem nmX4 : ∀ a, a < 9 → ∀ b, b < 9 → a ≠ b → (TX4 a).2.1 ≠ (TX4 b).2.1 := by decide +kernel
theorem tyX4_ok : ∀ k, k < 9 → parseFieldDescriptor (TX4 k).2.2.1 = some (tyX4 k) := by decide +kernel
abbrev cX4_init : ByteArray := prog_6_method_1_code
def yX4_init : MethodName := ⟨RX4, "<init>", "([LJetTrees$Body;III)V"⟩
abbrev cX4_gathered : ByteArray := prog_6_method_2_code
def yX4_gathered : MethodName := ⟨RX4, "gathered", "()LJetTrees$Tree;"⟩
abbrev cX4_putIn : ByteArray := prog_6_method_3_code
def yX4_putIn : MethodName := ⟨RX4, "putIn", "(LJetTrees$Knot;)V"⟩
abbrev cX4_takeOut : ByteArray := prog_6_method_4_code
def yX4_takeOut : MethodName := ⟨RX4, "takeOut", "(I)V"⟩
abbrev cX4_findLeast : ByteArray := prog_6_method_5_code
def yX4_findLeast : MethodName := ⟨RX4, "findLeast", "()V"⟩
abbrev cX4_offerAlone : ByteArray := prog_6_method_6_code
def yX4_offerAlone : MethodName := ⟨RX4, "offerAlone", "(I)V"⟩
abbrev cX4_offerTwo : ByteArray := prog_6_method_7_code
def yX4_offerTwo : MethodName := ⟨RX4, "offerTwo", "(II)V"⟩
abbrev cX4_offer : ByteArray := prog_6_method_8_code
def yX4_offer : MethodName := ⟨RX4, "offer", "(IIJJ)V"⟩
abbrev cX4_goToBeam : ByteArray := prog_6_method_9_code
def yX4_goToBeam : MethodName := ⟨RX4, "goToBeam", "(I)V"⟩
abbrev cX4_joinBest : ByteArray := prog_6_method_10_code
def yX4_joinBest : MethodName := ⟨RX4, "joinBest", "(I)V"⟩
abbrev cX4_joinedBody : ByteArray := prog_6_method_11_code
def yX4_joinedBody : MethodName := ⟨RX4, "joinedBody", "(LJetTrees$Body;LJetTrees$Body;)LJetTrees$Body;"⟩
def RX5 : String := "JetTrees$Knot"
def TX5 : u_T := fun k => match k with
  | 0 => ("JetTrees$Knot", "body", "LJetTrees$Body;", true)
  | 1 => ("JetTrees$Knot", "leaves", "J", true)
  | 2 => ("JetTrees$Knot", "first", "LJetTrees$Knot;", true)
  | 3 => ("JetTrees$Knot", "second", "LJetTrees$Knot;", true)
  | 4 => ("JetTrees$Knot", "joinedBy", "I", true)
  | 5 => ("JetTrees$Knot", "whole", "LJetTrees$Knot;", false)
  | _ => ("JetTrees$Knot", "wentBy", "I", false)
def tyX5 : Nat → FieldType := fun k => match k with
  | 0 => .object "JetTrees$Body"
  | 1 => .long
  | 2 => .object "JetTrees$Knot"
  | 3 => .object "JetTrees$Knot"
  | 4 => .int
  | 5 => .object "JetTrees$Knot"
  | _ => .int
abbrev wsX50 : List Cond := u_ws RX5 TX5 7
theorem nmX5 : ∀ a, a < 7 → ∀ b, b < 7 → a ≠ b → (TX5 a).2.1 ≠ (TX5 b).2.1 := by decide +kernel
theorem tyX5_ok : ∀ k, k < 7 → parseFieldDescriptor (TX5 k).2.2.1 = some (tyX5 k) := by decide +kernel
abbrev cX5_init : ByteArray := prog_7_method_1_code
def yX5_init : MethodName := ⟨RX5, "<init>", "(LJetTrees$Body;JLJetTrees$Knot;LJetTrees$Knot;I)V"⟩
abbrev cX5_wasJoined : ByteArray := prog_7_method_2_code
def yX5_wasJoined : MethodName := ⟨RX5, "wasJoined", "()Z"⟩
abbrev cX5_heavier : ByteArray := prog_7_method_3_code
def yX5_heavier : MethodName := ⟨RX5, "heavier", "()LJetTrees$Knot;"⟩
abbrev cX5_lighter : ByteArray := prog_7_method_4_code
def yX5_lighter : MethodName := ⟨RX5, "lighter", "()LJetTrees$Knot;"⟩
abbrev cX5_squareOfParts : ByteArray := prog_7_method_5_code
def yX5_squareOfParts : MethodName := ⟨RX5, "squareOfParts", "()I"⟩
def RX6 : String := "JetTrees$State"
def TX6 : u_T := fun k => match k with
  | 0 => ("JetTrees$State", "radius", "I", false)
  | 1 => ("JetTrees$State", "power", "I", false)
  | 2 => ("JetTrees$State", "sums", "I", false)
  | 3 => ("JetTrees$State", "x", "I", false)
  | 4 => ("JetTrees$State", "hand", "I", false)
  | 5 => ("JetTrees$State", "events", "[LJetTrees$Event;", true)
  | 6 => ("JetTrees$State", "trees", "[LJetTrees$Tree;", true)
  | _ => ("JetTrees$State", "kept", "[[J", true)
def tyX6 : Nat → FieldType := fun k => match k with
  | 0 => .int
  | 1 => .int
  | 2 => .int
  | 3 => .int
  | 4 => .int
  | 5 => .array (.object "JetTrees$Event")
  | 6 => .array (.object "JetTrees$Tree")
  | _ => .array (.array .long)
abbrev wsX60 : List Cond := u_ws RX6 TX6 8
theorem nmX6 : ∀ a, a < 8 → ∀ b, b < 8 → a ≠ b → (TX6 a).2.1 ≠ (TX6 b).2.1 := by decide +kernel
theorem tyX6_ok : ∀ k, k < 8 → parseFieldDescriptor (TX6 k).2.2.1 = some (tyX6 k) := by decide +kernel
abbrev cX6_init : ByteArray := prog_8_method_1_code
def yX6_init : MethodName := ⟨RX6, "<init>", "()V"⟩
abbrev cX6_init_ : ByteArray := prog_8_method_2_code
def yX6_init_ : MethodName := ⟨RX6, "<init>", "(LJetTrees$State;)V"⟩
abbrev cX6_inHand : ByteArray := prog_8_method_3_code
def yX6_inHand : MethodName := ⟨RX6, "inHand", "()LJetTrees$Event;"⟩
abbrev cX6_withTracks : ByteArray := prog_8_method_4_code
def yX6_withTracks : MethodName := ⟨RX6, "withTracks", "([LJetTrees$Body;)LJetTrees$State;"⟩
abbrev cX6_withTree : ByteArray := prog_8_method_5_code
def yX6_withTree : MethodName := ⟨RX6, "withTree", "(ILJetTrees$Tree;)LJetTrees$State;"⟩
def RX7 : String := "JetTrees$Step"
def TX7 : u_T := fun k => match k with
  | 0 => ("JetTrees$Step", "first", "I", true)
  | 1 => ("JetTrees$Step", "second", "I", true)
  | 2 => ("JetTrees$Step", "came", "I", true)
  | 3 => ("JetTrees$Step", "up", "J", true)
  | _ => ("JetTrees$Step", "down", "J", true)
def tyX7 : Nat → FieldType := fun k => match k with
  | 0 => .int
  | 1 => .int
  | 2 => .int
  | 3 => .long
  | _ => .long
abbrev wsX70 : List Cond := u_ws RX7 TX7 5
theorem nmX7 : ∀ a, a < 5 → ∀ b, b < 5 → a ≠ b → (TX7 a).2.1 ≠ (TX7 b).2.1 := by decide +kernel
theorem tyX7_ok : ∀ k, k < 5 → parseFieldDescriptor (TX7 k).2.2.1 = some (tyX7 k) := by decide +kernel
abbrev cX7_init : ByteArray := prog_9_method_1_code
def yX7_init : MethodName := ⟨RX7, "<init>", "(IIIJJ)V"⟩
abbrev cX7_isLike : ByteArray := prog_9_method_2_code
def yX7_isLike : MethodName := ⟨RX7, "isLike", "(LJetTrees$Step;)Z"⟩
abbrev cX7_isAbove : ByteArray := prog_9_method_3_code
def yX7_isAbove : MethodName := ⟨RX7, "isAbove", "(JJ)Z"⟩
abbrev cX7_commonDivisor : ByteArray := prog_9_method_4_code
def yX7_commonDivisor : MethodName := ⟨RX7, "commonDivisor", "(JJ)J"⟩
def RX8 : String := "JetTrees$Sum"
def TX8 : u_T := fun k => match k with
  | 0 => ("JetTrees$Sum", "across", "I", false)
  | 1 => ("JetTrees$Sum", "round", "I", false)
  | _ => ("JetTrees$Sum", "weight", "I", false)
def tyX8 : Nat → FieldType := fun k => match k with
  | 0 => .int
  | 1 => .int
  | _ => .int
abbrev wsX80 : List Cond := u_ws RX8 TX8 3
theorem nmX8 : ∀ a, a < 3 → ∀ b, b < 3 → a ≠ b → (TX8 a).2.1 ≠ (TX8 b).2.1 := by decide +kernel
theorem tyX8_ok : ∀ k, k < 3 → parseFieldDescriptor (TX8 k).2.2.1 = some (tyX8 k) := by decide +kernel
abbrev cX8_init : ByteArray := prog_10_method_1_code
def yX8_init : MethodName := ⟨RX8, "<init>", "()V"⟩
abbrev cX8_begin : ByteArray := prog_10_method_2_code
def yX8_begin : MethodName := ⟨RX8, "begin", "(LJetTrees$Body;)V"⟩
abbrev cX8_add : ByteArray := prog_10_method_3_code
def yX8_add : MethodName := ⟨RX8, "add", "(LJetTrees$Body;)V"⟩
abbrev cX8_addAll : ByteArray := prog_10_method_4_code
def yX8_addAll : MethodName := ⟨RX8, "addAll", "([LJetTrees$Body;J)V"⟩
def RX9 : String := "JetTrees$Tiling"
def TX9 : u_T := fun k => match k with
  | 0 => ("JetTrees$Tiling", "size", "I", true)
  | 1 => ("JetTrees$Tiling", "acrosses", "[I", true)
  | 2 => ("JetTrees$Tiling", "rounds", "[I", true)
  | 3 => ("JetTrees$Tiling", "weights", "[I", true)
  | 4 => ("JetTrees$Tiling", "tracks", "[I", true)
  | _ => ("JetTrees$Tiling", "used", "I", false)
def tyX9 : Nat → FieldType := fun k => match k with
  | 0 => .int
  | 1 => .array .int
  | 2 => .array .int
  | 3 => .array .int
  | 4 => .array .int
  | _ => .int
abbrev wsX90 : List Cond := u_ws RX9 TX9 6
theorem nmX9 : ∀ a, a < 6 → ∀ b, b < 6 → a ≠ b → (TX9 a).2.1 ≠ (TX9 b).2.1 := by decide +kernel
theorem tyX9_ok : ∀ k, k < 6 → parseFieldDescriptor (TX9 k).2.2.1 = some (tyX9 k) := by decide +kernel
abbrev cX9_init : ByteArray := prog_11_method_1_code
def yX9_init : MethodName := ⟨RX9, "<init>", "(I)V"⟩
abbrev cX9_add : ByteArray := prog_11_method_2_code
def yX9_add : MethodName := ⟨RX9, "add", "(LJetTrees$Body;)V"⟩
abbrev cX9_mostTracks : ByteArray := prog_11_method_3_code
def yX9_mostTracks : MethodName := ⟨RX9, "mostTracks", "()I"⟩
abbrev cX9_middleWeight : ByteArray := prog_11_method_4_code
def yX9_middleWeight : MethodName := ⟨RX9, "middleWeight", "()I"⟩
abbrev cX9_lessThan : ByteArray := prog_11_method_5_code
def yX9_lessThan : MethodName := ⟨RX9, "lessThan", "(I)I"⟩
def RX10 : String := "JetTrees$Tree"
def TX10 : u_T := fun k => match k with
  | 0 => ("JetTrees$Tree", "radius", "I", true)
  | 1 => ("JetTrees$Tree", "power", "I", true)
  | 2 => ("JetTrees$Tree", "sums", "I", true)
  | 3 => ("JetTrees$Tree", "trackCount", "I", true)
  | 4 => ("JetTrees$Tree", "knots", "[LJetTrees$Knot;", true)
  | 5 => ("JetTrees$Tree", "knotCount", "I", false)
  | 6 => ("JetTrees$Tree", "steps", "[LJetTrees$Step;", true)
  | 7 => ("JetTrees$Tree", "stepCount", "I", false)
  | 8 => ("JetTrees$Tree", "jets", "[LJetTrees$Knot;", true)
  | 9 => ("JetTrees$Tree", "jetCount", "I", false)
  | _ => ("JetTrees$Tree", "origins", "[I", false)
def tyX10 : Nat → FieldType := fun k => match k with
  | 0 => .int
  | 1 => .int
  | 2 => .int
  | 3 => .int
  | 4 => .array (.object "JetTrees$Knot")
  | 5 => .int
  | 6 => .array (.object "JetTrees$Step")
  | 7 => .int
  | 8 => .array (.object "JetTrees$Knot")
  | 9 => .int
  | _ => .array .int
abbrev wsX100 : List Cond := u_ws RX10 TX10 11
theorem nmX10 : ∀ a, a < 11 → ∀ b, b < 11 → a ≠ b → (TX10 a).2.1 ≠ (TX10 b).2.1 := by decide +kernel
theorem tyX10_ok : ∀ k, k < 11 → parseFieldDescriptor (TX10 k).2.2.1 = some (tyX10 k) := by decide +kernel
abbrev cX10_init : ByteArray := prog_12_method_1_code
def yX10_init : MethodName := ⟨RX10, "<init>", "(IIII)V"⟩
abbrev cX10_addKnot : ByteArray := prog_12_method_2_code
def yX10_addKnot : MethodName := ⟨RX10, "addKnot", "(LJetTrees$Knot;)V"⟩
abbrev cX10_addStep : ByteArray := prog_12_method_3_code
def yX10_addStep : MethodName := ⟨RX10, "addStep", "(LJetTrees$Step;)V"⟩
abbrev cX10_addJet : ByteArray := prog_12_method_4_code
def yX10_addJet : MethodName := ⟨RX10, "addJet", "(LJetTrees$Knot;)V"⟩
abbrev cX10_isJetBefore : ByteArray := prog_12_method_5_code
def yX10_isJetBefore : MethodName := ⟨RX10, "isJetBefore", "(LJetTrees$Body;LJetTrees$Body;)Z"⟩
abbrev cX10_knotAt : ByteArray := prog_12_method_6_code
def yX10_knotAt : MethodName := ⟨RX10, "knotAt", "(I)LJetTrees$Knot;"⟩
abbrev cX10_trackAt : ByteArray := prog_12_method_7_code
def yX10_trackAt : MethodName := ⟨RX10, "trackAt", "(I)LJetTrees$Knot;"⟩
abbrev cX10_jetWith : ByteArray := prog_12_method_8_code
def yX10_jetWith : MethodName := ⟨RX10, "jetWith", "(J)LJetTrees$Knot;"⟩
abbrev cX10_stepThatJoined : ByteArray := prog_12_method_9_code
def yX10_stepThatJoined : MethodName := ⟨RX10, "stepThatJoined", "(J)I"⟩
abbrev cX10_weightOf : ByteArray := prog_12_method_10_code
def yX10_weightOf : MethodName := ⟨RX10, "weightOf", "(J)I"⟩
abbrev cX10_stepsToCount : ByteArray := prog_12_method_11_code
def yX10_stepsToCount : MethodName := ⟨RX10, "stepsToCount", "(I)I"⟩
abbrev cX10_stepsToMark : ByteArray := prog_12_method_12_code
def yX10_stepsToMark : MethodName := ⟨RX10, "stepsToMark", "(JJ)I"⟩
abbrev cX10_isThereBehind : ByteArray := prog_12_method_13_code
def yX10_isThereBehind : MethodName := ⟨RX10, "isThereBehind", "(LJetTrees$Knot;IZ)Z"⟩
abbrev cX10_ithBehind : ByteArray := prog_12_method_14_code
def yX10_ithBehind : MethodName := ⟨RX10, "ithBehind", "(IZI)I"⟩
abbrev cX10_setsOfCut : ByteArray := prog_12_method_15_code
def yX10_setsOfCut : MethodName := ⟨RX10, "setsOfCut", "(I)[J"⟩
abbrev cX10_jetsUnlike : ByteArray := prog_12_method_16_code
def yX10_jetsUnlike : MethodName := ⟨RX10, "jetsUnlike", "(LJetTrees$Tree;)I"⟩
abbrev cX10_joinedInCommon : ByteArray := prog_12_method_17_code
def yX10_joinedInCommon : MethodName := ⟨RX10, "joinedInCommon", "(LJetTrees$Tree;)I"⟩
abbrev cX10_hasStepsOf : ByteArray := prog_12_method_18_code
def yX10_hasStepsOf : MethodName := ⟨RX10, "hasStepsOf", "(LJetTrees$Tree;)Z"⟩
abbrev cX10_pairNearestTo : ByteArray := prog_12_method_19_code
def yX10_pairNearestTo : MethodName := ⟨RX10, "pairNearestTo", "(J)I"⟩
abbrev cX10_tilesOf : ByteArray := prog_12_method_20_code
def yX10_tilesOf : MethodName := ⟨RX10, "tilesOf", "(LJetTrees$Knot;I)I"⟩
def RX11 : String := "JetTrees"
def TX11 : u_T := fun k => match k with
  | 0 => ("JetTrees", "now", "LJetTrees$State;", false)
  | 1 => ("JetTrees", "past", "[LJetTrees$State;", true)
  | 2 => ("JetTrees", "pastCount", "I", false)
  | 3 => ("JetTrees", "image", "LJetTrees$State;", false)
  | 4 => ("JetTrees", "imagePast", "[LJetTrees$State;", true)
  | _ => ("JetTrees", "imagePastCount", "I", false)
def tyX11 : Nat → FieldType := fun k => match k with
  | 0 => .object "JetTrees$State"
  | 1 => .array (.object "JetTrees$State")
  | 2 => .int
  | 3 => .object "JetTrees$State"
  | 4 => .array (.object "JetTrees$State")
  | _ => .int
abbrev wsX110 : List Cond := u_ws RX11 TX11 6
theorem nmX11 : ∀ a, a < 6 → ∀ b, b < 6 → a ≠ b → (TX11 a).2.1 ≠ (TX11 b).2.1 := by decide +kernel
theorem tyX11_ok : ∀ k, k < 6 → parseFieldDescriptor (TX11 k).2.2.1 = some (tyX11 k) := by decide +kernel
abbrev cX11_init : ByteArray := prog_1_method_1_code
def yX11_init : MethodName := ⟨RX11, "<init>", "()V"⟩
abbrev cX11_track : ByteArray := prog_1_method_2_code
def yX11_track : MethodName := ⟨RX11, "track", "(III)I"⟩
abbrev cX11_move : ByteArray := prog_1_method_3_code
def yX11_move : MethodName := ⟨RX11, "move", "(III)Z"⟩
abbrev cX11_weigh : ByteArray := prog_1_method_4_code
def yX11_weigh : MethodName := ⟨RX11, "weigh", "(II)Z"⟩
abbrev cX11_drop : ByteArray := prog_1_method_5_code
def yX11_drop : MethodName := ⟨RX11, "drop", "(I)I"⟩
abbrev cX11_drawn : ByteArray := prog_1_method_6_code
def yX11_drawn : MethodName := ⟨RX11, "drawn", "(IIII)I"⟩
abbrev cX11_tell : ByteArray := prog_1_method_7_code
def yX11_tell : MethodName := ⟨RX11, "tell", "(I)Z"⟩
abbrev cX11_set : ByteArray := prog_1_method_8_code
def yX11_set : MethodName := ⟨RX11, "set", "(II)Z"⟩
abbrev cX11_gather : ByteArray := prog_1_method_9_code
def yX11_gather : MethodName := ⟨RX11, "gather", "(I)I"⟩
abbrev cX11_keep : ByteArray := prog_1_method_10_code
def yX11_keep : MethodName := ⟨RX11, "keep", "(III)I"⟩
abbrev cX11_apart : ByteArray := prog_1_method_11_code
def yX11_apart : MethodName := ⟨RX11, "apart", "(IIIII)I"⟩
abbrev cX11_hand : ByteArray := prog_1_method_12_code
def yX11_hand : MethodName := ⟨RX11, "hand", "(I)I"⟩
abbrev cX11_mix : ByteArray := prog_1_method_13_code
def yX11_mix : MethodName := ⟨RX11, "mix", "(II)I"⟩
abbrev cX11_free : ByteArray := prog_1_method_14_code
def yX11_free : MethodName := ⟨RX11, "free", "(I)Z"⟩
abbrev cX11_undo : ByteArray := prog_1_method_15_code
def yX11_undo : MethodName := ⟨RX11, "undo", "()I"⟩
abbrev cX11_is : ByteArray := prog_1_method_16_code
def yX11_is : MethodName := ⟨RX11, "is", "(I)I"⟩
abbrev cX11_of : ByteArray := prog_1_method_17_code
def yX11_of : MethodName := ⟨RX11, "of", "(II)I"⟩
abbrev cX11_square : ByteArray := prog_1_method_18_code
def yX11_square : MethodName := ⟨RX11, "square", "(II)I"⟩
abbrev cX11_nearest : ByteArray := prog_1_method_19_code
def yX11_nearest : MethodName := ⟨RX11, "nearest", "(I)I"⟩
abbrev cX11_tree : ByteArray := prog_1_method_20_code
def yX11_tree : MethodName := ⟨RX11, "tree", "(II)I"⟩
abbrev cX11_knot : ByteArray := prog_1_method_21_code
def yX11_knot : MethodName := ⟨RX11, "knot", "(III)I"⟩
abbrev cX11_origin : ByteArray := prog_1_method_22_code
def yX11_origin : MethodName := ⟨RX11, "origin", "(II)I"⟩
abbrev cX11_step : ByteArray := prog_1_method_23_code
def yX11_step : MethodName := ⟨RX11, "step", "(III)I"⟩
abbrev cX11_up : ByteArray := prog_1_method_24_code
def yX11_up : MethodName := ⟨RX11, "up", "(II)J"⟩
abbrev cX11_down : ByteArray := prog_1_method_25_code
def yX11_down : MethodName := ⟨RX11, "down", "(II)J"⟩
abbrev cX11_leaves : ByteArray := prog_1_method_26_code
def yX11_leaves : MethodName := ⟨RX11, "leaves", "(II)J"⟩
abbrev cX11_jet : ByteArray := prog_1_method_27_code
def yX11_jet : MethodName := ⟨RX11, "jet", "(II)I"⟩
abbrev cX11_jetOf : ByteArray := prog_1_method_28_code
def yX11_jetOf : MethodName := ⟨RX11, "jetOf", "(II)I"⟩
abbrev cX11_left : ByteArray := prog_1_method_29_code
def yX11_left : MethodName := ⟨RX11, "left", "(III)I"⟩
abbrev cX11_cut : ByteArray := prog_1_method_30_code
def yX11_cut : MethodName := ⟨RX11, "cut", "(III)I"⟩
abbrev cX11_cutBy : ByteArray := prog_1_method_31_code
def yX11_cutBy : MethodName := ⟨RX11, "cutBy", "(IIII)I"⟩
abbrev cX11_together : ByteArray := prog_1_method_32_code
def yX11_together : MethodName := ⟨RX11, "together", "(III)I"⟩
abbrev cX11_groom : ByteArray := prog_1_method_33_code
def yX11_groom : MethodName := ⟨RX11, "groom", "(IIII)I"⟩
abbrev cX11_trim : ByteArray := prog_1_method_34_code
def yX11_trim : MethodName := ⟨RX11, "trim", "(IIII)J"⟩
abbrev cX11_prune : ByteArray := prog_1_method_35_code
def yX11_prune : MethodName := ⟨RX11, "prune", "(IIII)J"⟩
abbrev cX11_split : ByteArray := prog_1_method_36_code
def yX11_split : MethodName := ⟨RX11, "split", "(IIII)I"⟩
abbrev cX11_width : ByteArray := prog_1_method_37_code
def yX11_width : MethodName := ⟨RX11, "width", "(II)J"⟩
abbrev cX11_closeness : ByteArray := prog_1_method_38_code
def yX11_closeness : MethodName := ⟨RX11, "closeness", "(II)J"⟩
abbrev cX11_kept : ByteArray := prog_1_method_39_code
def yX11_kept : MethodName := ⟨RX11, "kept", "(II)J"⟩
abbrev cX11_within : ByteArray := prog_1_method_40_code
def yX11_within : MethodName := ⟨RX11, "within", "(II)Z"⟩
abbrev cX11_tau : ByteArray := prog_1_method_41_code
def yX11_tau : MethodName := ⟨RX11, "tau", "(III)J"⟩
abbrev cX11_matched : ByteArray := prog_1_method_42_code
def yX11_matched : MethodName := ⟨RX11, "matched", "(III)I"⟩
abbrev cX11_alike : ByteArray := prog_1_method_43_code
def yX11_alike : MethodName := ⟨RX11, "alike", "(II)Z"⟩
abbrev cX11_unlike : ByteArray := prog_1_method_44_code
def yX11_unlike : MethodName := ⟨RX11, "unlike", "(II)I"⟩
abbrev cX11_backToBack : ByteArray := prog_1_method_45_code
def yX11_backToBack : MethodName := ⟨RX11, "backToBack", "(I)I"⟩
abbrev cX11_fresh : ByteArray := prog_1_method_46_code
def yX11_fresh : MethodName := ⟨RX11, "fresh", "(I)Z"⟩
abbrev cX11_pair : ByteArray := prog_1_method_47_code
def yX11_pair : MethodName := ⟨RX11, "pair", "(III)J"⟩
abbrev cX11_nearestPair : ByteArray := prog_1_method_48_code
def yX11_nearestPair : MethodName := ⟨RX11, "nearestPair", "(IJ)I"⟩
abbrev cX11_count : ByteArray := prog_1_method_49_code
def yX11_count : MethodName := ⟨RX11, "count", "(III)I"⟩
abbrev cX11_common : ByteArray := prog_1_method_50_code
def yX11_common : MethodName := ⟨RX11, "common", "(II)I"⟩
abbrev cX11_span : ByteArray := prog_1_method_51_code
def yX11_span : MethodName := ⟨RX11, "span", "(II)I"⟩
abbrev cX11_gap : ByteArray := prog_1_method_52_code
def yX11_gap : MethodName := ⟨RX11, "gap", "(I)I"⟩
abbrev cX11_tiles : ByteArray := prog_1_method_53_code
def yX11_tiles : MethodName := ⟨RX11, "tiles", "(II)I"⟩
abbrev cX11_cone : ByteArray := prog_1_method_54_code
def yX11_cone : MethodName := ⟨RX11, "cone", "(IIII)I"⟩
abbrev cX11_still : ByteArray := prog_1_method_55_code
def yX11_still : MethodName := ⟨RX11, "still", "(II)J"⟩
abbrev cX11_patch : ByteArray := prog_1_method_56_code
def yX11_patch : MethodName := ⟨RX11, "patch", "(III)J"⟩
abbrev cX11_pedestal : ByteArray := prog_1_method_57_code
def yX11_pedestal : MethodName := ⟨RX11, "pedestal", "(I)I"⟩
abbrev cX11_clean : ByteArray := prog_1_method_58_code
def yX11_clean : MethodName := ⟨RX11, "clean", "(III)I"⟩
abbrev cX11_balance : ByteArray := prog_1_method_59_code
def yX11_balance : MethodName := ⟨RX11, "balance", "(I)I"⟩
abbrev cX11_axis : ByteArray := prog_1_method_60_code
def yX11_axis : MethodName := ⟨RX11, "axis", "()I"⟩
abbrev cX11_image : ByteArray := prog_1_method_61_code
def yX11_image : MethodName := ⟨RX11, "image", "()I"⟩
abbrev cX11_back : ByteArray := prog_1_method_62_code
def yX11_back : MethodName := ⟨RX11, "back", "()I"⟩
abbrev cX11_steps : ByteArray := prog_1_method_63_code
def yX11_steps : MethodName := ⟨RX11, "steps", "()I"⟩
abbrev cX11_takeStep : ByteArray := prog_1_method_64_code
def yX11_takeStep : MethodName := ⟨RX11, "takeStep", "(LJetTrees$State;)V"⟩
abbrev cX11_replaceTrack : ByteArray := prog_1_method_65_code
def yX11_replaceTrack : MethodName := ⟨RX11, "replaceTrack", "(LJetTrees$Body;)V"⟩
abbrev cX11_gatheredNow : ByteArray := prog_1_method_66_code
def yX11_gatheredNow : MethodName := ⟨RX11, "gatheredNow", "()LJetTrees$Tree;"⟩
abbrev cX11_treeAt : ByteArray := prog_1_method_67_code
def yX11_treeAt : MethodName := ⟨RX11, "treeAt", "(I)LJetTrees$Tree;"⟩
abbrev cX11_knotAt : ByteArray := prog_1_method_68_code
def yX11_knotAt : MethodName := ⟨RX11, "knotAt", "(II)LJetTrees$Knot;"⟩
abbrev cX11_stepAt : ByteArray := prog_1_method_69_code
def yX11_stepAt : MethodName := ⟨RX11, "stepAt", "(II)LJetTrees$Step;"⟩
abbrev cX11_jetByWeight : ByteArray := prog_1_method_70_code
def yX11_jetByWeight : MethodName := ⟨RX11, "jetByWeight", "(II)LJetTrees$Knot;"⟩
abbrev cX11_keptAt : ByteArray := prog_1_method_71_code
def yX11_keptAt : MethodName := ⟨RX11, "keptAt", "(I)[J"⟩
abbrev cX11_treeBits : ByteArray := prog_1_method_72_code
def yX11_treeBits : MethodName := ⟨RX11, "treeBits", "()I"⟩
abbrev cX11_numberOf : ByteArray := prog_1_method_73_code
def yX11_numberOf : MethodName := ⟨RX11, "numberOf", "(LJetTrees$Knot;)I"⟩
abbrev cX11_nextX : ByteArray := prog_1_method_74_code
def yX11_nextX : MethodName := ⟨RX11, "nextX", "(I)I"⟩
abbrev cX11_isInOneOf : ByteArray := prog_1_method_75_code
def yX11_isInOneOf : MethodName := ⟨RX11, "isInOneOf", "(J[J)Z"⟩
abbrev cX11_isPlace : ByteArray := prog_1_method_76_code
def yX11_isPlace : MethodName := ⟨RX11, "isPlace", "(II)Z"⟩
abbrev cX11_isRound : ByteArray := prog_1_method_77_code
def yX11_isRound : MethodName := ⟨RX11, "isRound", "(I)Z"⟩
abbrev cX11_isWeight : ByteArray := prog_1_method_78_code
def yX11_isWeight : MethodName := ⟨RX11, "isWeight", "(I)Z"⟩
abbrev cX11_isRadius : ByteArray := prog_1_method_79_code
def yX11_isRadius : MethodName := ⟨RX11, "isRadius", "(I)Z"⟩
abbrev cX11_isPower : ByteArray := prog_1_method_80_code
def yX11_isPower : MethodName := ⟨RX11, "isPower", "(I)Z"⟩
abbrev cX11_isTree : ByteArray := prog_1_method_81_code
def yX11_isTree : MethodName := ⟨RX11, "isTree", "(I)Z"⟩
abbrev cX11_isTile : ByteArray := prog_1_method_82_code
def yX11_isTile : MethodName := ⟨RX11, "isTile", "(I)Z"⟩
abbrev cX11_isOfThousand : ByteArray := prog_1_method_83_code
def yX11_isOfThousand : MethodName := ⟨RX11, "isOfThousand", "(I)Z"⟩
abbrev cX11_bitOf : ByteArray := prog_1_method_84_code
def yX11_bitOf : MethodName := ⟨RX11, "bitOf", "(I)J"⟩
abbrev cX11_isIn : ByteArray := prog_1_method_85_code
def yX11_isIn : MethodName := ⟨RX11, "isIn", "(JI)Z"⟩
abbrev cX11_downward : ByteArray := prog_1_method_86_code
def yX11_downward : MethodName := ⟨RX11, "downward", "(II)I"⟩
def RX12 : String := "JetTreesModel"
def TX12 : u_T := fun k => match k with
  | 0 => ("JetTreesModel", "a", "[I", true)
  | 1 => ("JetTreesModel", "image", "[I", true)
  | 2 => ("JetTreesModel", "across0", "[I", true)
  | 3 => ("JetTreesModel", "round0", "[I", true)
  | 4 => ("JetTreesModel", "weight0", "[I", true)
  | 5 => ("JetTreesModel", "one0", "[I", true)
  | 6 => ("JetTreesModel", "other0", "[I", true)
  | 7 => ("JetTreesModel", "isThere", "[Z", true)
  | 8 => ("JetTreesModel", "first0", "[I", true)
  | 9 => ("JetTreesModel", "second0", "[I", true)
  | 10 => ("JetTreesModel", "knots0", "I", false)
  | 11 => ("JetTreesModel", "steps0", "I", false)
  | 12 => ("JetTreesModel", "radius0", "I", false)
  | 13 => ("JetTreesModel", "power0", "I", false)
  | 14 => ("JetTreesModel", "sums0", "I", false)
  | 15 => ("JetTreesModel", "had", "[I", true)
  | 16 => ("JetTreesModel", "row", "[I", true)
  | 17 => ("JetTreesModel", "rows", "I", false)
  | 18 => ("JetTreesModel", "down0", "[I", true)
  | 19 => ("JetTreesModel", "piece", "[I", true)
  | 20 => ("JetTreesModel", "one1", "I", false)
  | 21 => ("JetTreesModel", "two1", "I", false)
  | 22 => ("JetTreesModel", "heavy", "[I", true)
  | 23 => ("JetTreesModel", "meanA", "I", false)
  | 24 => ("JetTreesModel", "meanR", "I", false)
  | 25 => ("JetTreesModel", "sets", "[J", true)
  | _ => ("JetTreesModel", "setMany", "I", false)
def tyX12 : Nat → FieldType := fun k => match k with
  | 0 => .array .int
  | 1 => .array .int
  | 2 => .array .int
  | 3 => .array .int
  | 4 => .array .int
  | 5 => .array .int
  | 6 => .array .int
  | 7 => .array .boolean
  | 8 => .array .int
  | 9 => .array .int
  | 10 => .int
  | 11 => .int
  | 12 => .int
  | 13 => .int
  | 14 => .int
  | 15 => .array .int
  | 16 => .array .int
  | 17 => .int
  | 18 => .array .int
  | 19 => .array .int
  | 20 => .int
  | 21 => .int
  | 22 => .array .int
  | 23 => .int
  | 24 => .int
  | 25 => .array .long
  | _ => .int
abbrev wsX120 : List Cond := u_ws RX12 TX12 27
theorem nmX12 : ∀ a, a < 27 → ∀ b, b < 27 → a ≠ b → (TX12 a).2.1 ≠ (TX12 b).2.1 := by decide +kernel
theorem tyX12_ok : ∀ k, k < 27 → parseFieldDescriptor (TX12 k).2.2.1 = some (tyX12 k) := by decide +kernel
abbrev cX12_init : ByteArray := prog_14_method_1_code
def yX12_init : MethodName := ⟨RX12, "<init>", "()V"⟩
abbrev cX12_copy : ByteArray := prog_14_method_2_code
def yX12_copy : MethodName := ⟨RX12, "copy", "([I[I)V"⟩
abbrev cX12_isIn : ByteArray := prog_14_method_3_code
def yX12_isIn : MethodName := ⟨RX12, "isIn", "(III)Z"⟩
abbrev cX12_has : ByteArray := prog_14_method_4_code
def yX12_has : MethodName := ⟨RX12, "has", "(JI)Z"⟩
abbrev cX12_many : ByteArray := prog_14_method_5_code
def yX12_many : MethodName := ⟨RX12, "many", "(J)I"⟩
abbrev cX12_floor : ByteArray := prog_14_method_6_code
def yX12_floor : MethodName := ⟨RX12, "floor", "(II)I"⟩
abbrev cX12_wayOf : ByteArray := prog_14_method_7_code
def yX12_wayOf : MethodName := ⟨RX12, "wayOf", "(II)I"⟩
abbrev cX12_squareOf : ByteArray := prog_14_method_8_code
def yX12_squareOf : MethodName := ⟨RX12, "squareOf", "(IIII)I"⟩
abbrev cX12_isPlace : ByteArray := prog_14_method_9_code
def yX12_isPlace : MethodName := ⟨RX12, "isPlace", "(II)Z"⟩
abbrev cX12_eventAt : ByteArray := prog_14_method_10_code
def yX12_eventAt : MethodName := ⟨RX12, "eventAt", "(I)I"⟩
abbrev cX12_tracks : ByteArray := prog_14_method_11_code
def yX12_tracks : MethodName := ⟨RX12, "tracks", "()I"⟩
abbrev cX12_isTrack : ByteArray := prog_14_method_12_code
def yX12_isTrack : MethodName := ⟨RX12, "isTrack", "(I)Z"⟩
abbrev cX12_ofTrack : ByteArray := prog_14_method_13_code
def yX12_ofTrack : MethodName := ⟨RX12, "ofTrack", "(II)I"⟩
abbrev cX12_isTree : ByteArray := prog_14_method_14_code
def yX12_isTree : MethodName := ⟨RX12, "isTree", "(I)Z"⟩
abbrev cX12_treeAt : ByteArray := prog_14_method_15_code
def yX12_treeAt : MethodName := ⟨RX12, "treeAt", "(I)I"⟩
abbrev cX12_ofTree : ByteArray := prog_14_method_16_code
def yX12_ofTree : MethodName := ⟨RX12, "ofTree", "(II)I"⟩
abbrev cX12_isKnot : ByteArray := prog_14_method_17_code
def yX12_isKnot : MethodName := ⟨RX12, "isKnot", "(II)Z"⟩
abbrev cX12_ofKnot : ByteArray := prog_14_method_18_code
def yX12_ofKnot : MethodName := ⟨RX12, "ofKnot", "(III)I"⟩
abbrev cX12_weightOf : ByteArray := prog_14_method_19_code
def yX12_weightOf : MethodName := ⟨RX12, "weightOf", "(II)I"⟩
abbrev cX12_isJoined : ByteArray := prog_14_method_20_code
def yX12_isJoined : MethodName := ⟨RX12, "isJoined", "(II)Z"⟩
abbrev cX12_stepsOf : ByteArray := prog_14_method_21_code
def yX12_stepsOf : MethodName := ⟨RX12, "stepsOf", "(I)I"⟩
abbrev cX12_ofStep : ByteArray := prog_14_method_22_code
def yX12_ofStep : MethodName := ⟨RX12, "ofStep", "(III)I"⟩
abbrev cX12_order : ByteArray := prog_14_method_23_code
def yX12_order : MethodName := ⟨RX12, "order", "(JJJJ)I"⟩
abbrev cX12_common : ByteArray := prog_14_method_24_code
def yX12_common : MethodName := ⟨RX12, "common", "(JJ)J"⟩
abbrev cX12_come : ByteArray := prog_14_method_25_code
def yX12_come : MethodName := ⟨RX12, "come", "(IIIII)V"⟩
abbrev cX12_isAhead : ByteArray := prog_14_method_26_code
def yX12_isAhead : MethodName := ⟨RX12, "isAhead", "(II)Z"⟩
abbrev cX12_upOf : ByteArray := prog_14_method_27_code
def yX12_upOf : MethodName := ⟨RX12, "upOf", "(II)J"⟩
abbrev cX12_downOf : ByteArray := prog_14_method_28_code
def yX12_downOf : MethodName := ⟨RX12, "downOf", "(II)J"⟩
abbrev cX12_isSooner : ByteArray := prog_14_method_29_code
def yX12_isSooner : MethodName := ⟨RX12, "isSooner", "(IIII)Z"⟩
abbrev cX12_join : ByteArray := prog_14_method_30_code
def yX12_join : MethodName := ⟨RX12, "join", "(II)V"⟩
abbrev cX12_meanAcross : ByteArray := prog_14_method_31_code
def yX12_meanAcross : MethodName := ⟨RX12, "meanAcross", "(IIII)I"⟩
abbrev cX12_meanRound : ByteArray := prog_14_method_32_code
def yX12_meanRound : MethodName := ⟨RX12, "meanRound", "(IIII)I"⟩
abbrev cX12_gatherAll : ByteArray := prog_14_method_33_code
def yX12_gatherAll : MethodName := ⟨RX12, "gatherAll", "(III)V"⟩
abbrev cX12_layTracks : ByteArray := prog_14_method_34_code
def yX12_layTracks : MethodName := ⟨RX12, "layTracks", "()V"⟩
abbrev cX12_layLeaves : ByteArray := prog_14_method_35_code
def yX12_layLeaves : MethodName := ⟨RX12, "layLeaves", "(IJ)V"⟩
abbrev cX12_stepAt : ByteArray := prog_14_method_36_code
def yX12_stepAt : MethodName := ⟨RX12, "stepAt", "(II)I"⟩
abbrev cX12_keepNow : ByteArray := prog_14_method_37_code
def yX12_keepNow : MethodName := ⟨RX12, "keepNow", "()V"⟩
abbrev cX12_undo : ByteArray := prog_14_method_38_code
def yX12_undo : MethodName := ⟨RX12, "undo", "()I"⟩
abbrev cX12_layTrack : ByteArray := prog_14_method_39_code
def yX12_layTrack : MethodName := ⟨RX12, "layTrack", "(IIII)V"⟩
abbrev cX12_counted : ByteArray := prog_14_method_40_code
def yX12_counted : MethodName := ⟨RX12, "counted", "(I)I"⟩
abbrev cX12_track : ByteArray := prog_14_method_41_code
def yX12_track : MethodName := ⟨RX12, "track", "(III)I"⟩
abbrev cX12_move : ByteArray := prog_14_method_42_code
def yX12_move : MethodName := ⟨RX12, "move", "(III)Z"⟩
abbrev cX12_weigh : ByteArray := prog_14_method_43_code
def yX12_weigh : MethodName := ⟨RX12, "weigh", "(II)Z"⟩
abbrev cX12_drop : ByteArray := prog_14_method_44_code
def yX12_drop : MethodName := ⟨RX12, "drop", "(I)I"⟩
abbrev cX12_draw : ByteArray := prog_14_method_45_code
def yX12_draw : MethodName := ⟨RX12, "draw", "(I)I"⟩
abbrev cX12_held : ByteArray := prog_14_method_46_code
def yX12_held : MethodName := ⟨RX12, "held", "(III)I"⟩
abbrev cX12_drawn : ByteArray := prog_14_method_47_code
def yX12_drawn : MethodName := ⟨RX12, "drawn", "(IIII)I"⟩
abbrev cX12_tell : ByteArray := prog_14_method_48_code
def yX12_tell : MethodName := ⟨RX12, "tell", "(I)Z"⟩
abbrev cX12_set : ByteArray := prog_14_method_49_code
def yX12_set : MethodName := ⟨RX12, "set", "(II)Z"⟩
abbrev cX12_clearTree : ByteArray := prog_14_method_50_code
def yX12_clearTree : MethodName := ⟨RX12, "clearTree", "(I)V"⟩
abbrev cX12_jetsOf : ByteArray := prog_14_method_51_code
def yX12_jetsOf : MethodName := ⟨RX12, "jetsOf", "(I)I"⟩
abbrev cX12_layTree : ByteArray := prog_14_method_52_code
def yX12_layTree : MethodName := ⟨RX12, "layTree", "(I)V"⟩
abbrev cX12_gatherNow : ByteArray := prog_14_method_53_code
def yX12_gatherNow : MethodName := ⟨RX12, "gatherNow", "()V"⟩
abbrev cX12_gather : ByteArray := prog_14_method_54_code
def yX12_gather : MethodName := ⟨RX12, "gather", "(I)I"⟩
abbrev cX12_apart : ByteArray := prog_14_method_55_code
def yX12_apart : MethodName := ⟨RX12, "apart", "(IIIII)I"⟩
abbrev cX12_origin : ByteArray := prog_14_method_56_code
def yX12_origin : MethodName := ⟨RX12, "origin", "(II)I"⟩
abbrev cX12_isEvent : ByteArray := prog_14_method_57_code
def yX12_isEvent : MethodName := ⟨RX12, "isEvent", "(I)Z"⟩
abbrev cX12_hand : ByteArray := prog_14_method_58_code
def yX12_hand : MethodName := ⟨RX12, "hand", "(I)I"⟩
abbrev cX12_mix : ByteArray := prog_14_method_59_code
def yX12_mix : MethodName := ⟨RX12, "mix", "(II)I"⟩
abbrev cX12_free : ByteArray := prog_14_method_60_code
def yX12_free : MethodName := ⟨RX12, "free", "(I)Z"⟩
abbrev cX12_is : ByteArray := prog_14_method_61_code
def yX12_is : MethodName := ⟨RX12, "is", "(I)I"⟩
abbrev cX12_allTracks : ByteArray := prog_14_method_62_code
def yX12_allTracks : MethodName := ⟨RX12, "allTracks", "()J"⟩
abbrev cX12_weightsOf : ByteArray := prog_14_method_63_code
def yX12_weightsOf : MethodName := ⟨RX12, "weightsOf", "(J)I"⟩
abbrev cX12_of : ByteArray := prog_14_method_64_code
def yX12_of : MethodName := ⟨RX12, "of", "(II)I"⟩
abbrev cX12_squareOfTracks : ByteArray := prog_14_method_65_code
def yX12_squareOfTracks : MethodName := ⟨RX12, "squareOfTracks", "(II)I"⟩
abbrev cX12_square : ByteArray := prog_14_method_66_code
def yX12_square : MethodName := ⟨RX12, "square", "(II)I"⟩
abbrev cX12_nearest : ByteArray := prog_14_method_67_code
def yX12_nearest : MethodName := ⟨RX12, "nearest", "(I)I"⟩
abbrev cX12_tree : ByteArray := prog_14_method_68_code
def yX12_tree : MethodName := ⟨RX12, "tree", "(II)I"⟩
abbrev cX12_aboveOf : ByteArray := prog_14_method_69_code
def yX12_aboveOf : MethodName := ⟨RX12, "aboveOf", "(II)I"⟩
abbrev cX12_wentBy : ByteArray := prog_14_method_70_code
def yX12_wentBy : MethodName := ⟨RX12, "wentBy", "(II)I"⟩
abbrev cX12_cameBy : ByteArray := prog_14_method_71_code
def yX12_cameBy : MethodName := ⟨RX12, "cameBy", "(II)I"⟩
abbrev cX12_joinedBy : ByteArray := prog_14_method_72_code
def yX12_joinedBy : MethodName := ⟨RX12, "joinedBy", "(II)I"⟩
abbrev cX12_knot : ByteArray := prog_14_method_73_code
def yX12_knot : MethodName := ⟨RX12, "knot", "(III)I"⟩
abbrev cX12_isStep : ByteArray := prog_14_method_74_code
def yX12_isStep : MethodName := ⟨RX12, "isStep", "(II)Z"⟩
abbrev cX12_step : ByteArray := prog_14_method_75_code
def yX12_step : MethodName := ⟨RX12, "step", "(III)I"⟩
abbrev cX12_layOf : ByteArray := prog_14_method_76_code
def yX12_layOf : MethodName := ⟨RX12, "layOf", "(I)V"⟩
abbrev cX12_upOfStep : ByteArray := prog_14_method_77_code
def yX12_upOfStep : MethodName := ⟨RX12, "upOfStep", "(II)J"⟩
abbrev cX12_downOfStep : ByteArray := prog_14_method_78_code
def yX12_downOfStep : MethodName := ⟨RX12, "downOfStep", "(II)J"⟩
abbrev cX12_up : ByteArray := prog_14_method_79_code
def yX12_up : MethodName := ⟨RX12, "up", "(II)J"⟩
abbrev cX12_down : ByteArray := prog_14_method_80_code
def yX12_down : MethodName := ⟨RX12, "down", "(II)J"⟩
abbrev cX12_leavesOf : ByteArray := prog_14_method_81_code
def yX12_leavesOf : MethodName := ⟨RX12, "leavesOf", "(II)J"⟩
abbrev cX12_leaves : ByteArray := prog_14_method_82_code
def yX12_leaves : MethodName := ⟨RX12, "leaves", "(II)J"⟩
abbrev cX12_isJet : ByteArray := prog_14_method_83_code
def yX12_isJet : MethodName := ⟨RX12, "isJet", "(II)Z"⟩
abbrev cX12_isAheadIn : ByteArray := prog_14_method_84_code
def yX12_isAheadIn : MethodName := ⟨RX12, "isAheadIn", "(III)Z"⟩
abbrev cX12_isHeavier : ByteArray := prog_14_method_85_code
def yX12_isHeavier : MethodName := ⟨RX12, "isHeavier", "(III)Z"⟩
abbrev cX12_jetBy : ByteArray := prog_14_method_86_code
def yX12_jetBy : MethodName := ⟨RX12, "jetBy", "(II)I"⟩
abbrev cX12_jet : ByteArray := prog_14_method_87_code
def yX12_jet : MethodName := ⟨RX12, "jet", "(II)I"⟩
abbrev cX12_jetOf : ByteArray := prog_14_method_88_code
def yX12_jetOf : MethodName := ⟨RX12, "jetOf", "(II)I"⟩
abbrev cX12_layStanding : ByteArray := prog_14_method_89_code
def yX12_layStanding : MethodName := ⟨RX12, "layStanding", "(IIZ)V"⟩
abbrev cX12_ofRow : ByteArray := prog_14_method_90_code
def yX12_ofRow : MethodName := ⟨RX12, "ofRow", "(I)I"⟩
abbrev cX12_left : ByteArray := prog_14_method_91_code
def yX12_left : MethodName := ⟨RX12, "left", "(III)I"⟩
abbrev cX12_stepsTo : ByteArray := prog_14_method_92_code
def yX12_stepsTo : MethodName := ⟨RX12, "stepsTo", "(II)I"⟩
abbrev cX12_isCut : ByteArray := prog_14_method_93_code
def yX12_isCut : MethodName := ⟨RX12, "isCut", "(II)Z"⟩
abbrev cX12_cut : ByteArray := prog_14_method_94_code
def yX12_cut : MethodName := ⟨RX12, "cut", "(III)I"⟩
abbrev cX12_cutBy : ByteArray := prog_14_method_95_code
def yX12_cutBy : MethodName := ⟨RX12, "cutBy", "(IIII)I"⟩
abbrev cX12_together : ByteArray := prog_14_method_96_code
def yX12_together : MethodName := ⟨RX12, "together", "(III)I"⟩
abbrev cX12_cutAt : ByteArray := prog_14_method_97_code
def yX12_cutAt : MethodName := ⟨RX12, "cutAt", "(I)I"⟩
abbrev cX12_keptAt : ByteArray := prog_14_method_98_code
def yX12_keptAt : MethodName := ⟨RX12, "keptAt", "(II)J"⟩
abbrev cX12_isPlaceOfCut : ByteArray := prog_14_method_99_code
def yX12_isPlaceOfCut : MethodName := ⟨RX12, "isPlaceOfCut", "(I)Z"⟩
abbrev cX12_keep : ByteArray := prog_14_method_100_code
def yX12_keep : MethodName := ⟨RX12, "keep", "(III)I"⟩
abbrev cX12_isKept : ByteArray := prog_14_method_101_code
def yX12_isKept : MethodName := ⟨RX12, "isKept", "(I)Z"⟩
abbrev cX12_kept : ByteArray := prog_14_method_102_code
def yX12_kept : MethodName := ⟨RX12, "kept", "(II)J"⟩
abbrev cX12_isInOne : ByteArray := prog_14_method_103_code
def yX12_isInOne : MethodName := ⟨RX12, "isInOne", "(IJ)Z"⟩
abbrev cX12_within : ByteArray := prog_14_method_104_code
def yX12_within : MethodName := ⟨RX12, "within", "(II)Z"⟩
abbrev cX12_partOf : ByteArray := prog_14_method_105_code
def yX12_partOf : MethodName := ⟨RX12, "partOf", "(III)I"⟩
abbrev cX12_squareOfParts : ByteArray := prog_14_method_106_code
def yX12_squareOfParts : MethodName := ⟨RX12, "squareOfParts", "(II)J"⟩
abbrev cX12_isWeak : ByteArray := prog_14_method_107_code
def yX12_isWeak : MethodName := ⟨RX12, "isWeak", "(IIII)Z"⟩
abbrev cX12_isMille : ByteArray := prog_14_method_108_code
def yX12_isMille : MethodName := ⟨RX12, "isMille", "(I)Z"⟩
abbrev cX12_isRadius : ByteArray := prog_14_method_109_code
def yX12_isRadius : MethodName := ⟨RX12, "isRadius", "(I)Z"⟩
abbrev cX12_groom : ByteArray := prog_14_method_110_code
def yX12_groom : MethodName := ⟨RX12, "groom", "(IIII)I"⟩
abbrev cX12_nthOf : ByteArray := prog_14_method_111_code
def yX12_nthOf : MethodName := ⟨RX12, "nthOf", "(JI)I"⟩
abbrev cX12_leavesOfLent : ByteArray := prog_14_method_112_code
def yX12_leavesOfLent : MethodName := ⟨RX12, "leavesOfLent", "(IJ)J"⟩
abbrev cX12_trim : ByteArray := prog_14_method_113_code
def yX12_trim : MethodName := ⟨RX12, "trim", "(IIII)J"⟩
abbrev cX12_prune : ByteArray := prog_14_method_114_code
def yX12_prune : MethodName := ⟨RX12, "prune", "(IIII)J"⟩
abbrev cX12_split : ByteArray := prog_14_method_115_code
def yX12_split : MethodName := ⟨RX12, "split", "(IIII)I"⟩
abbrev cX12_squareIn : ByteArray := prog_14_method_116_code
def yX12_squareIn : MethodName := ⟨RX12, "squareIn", "(III)J"⟩
abbrev cX12_width : ByteArray := prog_14_method_117_code
def yX12_width : MethodName := ⟨RX12, "width", "(II)J"⟩
abbrev cX12_closeness : ByteArray := prog_14_method_118_code
def yX12_closeness : MethodName := ⟨RX12, "closeness", "(II)J"⟩
abbrev cX12_layApart : ByteArray := prog_14_method_119_code
def yX12_layApart : MethodName := ⟨RX12, "layApart", "(III)V"⟩
abbrev cX12_tau : ByteArray := prog_14_method_120_code
def yX12_tau : MethodName := ⟨RX12, "tau", "(III)J"⟩
abbrev cX12_weightsIn : ByteArray := prog_14_method_121_code
def yX12_weightsIn : MethodName := ⟨RX12, "weightsIn", "(IJ)I"⟩
abbrev cX12_matched : ByteArray := prog_14_method_122_code
def yX12_matched : MethodName := ⟨RX12, "matched", "(III)I"⟩
abbrev cX12_hasJet : ByteArray := prog_14_method_123_code
def yX12_hasJet : MethodName := ⟨RX12, "hasJet", "(IJ)Z"⟩
abbrev cX12_unlikeOf : ByteArray := prog_14_method_124_code
def yX12_unlikeOf : MethodName := ⟨RX12, "unlikeOf", "(II)I"⟩
abbrev cX12_unlike : ByteArray := prog_14_method_125_code
def yX12_unlike : MethodName := ⟨RX12, "unlike", "(II)I"⟩
abbrev cX12_alike : ByteArray := prog_14_method_126_code
def yX12_alike : MethodName := ⟨RX12, "alike", "(II)Z"⟩
abbrev cX12_common_ : ByteArray := prog_14_method_127_code
def yX12_common_ : MethodName := ⟨RX12, "common", "(II)I"⟩
abbrev cX12_backToBack : ByteArray := prog_14_method_128_code
def yX12_backToBack : MethodName := ⟨RX12, "backToBack", "(I)I"⟩
abbrev cX12_fresh : ByteArray := prog_14_method_129_code
def yX12_fresh : MethodName := ⟨RX12, "fresh", "(I)Z"⟩
abbrev cX12_pairOf : ByteArray := prog_14_method_130_code
def yX12_pairOf : MethodName := ⟨RX12, "pairOf", "(III)J"⟩
abbrev cX12_pair : ByteArray := prog_14_method_131_code
def yX12_pair : MethodName := ⟨RX12, "pair", "(III)J"⟩
abbrev cX12_nearestPair : ByteArray := prog_14_method_132_code
def yX12_nearestPair : MethodName := ⟨RX12, "nearestPair", "(IJ)I"⟩
abbrev cX12_count : ByteArray := prog_14_method_133_code
def yX12_count : MethodName := ⟨RX12, "count", "(III)I"⟩
abbrev cX12_findTwo : ByteArray := prog_14_method_134_code
def yX12_findTwo : MethodName := ⟨RX12, "findTwo", "()Z"⟩
abbrev cX12_span : ByteArray := prog_14_method_135_code
def yX12_span : MethodName := ⟨RX12, "span", "(II)I"⟩
abbrev cX12_isRoundOf : ByteArray := prog_14_method_136_code
def yX12_isRoundOf : MethodName := ⟨RX12, "isRoundOf", "(I)Z"⟩
abbrev cX12_gap : ByteArray := prog_14_method_137_code
def yX12_gap : MethodName := ⟨RX12, "gap", "(I)I"⟩
abbrev cX12_tileOf : ByteArray := prog_14_method_138_code
def yX12_tileOf : MethodName := ⟨RX12, "tileOf", "(III)I"⟩
abbrev cX12_tracksIn : ByteArray := prog_14_method_139_code
def yX12_tracksIn : MethodName := ⟨RX12, "tracksIn", "(II)I"⟩
abbrev cX12_isFirstIn : ByteArray := prog_14_method_140_code
def yX12_isFirstIn : MethodName := ⟨RX12, "isFirstIn", "(II)Z"⟩
abbrev cX12_isSize : ByteArray := prog_14_method_141_code
def yX12_isSize : MethodName := ⟨RX12, "isSize", "(I)Z"⟩
abbrev cX12_tiles : ByteArray := prog_14_method_142_code
def yX12_tiles : MethodName := ⟨RX12, "tiles", "(II)I"⟩
abbrev cX12_pedestalOf : ByteArray := prog_14_method_143_code
def yX12_pedestalOf : MethodName := ⟨RX12, "pedestalOf", "(I)I"⟩
abbrev cX12_pedestal : ByteArray := prog_14_method_144_code
def yX12_pedestal : MethodName := ⟨RX12, "pedestal", "(I)I"⟩
abbrev cX12_clean : ByteArray := prog_14_method_145_code
def yX12_clean : MethodName := ⟨RX12, "clean", "(III)I"⟩
abbrev cX12_balanceOf : ByteArray := prog_14_method_146_code
def yX12_balanceOf : MethodName := ⟨RX12, "balanceOf", "(I)I"⟩
abbrev cX12_balance : ByteArray := prog_14_method_147_code
def yX12_balance : MethodName := ⟨RX12, "balance", "(I)I"⟩
abbrev cX12_axis : ByteArray := prog_14_method_148_code
def yX12_axis : MethodName := ⟨RX12, "axis", "()I"⟩
abbrev cX12_coneOf : ByteArray := prog_14_method_149_code
def yX12_coneOf : MethodName := ⟨RX12, "coneOf", "(III)J"⟩
abbrev cX12_layMean : ByteArray := prog_14_method_150_code
def yX12_layMean : MethodName := ⟨RX12, "layMean", "(J)V"⟩
abbrev cX12_isSteady : ByteArray := prog_14_method_151_code
def yX12_isSteady : MethodName := ⟨RX12, "isSteady", "(IIJ)Z"⟩
abbrev cX12_cone : ByteArray := prog_14_method_152_code
def yX12_cone : MethodName := ⟨RX12, "cone", "(IIII)I"⟩
abbrev cX12_stillFrom : ByteArray := prog_14_method_153_code
def yX12_stillFrom : MethodName := ⟨RX12, "stillFrom", "(II)J"⟩
abbrev cX12_layStill : ByteArray := prog_14_method_154_code
def yX12_layStill : MethodName := ⟨RX12, "layStill", "(I)V"⟩
abbrev cX12_still : ByteArray := prog_14_method_155_code
def yX12_still : MethodName := ⟨RX12, "still", "(II)J"⟩
abbrev cX12_heaviest : ByteArray := prog_14_method_156_code
def yX12_heaviest : MethodName := ⟨RX12, "heaviest", "(I)I"⟩
abbrev cX12_part : ByteArray := prog_14_method_157_code
def yX12_part : MethodName := ⟨RX12, "part", "(II)V"⟩
abbrev cX12_isMerged : ByteArray := prog_14_method_158_code
def yX12_isMerged : MethodName := ⟨RX12, "isMerged", "(III)Z"⟩
abbrev cX12_patch : ByteArray := prog_14_method_159_code
def yX12_patch : MethodName := ⟨RX12, "patch", "(III)J"⟩
abbrev cX12_image : ByteArray := prog_14_method_160_code
def yX12_image : MethodName := ⟨RX12, "image", "()I"⟩
abbrev cX12_back : ByteArray := prog_14_method_161_code
def yX12_back : MethodName := ⟨RX12, "back", "()I"⟩
abbrev cX12_steps : ByteArray := prog_14_method_162_code
def yX12_steps : MethodName := ⟨RX12, "steps", "()I"⟩
def RJxe99ae : String := "java/lang/Double"
def TJxe99ae : u_T := fun k => match k with
  | _ => ("", "", "", false)
def tyJxe99ae : Nat → FieldType := fun k => match k with
  | _ => .int
abbrev wsJxe99ae0 : List Cond := u_ws RJxe99ae TJxe99ae 0
theorem nmJxe99ae : ∀ a, a < 0 → ∀ b, b < 0 → a ≠ b → (TJxe99ae a).2.1 ≠ (TJxe99ae b).2.1 := by decide +kernel
theorem tyJxe99ae_ok : ∀ k, k < 0 → parseFieldDescriptor (TJxe99ae k).2.2.1 = some (tyJxe99ae k) := by decide +kernel
abbrev cJxe99ae_isNaN_b9ae7 : ByteArray := prog_15_method_6_code
def yJxe99ae_isNaN_b9ae7 : MethodName := ⟨RJxe99ae, "isNaN", "(D)Z"⟩
abbrev cJxe99ae_doubleToLongBits_ccdee : ByteArray := prog_15_method_23_code
def yJxe99ae_doubleToLongBits_ccdee : MethodName := ⟨RJxe99ae, "doubleToLongBits", "(D)J"⟩
def RJ13 : String := "java/lang/Long"
def TJ13 : u_T := fun k => match k with
  | _ => ("", "", "", false)
def tyJ13 : Nat → FieldType := fun k => match k with
  | _ => .int
abbrev wsJ130 : List Cond := u_ws RJ13 TJ13 0
theorem nmJ13 : ∀ a, a < 0 → ∀ b, b < 0 → a ≠ b → (TJ13 a).2.1 ≠ (TJ13 b).2.1 := by decide +kernel
theorem tyJ13_ok : ∀ k, k < 0 → parseFieldDescriptor (TJ13 k).2.2.1 = some (tyJ13 k) := by decide +kernel
abbrev cJ13_bitCount_95d88 : ByteArray := prog_16_method_50_code
def yJ13_bitCount_95d88 : MethodName := ⟨RJ13, "bitCount", "(J)I"⟩
def RJ9 : String := "java/lang/Math"
def TJ9 : u_T := fun k => match k with
  | _ => ("", "", "", false)
def tyJ9 : Nat → FieldType := fun k => match k with
  | _ => .int
abbrev wsJ90 : List Cond := u_ws RJ9 TJ9 0
theorem nmJ9 : ∀ a, a < 0 → ∀ b, b < 0 → a ≠ b → (TJ9 a).2.1 ≠ (TJ9 b).2.1 := by decide +kernel
theorem tyJ9_ok : ∀ k, k < 0 → parseFieldDescriptor (TJ9 k).2.2.1 = some (tyJ9 k) := by decide +kernel
abbrev cJ9_floorDiv_7cf53 : ByteArray := prog_17_method_47_code
def yJ9_floorDiv_7cf53 : MethodName := ⟨RJ9, "floorDiv", "(II)I"⟩
abbrev cJ9_floorMod_7cf53 : ByteArray := prog_17_method_50_code
def yJ9_floorMod_7cf53 : MethodName := ⟨RJ9, "floorMod", "(II)I"⟩
abbrev cJ9_abs_0f7a4 : ByteArray := prog_17_method_59_code
def yJ9_abs_0f7a4 : MethodName := ⟨RJ9, "abs", "(I)I"⟩
abbrev cJ9_abs_067f4 : ByteArray := prog_17_method_61_code
def yJ9_abs_067f4 : MethodName := ⟨RJ9, "abs", "(J)J"⟩
abbrev cJ9_max_7cf53 : ByteArray := prog_17_method_65_code
def yJ9_max_7cf53 : MethodName := ⟨RJ9, "max", "(II)I"⟩
abbrev cJ9_min_7cf53 : ByteArray := prog_17_method_69_code
def yJ9_min_7cf53 : MethodName := ⟨RJ9, "min", "(II)I"⟩
def RJ10 : String := "java/lang/System"
def TJ10 : u_T := fun k => match k with
  | _ => ("", "", "", false)
def tyJ10 : Nat → FieldType := fun k => match k with
  | _ => .int
abbrev wsJ100 : List Cond := u_ws RJ10 TJ10 0
theorem nmJ10 : ∀ a, a < 0 → ∀ b, b < 0 → a ≠ b → (TJ10 a).2.1 ≠ (TJ10 b).2.1 := by decide +kernel
theorem tyJ10_ok : ∀ k, k < 0 → parseFieldDescriptor (TJ10 k).2.2.1 = some (tyJ10 k) := by decide +kernel
def RL : String := "JetTreesLaw"
abbrev cL_law : ByteArray := code
def yL_law : MethodName := ⟨RL, "law", "([I)Z"⟩
abbrev vwCl : List vw_C := [(RX0, TX0, 4), (RX2, TX2, 7), (RX3, TX3, 1), (RX4, TX4, 9), (RX5, TX5, 7), (RX6, TX6, 8), (RX7, TX7, 5), (RX8, TX8, 3), (RX9, TX9, 6), (RX10, TX10, 11), (RX11, TX11, 6), (RX12, TX12, 27)]
