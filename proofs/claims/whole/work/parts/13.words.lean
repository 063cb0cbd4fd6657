/-! THE TABLES' WORDS, by their places (laid by gen.py) -/
theorem wl_0 : Jvm.Cond.selects "JetTrees" ({ cls := "JetTrees", name := "takeStep", desc := "(LJetTrees$State;)V" } : Jvm.MethodName) ({ cls := "JetTrees", name := "takeStep", desc := "(LJetTrees$State;)V" } : Jvm.MethodName) ∈ zTbl := zIn 0 (by decide +kernel) rfl
theorem wl_1 : Jvm.Cond.selects "JetTrees" ({ cls := "JetTrees", name := "replaceTrack", desc := "(LJetTrees$Body;)V" } : Jvm.MethodName) ({ cls := "JetTrees", name := "replaceTrack", desc := "(LJetTrees$Body;)V" } : Jvm.MethodName) ∈ zTbl := zIn 1 (by decide +kernel) rfl
theorem wl_2 : Jvm.Cond.selects "JetTrees" ({ cls := "JetTrees", name := "gatheredNow", desc := "()LJetTrees$Tree;" } : Jvm.MethodName) ({ cls := "JetTrees", name := "gatheredNow", desc := "()LJetTrees$Tree;" } : Jvm.MethodName) ∈ zTbl := zIn 2 (by decide +kernel) rfl
theorem wl_3 : Jvm.Cond.selects "JetTrees$Gatherer" ({ cls := "JetTrees$Gatherer", name := "putIn", desc := "(LJetTrees$Knot;)V" } : Jvm.MethodName) ({ cls := "JetTrees$Gatherer", name := "putIn", desc := "(LJetTrees$Knot;)V" } : Jvm.MethodName) ∈ zTbl := zIn 3 (by decide +kernel) rfl
theorem wl_4 : Jvm.Cond.selects "JetTrees$Gatherer" ({ cls := "JetTrees$Gatherer", name := "findLeast", desc := "()V" } : Jvm.MethodName) ({ cls := "JetTrees$Gatherer", name := "findLeast", desc := "()V" } : Jvm.MethodName) ∈ zTbl := zIn 4 (by decide +kernel) rfl
theorem wl_5 : Jvm.Cond.selects "JetTrees$Gatherer" ({ cls := "JetTrees$Gatherer", name := "offerAlone", desc := "(I)V" } : Jvm.MethodName) ({ cls := "JetTrees$Gatherer", name := "offerAlone", desc := "(I)V" } : Jvm.MethodName) ∈ zTbl := zIn 5 (by decide +kernel) rfl
theorem wl_6 : Jvm.Cond.selects "JetTrees$Gatherer" ({ cls := "JetTrees$Gatherer", name := "offer", desc := "(IIJJ)V" } : Jvm.MethodName) ({ cls := "JetTrees$Gatherer", name := "offer", desc := "(IIJJ)V" } : Jvm.MethodName) ∈ zTbl := zIn 6 (by decide +kernel) rfl
theorem wl_7 : Jvm.Cond.selects "JetTrees$Gatherer" ({ cls := "JetTrees$Gatherer", name := "offerTwo", desc := "(II)V" } : Jvm.MethodName) ({ cls := "JetTrees$Gatherer", name := "offerTwo", desc := "(II)V" } : Jvm.MethodName) ∈ zTbl := zIn 7 (by decide +kernel) rfl
theorem wl_8 : Jvm.Cond.selects "JetTrees$Gatherer" ({ cls := "JetTrees$Gatherer", name := "goToBeam", desc := "(I)V" } : Jvm.MethodName) ({ cls := "JetTrees$Gatherer", name := "goToBeam", desc := "(I)V" } : Jvm.MethodName) ∈ zTbl := zIn 8 (by decide +kernel) rfl
theorem wl_9 : Jvm.Cond.selects "JetTrees$Gatherer" ({ cls := "JetTrees$Gatherer", name := "takeOut", desc := "(I)V" } : Jvm.MethodName) ({ cls := "JetTrees$Gatherer", name := "takeOut", desc := "(I)V" } : Jvm.MethodName) ∈ zTbl := zIn 9 (by decide +kernel) rfl
theorem wl_10 : Jvm.Cond.selects "JetTrees$Gatherer" ({ cls := "JetTrees$Gatherer", name := "joinBest", desc := "(I)V" } : Jvm.MethodName) ({ cls := "JetTrees$Gatherer", name := "joinBest", desc := "(I)V" } : Jvm.MethodName) ∈ zTbl := zIn 10 (by decide +kernel) rfl
theorem wl_11 : Jvm.Cond.selects "JetTrees$Gatherer" ({ cls := "JetTrees$Gatherer", name := "joinedBody", desc := "(LJetTrees$Body;LJetTrees$Body;)LJetTrees$Body;" } : Jvm.MethodName) ({ cls := "JetTrees$Gatherer", name := "joinedBody", desc := "(LJetTrees$Body;LJetTrees$Body;)LJetTrees$Body;" } : Jvm.MethodName) ∈ zTbl := zIn 11 (by decide +kernel) rfl
theorem wl_12 : Jvm.Cond.selects "JetTrees" ({ cls := "JetTrees", name := "treeAt", desc := "(I)LJetTrees$Tree;" } : Jvm.MethodName) ({ cls := "JetTrees", name := "treeAt", desc := "(I)LJetTrees$Tree;" } : Jvm.MethodName) ∈ zTbl := zIn 12 (by decide +kernel) rfl
theorem wl_13 : Jvm.Cond.selects "JetTrees" ({ cls := "JetTrees", name := "knotAt", desc := "(II)LJetTrees$Knot;" } : Jvm.MethodName) ({ cls := "JetTrees", name := "knotAt", desc := "(II)LJetTrees$Knot;" } : Jvm.MethodName) ∈ zTbl := zIn 13 (by decide +kernel) rfl
theorem wl_14 : Jvm.Cond.selects "JetTrees" ({ cls := "JetTrees", name := "treeBits", desc := "()I" } : Jvm.MethodName) ({ cls := "JetTrees", name := "treeBits", desc := "()I" } : Jvm.MethodName) ∈ zTbl := zIn 14 (by decide +kernel) rfl
theorem wl_15 : Jvm.Cond.selects "JetTrees" ({ cls := "JetTrees", name := "stepAt", desc := "(II)LJetTrees$Step;" } : Jvm.MethodName) ({ cls := "JetTrees", name := "stepAt", desc := "(II)LJetTrees$Step;" } : Jvm.MethodName) ∈ zTbl := zIn 15 (by decide +kernel) rfl
theorem wl_16 : Jvm.Cond.selects "JetTrees" ({ cls := "JetTrees", name := "jetByWeight", desc := "(II)LJetTrees$Knot;" } : Jvm.MethodName) ({ cls := "JetTrees", name := "jetByWeight", desc := "(II)LJetTrees$Knot;" } : Jvm.MethodName) ∈ zTbl := zIn 16 (by decide +kernel) rfl
theorem wl_17 : Jvm.Cond.selects "JetTrees" ({ cls := "JetTrees", name := "keptAt", desc := "(I)[J" } : Jvm.MethodName) ({ cls := "JetTrees", name := "keptAt", desc := "(I)[J" } : Jvm.MethodName) ∈ zTbl := zIn 17 (by decide +kernel) rfl
theorem wl_18 : Jvm.Cond.selects "JetTrees$Event" ({ cls := "JetTrees$Event", name := "asTheyComeAhead", desc := "()[LJetTrees$Body;" } : Jvm.MethodName) ({ cls := "JetTrees$Event", name := "asTheyComeAhead", desc := "()[LJetTrees$Body;" } : Jvm.MethodName) ∈ zTbl := zIn 18 (by decide +kernel) rfl
theorem wl_19 : Jvm.Cond.selects "JetTrees$Event" ({ cls := "JetTrees$Event", name := "wayToNext", desc := "(I)I" } : Jvm.MethodName) ({ cls := "JetTrees$Event", name := "wayToNext", desc := "(I)I" } : Jvm.MethodName) ∈ zTbl := zIn 19 (by decide +kernel) rfl
theorem wl_20 : Jvm.Cond.selects "JetTrees$Cones" ({ cls := "JetTrees$Cones", name := "stillFrom", desc := "(LJetTrees$Body;I)J" } : Jvm.MethodName) ({ cls := "JetTrees$Cones", name := "stillFrom", desc := "(LJetTrees$Body;I)J" } : Jvm.MethodName) ∈ zTbl := zIn 20 (by decide +kernel) rfl
theorem wl_21 : Jvm.Cond.selects "JetTrees$Cones" ({ cls := "JetTrees$Cones", name := "isFound", desc := "(J)Z" } : Jvm.MethodName) ({ cls := "JetTrees$Cones", name := "isFound", desc := "(J)Z" } : Jvm.MethodName) ∈ zTbl := zIn 21 (by decide +kernel) rfl
theorem wl_22 : Jvm.Cond.selects "JetTrees$Cones" ({ cls := "JetTrees$Cones", name := "heaviest", desc := "(I)I" } : Jvm.MethodName) ({ cls := "JetTrees$Cones", name := "heaviest", desc := "(I)I" } : Jvm.MethodName) ∈ zTbl := zIn 22 (by decide +kernel) rfl
theorem wl_23 : Jvm.Cond.selects "JetTrees$Cones" ({ cls := "JetTrees$Cones", name := "makePatch", desc := "(I)V" } : Jvm.MethodName) ({ cls := "JetTrees$Cones", name := "makePatch", desc := "(I)V" } : Jvm.MethodName) ∈ zTbl := zIn 23 (by decide +kernel) rfl
theorem wl_24 : Jvm.Cond.selects "JetTrees$Cones" ({ cls := "JetTrees$Cones", name := "removeSet", desc := "(I)V" } : Jvm.MethodName) ({ cls := "JetTrees$Cones", name := "removeSet", desc := "(I)V" } : Jvm.MethodName) ∈ zTbl := zIn 24 (by decide +kernel) rfl
theorem wl_25 : Jvm.Cond.selects "JetTrees$Cones" ({ cls := "JetTrees$Cones", name := "settle", desc := "(III)V" } : Jvm.MethodName) ({ cls := "JetTrees$Cones", name := "settle", desc := "(III)V" } : Jvm.MethodName) ∈ zTbl := zIn 25 (by decide +kernel) rfl
theorem wl_26 : Jvm.Cond.selects "JetTrees$Cones" ({ cls := "JetTrees$Cones", name := "divide", desc := "(IIJ)V" } : Jvm.MethodName) ({ cls := "JetTrees$Cones", name := "divide", desc := "(IIJ)V" } : Jvm.MethodName) ∈ zTbl := zIn 26 (by decide +kernel) rfl
theorem wl_27 : Jvm.Cond.selects "JetTrees$Tiling" ({ cls := "JetTrees$Tiling", name := "lessThan", desc := "(I)I" } : Jvm.MethodName) ({ cls := "JetTrees$Tiling", name := "lessThan", desc := "(I)I" } : Jvm.MethodName) ∈ zTbl := zIn 27 (by decide +kernel) rfl
theorem wl_28 : Jvm.Cond.selects "JetTreesModel" ({ cls := "JetTreesModel", name := "tracks", desc := "()I" } : Jvm.MethodName) ({ cls := "JetTreesModel", name := "tracks", desc := "()I" } : Jvm.MethodName) ∈ zTbl := zIn 28 (by decide +kernel) rfl
theorem wl_29 : Jvm.Cond.selects "JetTreesModel" ({ cls := "JetTreesModel", name := "keepNow", desc := "()V" } : Jvm.MethodName) ({ cls := "JetTreesModel", name := "keepNow", desc := "()V" } : Jvm.MethodName) ∈ zTbl := zIn 29 (by decide +kernel) rfl
theorem wl_30 : Jvm.Cond.selects "JetTreesModel" ({ cls := "JetTreesModel", name := "layTrack", desc := "(IIII)V" } : Jvm.MethodName) ({ cls := "JetTreesModel", name := "layTrack", desc := "(IIII)V" } : Jvm.MethodName) ∈ zTbl := zIn 30 (by decide +kernel) rfl
theorem wl_31 : Jvm.Cond.selects "JetTreesModel" ({ cls := "JetTreesModel", name := "counted", desc := "(I)I" } : Jvm.MethodName) ({ cls := "JetTreesModel", name := "counted", desc := "(I)I" } : Jvm.MethodName) ∈ zTbl := zIn 31 (by decide +kernel) rfl
theorem wl_32 : Jvm.Cond.selects "JetTreesModel" ({ cls := "JetTreesModel", name := "isTrack", desc := "(I)Z" } : Jvm.MethodName) ({ cls := "JetTreesModel", name := "isTrack", desc := "(I)Z" } : Jvm.MethodName) ∈ zTbl := zIn 32 (by decide +kernel) rfl
theorem wl_33 : Jvm.Cond.selects "JetTreesModel" ({ cls := "JetTreesModel", name := "ofTrack", desc := "(II)I" } : Jvm.MethodName) ({ cls := "JetTreesModel", name := "ofTrack", desc := "(II)I" } : Jvm.MethodName) ∈ zTbl := zIn 33 (by decide +kernel) rfl
theorem wl_34 : Jvm.Cond.selects "JetTreesModel" ({ cls := "JetTreesModel", name := "draw", desc := "(I)I" } : Jvm.MethodName) ({ cls := "JetTreesModel", name := "draw", desc := "(I)I" } : Jvm.MethodName) ∈ zTbl := zIn 34 (by decide +kernel) rfl
theorem wl_35 : Jvm.Cond.selects "JetTreesModel" ({ cls := "JetTreesModel", name := "gatherNow", desc := "()V" } : Jvm.MethodName) ({ cls := "JetTreesModel", name := "gatherNow", desc := "()V" } : Jvm.MethodName) ∈ zTbl := zIn 35 (by decide +kernel) rfl
theorem wl_36 : Jvm.Cond.selects "JetTreesModel" ({ cls := "JetTreesModel", name := "layTracks", desc := "()V" } : Jvm.MethodName) ({ cls := "JetTreesModel", name := "layTracks", desc := "()V" } : Jvm.MethodName) ∈ zTbl := zIn 36 (by decide +kernel) rfl
theorem wl_37 : Jvm.Cond.selects "JetTreesModel" ({ cls := "JetTreesModel", name := "come", desc := "(IIIII)V" } : Jvm.MethodName) ({ cls := "JetTreesModel", name := "come", desc := "(IIIII)V" } : Jvm.MethodName) ∈ zTbl := zIn 37 (by decide +kernel) rfl
theorem wl_38 : Jvm.Cond.selects "JetTreesModel" ({ cls := "JetTreesModel", name := "gatherAll", desc := "(III)V" } : Jvm.MethodName) ({ cls := "JetTreesModel", name := "gatherAll", desc := "(III)V" } : Jvm.MethodName) ∈ zTbl := zIn 38 (by decide +kernel) rfl
theorem wl_39 : Jvm.Cond.selects "JetTreesModel" ({ cls := "JetTreesModel", name := "isAhead", desc := "(II)Z" } : Jvm.MethodName) ({ cls := "JetTreesModel", name := "isAhead", desc := "(II)Z" } : Jvm.MethodName) ∈ zTbl := zIn 39 (by decide +kernel) rfl
theorem wl_40 : Jvm.Cond.selects "JetTreesModel" ({ cls := "JetTreesModel", name := "isSooner", desc := "(IIII)Z" } : Jvm.MethodName) ({ cls := "JetTreesModel", name := "isSooner", desc := "(IIII)Z" } : Jvm.MethodName) ∈ zTbl := zIn 40 (by decide +kernel) rfl
theorem wl_41 : Jvm.Cond.selects "JetTreesModel" ({ cls := "JetTreesModel", name := "upOf", desc := "(II)J" } : Jvm.MethodName) ({ cls := "JetTreesModel", name := "upOf", desc := "(II)J" } : Jvm.MethodName) ∈ zTbl := zIn 41 (by decide +kernel) rfl
theorem wl_42 : Jvm.Cond.selects "JetTreesModel" ({ cls := "JetTreesModel", name := "downOf", desc := "(II)J" } : Jvm.MethodName) ({ cls := "JetTreesModel", name := "downOf", desc := "(II)J" } : Jvm.MethodName) ∈ zTbl := zIn 42 (by decide +kernel) rfl
theorem wl_43 : Jvm.Cond.selects "JetTreesModel" ({ cls := "JetTreesModel", name := "join", desc := "(II)V" } : Jvm.MethodName) ({ cls := "JetTreesModel", name := "join", desc := "(II)V" } : Jvm.MethodName) ∈ zTbl := zIn 43 (by decide +kernel) rfl
theorem wl_44 : Jvm.Cond.selects "JetTreesModel" ({ cls := "JetTreesModel", name := "layTree", desc := "(I)V" } : Jvm.MethodName) ({ cls := "JetTreesModel", name := "layTree", desc := "(I)V" } : Jvm.MethodName) ∈ zTbl := zIn 44 (by decide +kernel) rfl
theorem wl_45 : Jvm.Cond.selects "JetTreesModel" ({ cls := "JetTreesModel", name := "clearTree", desc := "(I)V" } : Jvm.MethodName) ({ cls := "JetTreesModel", name := "clearTree", desc := "(I)V" } : Jvm.MethodName) ∈ zTbl := zIn 45 (by decide +kernel) rfl
theorem wl_46 : Jvm.Cond.selects "JetTreesModel" ({ cls := "JetTreesModel", name := "jetsOf", desc := "(I)I" } : Jvm.MethodName) ({ cls := "JetTreesModel", name := "jetsOf", desc := "(I)I" } : Jvm.MethodName) ∈ zTbl := zIn 46 (by decide +kernel) rfl
theorem wl_47 : Jvm.Cond.selects "JetTreesModel" ({ cls := "JetTreesModel", name := "ofTree", desc := "(II)I" } : Jvm.MethodName) ({ cls := "JetTreesModel", name := "ofTree", desc := "(II)I" } : Jvm.MethodName) ∈ zTbl := zIn 47 (by decide +kernel) rfl
theorem wl_48 : Jvm.Cond.selects "JetTreesModel" ({ cls := "JetTreesModel", name := "isKnot", desc := "(II)Z" } : Jvm.MethodName) ({ cls := "JetTreesModel", name := "isKnot", desc := "(II)Z" } : Jvm.MethodName) ∈ zTbl := zIn 48 (by decide +kernel) rfl
theorem wl_49 : Jvm.Cond.selects "JetTreesModel" ({ cls := "JetTreesModel", name := "isTree", desc := "(I)Z" } : Jvm.MethodName) ({ cls := "JetTreesModel", name := "isTree", desc := "(I)Z" } : Jvm.MethodName) ∈ zTbl := zIn 49 (by decide +kernel) rfl
theorem wl_50 : Jvm.Cond.selects "JetTreesModel" ({ cls := "JetTreesModel", name := "leavesOf", desc := "(II)J" } : Jvm.MethodName) ({ cls := "JetTreesModel", name := "leavesOf", desc := "(II)J" } : Jvm.MethodName) ∈ zTbl := zIn 50 (by decide +kernel) rfl
theorem wl_51 : Jvm.Cond.selects "JetTreesModel" ({ cls := "JetTreesModel", name := "isJoined", desc := "(II)Z" } : Jvm.MethodName) ({ cls := "JetTreesModel", name := "isJoined", desc := "(II)Z" } : Jvm.MethodName) ∈ zTbl := zIn 51 (by decide +kernel) rfl
theorem wl_52 : Jvm.Cond.selects "JetTreesModel" ({ cls := "JetTreesModel", name := "ofKnot", desc := "(III)I" } : Jvm.MethodName) ({ cls := "JetTreesModel", name := "ofKnot", desc := "(III)I" } : Jvm.MethodName) ∈ zTbl := zIn 52 (by decide +kernel) rfl
theorem wl_53 : Jvm.Cond.selects "JetTreesModel" ({ cls := "JetTreesModel", name := "layLeaves", desc := "(IJ)V" } : Jvm.MethodName) ({ cls := "JetTreesModel", name := "layLeaves", desc := "(IJ)V" } : Jvm.MethodName) ∈ zTbl := zIn 53 (by decide +kernel) rfl
theorem wl_54 : Jvm.Cond.selects "JetTreesModel" ({ cls := "JetTreesModel", name := "weightOf", desc := "(II)I" } : Jvm.MethodName) ({ cls := "JetTreesModel", name := "weightOf", desc := "(II)I" } : Jvm.MethodName) ∈ zTbl := zIn 54 (by decide +kernel) rfl
theorem wl_55 : Jvm.Cond.selects "JetTreesModel" ({ cls := "JetTreesModel", name := "allTracks", desc := "()J" } : Jvm.MethodName) ({ cls := "JetTreesModel", name := "allTracks", desc := "()J" } : Jvm.MethodName) ∈ zTbl := zIn 55 (by decide +kernel) rfl
theorem wl_56 : Jvm.Cond.selects "JetTreesModel" ({ cls := "JetTreesModel", name := "weightsOf", desc := "(J)I" } : Jvm.MethodName) ({ cls := "JetTreesModel", name := "weightsOf", desc := "(J)I" } : Jvm.MethodName) ∈ zTbl := zIn 56 (by decide +kernel) rfl
theorem wl_57 : Jvm.Cond.selects "JetTreesModel" ({ cls := "JetTreesModel", name := "squareOfTracks", desc := "(II)I" } : Jvm.MethodName) ({ cls := "JetTreesModel", name := "squareOfTracks", desc := "(II)I" } : Jvm.MethodName) ∈ zTbl := zIn 57 (by decide +kernel) rfl
theorem wl_58 : Jvm.Cond.selects "JetTreesModel" ({ cls := "JetTreesModel", name := "aboveOf", desc := "(II)I" } : Jvm.MethodName) ({ cls := "JetTreesModel", name := "aboveOf", desc := "(II)I" } : Jvm.MethodName) ∈ zTbl := zIn 58 (by decide +kernel) rfl
theorem wl_59 : Jvm.Cond.selects "JetTreesModel" ({ cls := "JetTreesModel", name := "joinedBy", desc := "(II)I" } : Jvm.MethodName) ({ cls := "JetTreesModel", name := "joinedBy", desc := "(II)I" } : Jvm.MethodName) ∈ zTbl := zIn 59 (by decide +kernel) rfl
theorem wl_60 : Jvm.Cond.selects "JetTreesModel" ({ cls := "JetTreesModel", name := "cameBy", desc := "(II)I" } : Jvm.MethodName) ({ cls := "JetTreesModel", name := "cameBy", desc := "(II)I" } : Jvm.MethodName) ∈ zTbl := zIn 60 (by decide +kernel) rfl
theorem wl_61 : Jvm.Cond.selects "JetTreesModel" ({ cls := "JetTreesModel", name := "ofStep", desc := "(III)I" } : Jvm.MethodName) ({ cls := "JetTreesModel", name := "ofStep", desc := "(III)I" } : Jvm.MethodName) ∈ zTbl := zIn 61 (by decide +kernel) rfl
theorem wl_62 : Jvm.Cond.selects "JetTreesModel" ({ cls := "JetTreesModel", name := "wentBy", desc := "(II)I" } : Jvm.MethodName) ({ cls := "JetTreesModel", name := "wentBy", desc := "(II)I" } : Jvm.MethodName) ∈ zTbl := zIn 62 (by decide +kernel) rfl
theorem wl_63 : Jvm.Cond.selects "JetTreesModel" ({ cls := "JetTreesModel", name := "isStep", desc := "(II)Z" } : Jvm.MethodName) ({ cls := "JetTreesModel", name := "isStep", desc := "(II)Z" } : Jvm.MethodName) ∈ zTbl := zIn 63 (by decide +kernel) rfl
theorem wl_64 : Jvm.Cond.selects "JetTreesModel" ({ cls := "JetTreesModel", name := "stepsOf", desc := "(I)I" } : Jvm.MethodName) ({ cls := "JetTreesModel", name := "stepsOf", desc := "(I)I" } : Jvm.MethodName) ∈ zTbl := zIn 64 (by decide +kernel) rfl
theorem wl_65 : Jvm.Cond.selects "JetTreesModel" ({ cls := "JetTreesModel", name := "layOf", desc := "(I)V" } : Jvm.MethodName) ({ cls := "JetTreesModel", name := "layOf", desc := "(I)V" } : Jvm.MethodName) ∈ zTbl := zIn 65 (by decide +kernel) rfl
theorem wl_66 : Jvm.Cond.selects "JetTreesModel" ({ cls := "JetTreesModel", name := "upOfStep", desc := "(II)J" } : Jvm.MethodName) ({ cls := "JetTreesModel", name := "upOfStep", desc := "(II)J" } : Jvm.MethodName) ∈ zTbl := zIn 66 (by decide +kernel) rfl
theorem wl_67 : Jvm.Cond.selects "JetTreesModel" ({ cls := "JetTreesModel", name := "downOfStep", desc := "(II)J" } : Jvm.MethodName) ({ cls := "JetTreesModel", name := "downOfStep", desc := "(II)J" } : Jvm.MethodName) ∈ zTbl := zIn 67 (by decide +kernel) rfl
theorem wl_68 : Jvm.Cond.selects "JetTreesModel" ({ cls := "JetTreesModel", name := "jetBy", desc := "(II)I" } : Jvm.MethodName) ({ cls := "JetTreesModel", name := "jetBy", desc := "(II)I" } : Jvm.MethodName) ∈ zTbl := zIn 68 (by decide +kernel) rfl
theorem wl_69 : Jvm.Cond.selects "JetTreesModel" ({ cls := "JetTreesModel", name := "isJet", desc := "(II)Z" } : Jvm.MethodName) ({ cls := "JetTreesModel", name := "isJet", desc := "(II)Z" } : Jvm.MethodName) ∈ zTbl := zIn 69 (by decide +kernel) rfl
theorem wl_70 : Jvm.Cond.selects "JetTreesModel" ({ cls := "JetTreesModel", name := "isHeavier", desc := "(III)Z" } : Jvm.MethodName) ({ cls := "JetTreesModel", name := "isHeavier", desc := "(III)Z" } : Jvm.MethodName) ∈ zTbl := zIn 70 (by decide +kernel) rfl
theorem wl_71 : Jvm.Cond.selects "JetTreesModel" ({ cls := "JetTreesModel", name := "isAheadIn", desc := "(III)Z" } : Jvm.MethodName) ({ cls := "JetTreesModel", name := "isAheadIn", desc := "(III)Z" } : Jvm.MethodName) ∈ zTbl := zIn 71 (by decide +kernel) rfl
theorem wl_72 : Jvm.Cond.selects "JetTreesModel" ({ cls := "JetTreesModel", name := "layStanding", desc := "(IIZ)V" } : Jvm.MethodName) ({ cls := "JetTreesModel", name := "layStanding", desc := "(IIZ)V" } : Jvm.MethodName) ∈ zTbl := zIn 72 (by decide +kernel) rfl
theorem wl_73 : Jvm.Cond.selects "JetTreesModel" ({ cls := "JetTreesModel", name := "ofRow", desc := "(I)I" } : Jvm.MethodName) ({ cls := "JetTreesModel", name := "ofRow", desc := "(I)I" } : Jvm.MethodName) ∈ zTbl := zIn 73 (by decide +kernel) rfl
theorem wl_74 : Jvm.Cond.selects "JetTreesModel" ({ cls := "JetTreesModel", name := "isCut", desc := "(II)Z" } : Jvm.MethodName) ({ cls := "JetTreesModel", name := "isCut", desc := "(II)Z" } : Jvm.MethodName) ∈ zTbl := zIn 74 (by decide +kernel) rfl
theorem wl_75 : Jvm.Cond.selects "JetTreesModel" ({ cls := "JetTreesModel", name := "stepsTo", desc := "(II)I" } : Jvm.MethodName) ({ cls := "JetTreesModel", name := "stepsTo", desc := "(II)I" } : Jvm.MethodName) ∈ zTbl := zIn 75 (by decide +kernel) rfl
theorem wl_76 : Jvm.Cond.selects "JetTreesModel" ({ cls := "JetTreesModel", name := "isKept", desc := "(I)Z" } : Jvm.MethodName) ({ cls := "JetTreesModel", name := "isKept", desc := "(I)Z" } : Jvm.MethodName) ∈ zTbl := zIn 76 (by decide +kernel) rfl
theorem wl_77 : Jvm.Cond.selects "JetTreesModel" ({ cls := "JetTreesModel", name := "keptAt", desc := "(II)J" } : Jvm.MethodName) ({ cls := "JetTreesModel", name := "keptAt", desc := "(II)J" } : Jvm.MethodName) ∈ zTbl := zIn 77 (by decide +kernel) rfl
theorem wl_78 : Jvm.Cond.selects "JetTreesModel" ({ cls := "JetTreesModel", name := "isInOne", desc := "(IJ)Z" } : Jvm.MethodName) ({ cls := "JetTreesModel", name := "isInOne", desc := "(IJ)Z" } : Jvm.MethodName) ∈ zTbl := zIn 78 (by decide +kernel) rfl
theorem wl_79 : Jvm.Cond.selects "JetTreesModel" ({ cls := "JetTreesModel", name := "isWeak", desc := "(IIII)Z" } : Jvm.MethodName) ({ cls := "JetTreesModel", name := "isWeak", desc := "(IIII)Z" } : Jvm.MethodName) ∈ zTbl := zIn 79 (by decide +kernel) rfl
theorem wl_80 : Jvm.Cond.selects "JetTreesModel" ({ cls := "JetTreesModel", name := "partOf", desc := "(III)I" } : Jvm.MethodName) ({ cls := "JetTreesModel", name := "partOf", desc := "(III)I" } : Jvm.MethodName) ∈ zTbl := zIn 80 (by decide +kernel) rfl
theorem wl_81 : Jvm.Cond.selects "JetTreesModel" ({ cls := "JetTreesModel", name := "squareOfParts", desc := "(II)J" } : Jvm.MethodName) ({ cls := "JetTreesModel", name := "squareOfParts", desc := "(II)J" } : Jvm.MethodName) ∈ zTbl := zIn 81 (by decide +kernel) rfl
theorem wl_82 : Jvm.Cond.selects "JetTreesModel" ({ cls := "JetTreesModel", name := "leavesOfLent", desc := "(IJ)J" } : Jvm.MethodName) ({ cls := "JetTreesModel", name := "leavesOfLent", desc := "(IJ)J" } : Jvm.MethodName) ∈ zTbl := zIn 82 (by decide +kernel) rfl
theorem wl_83 : Jvm.Cond.selects "JetTreesModel" ({ cls := "JetTreesModel", name := "squareIn", desc := "(III)J" } : Jvm.MethodName) ({ cls := "JetTreesModel", name := "squareIn", desc := "(III)J" } : Jvm.MethodName) ∈ zTbl := zIn 83 (by decide +kernel) rfl
theorem wl_84 : Jvm.Cond.selects "JetTreesModel" ({ cls := "JetTreesModel", name := "layApart", desc := "(III)V" } : Jvm.MethodName) ({ cls := "JetTreesModel", name := "layApart", desc := "(III)V" } : Jvm.MethodName) ∈ zTbl := zIn 84 (by decide +kernel) rfl
theorem wl_85 : Jvm.Cond.selects "JetTreesModel" ({ cls := "JetTreesModel", name := "weightsIn", desc := "(IJ)I" } : Jvm.MethodName) ({ cls := "JetTreesModel", name := "weightsIn", desc := "(IJ)I" } : Jvm.MethodName) ∈ zTbl := zIn 85 (by decide +kernel) rfl
theorem wl_86 : Jvm.Cond.selects "JetTreesModel" ({ cls := "JetTreesModel", name := "unlikeOf", desc := "(II)I" } : Jvm.MethodName) ({ cls := "JetTreesModel", name := "unlikeOf", desc := "(II)I" } : Jvm.MethodName) ∈ zTbl := zIn 86 (by decide +kernel) rfl
theorem wl_87 : Jvm.Cond.selects "JetTreesModel" ({ cls := "JetTreesModel", name := "hasJet", desc := "(IJ)Z" } : Jvm.MethodName) ({ cls := "JetTreesModel", name := "hasJet", desc := "(IJ)Z" } : Jvm.MethodName) ∈ zTbl := zIn 87 (by decide +kernel) rfl
theorem wl_88 : Jvm.Cond.selects "JetTreesModel" ({ cls := "JetTreesModel", name := "pairOf", desc := "(III)J" } : Jvm.MethodName) ({ cls := "JetTreesModel", name := "pairOf", desc := "(III)J" } : Jvm.MethodName) ∈ zTbl := zIn 88 (by decide +kernel) rfl
theorem wl_89 : Jvm.Cond.selects "JetTreesModel" ({ cls := "JetTreesModel", name := "findTwo", desc := "()Z" } : Jvm.MethodName) ({ cls := "JetTreesModel", name := "findTwo", desc := "()Z" } : Jvm.MethodName) ∈ zTbl := zIn 89 (by decide +kernel) rfl
theorem wl_90 : Jvm.Cond.selects "JetTreesModel" ({ cls := "JetTreesModel", name := "isRoundOf", desc := "(I)Z" } : Jvm.MethodName) ({ cls := "JetTreesModel", name := "isRoundOf", desc := "(I)Z" } : Jvm.MethodName) ∈ zTbl := zIn 90 (by decide +kernel) rfl
theorem wl_91 : Jvm.Cond.selects "JetTreesModel" ({ cls := "JetTreesModel", name := "tileOf", desc := "(III)I" } : Jvm.MethodName) ({ cls := "JetTreesModel", name := "tileOf", desc := "(III)I" } : Jvm.MethodName) ∈ zTbl := zIn 91 (by decide +kernel) rfl
theorem wl_92 : Jvm.Cond.selects "JetTreesModel" ({ cls := "JetTreesModel", name := "tracksIn", desc := "(II)I" } : Jvm.MethodName) ({ cls := "JetTreesModel", name := "tracksIn", desc := "(II)I" } : Jvm.MethodName) ∈ zTbl := zIn 92 (by decide +kernel) rfl
theorem wl_93 : Jvm.Cond.selects "JetTreesModel" ({ cls := "JetTreesModel", name := "isFirstIn", desc := "(II)Z" } : Jvm.MethodName) ({ cls := "JetTreesModel", name := "isFirstIn", desc := "(II)Z" } : Jvm.MethodName) ∈ zTbl := zIn 93 (by decide +kernel) rfl
theorem wl_94 : Jvm.Cond.selects "JetTreesModel" ({ cls := "JetTreesModel", name := "pedestalOf", desc := "(I)I" } : Jvm.MethodName) ({ cls := "JetTreesModel", name := "pedestalOf", desc := "(I)I" } : Jvm.MethodName) ∈ zTbl := zIn 94 (by decide +kernel) rfl
theorem wl_95 : Jvm.Cond.selects "JetTreesModel" ({ cls := "JetTreesModel", name := "balanceOf", desc := "(I)I" } : Jvm.MethodName) ({ cls := "JetTreesModel", name := "balanceOf", desc := "(I)I" } : Jvm.MethodName) ∈ zTbl := zIn 95 (by decide +kernel) rfl
theorem wl_96 : Jvm.Cond.selects "JetTreesModel" ({ cls := "JetTreesModel", name := "coneOf", desc := "(III)J" } : Jvm.MethodName) ({ cls := "JetTreesModel", name := "coneOf", desc := "(III)J" } : Jvm.MethodName) ∈ zTbl := zIn 96 (by decide +kernel) rfl
theorem wl_97 : Jvm.Cond.selects "JetTreesModel" ({ cls := "JetTreesModel", name := "isSteady", desc := "(IIJ)Z" } : Jvm.MethodName) ({ cls := "JetTreesModel", name := "isSteady", desc := "(IIJ)Z" } : Jvm.MethodName) ∈ zTbl := zIn 97 (by decide +kernel) rfl
theorem wl_98 : Jvm.Cond.selects "JetTreesModel" ({ cls := "JetTreesModel", name := "layMean", desc := "(J)V" } : Jvm.MethodName) ({ cls := "JetTreesModel", name := "layMean", desc := "(J)V" } : Jvm.MethodName) ∈ zTbl := zIn 98 (by decide +kernel) rfl
theorem wl_99 : Jvm.Cond.selects "JetTreesModel" ({ cls := "JetTreesModel", name := "layStill", desc := "(I)V" } : Jvm.MethodName) ({ cls := "JetTreesModel", name := "layStill", desc := "(I)V" } : Jvm.MethodName) ∈ zTbl := zIn 99 (by decide +kernel) rfl
theorem wl_100 : Jvm.Cond.selects "JetTreesModel" ({ cls := "JetTreesModel", name := "stillFrom", desc := "(II)J" } : Jvm.MethodName) ({ cls := "JetTreesModel", name := "stillFrom", desc := "(II)J" } : Jvm.MethodName) ∈ zTbl := zIn 100 (by decide +kernel) rfl
theorem wl_101 : Jvm.Cond.selects "JetTreesModel" ({ cls := "JetTreesModel", name := "heaviest", desc := "(I)I" } : Jvm.MethodName) ({ cls := "JetTreesModel", name := "heaviest", desc := "(I)I" } : Jvm.MethodName) ∈ zTbl := zIn 101 (by decide +kernel) rfl
theorem wl_102 : Jvm.Cond.selects "JetTreesModel" ({ cls := "JetTreesModel", name := "isMerged", desc := "(III)Z" } : Jvm.MethodName) ({ cls := "JetTreesModel", name := "isMerged", desc := "(III)Z" } : Jvm.MethodName) ∈ zTbl := zIn 102 (by decide +kernel) rfl
theorem wl_103 : Jvm.Cond.selects "JetTreesModel" ({ cls := "JetTreesModel", name := "part", desc := "(II)V" } : Jvm.MethodName) ({ cls := "JetTreesModel", name := "part", desc := "(II)V" } : Jvm.MethodName) ∈ zTbl := zIn 103 (by decide +kernel) rfl
theorem wl_105 : Jvm.Cond.initialized "JetTrees" ∈ zTbl := zIn 105 (by decide +kernel) rfl
theorem wl_106 : Jvm.Cond.initialized "JetTrees$State" ∈ zTbl := zIn 106 (by decide +kernel) rfl
theorem wl_107 : Jvm.Cond.initialized "JetTrees$Event" ∈ zTbl := zIn 107 (by decide +kernel) rfl
theorem wl_108 : Jvm.Cond.initialized "JetTreesModel" ∈ zTbl := zIn 108 (by decide +kernel) rfl
theorem wl_109 : Jvm.Cond.initialized "java/lang/Math" ∈ zTbl := zIn 109 (by decide +kernel) rfl
theorem wl_110 : Jvm.Cond.initialized "java/lang/System" ∈ zTbl := zIn 110 (by decide +kernel) rfl
theorem wl_111 : Jvm.Cond.initialized "JetTrees$Body" ∈ zTbl := zIn 111 (by decide +kernel) rfl
theorem wl_112 : Jvm.Cond.initialized "JetTrees$Gatherer" ∈ zTbl := zIn 112 (by decide +kernel) rfl
theorem wl_113 : Jvm.Cond.initialized "JetTrees$Tree" ∈ zTbl := zIn 113 (by decide +kernel) rfl
theorem wl_114 : Jvm.Cond.initialized "JetTrees$Sum" ∈ zTbl := zIn 114 (by decide +kernel) rfl
theorem wl_115 : Jvm.Cond.initialized "JetTrees$Knot" ∈ zTbl := zIn 115 (by decide +kernel) rfl
theorem wl_116 : Jvm.Cond.initialized "JetTrees$Step" ∈ zTbl := zIn 116 (by decide +kernel) rfl
theorem wl_117 : Jvm.Cond.initialized "JetTrees$Branches" ∈ zTbl := zIn 117 (by decide +kernel) rfl
theorem wl_118 : Jvm.Cond.initialized "java/lang/Long" ∈ zTbl := zIn 118 (by decide +kernel) rfl
theorem wl_119 : Jvm.Cond.initialized "java/lang/Double" ∈ zTbl := zIn 119 (by decide +kernel) rfl
theorem wl_120 : Jvm.Cond.initialized "JetTrees$Tiling" ∈ zTbl := zIn 120 (by decide +kernel) rfl
theorem wl_121 : Jvm.Cond.initialized "JetTrees$Cones" ∈ zTbl := zIn 121 (by decide +kernel) rfl
theorem wl_122 : Jvm.Cond.classLink "JetTreesLaw" (7 : Nat) "JetTrees" ∈ zTbl := zIn 122 (by decide +kernel) rfl
theorem wl_123 : Jvm.Cond.instantiable "JetTrees" (6 : Nat) ∈ zTbl := zIn 123 (by decide +kernel) rfl
theorem wl_124 : Jvm.Cond.methodLink "JetTreesLaw" (9 : Nat) ({ cls := "JetTrees", name := "<init>", desc := "()V" } : Jvm.MethodName) ∈ zTbl := zIn 124 (by decide +kernel) rfl
theorem wl_125 : Jvm.Cond.instanceMethod ({ cls := "JetTrees", name := "<init>", desc := "()V" } : Jvm.MethodName) ∈ zTbl := zIn 125 (by decide +kernel) rfl
theorem wl_126 : Jvm.Cond.code ({ cls := "JetTrees", name := "<init>", desc := "()V" } : Jvm.MethodName) prog_1_method_1_code (1 : Nat) (Option.none : Option Jvm.ClassFile.FieldType) ∈ zTbl := zIn 126 (by decide +kernel) rfl
theorem wl_127 : Jvm.Cond.methodLink "JetTrees" (1 : Nat) ({ cls := "java/lang/Object", name := "<init>", desc := "()V" } : Jvm.MethodName) ∈ zTbl := zIn 127 (by decide +kernel) rfl
theorem wl_128 : Jvm.Cond.instanceMethod ({ cls := "java/lang/Object", name := "<init>", desc := "()V" } : Jvm.MethodName) ∈ zTbl := zIn 128 (by decide +kernel) rfl
theorem wl_129 : Jvm.Cond.code ({ cls := "java/lang/Object", name := "<init>", desc := "()V" } : Jvm.MethodName) object_method_1_code (1 : Nat) (Option.none : Option Jvm.ClassFile.FieldType) ∈ zTbl := zIn 129 (by decide +kernel) rfl
theorem wl_130 : Jvm.Cond.classLink "JetTrees" (7 : Nat) "JetTrees$State" ∈ zTbl := zIn 130 (by decide +kernel) rfl
theorem wl_131 : Jvm.Cond.instantiable "JetTrees$State" (8 : Nat) ∈ zTbl := zIn 131 (by decide +kernel) rfl
theorem wl_132 : Jvm.Cond.methodLink "JetTrees" (9 : Nat) ({ cls := "JetTrees$State", name := "<init>", desc := "()V" } : Jvm.MethodName) ∈ zTbl := zIn 132 (by decide +kernel) rfl
theorem wl_133 : Jvm.Cond.instanceMethod ({ cls := "JetTrees$State", name := "<init>", desc := "()V" } : Jvm.MethodName) ∈ zTbl := zIn 133 (by decide +kernel) rfl
theorem wl_134 : Jvm.Cond.code ({ cls := "JetTrees$State", name := "<init>", desc := "()V" } : Jvm.MethodName) prog_8_method_1_code (2 : Nat) (Option.none : Option Jvm.ClassFile.FieldType) ∈ zTbl := zIn 134 (by decide +kernel) rfl
theorem wl_135 : Jvm.Cond.methodLink "JetTrees$State" (3 : Nat) ({ cls := "java/lang/Object", name := "<init>", desc := "()V" } : Jvm.MethodName) ∈ zTbl := zIn 135 (by decide +kernel) rfl
theorem wl_136 : Jvm.Cond.classLink "JetTrees$State" (27 : Nat) "JetTrees$Event" ∈ zTbl := zIn 136 (by decide +kernel) rfl
theorem wl_137 : Jvm.Cond.arrayOver (Jvm.ClassFile.FieldType.object "JetTrees$Event") ∈ zTbl := zIn 137 (by decide +kernel) rfl
theorem wl_138 : Jvm.Cond.instantiable "JetTrees$Event" (1 : Nat) ∈ zTbl := zIn 138 (by decide +kernel) rfl
theorem wl_139 : Jvm.Cond.classLink "JetTrees$State" (33 : Nat) "JetTrees$Body" ∈ zTbl := zIn 139 (by decide +kernel) rfl
theorem wl_140 : Jvm.Cond.arrayOver (Jvm.ClassFile.FieldType.object "JetTrees$Body") ∈ zTbl := zIn 140 (by decide +kernel) rfl
theorem wl_141 : Jvm.Cond.methodLink "JetTrees$State" (35 : Nat) ({ cls := "JetTrees$Event", name := "<init>", desc := "([LJetTrees$Body;)V" } : Jvm.MethodName) ∈ zTbl := zIn 141 (by decide +kernel) rfl
theorem wl_142 : Jvm.Cond.instanceMethod ({ cls := "JetTrees$Event", name := "<init>", desc := "([LJetTrees$Body;)V" } : Jvm.MethodName) ∈ zTbl := zIn 142 (by decide +kernel) rfl
theorem wl_143 : Jvm.Cond.code ({ cls := "JetTrees$Event", name := "<init>", desc := "([LJetTrees$Body;)V" } : Jvm.MethodName) prog_5_method_1_code (2 : Nat) (Option.none : Option Jvm.ClassFile.FieldType) ∈ zTbl := zIn 143 (by decide +kernel) rfl
theorem wl_144 : Jvm.Cond.methodLink "JetTrees$Event" (3 : Nat) ({ cls := "java/lang/Object", name := "<init>", desc := "()V" } : Jvm.MethodName) ∈ zTbl := zIn 144 (by decide +kernel) rfl
theorem wl_145 : Jvm.Cond.fieldLink "JetTrees$Event" (9 : Nat) "JetTrees$Event" "tracks" "[LJetTrees$Body;" ∈ zTbl := zIn 145 (by decide +kernel) rfl
theorem wl_146 : Jvm.Cond.fieldLink "JetTrees" (85 : Nat) "JetTrees$Event" "tracks" "[LJetTrees$Body;" ∈ zTbl := zIn 146 (by decide +kernel) rfl
theorem wl_150 : Jvm.Cond.classLink "JetTrees$State" (38 : Nat) "JetTrees$Tree" ∈ zTbl := zIn 150 (by decide +kernel) rfl
theorem wl_151 : Jvm.Cond.arrayOver (Jvm.ClassFile.FieldType.object "JetTrees$Tree") ∈ zTbl := zIn 151 (by decide +kernel) rfl
theorem wl_152 : Jvm.Cond.classLink "JetTrees$State" (44 : Nat) "[J" ∈ zTbl := zIn 152 (by decide +kernel) rfl
theorem wl_153 : Jvm.Cond.arrayOver (Jvm.ClassFile.FieldType.array Jvm.ClassFile.FieldType.long) ∈ zTbl := zIn 153 (by decide +kernel) rfl
theorem wl_154 : Jvm.Cond.fieldLink "JetTrees$State" (9 : Nat) "JetTrees$State" "radius" "I" ∈ zTbl := zIn 154 (by decide +kernel) rfl
theorem wl_155 : Jvm.Cond.fieldLink "JetTrees" (116 : Nat) "JetTrees$State" "radius" "I" ∈ zTbl := zIn 155 (by decide +kernel) rfl
theorem wl_156 : Jvm.Cond.fieldLink "JetTrees$State" (15 : Nat) "JetTrees$State" "power" "I" ∈ zTbl := zIn 156 (by decide +kernel) rfl
theorem wl_157 : Jvm.Cond.fieldLink "JetTrees" (122 : Nat) "JetTrees$State" "power" "I" ∈ zTbl := zIn 157 (by decide +kernel) rfl
theorem wl_158 : Jvm.Cond.fieldLink "JetTrees$State" (18 : Nat) "JetTrees$State" "sums" "I" ∈ zTbl := zIn 158 (by decide +kernel) rfl
theorem wl_159 : Jvm.Cond.fieldLink "JetTrees" (125 : Nat) "JetTrees$State" "sums" "I" ∈ zTbl := zIn 159 (by decide +kernel) rfl
theorem wl_160 : Jvm.Cond.fieldLink "JetTrees$State" (21 : Nat) "JetTrees$State" "x" "I" ∈ zTbl := zIn 160 (by decide +kernel) rfl
theorem wl_161 : Jvm.Cond.fieldLink "JetTrees" (92 : Nat) "JetTrees$State" "x" "I" ∈ zTbl := zIn 161 (by decide +kernel) rfl
theorem wl_162 : Jvm.Cond.fieldLink "JetTrees$State" (24 : Nat) "JetTrees$State" "hand" "I" ∈ zTbl := zIn 162 (by decide +kernel) rfl
theorem wl_163 : Jvm.Cond.fieldLink "JetTrees" (169 : Nat) "JetTrees$State" "hand" "I" ∈ zTbl := zIn 163 (by decide +kernel) rfl
theorem wl_164 : Jvm.Cond.fieldLink "JetTrees$State" (29 : Nat) "JetTrees$State" "events" "[LJetTrees$Event;" ∈ zTbl := zIn 164 (by decide +kernel) rfl
theorem wl_165 : Jvm.Cond.fieldLink "JetTrees" (172 : Nat) "JetTrees$State" "events" "[LJetTrees$Event;" ∈ zTbl := zIn 165 (by decide +kernel) rfl
theorem wl_166 : Jvm.Cond.fieldLink "JetTrees$State" (40 : Nat) "JetTrees$State" "trees" "[LJetTrees$Tree;" ∈ zTbl := zIn 166 (by decide +kernel) rfl
theorem wl_167 : Jvm.Cond.fieldLink "JetTrees" (439 : Nat) "JetTrees$State" "trees" "[LJetTrees$Tree;" ∈ zTbl := zIn 167 (by decide +kernel) rfl
theorem wl_168 : Jvm.Cond.fieldLink "JetTrees$State" (46 : Nat) "JetTrees$State" "kept" "[[J" ∈ zTbl := zIn 168 (by decide +kernel) rfl
theorem wl_169 : Jvm.Cond.fieldLink "JetTrees" (155 : Nat) "JetTrees$State" "kept" "[[J" ∈ zTbl := zIn 169 (by decide +kernel) rfl
theorem wl_187 : Jvm.Cond.arrayOver (Jvm.ClassFile.FieldType.object "JetTrees$State") ∈ zTbl := zIn 187 (by decide +kernel) rfl
theorem wl_188 : Jvm.Cond.fieldLink "JetTrees" (10 : Nat) "JetTrees" "now" "LJetTrees$State;" ∈ zTbl := zIn 188 (by decide +kernel) rfl
theorem wl_189 : Jvm.Cond.fieldLink "JetTrees" (16 : Nat) "JetTrees" "past" "[LJetTrees$State;" ∈ zTbl := zIn 189 (by decide +kernel) rfl
theorem wl_190 : Jvm.Cond.fieldLink "JetTrees" (20 : Nat) "JetTrees" "pastCount" "I" ∈ zTbl := zIn 190 (by decide +kernel) rfl
theorem wl_191 : Jvm.Cond.fieldLink "JetTrees" (24 : Nat) "JetTrees" "image" "LJetTrees$State;" ∈ zTbl := zIn 191 (by decide +kernel) rfl
theorem wl_192 : Jvm.Cond.fieldLink "JetTrees" (27 : Nat) "JetTrees" "imagePast" "[LJetTrees$State;" ∈ zTbl := zIn 192 (by decide +kernel) rfl
theorem wl_193 : Jvm.Cond.fieldLink "JetTrees" (30 : Nat) "JetTrees" "imagePastCount" "I" ∈ zTbl := zIn 193 (by decide +kernel) rfl
theorem wl_207 : Jvm.Cond.methodLink "JetTreesLaw" (13 : Nat) ({ cls := "JetTrees", name := "track", desc := "(III)I" } : Jvm.MethodName) ∈ zTbl := zIn 207 (by decide +kernel) rfl
theorem wl_208 : Jvm.Cond.instanceMethod ({ cls := "JetTrees", name := "track", desc := "(III)I" } : Jvm.MethodName) ∈ zTbl := zIn 208 (by decide +kernel) rfl
theorem wl_209 : Jvm.Cond.selects "JetTrees" ({ cls := "JetTrees", name := "track", desc := "(III)I" } : Jvm.MethodName) ({ cls := "JetTrees", name := "track", desc := "(III)I" } : Jvm.MethodName) ∈ zTbl := zIn 209 (by decide +kernel) rfl
theorem wl_210 : Jvm.Cond.code ({ cls := "JetTrees", name := "track", desc := "(III)I" } : Jvm.MethodName) prog_1_method_2_code (7 : Nat) (Option.some Jvm.ClassFile.FieldType.int) ∈ zTbl := zIn 210 (by decide +kernel) rfl
theorem wl_211 : Jvm.Cond.methodLink "JetTrees" (33 : Nat) ({ cls := "JetTrees$State", name := "inHand", desc := "()LJetTrees$Event;" } : Jvm.MethodName) ∈ zTbl := zIn 211 (by decide +kernel) rfl
theorem wl_212 : Jvm.Cond.instanceMethod ({ cls := "JetTrees$State", name := "inHand", desc := "()LJetTrees$Event;" } : Jvm.MethodName) ∈ zTbl := zIn 212 (by decide +kernel) rfl
theorem wl_213 : Jvm.Cond.selects "JetTrees$State" ({ cls := "JetTrees$State", name := "inHand", desc := "()LJetTrees$Event;" } : Jvm.MethodName) ({ cls := "JetTrees$State", name := "inHand", desc := "()LJetTrees$Event;" } : Jvm.MethodName) ∈ zTbl := zIn 213 (by decide +kernel) rfl
theorem wl_214 : Jvm.Cond.code ({ cls := "JetTrees$State", name := "inHand", desc := "()LJetTrees$Event;" } : Jvm.MethodName) prog_8_method_3_code (1 : Nat) (Option.some (Jvm.ClassFile.FieldType.object "JetTrees$Event")) ∈ zTbl := zIn 214 (by decide +kernel) rfl
theorem wl_215 : Jvm.Cond.methodLink "JetTrees" (37 : Nat) ({ cls := "JetTrees$Event", name := "size", desc := "()I" } : Jvm.MethodName) ∈ zTbl := zIn 215 (by decide +kernel) rfl
theorem wl_216 : Jvm.Cond.instanceMethod ({ cls := "JetTrees$Event", name := "size", desc := "()I" } : Jvm.MethodName) ∈ zTbl := zIn 216 (by decide +kernel) rfl
theorem wl_217 : Jvm.Cond.selects "JetTrees$Event" ({ cls := "JetTrees$Event", name := "size", desc := "()I" } : Jvm.MethodName) ({ cls := "JetTrees$Event", name := "size", desc := "()I" } : Jvm.MethodName) ∈ zTbl := zIn 217 (by decide +kernel) rfl
theorem wl_218 : Jvm.Cond.code ({ cls := "JetTrees$Event", name := "size", desc := "()I" } : Jvm.MethodName) prog_5_method_2_code (1 : Nat) (Option.some Jvm.ClassFile.FieldType.int) ∈ zTbl := zIn 218 (by decide +kernel) rfl
theorem wl_219 : Jvm.Cond.methodLink "JetTrees" (43 : Nat) ({ cls := "JetTrees", name := "isPlace", desc := "(II)Z" } : Jvm.MethodName) ∈ zTbl := zIn 219 (by decide +kernel) rfl
theorem wl_220 : Jvm.Cond.static ({ cls := "JetTrees", name := "isPlace", desc := "(II)Z" } : Jvm.MethodName) ∈ zTbl := zIn 220 (by decide +kernel) rfl
theorem wl_221 : Jvm.Cond.code ({ cls := "JetTrees", name := "isPlace", desc := "(II)Z" } : Jvm.MethodName) prog_1_method_76_code (2 : Nat) (Option.some Jvm.ClassFile.FieldType.boolean) ∈ zTbl := zIn 221 (by decide +kernel) rfl
theorem wl_222 : Jvm.Cond.methodLink "JetTrees" (419 : Nat) ({ cls := "JetTrees", name := "isRound", desc := "(I)Z" } : Jvm.MethodName) ∈ zTbl := zIn 222 (by decide +kernel) rfl
theorem wl_223 : Jvm.Cond.static ({ cls := "JetTrees", name := "isRound", desc := "(I)Z" } : Jvm.MethodName) ∈ zTbl := zIn 223 (by decide +kernel) rfl
theorem wl_224 : Jvm.Cond.code ({ cls := "JetTrees", name := "isRound", desc := "(I)Z" } : Jvm.MethodName) prog_1_method_77_code (1 : Nat) (Option.some Jvm.ClassFile.FieldType.boolean) ∈ zTbl := zIn 224 (by decide +kernel) rfl
theorem wl_225 : Jvm.Cond.methodLink "JetTrees" (47 : Nat) ({ cls := "JetTrees", name := "isWeight", desc := "(I)Z" } : Jvm.MethodName) ∈ zTbl := zIn 225 (by decide +kernel) rfl
theorem wl_226 : Jvm.Cond.static ({ cls := "JetTrees", name := "isWeight", desc := "(I)Z" } : Jvm.MethodName) ∈ zTbl := zIn 226 (by decide +kernel) rfl
theorem wl_227 : Jvm.Cond.code ({ cls := "JetTrees", name := "isWeight", desc := "(I)Z" } : Jvm.MethodName) prog_1_method_78_code (1 : Nat) (Option.some Jvm.ClassFile.FieldType.boolean) ∈ zTbl := zIn 227 (by decide +kernel) rfl
theorem wl_228 : Jvm.Cond.methodLink "JetTrees" (51 : Nat) ({ cls := "JetTrees$Event", name := "copiedTo", desc := "(I)[LJetTrees$Body;" } : Jvm.MethodName) ∈ zTbl := zIn 228 (by decide +kernel) rfl
theorem wl_229 : Jvm.Cond.instanceMethod ({ cls := "JetTrees$Event", name := "copiedTo", desc := "(I)[LJetTrees$Body;" } : Jvm.MethodName) ∈ zTbl := zIn 229 (by decide +kernel) rfl
theorem wl_230 : Jvm.Cond.selects "JetTrees$Event" ({ cls := "JetTrees$Event", name := "copiedTo", desc := "(I)[LJetTrees$Body;" } : Jvm.MethodName) ({ cls := "JetTrees$Event", name := "copiedTo", desc := "(I)[LJetTrees$Body;" } : Jvm.MethodName) ∈ zTbl := zIn 230 (by decide +kernel) rfl
theorem wl_231 : Jvm.Cond.code ({ cls := "JetTrees$Event", name := "copiedTo", desc := "(I)[LJetTrees$Body;" } : Jvm.MethodName) prog_5_method_4_code (3 : Nat) (Option.some (Jvm.ClassFile.FieldType.array (Jvm.ClassFile.FieldType.object "JetTrees$Body"))) ∈ zTbl := zIn 231 (by decide +kernel) rfl
theorem wl_232 : Jvm.Cond.methodLink "JetTrees$Event" (15 : Nat) ({ cls := "java/lang/Math", name := "max", desc := "(II)I" } : Jvm.MethodName) ∈ zTbl := zIn 232 (by decide +kernel) rfl
theorem wl_233 : Jvm.Cond.static ({ cls := "java/lang/Math", name := "max", desc := "(II)I" } : Jvm.MethodName) ∈ zTbl := zIn 233 (by decide +kernel) rfl
theorem wl_234 : Jvm.Cond.code ({ cls := "java/lang/Math", name := "max", desc := "(II)I" } : Jvm.MethodName) prog_17_method_65_code (2 : Nat) (Option.some Jvm.ClassFile.FieldType.int) ∈ zTbl := zIn 234 (by decide +kernel) rfl
theorem wl_235 : Jvm.Cond.classLink "JetTrees$Event" (21 : Nat) "JetTrees$Body" ∈ zTbl := zIn 235 (by decide +kernel) rfl
theorem wl_236 : Jvm.Cond.methodLink "JetTrees$Event" (23 : Nat) ({ cls := "java/lang/Math", name := "min", desc := "(II)I" } : Jvm.MethodName) ∈ zTbl := zIn 236 (by decide +kernel) rfl
theorem wl_237 : Jvm.Cond.static ({ cls := "java/lang/Math", name := "min", desc := "(II)I" } : Jvm.MethodName) ∈ zTbl := zIn 237 (by decide +kernel) rfl
theorem wl_238 : Jvm.Cond.code ({ cls := "java/lang/Math", name := "min", desc := "(II)I" } : Jvm.MethodName) prog_17_method_69_code (2 : Nat) (Option.some Jvm.ClassFile.FieldType.int) ∈ zTbl := zIn 238 (by decide +kernel) rfl
theorem wl_239 : Jvm.Cond.methodLink "JetTrees$Event" (26 : Nat) ({ cls := "java/lang/System", name := "arraycopy", desc := "(Ljava/lang/Object;ILjava/lang/Object;II)V" } : Jvm.MethodName) ∈ zTbl := zIn 239 (by decide +kernel) rfl
theorem wl_240 : Jvm.Cond.static ({ cls := "java/lang/System", name := "arraycopy", desc := "(Ljava/lang/Object;ILjava/lang/Object;II)V" } : Jvm.MethodName) ∈ zTbl := zIn 240 (by decide +kernel) rfl
theorem wl_241 : Jvm.Cond.native ({ cls := "java/lang/System", name := "arraycopy", desc := "(Ljava/lang/Object;ILjava/lang/Object;II)V" } : Jvm.MethodName) ∈ zTbl := zIn 241 (by decide +kernel) rfl
theorem wl_242 : Jvm.Cond.classLink "JetTrees" (55 : Nat) "JetTrees$Body" ∈ zTbl := zIn 242 (by decide +kernel) rfl
theorem wl_243 : Jvm.Cond.instantiable "JetTrees$Body" (4 : Nat) ∈ zTbl := zIn 243 (by decide +kernel) rfl
theorem wl_244 : Jvm.Cond.methodLink "JetTrees" (57 : Nat) ({ cls := "JetTrees$Body", name := "<init>", desc := "(IIII)V" } : Jvm.MethodName) ∈ zTbl := zIn 244 (by decide +kernel) rfl
theorem wl_245 : Jvm.Cond.instanceMethod ({ cls := "JetTrees$Body", name := "<init>", desc := "(IIII)V" } : Jvm.MethodName) ∈ zTbl := zIn 245 (by decide +kernel) rfl
theorem wl_246 : Jvm.Cond.code ({ cls := "JetTrees$Body", name := "<init>", desc := "(IIII)V" } : Jvm.MethodName) prog_2_method_1_code (5 : Nat) (Option.none : Option Jvm.ClassFile.FieldType) ∈ zTbl := zIn 246 (by decide +kernel) rfl
theorem wl_247 : Jvm.Cond.methodLink "JetTrees$Body" (3 : Nat) ({ cls := "java/lang/Object", name := "<init>", desc := "()V" } : Jvm.MethodName) ∈ zTbl := zIn 247 (by decide +kernel) rfl
theorem wl_248 : Jvm.Cond.fieldLink "JetTrees$Body" (9 : Nat) "JetTrees$Body" "number" "I" ∈ zTbl := zIn 248 (by decide +kernel) rfl
theorem wl_249 : Jvm.Cond.fieldLink "JetTrees$Branches" (90 : Nat) "JetTrees$Body" "number" "I" ∈ zTbl := zIn 249 (by decide +kernel) rfl
theorem wl_250 : Jvm.Cond.fieldLink "JetTrees$Event" (44 : Nat) "JetTrees$Body" "number" "I" ∈ zTbl := zIn 250 (by decide +kernel) rfl
theorem wl_251 : Jvm.Cond.fieldLink "JetTrees$Gatherer" (126 : Nat) "JetTrees$Body" "number" "I" ∈ zTbl := zIn 251 (by decide +kernel) rfl
theorem wl_252 : Jvm.Cond.fieldLink "JetTrees" (300 : Nat) "JetTrees$Body" "number" "I" ∈ zTbl := zIn 252 (by decide +kernel) rfl
theorem wl_253 : Jvm.Cond.fieldLink "JetTrees$Body" (15 : Nat) "JetTrees$Body" "across" "I" ∈ zTbl := zIn 253 (by decide +kernel) rfl
theorem wl_254 : Jvm.Cond.fieldLink "JetTrees$Tiling" (31 : Nat) "JetTrees$Body" "across" "I" ∈ zTbl := zIn 254 (by decide +kernel) rfl
theorem wl_255 : Jvm.Cond.fieldLink "JetTrees$Sum" (9 : Nat) "JetTrees$Body" "across" "I" ∈ zTbl := zIn 255 (by decide +kernel) rfl
theorem wl_256 : Jvm.Cond.fieldLink "JetTrees" (79 : Nat) "JetTrees$Body" "across" "I" ∈ zTbl := zIn 256 (by decide +kernel) rfl
theorem wl_257 : Jvm.Cond.fieldLink "JetTrees$Cones" (74 : Nat) "JetTrees$Body" "across" "I" ∈ zTbl := zIn 257 (by decide +kernel) rfl
theorem wl_258 : Jvm.Cond.fieldLink "JetTrees$Gatherer" (174 : Nat) "JetTrees$Body" "across" "I" ∈ zTbl := zIn 258 (by decide +kernel) rfl
theorem wl_259 : Jvm.Cond.fieldLink "JetTrees$Body" (18 : Nat) "JetTrees$Body" "round" "I" ∈ zTbl := zIn 259 (by decide +kernel) rfl
theorem wl_260 : Jvm.Cond.fieldLink "JetTrees$Sum" (18 : Nat) "JetTrees$Body" "round" "I" ∈ zTbl := zIn 260 (by decide +kernel) rfl
theorem wl_261 : Jvm.Cond.fieldLink "JetTrees$Tiling" (40 : Nat) "JetTrees$Body" "round" "I" ∈ zTbl := zIn 261 (by decide +kernel) rfl
theorem wl_262 : Jvm.Cond.fieldLink "JetTrees" (82 : Nat) "JetTrees$Body" "round" "I" ∈ zTbl := zIn 262 (by decide +kernel) rfl
theorem wl_263 : Jvm.Cond.fieldLink "JetTrees$Cones" (75 : Nat) "JetTrees$Body" "round" "I" ∈ zTbl := zIn 263 (by decide +kernel) rfl
theorem wl_264 : Jvm.Cond.fieldLink "JetTrees$Event" (63 : Nat) "JetTrees$Body" "round" "I" ∈ zTbl := zIn 264 (by decide +kernel) rfl
theorem wl_265 : Jvm.Cond.fieldLink "JetTrees$Gatherer" (175 : Nat) "JetTrees$Body" "round" "I" ∈ zTbl := zIn 265 (by decide +kernel) rfl
theorem wl_266 : Jvm.Cond.fieldLink "JetTrees$Body" (21 : Nat) "JetTrees$Body" "weight" "I" ∈ zTbl := zIn 266 (by decide +kernel) rfl
theorem wl_267 : Jvm.Cond.fieldLink "JetTrees$Sum" (22 : Nat) "JetTrees$Body" "weight" "I" ∈ zTbl := zIn 267 (by decide +kernel) rfl
theorem wl_268 : Jvm.Cond.fieldLink "JetTrees$Tiling" (43 : Nat) "JetTrees$Body" "weight" "I" ∈ zTbl := zIn 268 (by decide +kernel) rfl
theorem wl_269 : Jvm.Cond.fieldLink "JetTrees$Knot" (36 : Nat) "JetTrees$Body" "weight" "I" ∈ zTbl := zIn 269 (by decide +kernel) rfl
theorem wl_270 : Jvm.Cond.fieldLink "JetTrees$Cones" (53 : Nat) "JetTrees$Body" "weight" "I" ∈ zTbl := zIn 270 (by decide +kernel) rfl
theorem wl_271 : Jvm.Cond.fieldLink "JetTrees" (72 : Nat) "JetTrees$Body" "weight" "I" ∈ zTbl := zIn 271 (by decide +kernel) rfl
theorem wl_272 : Jvm.Cond.fieldLink "JetTrees$Branches" (68 : Nat) "JetTrees$Body" "weight" "I" ∈ zTbl := zIn 272 (by decide +kernel) rfl
theorem wl_273 : Jvm.Cond.fieldLink "JetTrees$Tree" (60 : Nat) "JetTrees$Body" "weight" "I" ∈ zTbl := zIn 273 (by decide +kernel) rfl
theorem wl_274 : Jvm.Cond.fieldLink "JetTrees$Event" (32 : Nat) "JetTrees$Body" "weight" "I" ∈ zTbl := zIn 274 (by decide +kernel) rfl
theorem wl_275 : Jvm.Cond.fieldLink "JetTrees$Gatherer" (95 : Nat) "JetTrees$Body" "weight" "I" ∈ zTbl := zIn 275 (by decide +kernel) rfl
theorem wl_285 : Jvm.Cond.methodLink "JetTrees" (60 : Nat) ({ cls := "JetTrees$State", name := "withTracks", desc := "([LJetTrees$Body;)LJetTrees$State;" } : Jvm.MethodName) ∈ zTbl := zIn 285 (by decide +kernel) rfl
theorem wl_286 : Jvm.Cond.instanceMethod ({ cls := "JetTrees$State", name := "withTracks", desc := "([LJetTrees$Body;)LJetTrees$State;" } : Jvm.MethodName) ∈ zTbl := zIn 286 (by decide +kernel) rfl
theorem wl_287 : Jvm.Cond.selects "JetTrees$State" ({ cls := "JetTrees$State", name := "withTracks", desc := "([LJetTrees$Body;)LJetTrees$State;" } : Jvm.MethodName) ({ cls := "JetTrees$State", name := "withTracks", desc := "([LJetTrees$Body;)LJetTrees$State;" } : Jvm.MethodName) ∈ zTbl := zIn 287 (by decide +kernel) rfl
theorem wl_288 : Jvm.Cond.code ({ cls := "JetTrees$State", name := "withTracks", desc := "([LJetTrees$Body;)LJetTrees$State;" } : Jvm.MethodName) prog_8_method_4_code (3 : Nat) (Option.some (Jvm.ClassFile.FieldType.object "JetTrees$State")) ∈ zTbl := zIn 288 (by decide +kernel) rfl
theorem wl_289 : Jvm.Cond.classLink "JetTrees$State" (10 : Nat) "JetTrees$State" ∈ zTbl := zIn 289 (by decide +kernel) rfl
theorem wl_290 : Jvm.Cond.methodLink "JetTrees$State" (56 : Nat) ({ cls := "JetTrees$State", name := "<init>", desc := "(LJetTrees$State;)V" } : Jvm.MethodName) ∈ zTbl := zIn 290 (by decide +kernel) rfl
theorem wl_291 : Jvm.Cond.instanceMethod ({ cls := "JetTrees$State", name := "<init>", desc := "(LJetTrees$State;)V" } : Jvm.MethodName) ∈ zTbl := zIn 291 (by decide +kernel) rfl
theorem wl_292 : Jvm.Cond.code ({ cls := "JetTrees$State", name := "<init>", desc := "(LJetTrees$State;)V" } : Jvm.MethodName) prog_8_method_2_code (2 : Nat) (Option.none : Option Jvm.ClassFile.FieldType) ∈ zTbl := zIn 292 (by decide +kernel) rfl
theorem wl_293 : Jvm.Cond.methodLink "JetTrees$State" (50 : Nat) ({ cls := "java/lang/System", name := "arraycopy", desc := "(Ljava/lang/Object;ILjava/lang/Object;II)V" } : Jvm.MethodName) ∈ zTbl := zIn 293 (by decide +kernel) rfl
theorem wl_294 : Jvm.Cond.methodLink "JetTrees" (64 : Nat) ({ cls := "JetTrees", name := "takeStep", desc := "(LJetTrees$State;)V" } : Jvm.MethodName) ∈ zTbl := zIn 294 (by decide +kernel) rfl
theorem wl_296 : Jvm.Cond.instanceMethod ({ cls := "JetTrees", name := "takeStep", desc := "(LJetTrees$State;)V" } : Jvm.MethodName) ∈ zTbl := zIn 296 (by decide +kernel) rfl
theorem wl_297 : Jvm.Cond.code ({ cls := "JetTrees", name := "takeStep", desc := "(LJetTrees$State;)V" } : Jvm.MethodName) prog_1_method_64_code (2 : Nat) (Option.none : Option Jvm.ClassFile.FieldType) ∈ zTbl := zIn 297 (by decide +kernel) rfl
theorem wl_298 : Jvm.Cond.methodLink "JetTrees" (425 : Nat) ({ cls := "java/lang/System", name := "arraycopy", desc := "(Ljava/lang/Object;ILjava/lang/Object;II)V" } : Jvm.MethodName) ∈ zTbl := zIn 298 (by decide +kernel) rfl
theorem wl_299 : Jvm.Cond.methodLink "JetTreesLaw" (18 : Nat) ({ cls := "JetTrees", name := "move", desc := "(III)Z" } : Jvm.MethodName) ∈ zTbl := zIn 299 (by decide +kernel) rfl
theorem wl_300 : Jvm.Cond.instanceMethod ({ cls := "JetTrees", name := "move", desc := "(III)Z" } : Jvm.MethodName) ∈ zTbl := zIn 300 (by decide +kernel) rfl
theorem wl_301 : Jvm.Cond.selects "JetTrees" ({ cls := "JetTrees", name := "move", desc := "(III)Z" } : Jvm.MethodName) ({ cls := "JetTrees", name := "move", desc := "(III)Z" } : Jvm.MethodName) ∈ zTbl := zIn 301 (by decide +kernel) rfl
theorem wl_302 : Jvm.Cond.code ({ cls := "JetTrees", name := "move", desc := "(III)Z" } : Jvm.MethodName) prog_1_method_3_code (5 : Nat) (Option.some Jvm.ClassFile.FieldType.boolean) ∈ zTbl := zIn 302 (by decide +kernel) rfl
theorem wl_303 : Jvm.Cond.methodLink "JetTrees" (68 : Nat) ({ cls := "JetTrees$Event", name := "trackAt", desc := "(I)LJetTrees$Body;" } : Jvm.MethodName) ∈ zTbl := zIn 303 (by decide +kernel) rfl
theorem wl_304 : Jvm.Cond.instanceMethod ({ cls := "JetTrees$Event", name := "trackAt", desc := "(I)LJetTrees$Body;" } : Jvm.MethodName) ∈ zTbl := zIn 304 (by decide +kernel) rfl
theorem wl_305 : Jvm.Cond.selects "JetTrees$Event" ({ cls := "JetTrees$Event", name := "trackAt", desc := "(I)LJetTrees$Body;" } : Jvm.MethodName) ({ cls := "JetTrees$Event", name := "trackAt", desc := "(I)LJetTrees$Body;" } : Jvm.MethodName) ∈ zTbl := zIn 305 (by decide +kernel) rfl
theorem wl_306 : Jvm.Cond.code ({ cls := "JetTrees$Event", name := "trackAt", desc := "(I)LJetTrees$Body;" } : Jvm.MethodName) prog_5_method_3_code (2 : Nat) (Option.some (Jvm.ClassFile.FieldType.object "JetTrees$Body")) ∈ zTbl := zIn 306 (by decide +kernel) rfl
theorem wl_307 : Jvm.Cond.methodLink "JetTrees" (75 : Nat) ({ cls := "JetTrees", name := "replaceTrack", desc := "(LJetTrees$Body;)V" } : Jvm.MethodName) ∈ zTbl := zIn 307 (by decide +kernel) rfl
theorem wl_309 : Jvm.Cond.instanceMethod ({ cls := "JetTrees", name := "replaceTrack", desc := "(LJetTrees$Body;)V" } : Jvm.MethodName) ∈ zTbl := zIn 309 (by decide +kernel) rfl
theorem wl_310 : Jvm.Cond.code ({ cls := "JetTrees", name := "replaceTrack", desc := "(LJetTrees$Body;)V" } : Jvm.MethodName) prog_1_method_65_code (3 : Nat) (Option.none : Option Jvm.ClassFile.FieldType) ∈ zTbl := zIn 310 (by decide +kernel) rfl
theorem wl_311 : Jvm.Cond.methodLink "JetTreesLaw" (23 : Nat) ({ cls := "JetTrees", name := "weigh", desc := "(II)Z" } : Jvm.MethodName) ∈ zTbl := zIn 311 (by decide +kernel) rfl
theorem wl_312 : Jvm.Cond.instanceMethod ({ cls := "JetTrees", name := "weigh", desc := "(II)Z" } : Jvm.MethodName) ∈ zTbl := zIn 312 (by decide +kernel) rfl
theorem wl_313 : Jvm.Cond.selects "JetTrees" ({ cls := "JetTrees", name := "weigh", desc := "(II)Z" } : Jvm.MethodName) ({ cls := "JetTrees", name := "weigh", desc := "(II)Z" } : Jvm.MethodName) ∈ zTbl := zIn 313 (by decide +kernel) rfl
theorem wl_314 : Jvm.Cond.code ({ cls := "JetTrees", name := "weigh", desc := "(II)Z" } : Jvm.MethodName) prog_1_method_4_code (4 : Nat) (Option.some Jvm.ClassFile.FieldType.boolean) ∈ zTbl := zIn 314 (by decide +kernel) rfl
theorem wl_315 : Jvm.Cond.methodLink "JetTreesLaw" (28 : Nat) ({ cls := "JetTrees", name := "drop", desc := "(I)I" } : Jvm.MethodName) ∈ zTbl := zIn 315 (by decide +kernel) rfl
theorem wl_316 : Jvm.Cond.instanceMethod ({ cls := "JetTrees", name := "drop", desc := "(I)I" } : Jvm.MethodName) ∈ zTbl := zIn 316 (by decide +kernel) rfl
theorem wl_317 : Jvm.Cond.selects "JetTrees" ({ cls := "JetTrees", name := "drop", desc := "(I)I" } : Jvm.MethodName) ({ cls := "JetTrees", name := "drop", desc := "(I)I" } : Jvm.MethodName) ∈ zTbl := zIn 317 (by decide +kernel) rfl
theorem wl_318 : Jvm.Cond.code ({ cls := "JetTrees", name := "drop", desc := "(I)I" } : Jvm.MethodName) prog_1_method_5_code (6 : Nat) (Option.some Jvm.ClassFile.FieldType.int) ∈ zTbl := zIn 318 (by decide +kernel) rfl
theorem wl_319 : Jvm.Cond.methodLink "JetTrees" (89 : Nat) ({ cls := "JetTrees$Body", name := "numbered", desc := "(I)LJetTrees$Body;" } : Jvm.MethodName) ∈ zTbl := zIn 319 (by decide +kernel) rfl
theorem wl_320 : Jvm.Cond.instanceMethod ({ cls := "JetTrees$Body", name := "numbered", desc := "(I)LJetTrees$Body;" } : Jvm.MethodName) ∈ zTbl := zIn 320 (by decide +kernel) rfl
theorem wl_321 : Jvm.Cond.selects "JetTrees$Body" ({ cls := "JetTrees$Body", name := "numbered", desc := "(I)LJetTrees$Body;" } : Jvm.MethodName) ({ cls := "JetTrees$Body", name := "numbered", desc := "(I)LJetTrees$Body;" } : Jvm.MethodName) ∈ zTbl := zIn 321 (by decide +kernel) rfl
theorem wl_322 : Jvm.Cond.code ({ cls := "JetTrees$Body", name := "numbered", desc := "(I)LJetTrees$Body;" } : Jvm.MethodName) prog_2_method_2_code (2 : Nat) (Option.some (Jvm.ClassFile.FieldType.object "JetTrees$Body")) ∈ zTbl := zIn 322 (by decide +kernel) rfl
theorem wl_323 : Jvm.Cond.classLink "JetTrees$Body" (10 : Nat) "JetTrees$Body" ∈ zTbl := zIn 323 (by decide +kernel) rfl
theorem wl_324 : Jvm.Cond.methodLink "JetTrees$Body" (24 : Nat) ({ cls := "JetTrees$Body", name := "<init>", desc := "(IIII)V" } : Jvm.MethodName) ∈ zTbl := zIn 324 (by decide +kernel) rfl
theorem wl_325 : Jvm.Cond.methodLink "JetTreesLaw" (33 : Nat) ({ cls := "JetTrees", name := "drawn", desc := "(IIII)I" } : Jvm.MethodName) ∈ zTbl := zIn 325 (by decide +kernel) rfl
theorem wl_326 : Jvm.Cond.instanceMethod ({ cls := "JetTrees", name := "drawn", desc := "(IIII)I" } : Jvm.MethodName) ∈ zTbl := zIn 326 (by decide +kernel) rfl
theorem wl_327 : Jvm.Cond.selects "JetTrees" ({ cls := "JetTrees", name := "drawn", desc := "(IIII)I" } : Jvm.MethodName) ({ cls := "JetTrees", name := "drawn", desc := "(IIII)I" } : Jvm.MethodName) ∈ zTbl := zIn 327 (by decide +kernel) rfl
theorem wl_328 : Jvm.Cond.code ({ cls := "JetTrees", name := "drawn", desc := "(IIII)I" } : Jvm.MethodName) prog_1_method_6_code (15 : Nat) (Option.some Jvm.ClassFile.FieldType.int) ∈ zTbl := zIn 328 (by decide +kernel) rfl
theorem wl_329 : Jvm.Cond.methodLink "JetTrees" (95 : Nat) ({ cls := "JetTrees", name := "nextX", desc := "(I)I" } : Jvm.MethodName) ∈ zTbl := zIn 329 (by decide +kernel) rfl
theorem wl_330 : Jvm.Cond.static ({ cls := "JetTrees", name := "nextX", desc := "(I)I" } : Jvm.MethodName) ∈ zTbl := zIn 330 (by decide +kernel) rfl
theorem wl_331 : Jvm.Cond.code ({ cls := "JetTrees", name := "nextX", desc := "(I)I" } : Jvm.MethodName) prog_1_method_74_code (1 : Nat) (Option.some Jvm.ClassFile.FieldType.int) ∈ zTbl := zIn 331 (by decide +kernel) rfl
theorem wl_332 : Jvm.Cond.methodLink "JetTrees" (99 : Nat) ({ cls := "java/lang/Math", name := "floorMod", desc := "(II)I" } : Jvm.MethodName) ∈ zTbl := zIn 332 (by decide +kernel) rfl
theorem wl_333 : Jvm.Cond.static ({ cls := "java/lang/Math", name := "floorMod", desc := "(II)I" } : Jvm.MethodName) ∈ zTbl := zIn 333 (by decide +kernel) rfl
theorem wl_334 : Jvm.Cond.code ({ cls := "java/lang/Math", name := "floorMod", desc := "(II)I" } : Jvm.MethodName) prog_17_method_50_code (3 : Nat) (Option.some Jvm.ClassFile.FieldType.int) ∈ zTbl := zIn 334 (by decide +kernel) rfl
theorem wl_335 : Jvm.Cond.methodLink "JetTrees" (105 : Nat) ({ cls := "java/lang/Math", name := "min", desc := "(II)I" } : Jvm.MethodName) ∈ zTbl := zIn 335 (by decide +kernel) rfl
theorem wl_336 : Jvm.Cond.methodLink "JetTrees" (108 : Nat) ({ cls := "java/lang/Math", name := "max", desc := "(II)I" } : Jvm.MethodName) ∈ zTbl := zIn 336 (by decide +kernel) rfl
theorem wl_337 : Jvm.Cond.methodLink "JetTreesLaw" (38 : Nat) ({ cls := "JetTrees", name := "tell", desc := "(I)Z" } : Jvm.MethodName) ∈ zTbl := zIn 337 (by decide +kernel) rfl
theorem wl_338 : Jvm.Cond.instanceMethod ({ cls := "JetTrees", name := "tell", desc := "(I)Z" } : Jvm.MethodName) ∈ zTbl := zIn 338 (by decide +kernel) rfl
theorem wl_339 : Jvm.Cond.selects "JetTrees" ({ cls := "JetTrees", name := "tell", desc := "(I)Z" } : Jvm.MethodName) ({ cls := "JetTrees", name := "tell", desc := "(I)Z" } : Jvm.MethodName) ∈ zTbl := zIn 339 (by decide +kernel) rfl
theorem wl_340 : Jvm.Cond.code ({ cls := "JetTrees", name := "tell", desc := "(I)Z" } : Jvm.MethodName) prog_1_method_7_code (3 : Nat) (Option.some Jvm.ClassFile.FieldType.boolean) ∈ zTbl := zIn 340 (by decide +kernel) rfl
theorem wl_341 : Jvm.Cond.methodLink "JetTrees" (111 : Nat) ({ cls := "JetTrees$State", name := "<init>", desc := "(LJetTrees$State;)V" } : Jvm.MethodName) ∈ zTbl := zIn 341 (by decide +kernel) rfl
theorem wl_342 : Jvm.Cond.methodLink "JetTreesLaw" (43 : Nat) ({ cls := "JetTrees", name := "set", desc := "(II)Z" } : Jvm.MethodName) ∈ zTbl := zIn 342 (by decide +kernel) rfl
theorem wl_343 : Jvm.Cond.instanceMethod ({ cls := "JetTrees", name := "set", desc := "(II)Z" } : Jvm.MethodName) ∈ zTbl := zIn 343 (by decide +kernel) rfl
theorem wl_344 : Jvm.Cond.selects "JetTrees" ({ cls := "JetTrees", name := "set", desc := "(II)Z" } : Jvm.MethodName) ({ cls := "JetTrees", name := "set", desc := "(II)Z" } : Jvm.MethodName) ∈ zTbl := zIn 344 (by decide +kernel) rfl
theorem wl_345 : Jvm.Cond.code ({ cls := "JetTrees", name := "set", desc := "(II)Z" } : Jvm.MethodName) prog_1_method_8_code (4 : Nat) (Option.some Jvm.ClassFile.FieldType.boolean) ∈ zTbl := zIn 345 (by decide +kernel) rfl
theorem wl_346 : Jvm.Cond.methodLink "JetTrees" (113 : Nat) ({ cls := "JetTrees", name := "isRadius", desc := "(I)Z" } : Jvm.MethodName) ∈ zTbl := zIn 346 (by decide +kernel) rfl
theorem wl_347 : Jvm.Cond.static ({ cls := "JetTrees", name := "isRadius", desc := "(I)Z" } : Jvm.MethodName) ∈ zTbl := zIn 347 (by decide +kernel) rfl
theorem wl_348 : Jvm.Cond.code ({ cls := "JetTrees", name := "isRadius", desc := "(I)Z" } : Jvm.MethodName) prog_1_method_79_code (1 : Nat) (Option.some Jvm.ClassFile.FieldType.boolean) ∈ zTbl := zIn 348 (by decide +kernel) rfl
theorem wl_349 : Jvm.Cond.methodLink "JetTrees" (119 : Nat) ({ cls := "JetTrees", name := "isPower", desc := "(I)Z" } : Jvm.MethodName) ∈ zTbl := zIn 349 (by decide +kernel) rfl
theorem wl_350 : Jvm.Cond.static ({ cls := "JetTrees", name := "isPower", desc := "(I)Z" } : Jvm.MethodName) ∈ zTbl := zIn 350 (by decide +kernel) rfl
theorem wl_351 : Jvm.Cond.code ({ cls := "JetTrees", name := "isPower", desc := "(I)Z" } : Jvm.MethodName) prog_1_method_80_code (1 : Nat) (Option.some Jvm.ClassFile.FieldType.boolean) ∈ zTbl := zIn 351 (by decide +kernel) rfl
theorem wl_352 : Jvm.Cond.methodLink "JetTreesLaw" (47 : Nat) ({ cls := "JetTrees", name := "gather", desc := "(I)I" } : Jvm.MethodName) ∈ zTbl := zIn 352 (by decide +kernel) rfl
theorem wl_353 : Jvm.Cond.instanceMethod ({ cls := "JetTrees", name := "gather", desc := "(I)I" } : Jvm.MethodName) ∈ zTbl := zIn 353 (by decide +kernel) rfl
theorem wl_354 : Jvm.Cond.selects "JetTrees" ({ cls := "JetTrees", name := "gather", desc := "(I)I" } : Jvm.MethodName) ({ cls := "JetTrees", name := "gather", desc := "(I)I" } : Jvm.MethodName) ∈ zTbl := zIn 354 (by decide +kernel) rfl
theorem wl_355 : Jvm.Cond.code ({ cls := "JetTrees", name := "gather", desc := "(I)I" } : Jvm.MethodName) prog_1_method_9_code (3 : Nat) (Option.some Jvm.ClassFile.FieldType.int) ∈ zTbl := zIn 355 (by decide +kernel) rfl
theorem wl_356 : Jvm.Cond.methodLink "JetTrees" (128 : Nat) ({ cls := "JetTrees", name := "isTree", desc := "(I)Z" } : Jvm.MethodName) ∈ zTbl := zIn 356 (by decide +kernel) rfl
theorem wl_357 : Jvm.Cond.static ({ cls := "JetTrees", name := "isTree", desc := "(I)Z" } : Jvm.MethodName) ∈ zTbl := zIn 357 (by decide +kernel) rfl
theorem wl_358 : Jvm.Cond.code ({ cls := "JetTrees", name := "isTree", desc := "(I)Z" } : Jvm.MethodName) prog_1_method_81_code (1 : Nat) (Option.some Jvm.ClassFile.FieldType.boolean) ∈ zTbl := zIn 358 (by decide +kernel) rfl
theorem wl_359 : Jvm.Cond.methodLink "JetTrees" (131 : Nat) ({ cls := "JetTrees", name := "gatheredNow", desc := "()LJetTrees$Tree;" } : Jvm.MethodName) ∈ zTbl := zIn 359 (by decide +kernel) rfl
theorem wl_361 : Jvm.Cond.instanceMethod ({ cls := "JetTrees", name := "gatheredNow", desc := "()LJetTrees$Tree;" } : Jvm.MethodName) ∈ zTbl := zIn 361 (by decide +kernel) rfl
theorem wl_362 : Jvm.Cond.code ({ cls := "JetTrees", name := "gatheredNow", desc := "()LJetTrees$Tree;" } : Jvm.MethodName) prog_1_method_66_code (1 : Nat) (Option.some (Jvm.ClassFile.FieldType.object "JetTrees$Tree")) ∈ zTbl := zIn 362 (by decide +kernel) rfl
theorem wl_363 : Jvm.Cond.classLink "JetTrees" (431 : Nat) "JetTrees$Gatherer" ∈ zTbl := zIn 363 (by decide +kernel) rfl
theorem wl_364 : Jvm.Cond.instantiable "JetTrees$Gatherer" (9 : Nat) ∈ zTbl := zIn 364 (by decide +kernel) rfl
theorem wl_365 : Jvm.Cond.methodLink "JetTrees" (433 : Nat) ({ cls := "JetTrees$Gatherer", name := "<init>", desc := "([LJetTrees$Body;III)V" } : Jvm.MethodName) ∈ zTbl := zIn 365 (by decide +kernel) rfl
theorem wl_366 : Jvm.Cond.instanceMethod ({ cls := "JetTrees$Gatherer", name := "<init>", desc := "([LJetTrees$Body;III)V" } : Jvm.MethodName) ∈ zTbl := zIn 366 (by decide +kernel) rfl
theorem wl_367 : Jvm.Cond.code ({ cls := "JetTrees$Gatherer", name := "<init>", desc := "([LJetTrees$Body;III)V" } : Jvm.MethodName) prog_6_method_1_code (5 : Nat) (Option.none : Option Jvm.ClassFile.FieldType) ∈ zTbl := zIn 367 (by decide +kernel) rfl
theorem wl_368 : Jvm.Cond.methodLink "JetTrees$Gatherer" (3 : Nat) ({ cls := "java/lang/Object", name := "<init>", desc := "()V" } : Jvm.MethodName) ∈ zTbl := zIn 368 (by decide +kernel) rfl
theorem wl_369 : Jvm.Cond.classLink "JetTrees$Gatherer" (15 : Nat) "JetTrees$Tree" ∈ zTbl := zIn 369 (by decide +kernel) rfl
theorem wl_370 : Jvm.Cond.instantiable "JetTrees$Tree" (11 : Nat) ∈ zTbl := zIn 370 (by decide +kernel) rfl
theorem wl_371 : Jvm.Cond.methodLink "JetTrees$Gatherer" (17 : Nat) ({ cls := "JetTrees$Tree", name := "<init>", desc := "(IIII)V" } : Jvm.MethodName) ∈ zTbl := zIn 371 (by decide +kernel) rfl
theorem wl_372 : Jvm.Cond.instanceMethod ({ cls := "JetTrees$Tree", name := "<init>", desc := "(IIII)V" } : Jvm.MethodName) ∈ zTbl := zIn 372 (by decide +kernel) rfl
theorem wl_373 : Jvm.Cond.code ({ cls := "JetTrees$Tree", name := "<init>", desc := "(IIII)V" } : Jvm.MethodName) prog_12_method_1_code (5 : Nat) (Option.none : Option Jvm.ClassFile.FieldType) ∈ zTbl := zIn 373 (by decide +kernel) rfl
theorem wl_374 : Jvm.Cond.methodLink "JetTrees$Tree" (3 : Nat) ({ cls := "java/lang/Object", name := "<init>", desc := "()V" } : Jvm.MethodName) ∈ zTbl := zIn 374 (by decide +kernel) rfl
theorem wl_375 : Jvm.Cond.classLink "JetTrees$Tree" (24 : Nat) "JetTrees$Knot" ∈ zTbl := zIn 375 (by decide +kernel) rfl
theorem wl_376 : Jvm.Cond.arrayOver (Jvm.ClassFile.FieldType.object "JetTrees$Knot") ∈ zTbl := zIn 376 (by decide +kernel) rfl
theorem wl_377 : Jvm.Cond.classLink "JetTrees$Tree" (33 : Nat) "JetTrees$Step" ∈ zTbl := zIn 377 (by decide +kernel) rfl
theorem wl_378 : Jvm.Cond.arrayOver (Jvm.ClassFile.FieldType.object "JetTrees$Step") ∈ zTbl := zIn 378 (by decide +kernel) rfl
theorem wl_379 : Jvm.Cond.fieldLink "JetTrees$Tree" (9 : Nat) "JetTrees$Tree" "radius" "I" ∈ zTbl := zIn 379 (by decide +kernel) rfl
theorem wl_380 : Jvm.Cond.fieldLink "JetTrees$Gatherer" (98 : Nat) "JetTrees$Tree" "radius" "I" ∈ zTbl := zIn 380 (by decide +kernel) rfl
theorem wl_381 : Jvm.Cond.fieldLink "JetTrees" (198 : Nat) "JetTrees$Tree" "radius" "I" ∈ zTbl := zIn 381 (by decide +kernel) rfl
theorem wl_382 : Jvm.Cond.fieldLink "JetTrees$Tree" (15 : Nat) "JetTrees$Tree" "power" "I" ∈ zTbl := zIn 382 (by decide +kernel) rfl
theorem wl_383 : Jvm.Cond.fieldLink "JetTrees$Gatherer" (105 : Nat) "JetTrees$Tree" "power" "I" ∈ zTbl := zIn 383 (by decide +kernel) rfl
theorem wl_384 : Jvm.Cond.fieldLink "JetTrees" (199 : Nat) "JetTrees$Tree" "power" "I" ∈ zTbl := zIn 384 (by decide +kernel) rfl
theorem wl_385 : Jvm.Cond.fieldLink "JetTrees$Tree" (18 : Nat) "JetTrees$Tree" "sums" "I" ∈ zTbl := zIn 385 (by decide +kernel) rfl
theorem wl_386 : Jvm.Cond.fieldLink "JetTrees$Branches" (47 : Nat) "JetTrees$Tree" "sums" "I" ∈ zTbl := zIn 386 (by decide +kernel) rfl
theorem wl_387 : Jvm.Cond.fieldLink "JetTrees$Gatherer" (156 : Nat) "JetTrees$Tree" "sums" "I" ∈ zTbl := zIn 387 (by decide +kernel) rfl
theorem wl_388 : Jvm.Cond.fieldLink "JetTrees" (200 : Nat) "JetTrees$Tree" "sums" "I" ∈ zTbl := zIn 388 (by decide +kernel) rfl
theorem wl_389 : Jvm.Cond.fieldLink "JetTrees$Tree" (21 : Nat) "JetTrees$Tree" "trackCount" "I" ∈ zTbl := zIn 389 (by decide +kernel) rfl
theorem wl_390 : Jvm.Cond.fieldLink "JetTrees$Branches" (23 : Nat) "JetTrees$Tree" "trackCount" "I" ∈ zTbl := zIn 390 (by decide +kernel) rfl
theorem wl_391 : Jvm.Cond.fieldLink "JetTrees" (195 : Nat) "JetTrees$Tree" "trackCount" "I" ∈ zTbl := zIn 391 (by decide +kernel) rfl
theorem wl_392 : Jvm.Cond.fieldLink "JetTrees$Tree" (26 : Nat) "JetTrees$Tree" "knots" "[LJetTrees$Knot;" ∈ zTbl := zIn 392 (by decide +kernel) rfl
theorem wl_393 : Jvm.Cond.fieldLink "JetTrees$Branches" (33 : Nat) "JetTrees$Tree" "knots" "[LJetTrees$Knot;" ∈ zTbl := zIn 393 (by decide +kernel) rfl
theorem wl_394 : Jvm.Cond.fieldLink "JetTrees$Tree" (30 : Nat) "JetTrees$Tree" "knotCount" "I" ∈ zTbl := zIn 394 (by decide +kernel) rfl
theorem wl_395 : Jvm.Cond.fieldLink "JetTrees$Branches" (87 : Nat) "JetTrees$Tree" "knotCount" "I" ∈ zTbl := zIn 395 (by decide +kernel) rfl
theorem wl_396 : Jvm.Cond.fieldLink "JetTrees$Gatherer" (153 : Nat) "JetTrees$Tree" "knotCount" "I" ∈ zTbl := zIn 396 (by decide +kernel) rfl
theorem wl_397 : Jvm.Cond.fieldLink "JetTrees" (189 : Nat) "JetTrees$Tree" "knotCount" "I" ∈ zTbl := zIn 397 (by decide +kernel) rfl
theorem wl_398 : Jvm.Cond.fieldLink "JetTrees$Tree" (35 : Nat) "JetTrees$Tree" "steps" "[LJetTrees$Step;" ∈ zTbl := zIn 398 (by decide +kernel) rfl
theorem wl_399 : Jvm.Cond.fieldLink "JetTrees" (445 : Nat) "JetTrees$Tree" "steps" "[LJetTrees$Step;" ∈ zTbl := zIn 399 (by decide +kernel) rfl
theorem wl_400 : Jvm.Cond.fieldLink "JetTrees$Tree" (39 : Nat) "JetTrees$Tree" "stepCount" "I" ∈ zTbl := zIn 400 (by decide +kernel) rfl
theorem wl_401 : Jvm.Cond.fieldLink "JetTrees" (192 : Nat) "JetTrees$Tree" "stepCount" "I" ∈ zTbl := zIn 401 (by decide +kernel) rfl
theorem wl_402 : Jvm.Cond.fieldLink "JetTrees$Tree" (42 : Nat) "JetTrees$Tree" "jets" "[LJetTrees$Knot;" ∈ zTbl := zIn 402 (by decide +kernel) rfl
theorem wl_403 : Jvm.Cond.fieldLink "JetTrees$Branches" (80 : Nat) "JetTrees$Tree" "jets" "[LJetTrees$Knot;" ∈ zTbl := zIn 403 (by decide +kernel) rfl
theorem wl_404 : Jvm.Cond.fieldLink "JetTrees" (326 : Nat) "JetTrees$Tree" "jets" "[LJetTrees$Knot;" ∈ zTbl := zIn 404 (by decide +kernel) rfl
theorem wl_405 : Jvm.Cond.fieldLink "JetTrees$Tree" (45 : Nat) "JetTrees$Tree" "jetCount" "I" ∈ zTbl := zIn 405 (by decide +kernel) rfl
theorem wl_406 : Jvm.Cond.fieldLink "JetTrees$Branches" (77 : Nat) "JetTrees$Tree" "jetCount" "I" ∈ zTbl := zIn 406 (by decide +kernel) rfl
theorem wl_407 : Jvm.Cond.fieldLink "JetTrees" (139 : Nat) "JetTrees$Tree" "jetCount" "I" ∈ zTbl := zIn 407 (by decide +kernel) rfl
theorem wl_408 : Jvm.Cond.fieldLink "JetTrees$Tree" (48 : Nat) "JetTrees$Tree" "origins" "[I" ∈ zTbl := zIn 408 (by decide +kernel) rfl
theorem wl_409 : Jvm.Cond.fieldLink "JetTrees$Branches" (57 : Nat) "JetTrees$Tree" "origins" "[I" ∈ zTbl := zIn 409 (by decide +kernel) rfl
theorem wl_410 : Jvm.Cond.fieldLink "JetTrees" (227 : Nat) "JetTrees$Tree" "origins" "[I" ∈ zTbl := zIn 410 (by decide +kernel) rfl
theorem wl_434 : Jvm.Cond.arrayClass Jvm.ClassFile.FieldType.int ∈ zTbl := zIn 434 (by decide +kernel) rfl
theorem wl_435 : Jvm.Cond.classLink "JetTrees$Gatherer" (24 : Nat) "JetTrees$Sum" ∈ zTbl := zIn 435 (by decide +kernel) rfl
theorem wl_436 : Jvm.Cond.instantiable "JetTrees$Sum" (3 : Nat) ∈ zTbl := zIn 436 (by decide +kernel) rfl
theorem wl_437 : Jvm.Cond.methodLinkNest "JetTrees$Gatherer" (26 : Nat) ({ cls := "JetTrees$Sum", name := "<init>", desc := "()V" } : Jvm.MethodName) "JetTrees" ∈ zTbl := zIn 437 (by decide +kernel) rfl
theorem wl_438 : Jvm.Cond.instanceMethod ({ cls := "JetTrees$Sum", name := "<init>", desc := "()V" } : Jvm.MethodName) ∈ zTbl := zIn 438 (by decide +kernel) rfl
theorem wl_439 : Jvm.Cond.code ({ cls := "JetTrees$Sum", name := "<init>", desc := "()V" } : Jvm.MethodName) prog_10_method_1_code (1 : Nat) (Option.none : Option Jvm.ClassFile.FieldType) ∈ zTbl := zIn 439 (by decide +kernel) rfl
theorem wl_440 : Jvm.Cond.methodLink "JetTrees$Sum" (3 : Nat) ({ cls := "java/lang/Object", name := "<init>", desc := "()V" } : Jvm.MethodName) ∈ zTbl := zIn 440 (by decide +kernel) rfl
theorem wl_441 : Jvm.Cond.fieldLink "JetTrees$Sum" (15 : Nat) "JetTrees$Sum" "across" "I" ∈ zTbl := zIn 441 (by decide +kernel) rfl
theorem wl_442 : Jvm.Cond.fieldLink "JetTrees$Cones" (60 : Nat) "JetTrees$Sum" "across" "I" ∈ zTbl := zIn 442 (by decide +kernel) rfl
theorem wl_443 : Jvm.Cond.fieldLink "JetTrees$Gatherer" (166 : Nat) "JetTrees$Sum" "across" "I" ∈ zTbl := zIn 443 (by decide +kernel) rfl
theorem wl_444 : Jvm.Cond.fieldLink "JetTrees$Sum" (21 : Nat) "JetTrees$Sum" "round" "I" ∈ zTbl := zIn 444 (by decide +kernel) rfl
theorem wl_445 : Jvm.Cond.fieldLink "JetTrees$Cones" (63 : Nat) "JetTrees$Sum" "round" "I" ∈ zTbl := zIn 445 (by decide +kernel) rfl
theorem wl_446 : Jvm.Cond.fieldLink "JetTrees$Gatherer" (169 : Nat) "JetTrees$Sum" "round" "I" ∈ zTbl := zIn 446 (by decide +kernel) rfl
theorem wl_447 : Jvm.Cond.fieldLink "JetTrees$Sum" (25 : Nat) "JetTrees$Sum" "weight" "I" ∈ zTbl := zIn 447 (by decide +kernel) rfl
theorem wl_448 : Jvm.Cond.fieldLink "JetTrees$Gatherer" (172 : Nat) "JetTrees$Sum" "weight" "I" ∈ zTbl := zIn 448 (by decide +kernel) rfl
theorem wl_456 : Jvm.Cond.classLink "JetTrees$Gatherer" (31 : Nat) "JetTrees$Knot" ∈ zTbl := zIn 456 (by decide +kernel) rfl
theorem wl_457 : Jvm.Cond.fieldLink "JetTrees$Gatherer" (9 : Nat) "JetTrees$Gatherer" "tracks" "[LJetTrees$Body;" ∈ zTbl := zIn 457 (by decide +kernel) rfl
theorem wl_458 : Jvm.Cond.fieldLink "JetTrees$Gatherer" (20 : Nat) "JetTrees$Gatherer" "tree" "LJetTrees$Tree;" ∈ zTbl := zIn 458 (by decide +kernel) rfl
theorem wl_459 : Jvm.Cond.fieldLink "JetTrees$Gatherer" (27 : Nat) "JetTrees$Gatherer" "sum" "LJetTrees$Sum;" ∈ zTbl := zIn 459 (by decide +kernel) rfl
theorem wl_460 : Jvm.Cond.fieldLink "JetTrees$Gatherer" (33 : Nat) "JetTrees$Gatherer" "open" "[LJetTrees$Knot;" ∈ zTbl := zIn 460 (by decide +kernel) rfl
theorem wl_461 : Jvm.Cond.fieldLink "JetTrees$Gatherer" (37 : Nat) "JetTrees$Gatherer" "openCount" "I" ∈ zTbl := zIn 461 (by decide +kernel) rfl
theorem wl_462 : Jvm.Cond.fieldLink "JetTrees$Gatherer" (41 : Nat) "JetTrees$Gatherer" "bestFirst" "I" ∈ zTbl := zIn 462 (by decide +kernel) rfl
theorem wl_463 : Jvm.Cond.fieldLink "JetTrees$Gatherer" (44 : Nat) "JetTrees$Gatherer" "bestSecond" "I" ∈ zTbl := zIn 463 (by decide +kernel) rfl
theorem wl_464 : Jvm.Cond.fieldLink "JetTrees$Gatherer" (47 : Nat) "JetTrees$Gatherer" "bestUp" "J" ∈ zTbl := zIn 464 (by decide +kernel) rfl
theorem wl_465 : Jvm.Cond.fieldLink "JetTrees$Gatherer" (51 : Nat) "JetTrees$Gatherer" "bestDown" "J" ∈ zTbl := zIn 465 (by decide +kernel) rfl
theorem wl_485 : Jvm.Cond.methodLink "JetTrees" (436 : Nat) ({ cls := "JetTrees$Gatherer", name := "gathered", desc := "()LJetTrees$Tree;" } : Jvm.MethodName) ∈ zTbl := zIn 485 (by decide +kernel) rfl
theorem wl_486 : Jvm.Cond.instanceMethod ({ cls := "JetTrees$Gatherer", name := "gathered", desc := "()LJetTrees$Tree;" } : Jvm.MethodName) ∈ zTbl := zIn 486 (by decide +kernel) rfl
theorem wl_487 : Jvm.Cond.selects "JetTrees$Gatherer" ({ cls := "JetTrees$Gatherer", name := "gathered", desc := "()LJetTrees$Tree;" } : Jvm.MethodName) ({ cls := "JetTrees$Gatherer", name := "gathered", desc := "()LJetTrees$Tree;" } : Jvm.MethodName) ∈ zTbl := zIn 487 (by decide +kernel) rfl
theorem wl_488 : Jvm.Cond.code ({ cls := "JetTrees$Gatherer", name := "gathered", desc := "()LJetTrees$Tree;" } : Jvm.MethodName) prog_6_method_2_code (2 : Nat) (Option.some (Jvm.ClassFile.FieldType.object "JetTrees$Tree")) ∈ zTbl := zIn 488 (by decide +kernel) rfl
theorem wl_489 : Jvm.Cond.instantiable "JetTrees$Knot" (7 : Nat) ∈ zTbl := zIn 489 (by decide +kernel) rfl
theorem wl_490 : Jvm.Cond.methodLinkNest "JetTrees$Gatherer" (54 : Nat) ({ cls := "JetTrees", name := "bitOf", desc := "(I)J" } : Jvm.MethodName) "JetTrees" ∈ zTbl := zIn 490 (by decide +kernel) rfl
theorem wl_491 : Jvm.Cond.static ({ cls := "JetTrees", name := "bitOf", desc := "(I)J" } : Jvm.MethodName) ∈ zTbl := zIn 491 (by decide +kernel) rfl
theorem wl_492 : Jvm.Cond.code ({ cls := "JetTrees", name := "bitOf", desc := "(I)J" } : Jvm.MethodName) prog_1_method_84_code (1 : Nat) (Option.some Jvm.ClassFile.FieldType.long) ∈ zTbl := zIn 492 (by decide +kernel) rfl
theorem wl_493 : Jvm.Cond.methodLink "JetTrees$Gatherer" (58 : Nat) ({ cls := "JetTrees$Knot", name := "<init>", desc := "(LJetTrees$Body;JLJetTrees$Knot;LJetTrees$Knot;I)V" } : Jvm.MethodName) ∈ zTbl := zIn 493 (by decide +kernel) rfl
theorem wl_494 : Jvm.Cond.instanceMethod ({ cls := "JetTrees$Knot", name := "<init>", desc := "(LJetTrees$Body;JLJetTrees$Knot;LJetTrees$Knot;I)V" } : Jvm.MethodName) ∈ zTbl := zIn 494 (by decide +kernel) rfl
theorem wl_495 : Jvm.Cond.code ({ cls := "JetTrees$Knot", name := "<init>", desc := "(LJetTrees$Body;JLJetTrees$Knot;LJetTrees$Knot;I)V" } : Jvm.MethodName) prog_7_method_1_code (7 : Nat) (Option.none : Option Jvm.ClassFile.FieldType) ∈ zTbl := zIn 495 (by decide +kernel) rfl
theorem wl_496 : Jvm.Cond.methodLink "JetTrees$Knot" (3 : Nat) ({ cls := "java/lang/Object", name := "<init>", desc := "()V" } : Jvm.MethodName) ∈ zTbl := zIn 496 (by decide +kernel) rfl
theorem wl_497 : Jvm.Cond.fieldLink "JetTrees$Knot" (9 : Nat) "JetTrees$Knot" "body" "LJetTrees$Body;" ∈ zTbl := zIn 497 (by decide +kernel) rfl
theorem wl_498 : Jvm.Cond.fieldLink "JetTrees$Branches" (37 : Nat) "JetTrees$Knot" "body" "LJetTrees$Body;" ∈ zTbl := zIn 498 (by decide +kernel) rfl
theorem wl_499 : Jvm.Cond.fieldLink "JetTrees$Gatherer" (78 : Nat) "JetTrees$Knot" "body" "LJetTrees$Body;" ∈ zTbl := zIn 499 (by decide +kernel) rfl
theorem wl_500 : Jvm.Cond.fieldLink "JetTrees$Tree" (52 : Nat) "JetTrees$Knot" "body" "LJetTrees$Body;" ∈ zTbl := zIn 500 (by decide +kernel) rfl
theorem wl_501 : Jvm.Cond.fieldLink "JetTrees" (201 : Nat) "JetTrees$Knot" "body" "LJetTrees$Body;" ∈ zTbl := zIn 501 (by decide +kernel) rfl
theorem wl_502 : Jvm.Cond.fieldLink "JetTrees$Knot" (15 : Nat) "JetTrees$Knot" "leaves" "J" ∈ zTbl := zIn 502 (by decide +kernel) rfl
theorem wl_503 : Jvm.Cond.fieldLink "JetTrees$Branches" (9 : Nat) "JetTrees$Knot" "leaves" "J" ∈ zTbl := zIn 503 (by decide +kernel) rfl
theorem wl_504 : Jvm.Cond.fieldLink "JetTrees$Tree" (69 : Nat) "JetTrees$Knot" "leaves" "J" ∈ zTbl := zIn 504 (by decide +kernel) rfl
theorem wl_505 : Jvm.Cond.fieldLink "JetTrees$Gatherer" (146 : Nat) "JetTrees$Knot" "leaves" "J" ∈ zTbl := zIn 505 (by decide +kernel) rfl
theorem wl_506 : Jvm.Cond.fieldLink "JetTrees" (253 : Nat) "JetTrees$Knot" "leaves" "J" ∈ zTbl := zIn 506 (by decide +kernel) rfl
theorem wl_507 : Jvm.Cond.fieldLink "JetTrees$Knot" (19 : Nat) "JetTrees$Knot" "first" "LJetTrees$Knot;" ∈ zTbl := zIn 507 (by decide +kernel) rfl
theorem wl_508 : Jvm.Cond.fieldLink "JetTrees$Branches" (119 : Nat) "JetTrees$Knot" "first" "LJetTrees$Knot;" ∈ zTbl := zIn 508 (by decide +kernel) rfl
theorem wl_509 : Jvm.Cond.fieldLink "JetTrees" (207 : Nat) "JetTrees$Knot" "first" "LJetTrees$Knot;" ∈ zTbl := zIn 509 (by decide +kernel) rfl
theorem wl_510 : Jvm.Cond.fieldLink "JetTrees$Knot" (23 : Nat) "JetTrees$Knot" "second" "LJetTrees$Knot;" ∈ zTbl := zIn 510 (by decide +kernel) rfl
theorem wl_511 : Jvm.Cond.fieldLink "JetTrees$Branches" (123 : Nat) "JetTrees$Knot" "second" "LJetTrees$Knot;" ∈ zTbl := zIn 511 (by decide +kernel) rfl
theorem wl_512 : Jvm.Cond.fieldLink "JetTrees" (215 : Nat) "JetTrees$Knot" "second" "LJetTrees$Knot;" ∈ zTbl := zIn 512 (by decide +kernel) rfl
theorem wl_513 : Jvm.Cond.fieldLink "JetTrees$Knot" (26 : Nat) "JetTrees$Knot" "joinedBy" "I" ∈ zTbl := zIn 513 (by decide +kernel) rfl
theorem wl_514 : Jvm.Cond.fieldLink "JetTrees$Tree" (75 : Nat) "JetTrees$Knot" "joinedBy" "I" ∈ zTbl := zIn 514 (by decide +kernel) rfl
theorem wl_515 : Jvm.Cond.fieldLink "JetTrees$Branches" (134 : Nat) "JetTrees$Knot" "joinedBy" "I" ∈ zTbl := zIn 515 (by decide +kernel) rfl
theorem wl_516 : Jvm.Cond.fieldLink "JetTrees" (221 : Nat) "JetTrees$Knot" "joinedBy" "I" ∈ zTbl := zIn 516 (by decide +kernel) rfl
theorem wl_517 : Jvm.Cond.fieldLink "JetTrees$Knot" (30 : Nat) "JetTrees$Knot" "whole" "LJetTrees$Knot;" ∈ zTbl := zIn 517 (by decide +kernel) rfl
theorem wl_518 : Jvm.Cond.fieldLink "JetTrees$Gatherer" (149 : Nat) "JetTrees$Knot" "whole" "LJetTrees$Knot;" ∈ zTbl := zIn 518 (by decide +kernel) rfl
theorem wl_519 : Jvm.Cond.fieldLink "JetTrees$Tree" (92 : Nat) "JetTrees$Knot" "whole" "LJetTrees$Knot;" ∈ zTbl := zIn 519 (by decide +kernel) rfl
theorem wl_520 : Jvm.Cond.fieldLink "JetTrees" (218 : Nat) "JetTrees$Knot" "whole" "LJetTrees$Knot;" ∈ zTbl := zIn 520 (by decide +kernel) rfl
theorem wl_521 : Jvm.Cond.fieldLink "JetTrees$Knot" (33 : Nat) "JetTrees$Knot" "wentBy" "I" ∈ zTbl := zIn 521 (by decide +kernel) rfl
theorem wl_522 : Jvm.Cond.fieldLink "JetTrees$Gatherer" (121 : Nat) "JetTrees$Knot" "wentBy" "I" ∈ zTbl := zIn 522 (by decide +kernel) rfl
theorem wl_523 : Jvm.Cond.fieldLink "JetTrees$Tree" (89 : Nat) "JetTrees$Knot" "wentBy" "I" ∈ zTbl := zIn 523 (by decide +kernel) rfl
theorem wl_524 : Jvm.Cond.fieldLink "JetTrees" (224 : Nat) "JetTrees$Knot" "wentBy" "I" ∈ zTbl := zIn 524 (by decide +kernel) rfl
theorem wl_540 : Jvm.Cond.methodLink "JetTrees$Gatherer" (61 : Nat) ({ cls := "JetTrees$Gatherer", name := "putIn", desc := "(LJetTrees$Knot;)V" } : Jvm.MethodName) ∈ zTbl := zIn 540 (by decide +kernel) rfl
theorem wl_542 : Jvm.Cond.instanceMethod ({ cls := "JetTrees$Gatherer", name := "putIn", desc := "(LJetTrees$Knot;)V" } : Jvm.MethodName) ∈ zTbl := zIn 542 (by decide +kernel) rfl
theorem wl_543 : Jvm.Cond.code ({ cls := "JetTrees$Gatherer", name := "putIn", desc := "(LJetTrees$Knot;)V" } : Jvm.MethodName) prog_6_method_3_code (4 : Nat) (Option.none : Option Jvm.ClassFile.FieldType) ∈ zTbl := zIn 543 (by decide +kernel) rfl
theorem wl_544 : Jvm.Cond.methodLink "JetTrees$Gatherer" (75 : Nat) ({ cls := "JetTrees$Tree", name := "addKnot", desc := "(LJetTrees$Knot;)V" } : Jvm.MethodName) ∈ zTbl := zIn 544 (by decide +kernel) rfl
theorem wl_545 : Jvm.Cond.instanceMethod ({ cls := "JetTrees$Tree", name := "addKnot", desc := "(LJetTrees$Knot;)V" } : Jvm.MethodName) ∈ zTbl := zIn 545 (by decide +kernel) rfl
theorem wl_546 : Jvm.Cond.selects "JetTrees$Tree" ({ cls := "JetTrees$Tree", name := "addKnot", desc := "(LJetTrees$Knot;)V" } : Jvm.MethodName) ({ cls := "JetTrees$Tree", name := "addKnot", desc := "(LJetTrees$Knot;)V" } : Jvm.MethodName) ∈ zTbl := zIn 546 (by decide +kernel) rfl
theorem wl_547 : Jvm.Cond.code ({ cls := "JetTrees$Tree", name := "addKnot", desc := "(LJetTrees$Knot;)V" } : Jvm.MethodName) prog_12_method_2_code (2 : Nat) (Option.none : Option Jvm.ClassFile.FieldType) ∈ zTbl := zIn 547 (by decide +kernel) rfl
theorem wl_548 : Jvm.Cond.methodLink "JetTrees$Gatherer" (82 : Nat) ({ cls := "JetTrees$Body", name := "isAheadOf", desc := "(LJetTrees$Body;)Z" } : Jvm.MethodName) ∈ zTbl := zIn 548 (by decide +kernel) rfl
theorem wl_549 : Jvm.Cond.instanceMethod ({ cls := "JetTrees$Body", name := "isAheadOf", desc := "(LJetTrees$Body;)Z" } : Jvm.MethodName) ∈ zTbl := zIn 549 (by decide +kernel) rfl
theorem wl_550 : Jvm.Cond.selects "JetTrees$Body" ({ cls := "JetTrees$Body", name := "isAheadOf", desc := "(LJetTrees$Body;)Z" } : Jvm.MethodName) ({ cls := "JetTrees$Body", name := "isAheadOf", desc := "(LJetTrees$Body;)Z" } : Jvm.MethodName) ∈ zTbl := zIn 550 (by decide +kernel) rfl
theorem wl_551 : Jvm.Cond.code ({ cls := "JetTrees$Body", name := "isAheadOf", desc := "(LJetTrees$Body;)Z" } : Jvm.MethodName) prog_2_method_3_code (2 : Nat) (Option.some Jvm.ClassFile.FieldType.boolean) ∈ zTbl := zIn 551 (by decide +kernel) rfl
theorem wl_552 : Jvm.Cond.methodLink "JetTrees$Gatherer" (65 : Nat) ({ cls := "JetTrees$Gatherer", name := "findLeast", desc := "()V" } : Jvm.MethodName) ∈ zTbl := zIn 552 (by decide +kernel) rfl
theorem wl_554 : Jvm.Cond.instanceMethod ({ cls := "JetTrees$Gatherer", name := "findLeast", desc := "()V" } : Jvm.MethodName) ∈ zTbl := zIn 554 (by decide +kernel) rfl
theorem wl_555 : Jvm.Cond.code ({ cls := "JetTrees$Gatherer", name := "findLeast", desc := "()V" } : Jvm.MethodName) prog_6_method_5_code (3 : Nat) (Option.none : Option Jvm.ClassFile.FieldType) ∈ zTbl := zIn 555 (by decide +kernel) rfl
theorem wl_556 : Jvm.Cond.methodLink "JetTrees$Gatherer" (88 : Nat) ({ cls := "JetTrees$Gatherer", name := "offerAlone", desc := "(I)V" } : Jvm.MethodName) ∈ zTbl := zIn 556 (by decide +kernel) rfl
theorem wl_558 : Jvm.Cond.instanceMethod ({ cls := "JetTrees$Gatherer", name := "offerAlone", desc := "(I)V" } : Jvm.MethodName) ∈ zTbl := zIn 558 (by decide +kernel) rfl
theorem wl_559 : Jvm.Cond.code ({ cls := "JetTrees$Gatherer", name := "offerAlone", desc := "(I)V" } : Jvm.MethodName) prog_6_method_6_code (4 : Nat) (Option.none : Option Jvm.ClassFile.FieldType) ∈ zTbl := zIn 559 (by decide +kernel) rfl
theorem wl_560 : Jvm.Cond.methodLink "JetTrees$Gatherer" (101 : Nat) ({ cls := "JetTrees$Gatherer", name := "offer", desc := "(IIJJ)V" } : Jvm.MethodName) ∈ zTbl := zIn 560 (by decide +kernel) rfl
theorem wl_562 : Jvm.Cond.instanceMethod ({ cls := "JetTrees$Gatherer", name := "offer", desc := "(IIJJ)V" } : Jvm.MethodName) ∈ zTbl := zIn 562 (by decide +kernel) rfl
theorem wl_563 : Jvm.Cond.code ({ cls := "JetTrees$Gatherer", name := "offer", desc := "(IIJJ)V" } : Jvm.MethodName) prog_6_method_8_code (11 : Nat) (Option.none : Option Jvm.ClassFile.FieldType) ∈ zTbl := zIn 563 (by decide +kernel) rfl
theorem wl_564 : Jvm.Cond.methodLink "JetTrees$Gatherer" (91 : Nat) ({ cls := "JetTrees$Gatherer", name := "offerTwo", desc := "(II)V" } : Jvm.MethodName) ∈ zTbl := zIn 564 (by decide +kernel) rfl
theorem wl_566 : Jvm.Cond.instanceMethod ({ cls := "JetTrees$Gatherer", name := "offerTwo", desc := "(II)V" } : Jvm.MethodName) ∈ zTbl := zIn 566 (by decide +kernel) rfl
theorem wl_567 : Jvm.Cond.code ({ cls := "JetTrees$Gatherer", name := "offerTwo", desc := "(II)V" } : Jvm.MethodName) prog_6_method_7_code (7 : Nat) (Option.none : Option Jvm.ClassFile.FieldType) ∈ zTbl := zIn 567 (by decide +kernel) rfl
theorem wl_568 : Jvm.Cond.methodLink "JetTrees$Gatherer" (108 : Nat) ({ cls := "java/lang/Math", name := "min", desc := "(II)I" } : Jvm.MethodName) ∈ zTbl := zIn 568 (by decide +kernel) rfl
theorem wl_569 : Jvm.Cond.methodLink "JetTrees$Gatherer" (114 : Nat) ({ cls := "java/lang/Math", name := "max", desc := "(II)I" } : Jvm.MethodName) ∈ zTbl := zIn 569 (by decide +kernel) rfl
theorem wl_570 : Jvm.Cond.methodLink "JetTrees$Gatherer" (117 : Nat) ({ cls := "JetTrees$Body", name := "squareTo", desc := "(LJetTrees$Body;)I" } : Jvm.MethodName) ∈ zTbl := zIn 570 (by decide +kernel) rfl
theorem wl_571 : Jvm.Cond.instanceMethod ({ cls := "JetTrees$Body", name := "squareTo", desc := "(LJetTrees$Body;)I" } : Jvm.MethodName) ∈ zTbl := zIn 571 (by decide +kernel) rfl
theorem wl_572 : Jvm.Cond.selects "JetTrees$Body" ({ cls := "JetTrees$Body", name := "squareTo", desc := "(LJetTrees$Body;)I" } : Jvm.MethodName) ({ cls := "JetTrees$Body", name := "squareTo", desc := "(LJetTrees$Body;)I" } : Jvm.MethodName) ∈ zTbl := zIn 572 (by decide +kernel) rfl
theorem wl_573 : Jvm.Cond.code ({ cls := "JetTrees$Body", name := "squareTo", desc := "(LJetTrees$Body;)I" } : Jvm.MethodName) prog_2_method_4_code (2 : Nat) (Option.some Jvm.ClassFile.FieldType.int) ∈ zTbl := zIn 573 (by decide +kernel) rfl
theorem wl_574 : Jvm.Cond.methodLink "JetTrees$Body" (27 : Nat) ({ cls := "JetTrees$Body", name := "squareTo", desc := "(II)I" } : Jvm.MethodName) ∈ zTbl := zIn 574 (by decide +kernel) rfl
theorem wl_575 : Jvm.Cond.instanceMethod ({ cls := "JetTrees$Body", name := "squareTo", desc := "(II)I" } : Jvm.MethodName) ∈ zTbl := zIn 575 (by decide +kernel) rfl
theorem wl_576 : Jvm.Cond.selects "JetTrees$Body" ({ cls := "JetTrees$Body", name := "squareTo", desc := "(II)I" } : Jvm.MethodName) ({ cls := "JetTrees$Body", name := "squareTo", desc := "(II)I" } : Jvm.MethodName) ∈ zTbl := zIn 576 (by decide +kernel) rfl
theorem wl_577 : Jvm.Cond.code ({ cls := "JetTrees$Body", name := "squareTo", desc := "(II)I" } : Jvm.MethodName) prog_2_method_5_code (5 : Nat) (Option.some Jvm.ClassFile.FieldType.int) ∈ zTbl := zIn 577 (by decide +kernel) rfl
theorem wl_578 : Jvm.Cond.methodLink "JetTrees$Body" (31 : Nat) ({ cls := "JetTrees$Body", name := "lesserWay", desc := "(II)I" } : Jvm.MethodName) ∈ zTbl := zIn 578 (by decide +kernel) rfl
theorem wl_579 : Jvm.Cond.static ({ cls := "JetTrees$Body", name := "lesserWay", desc := "(II)I" } : Jvm.MethodName) ∈ zTbl := zIn 579 (by decide +kernel) rfl
theorem wl_580 : Jvm.Cond.code ({ cls := "JetTrees$Body", name := "lesserWay", desc := "(II)I" } : Jvm.MethodName) prog_2_method_7_code (3 : Nat) (Option.some Jvm.ClassFile.FieldType.int) ∈ zTbl := zIn 580 (by decide +kernel) rfl
theorem wl_581 : Jvm.Cond.methodLink "JetTrees$Body" (37 : Nat) ({ cls := "java/lang/Math", name := "abs", desc := "(I)I" } : Jvm.MethodName) ∈ zTbl := zIn 581 (by decide +kernel) rfl
theorem wl_582 : Jvm.Cond.static ({ cls := "java/lang/Math", name := "abs", desc := "(I)I" } : Jvm.MethodName) ∈ zTbl := zIn 582 (by decide +kernel) rfl
theorem wl_583 : Jvm.Cond.code ({ cls := "java/lang/Math", name := "abs", desc := "(I)I" } : Jvm.MethodName) prog_17_method_59_code (1 : Nat) (Option.some Jvm.ClassFile.FieldType.int) ∈ zTbl := zIn 583 (by decide +kernel) rfl
theorem wl_584 : Jvm.Cond.methodLink "JetTrees$Body" (43 : Nat) ({ cls := "java/lang/Math", name := "min", desc := "(II)I" } : Jvm.MethodName) ∈ zTbl := zIn 584 (by decide +kernel) rfl
theorem wl_585 : Jvm.Cond.methodLink "JetTrees$Gatherer" (68 : Nat) ({ cls := "JetTrees$Gatherer", name := "goToBeam", desc := "(I)V" } : Jvm.MethodName) ∈ zTbl := zIn 585 (by decide +kernel) rfl
theorem wl_587 : Jvm.Cond.instanceMethod ({ cls := "JetTrees$Gatherer", name := "goToBeam", desc := "(I)V" } : Jvm.MethodName) ∈ zTbl := zIn 587 (by decide +kernel) rfl
theorem wl_588 : Jvm.Cond.code ({ cls := "JetTrees$Gatherer", name := "goToBeam", desc := "(I)V" } : Jvm.MethodName) prog_6_method_9_code (3 : Nat) (Option.none : Option Jvm.ClassFile.FieldType) ∈ zTbl := zIn 588 (by decide +kernel) rfl
theorem wl_589 : Jvm.Cond.classLink "JetTrees$Gatherer" (124 : Nat) "JetTrees$Step" ∈ zTbl := zIn 589 (by decide +kernel) rfl
theorem wl_590 : Jvm.Cond.instantiable "JetTrees$Step" (5 : Nat) ∈ zTbl := zIn 590 (by decide +kernel) rfl
theorem wl_591 : Jvm.Cond.methodLink "JetTrees$Gatherer" (129 : Nat) ({ cls := "JetTrees$Step", name := "<init>", desc := "(IIIJJ)V" } : Jvm.MethodName) ∈ zTbl := zIn 591 (by decide +kernel) rfl
theorem wl_592 : Jvm.Cond.instanceMethod ({ cls := "JetTrees$Step", name := "<init>", desc := "(IIIJJ)V" } : Jvm.MethodName) ∈ zTbl := zIn 592 (by decide +kernel) rfl
theorem wl_593 : Jvm.Cond.code ({ cls := "JetTrees$Step", name := "<init>", desc := "(IIIJJ)V" } : Jvm.MethodName) prog_9_method_1_code (10 : Nat) (Option.none : Option Jvm.ClassFile.FieldType) ∈ zTbl := zIn 593 (by decide +kernel) rfl
theorem wl_594 : Jvm.Cond.methodLink "JetTrees$Step" (3 : Nat) ({ cls := "java/lang/Object", name := "<init>", desc := "()V" } : Jvm.MethodName) ∈ zTbl := zIn 594 (by decide +kernel) rfl
theorem wl_595 : Jvm.Cond.methodLink "JetTrees$Step" (9 : Nat) ({ cls := "JetTrees$Step", name := "commonDivisor", desc := "(JJ)J" } : Jvm.MethodName) ∈ zTbl := zIn 595 (by decide +kernel) rfl
theorem wl_596 : Jvm.Cond.static ({ cls := "JetTrees$Step", name := "commonDivisor", desc := "(JJ)J" } : Jvm.MethodName) ∈ zTbl := zIn 596 (by decide +kernel) rfl
theorem wl_597 : Jvm.Cond.code ({ cls := "JetTrees$Step", name := "commonDivisor", desc := "(JJ)J" } : Jvm.MethodName) prog_9_method_4_code (11 : Nat) (Option.some Jvm.ClassFile.FieldType.long) ∈ zTbl := zIn 597 (by decide +kernel) rfl
theorem wl_598 : Jvm.Cond.fieldLink "JetTrees$Step" (15 : Nat) "JetTrees$Step" "first" "I" ∈ zTbl := zIn 598 (by decide +kernel) rfl
theorem wl_599 : Jvm.Cond.fieldLink "JetTrees" (235 : Nat) "JetTrees$Step" "first" "I" ∈ zTbl := zIn 599 (by decide +kernel) rfl
theorem wl_600 : Jvm.Cond.fieldLink "JetTrees$Step" (19 : Nat) "JetTrees$Step" "second" "I" ∈ zTbl := zIn 600 (by decide +kernel) rfl
theorem wl_601 : Jvm.Cond.fieldLink "JetTrees" (239 : Nat) "JetTrees$Step" "second" "I" ∈ zTbl := zIn 601 (by decide +kernel) rfl
theorem wl_602 : Jvm.Cond.fieldLink "JetTrees$Step" (22 : Nat) "JetTrees$Step" "came" "I" ∈ zTbl := zIn 602 (by decide +kernel) rfl
theorem wl_603 : Jvm.Cond.fieldLink "JetTrees$Tree" (82 : Nat) "JetTrees$Step" "came" "I" ∈ zTbl := zIn 603 (by decide +kernel) rfl
theorem wl_604 : Jvm.Cond.fieldLink "JetTrees" (241 : Nat) "JetTrees$Step" "came" "I" ∈ zTbl := zIn 604 (by decide +kernel) rfl
theorem wl_605 : Jvm.Cond.fieldLink "JetTrees$Step" (25 : Nat) "JetTrees$Step" "up" "J" ∈ zTbl := zIn 605 (by decide +kernel) rfl
theorem wl_606 : Jvm.Cond.fieldLink "JetTrees" (246 : Nat) "JetTrees$Step" "up" "J" ∈ zTbl := zIn 606 (by decide +kernel) rfl
theorem wl_607 : Jvm.Cond.fieldLink "JetTrees$Step" (29 : Nat) "JetTrees$Step" "down" "J" ∈ zTbl := zIn 607 (by decide +kernel) rfl
theorem wl_608 : Jvm.Cond.fieldLink "JetTrees" (250 : Nat) "JetTrees$Step" "down" "J" ∈ zTbl := zIn 608 (by decide +kernel) rfl
theorem wl_620 : Jvm.Cond.methodLink "JetTrees$Gatherer" (132 : Nat) ({ cls := "JetTrees$Tree", name := "addStep", desc := "(LJetTrees$Step;)V" } : Jvm.MethodName) ∈ zTbl := zIn 620 (by decide +kernel) rfl
theorem wl_621 : Jvm.Cond.instanceMethod ({ cls := "JetTrees$Tree", name := "addStep", desc := "(LJetTrees$Step;)V" } : Jvm.MethodName) ∈ zTbl := zIn 621 (by decide +kernel) rfl
theorem wl_622 : Jvm.Cond.selects "JetTrees$Tree" ({ cls := "JetTrees$Tree", name := "addStep", desc := "(LJetTrees$Step;)V" } : Jvm.MethodName) ({ cls := "JetTrees$Tree", name := "addStep", desc := "(LJetTrees$Step;)V" } : Jvm.MethodName) ∈ zTbl := zIn 622 (by decide +kernel) rfl
theorem wl_623 : Jvm.Cond.code ({ cls := "JetTrees$Tree", name := "addStep", desc := "(LJetTrees$Step;)V" } : Jvm.MethodName) prog_12_method_3_code (2 : Nat) (Option.none : Option Jvm.ClassFile.FieldType) ∈ zTbl := zIn 623 (by decide +kernel) rfl
theorem wl_624 : Jvm.Cond.methodLink "JetTrees$Gatherer" (136 : Nat) ({ cls := "JetTrees$Tree", name := "addJet", desc := "(LJetTrees$Knot;)V" } : Jvm.MethodName) ∈ zTbl := zIn 624 (by decide +kernel) rfl
theorem wl_625 : Jvm.Cond.instanceMethod ({ cls := "JetTrees$Tree", name := "addJet", desc := "(LJetTrees$Knot;)V" } : Jvm.MethodName) ∈ zTbl := zIn 625 (by decide +kernel) rfl
theorem wl_626 : Jvm.Cond.selects "JetTrees$Tree" ({ cls := "JetTrees$Tree", name := "addJet", desc := "(LJetTrees$Knot;)V" } : Jvm.MethodName) ({ cls := "JetTrees$Tree", name := "addJet", desc := "(LJetTrees$Knot;)V" } : Jvm.MethodName) ∈ zTbl := zIn 626 (by decide +kernel) rfl
theorem wl_627 : Jvm.Cond.code ({ cls := "JetTrees$Tree", name := "addJet", desc := "(LJetTrees$Knot;)V" } : Jvm.MethodName) prog_12_method_4_code (4 : Nat) (Option.none : Option Jvm.ClassFile.FieldType) ∈ zTbl := zIn 627 (by decide +kernel) rfl
theorem wl_628 : Jvm.Cond.methodLink "JetTrees$Tree" (56 : Nat) ({ cls := "JetTrees$Tree", name := "isJetBefore", desc := "(LJetTrees$Body;LJetTrees$Body;)Z" } : Jvm.MethodName) ∈ zTbl := zIn 628 (by decide +kernel) rfl
theorem wl_629 : Jvm.Cond.static ({ cls := "JetTrees$Tree", name := "isJetBefore", desc := "(LJetTrees$Body;LJetTrees$Body;)Z" } : Jvm.MethodName) ∈ zTbl := zIn 629 (by decide +kernel) rfl
theorem wl_630 : Jvm.Cond.code ({ cls := "JetTrees$Tree", name := "isJetBefore", desc := "(LJetTrees$Body;LJetTrees$Body;)Z" } : Jvm.MethodName) prog_12_method_5_code (2 : Nat) (Option.some Jvm.ClassFile.FieldType.boolean) ∈ zTbl := zIn 630 (by decide +kernel) rfl
theorem wl_631 : Jvm.Cond.methodLink "JetTrees$Tree" (65 : Nat) ({ cls := "JetTrees$Body", name := "isAheadOf", desc := "(LJetTrees$Body;)Z" } : Jvm.MethodName) ∈ zTbl := zIn 631 (by decide +kernel) rfl
theorem wl_632 : Jvm.Cond.methodLink "JetTrees$Gatherer" (139 : Nat) ({ cls := "JetTrees$Gatherer", name := "takeOut", desc := "(I)V" } : Jvm.MethodName) ∈ zTbl := zIn 632 (by decide +kernel) rfl
theorem wl_634 : Jvm.Cond.instanceMethod ({ cls := "JetTrees$Gatherer", name := "takeOut", desc := "(I)V" } : Jvm.MethodName) ∈ zTbl := zIn 634 (by decide +kernel) rfl
theorem wl_635 : Jvm.Cond.code ({ cls := "JetTrees$Gatherer", name := "takeOut", desc := "(I)V" } : Jvm.MethodName) prog_6_method_4_code (3 : Nat) (Option.none : Option Jvm.ClassFile.FieldType) ∈ zTbl := zIn 635 (by decide +kernel) rfl
theorem wl_636 : Jvm.Cond.methodLink "JetTrees$Gatherer" (72 : Nat) ({ cls := "JetTrees$Gatherer", name := "joinBest", desc := "(I)V" } : Jvm.MethodName) ∈ zTbl := zIn 636 (by decide +kernel) rfl
theorem wl_638 : Jvm.Cond.instanceMethod ({ cls := "JetTrees$Gatherer", name := "joinBest", desc := "(I)V" } : Jvm.MethodName) ∈ zTbl := zIn 638 (by decide +kernel) rfl
theorem wl_639 : Jvm.Cond.code ({ cls := "JetTrees$Gatherer", name := "joinBest", desc := "(I)V" } : Jvm.MethodName) prog_6_method_10_code (6 : Nat) (Option.none : Option Jvm.ClassFile.FieldType) ∈ zTbl := zIn 639 (by decide +kernel) rfl
theorem wl_640 : Jvm.Cond.methodLink "JetTrees$Gatherer" (142 : Nat) ({ cls := "JetTrees$Gatherer", name := "joinedBody", desc := "(LJetTrees$Body;LJetTrees$Body;)LJetTrees$Body;" } : Jvm.MethodName) ∈ zTbl := zIn 640 (by decide +kernel) rfl
theorem wl_642 : Jvm.Cond.instanceMethod ({ cls := "JetTrees$Gatherer", name := "joinedBody", desc := "(LJetTrees$Body;LJetTrees$Body;)LJetTrees$Body;" } : Jvm.MethodName) ∈ zTbl := zIn 642 (by decide +kernel) rfl
theorem wl_643 : Jvm.Cond.code ({ cls := "JetTrees$Gatherer", name := "joinedBody", desc := "(LJetTrees$Body;LJetTrees$Body;)LJetTrees$Body;" } : Jvm.MethodName) prog_6_method_11_code (5 : Nat) (Option.some (Jvm.ClassFile.FieldType.object "JetTrees$Body")) ∈ zTbl := zIn 643 (by decide +kernel) rfl
theorem wl_644 : Jvm.Cond.methodLink "JetTrees$Gatherer" (159 : Nat) ({ cls := "JetTrees$Sum", name := "begin", desc := "(LJetTrees$Body;)V" } : Jvm.MethodName) ∈ zTbl := zIn 644 (by decide +kernel) rfl
theorem wl_645 : Jvm.Cond.instanceMethod ({ cls := "JetTrees$Sum", name := "begin", desc := "(LJetTrees$Body;)V" } : Jvm.MethodName) ∈ zTbl := zIn 645 (by decide +kernel) rfl
theorem wl_646 : Jvm.Cond.selects "JetTrees$Sum" ({ cls := "JetTrees$Sum", name := "begin", desc := "(LJetTrees$Body;)V" } : Jvm.MethodName) ({ cls := "JetTrees$Sum", name := "begin", desc := "(LJetTrees$Body;)V" } : Jvm.MethodName) ∈ zTbl := zIn 646 (by decide +kernel) rfl
theorem wl_647 : Jvm.Cond.code ({ cls := "JetTrees$Sum", name := "begin", desc := "(LJetTrees$Body;)V" } : Jvm.MethodName) prog_10_method_2_code (2 : Nat) (Option.none : Option Jvm.ClassFile.FieldType) ∈ zTbl := zIn 647 (by decide +kernel) rfl
theorem wl_648 : Jvm.Cond.methodLink "JetTrees$Gatherer" (163 : Nat) ({ cls := "JetTrees$Sum", name := "add", desc := "(LJetTrees$Body;)V" } : Jvm.MethodName) ∈ zTbl := zIn 648 (by decide +kernel) rfl
theorem wl_649 : Jvm.Cond.instanceMethod ({ cls := "JetTrees$Sum", name := "add", desc := "(LJetTrees$Body;)V" } : Jvm.MethodName) ∈ zTbl := zIn 649 (by decide +kernel) rfl
theorem wl_650 : Jvm.Cond.selects "JetTrees$Sum" ({ cls := "JetTrees$Sum", name := "add", desc := "(LJetTrees$Body;)V" } : Jvm.MethodName) ({ cls := "JetTrees$Sum", name := "add", desc := "(LJetTrees$Body;)V" } : Jvm.MethodName) ∈ zTbl := zIn 650 (by decide +kernel) rfl
theorem wl_651 : Jvm.Cond.code ({ cls := "JetTrees$Sum", name := "add", desc := "(LJetTrees$Body;)V" } : Jvm.MethodName) prog_10_method_3_code (4 : Nat) (Option.none : Option Jvm.ClassFile.FieldType) ∈ zTbl := zIn 651 (by decide +kernel) rfl
theorem wl_652 : Jvm.Cond.methodLinkNest "JetTrees$Sum" (26 : Nat) ({ cls := "JetTrees", name := "downward", desc := "(II)I" } : Jvm.MethodName) "JetTrees" ∈ zTbl := zIn 652 (by decide +kernel) rfl
theorem wl_653 : Jvm.Cond.static ({ cls := "JetTrees", name := "downward", desc := "(II)I" } : Jvm.MethodName) ∈ zTbl := zIn 653 (by decide +kernel) rfl
theorem wl_654 : Jvm.Cond.code ({ cls := "JetTrees", name := "downward", desc := "(II)I" } : Jvm.MethodName) prog_1_method_86_code (2 : Nat) (Option.some Jvm.ClassFile.FieldType.int) ∈ zTbl := zIn 654 (by decide +kernel) rfl
theorem wl_655 : Jvm.Cond.methodLink "JetTrees" (452 : Nat) ({ cls := "java/lang/Math", name := "floorDiv", desc := "(II)I" } : Jvm.MethodName) ∈ zTbl := zIn 655 (by decide +kernel) rfl
theorem wl_656 : Jvm.Cond.static ({ cls := "java/lang/Math", name := "floorDiv", desc := "(II)I" } : Jvm.MethodName) ∈ zTbl := zIn 656 (by decide +kernel) rfl
theorem wl_657 : Jvm.Cond.code ({ cls := "java/lang/Math", name := "floorDiv", desc := "(II)I" } : Jvm.MethodName) prog_17_method_47_code (3 : Nat) (Option.some Jvm.ClassFile.FieldType.int) ∈ zTbl := zIn 657 (by decide +kernel) rfl
theorem wl_658 : Jvm.Cond.methodLink "JetTrees$Sum" (30 : Nat) ({ cls := "JetTrees$Body", name := "wayFromTo", desc := "(II)I" } : Jvm.MethodName) ∈ zTbl := zIn 658 (by decide +kernel) rfl
theorem wl_659 : Jvm.Cond.static ({ cls := "JetTrees$Body", name := "wayFromTo", desc := "(II)I" } : Jvm.MethodName) ∈ zTbl := zIn 659 (by decide +kernel) rfl
theorem wl_660 : Jvm.Cond.code ({ cls := "JetTrees$Body", name := "wayFromTo", desc := "(II)I" } : Jvm.MethodName) prog_2_method_8_code (3 : Nat) (Option.some Jvm.ClassFile.FieldType.int) ∈ zTbl := zIn 660 (by decide +kernel) rfl
theorem wl_661 : Jvm.Cond.methodLink "JetTrees$Body" (46 : Nat) ({ cls := "java/lang/Math", name := "floorMod", desc := "(II)I" } : Jvm.MethodName) ∈ zTbl := zIn 661 (by decide +kernel) rfl
theorem wl_662 : Jvm.Cond.methodLink "JetTrees$Sum" (33 : Nat) ({ cls := "java/lang/Math", name := "floorMod", desc := "(II)I" } : Jvm.MethodName) ∈ zTbl := zIn 662 (by decide +kernel) rfl
theorem wl_663 : Jvm.Cond.classLink "JetTrees$Gatherer" (83 : Nat) "JetTrees$Body" ∈ zTbl := zIn 663 (by decide +kernel) rfl
theorem wl_664 : Jvm.Cond.methodLink "JetTrees$Gatherer" (173 : Nat) ({ cls := "JetTrees$Body", name := "<init>", desc := "(IIII)V" } : Jvm.MethodName) ∈ zTbl := zIn 664 (by decide +kernel) rfl
theorem wl_665 : Jvm.Cond.methodLink "JetTrees" (135 : Nat) ({ cls := "JetTrees$State", name := "withTree", desc := "(ILJetTrees$Tree;)LJetTrees$State;" } : Jvm.MethodName) ∈ zTbl := zIn 665 (by decide +kernel) rfl
theorem wl_666 : Jvm.Cond.instanceMethod ({ cls := "JetTrees$State", name := "withTree", desc := "(ILJetTrees$Tree;)LJetTrees$State;" } : Jvm.MethodName) ∈ zTbl := zIn 666 (by decide +kernel) rfl
theorem wl_667 : Jvm.Cond.selects "JetTrees$State" ({ cls := "JetTrees$State", name := "withTree", desc := "(ILJetTrees$Tree;)LJetTrees$State;" } : Jvm.MethodName) ({ cls := "JetTrees$State", name := "withTree", desc := "(ILJetTrees$Tree;)LJetTrees$State;" } : Jvm.MethodName) ∈ zTbl := zIn 667 (by decide +kernel) rfl
theorem wl_668 : Jvm.Cond.code ({ cls := "JetTrees$State", name := "withTree", desc := "(ILJetTrees$Tree;)LJetTrees$State;" } : Jvm.MethodName) prog_8_method_5_code (4 : Nat) (Option.some (Jvm.ClassFile.FieldType.object "JetTrees$State")) ∈ zTbl := zIn 668 (by decide +kernel) rfl
theorem wl_669 : Jvm.Cond.methodLink "JetTreesLaw" (51 : Nat) ({ cls := "JetTrees", name := "keep", desc := "(III)I" } : Jvm.MethodName) ∈ zTbl := zIn 669 (by decide +kernel) rfl
theorem wl_670 : Jvm.Cond.instanceMethod ({ cls := "JetTrees", name := "keep", desc := "(III)I" } : Jvm.MethodName) ∈ zTbl := zIn 670 (by decide +kernel) rfl
theorem wl_671 : Jvm.Cond.selects "JetTrees" ({ cls := "JetTrees", name := "keep", desc := "(III)I" } : Jvm.MethodName) ({ cls := "JetTrees", name := "keep", desc := "(III)I" } : Jvm.MethodName) ∈ zTbl := zIn 671 (by decide +kernel) rfl
theorem wl_672 : Jvm.Cond.code ({ cls := "JetTrees", name := "keep", desc := "(III)I" } : Jvm.MethodName) prog_1_method_10_code (8 : Nat) (Option.some Jvm.ClassFile.FieldType.int) ∈ zTbl := zIn 672 (by decide +kernel) rfl
theorem wl_673 : Jvm.Cond.methodLink "JetTrees" (144 : Nat) ({ cls := "JetTrees", name := "treeAt", desc := "(I)LJetTrees$Tree;" } : Jvm.MethodName) ∈ zTbl := zIn 673 (by decide +kernel) rfl
theorem wl_675 : Jvm.Cond.instanceMethod ({ cls := "JetTrees", name := "treeAt", desc := "(I)LJetTrees$Tree;" } : Jvm.MethodName) ∈ zTbl := zIn 675 (by decide +kernel) rfl
theorem wl_676 : Jvm.Cond.code ({ cls := "JetTrees", name := "treeAt", desc := "(I)LJetTrees$Tree;" } : Jvm.MethodName) prog_1_method_67_code (2 : Nat) (Option.some (Jvm.ClassFile.FieldType.object "JetTrees$Tree")) ∈ zTbl := zIn 676 (by decide +kernel) rfl
theorem wl_677 : Jvm.Cond.methodLink "JetTrees" (148 : Nat) ({ cls := "JetTrees$Tree", name := "stepsToCount", desc := "(I)I" } : Jvm.MethodName) ∈ zTbl := zIn 677 (by decide +kernel) rfl
theorem wl_678 : Jvm.Cond.instanceMethod ({ cls := "JetTrees$Tree", name := "stepsToCount", desc := "(I)I" } : Jvm.MethodName) ∈ zTbl := zIn 678 (by decide +kernel) rfl
theorem wl_679 : Jvm.Cond.selects "JetTrees$Tree" ({ cls := "JetTrees$Tree", name := "stepsToCount", desc := "(I)I" } : Jvm.MethodName) ({ cls := "JetTrees$Tree", name := "stepsToCount", desc := "(I)I" } : Jvm.MethodName) ∈ zTbl := zIn 679 (by decide +kernel) rfl
theorem wl_680 : Jvm.Cond.code ({ cls := "JetTrees$Tree", name := "stepsToCount", desc := "(I)I" } : Jvm.MethodName) prog_12_method_11_code (4 : Nat) (Option.some Jvm.ClassFile.FieldType.int) ∈ zTbl := zIn 680 (by decide +kernel) rfl
theorem wl_681 : Jvm.Cond.methodLink "JetTrees" (151 : Nat) ({ cls := "JetTrees$Tree", name := "setsOfCut", desc := "(I)[J" } : Jvm.MethodName) ∈ zTbl := zIn 681 (by decide +kernel) rfl
theorem wl_682 : Jvm.Cond.instanceMethod ({ cls := "JetTrees$Tree", name := "setsOfCut", desc := "(I)[J" } : Jvm.MethodName) ∈ zTbl := zIn 682 (by decide +kernel) rfl
theorem wl_683 : Jvm.Cond.selects "JetTrees$Tree" ({ cls := "JetTrees$Tree", name := "setsOfCut", desc := "(I)[J" } : Jvm.MethodName) ({ cls := "JetTrees$Tree", name := "setsOfCut", desc := "(I)[J" } : Jvm.MethodName) ∈ zTbl := zIn 683 (by decide +kernel) rfl
theorem wl_684 : Jvm.Cond.code ({ cls := "JetTrees$Tree", name := "setsOfCut", desc := "(I)[J" } : Jvm.MethodName) prog_12_method_15_code (6 : Nat) (Option.some (Jvm.ClassFile.FieldType.array Jvm.ClassFile.FieldType.long)) ∈ zTbl := zIn 684 (by decide +kernel) rfl
theorem wl_685 : Jvm.Cond.methodLink "JetTrees$Tree" (100 : Nat) ({ cls := "JetTrees$Tree", name := "ithBehind", desc := "(IZI)I" } : Jvm.MethodName) ∈ zTbl := zIn 685 (by decide +kernel) rfl
theorem wl_686 : Jvm.Cond.instanceMethod ({ cls := "JetTrees$Tree", name := "ithBehind", desc := "(IZI)I" } : Jvm.MethodName) ∈ zTbl := zIn 686 (by decide +kernel) rfl
theorem wl_687 : Jvm.Cond.selects "JetTrees$Tree" ({ cls := "JetTrees$Tree", name := "ithBehind", desc := "(IZI)I" } : Jvm.MethodName) ({ cls := "JetTrees$Tree", name := "ithBehind", desc := "(IZI)I" } : Jvm.MethodName) ∈ zTbl := zIn 687 (by decide +kernel) rfl
theorem wl_688 : Jvm.Cond.code ({ cls := "JetTrees$Tree", name := "ithBehind", desc := "(IZI)I" } : Jvm.MethodName) prog_12_method_14_code (6 : Nat) (Option.some Jvm.ClassFile.FieldType.int) ∈ zTbl := zIn 688 (by decide +kernel) rfl
theorem wl_689 : Jvm.Cond.methodLink "JetTrees$Tree" (96 : Nat) ({ cls := "JetTrees$Tree", name := "isThereBehind", desc := "(LJetTrees$Knot;IZ)Z" } : Jvm.MethodName) ∈ zTbl := zIn 689 (by decide +kernel) rfl
theorem wl_690 : Jvm.Cond.instanceMethod ({ cls := "JetTrees$Tree", name := "isThereBehind", desc := "(LJetTrees$Knot;IZ)Z" } : Jvm.MethodName) ∈ zTbl := zIn 690 (by decide +kernel) rfl
theorem wl_691 : Jvm.Cond.selects "JetTrees$Tree" ({ cls := "JetTrees$Tree", name := "isThereBehind", desc := "(LJetTrees$Knot;IZ)Z" } : Jvm.MethodName) ({ cls := "JetTrees$Tree", name := "isThereBehind", desc := "(LJetTrees$Knot;IZ)Z" } : Jvm.MethodName) ∈ zTbl := zIn 691 (by decide +kernel) rfl
theorem wl_692 : Jvm.Cond.code ({ cls := "JetTrees$Tree", name := "isThereBehind", desc := "(LJetTrees$Knot;IZ)Z" } : Jvm.MethodName) prog_12_method_13_code (4 : Nat) (Option.some Jvm.ClassFile.FieldType.boolean) ∈ zTbl := zIn 692 (by decide +kernel) rfl
theorem wl_693 : Jvm.Cond.methodLink "JetTrees$Tree" (104 : Nat) ({ cls := "java/lang/Math", name := "max", desc := "(II)I" } : Jvm.MethodName) ∈ zTbl := zIn 693 (by decide +kernel) rfl
theorem wl_694 : Jvm.Cond.arrayClass Jvm.ClassFile.FieldType.long ∈ zTbl := zIn 694 (by decide +kernel) rfl
theorem wl_695 : Jvm.Cond.methodLink "JetTreesLaw" (55 : Nat) ({ cls := "JetTrees", name := "apart", desc := "(IIIII)I" } : Jvm.MethodName) ∈ zTbl := zIn 695 (by decide +kernel) rfl
theorem wl_696 : Jvm.Cond.instanceMethod ({ cls := "JetTrees", name := "apart", desc := "(IIIII)I" } : Jvm.MethodName) ∈ zTbl := zIn 696 (by decide +kernel) rfl
theorem wl_697 : Jvm.Cond.selects "JetTrees" ({ cls := "JetTrees", name := "apart", desc := "(IIIII)I" } : Jvm.MethodName) ({ cls := "JetTrees", name := "apart", desc := "(IIIII)I" } : Jvm.MethodName) ∈ zTbl := zIn 697 (by decide +kernel) rfl
theorem wl_698 : Jvm.Cond.code ({ cls := "JetTrees", name := "apart", desc := "(IIIII)I" } : Jvm.MethodName) prog_1_method_11_code (9 : Nat) (Option.some Jvm.ClassFile.FieldType.int) ∈ zTbl := zIn 698 (by decide +kernel) rfl
theorem wl_699 : Jvm.Cond.methodLink "JetTrees" (159 : Nat) ({ cls := "JetTrees", name := "knotAt", desc := "(II)LJetTrees$Knot;" } : Jvm.MethodName) ∈ zTbl := zIn 699 (by decide +kernel) rfl
theorem wl_701 : Jvm.Cond.instanceMethod ({ cls := "JetTrees", name := "knotAt", desc := "(II)LJetTrees$Knot;" } : Jvm.MethodName) ∈ zTbl := zIn 701 (by decide +kernel) rfl
theorem wl_702 : Jvm.Cond.code ({ cls := "JetTrees", name := "knotAt", desc := "(II)LJetTrees$Knot;" } : Jvm.MethodName) prog_1_method_68_code (4 : Nat) (Option.some (Jvm.ClassFile.FieldType.object "JetTrees$Knot")) ∈ zTbl := zIn 702 (by decide +kernel) rfl
theorem wl_703 : Jvm.Cond.methodLink "JetTrees" (443 : Nat) ({ cls := "JetTrees$Tree", name := "knotAt", desc := "(I)LJetTrees$Knot;" } : Jvm.MethodName) ∈ zTbl := zIn 703 (by decide +kernel) rfl
theorem wl_704 : Jvm.Cond.instanceMethod ({ cls := "JetTrees$Tree", name := "knotAt", desc := "(I)LJetTrees$Knot;" } : Jvm.MethodName) ∈ zTbl := zIn 704 (by decide +kernel) rfl
theorem wl_705 : Jvm.Cond.selects "JetTrees$Tree" ({ cls := "JetTrees$Tree", name := "knotAt", desc := "(I)LJetTrees$Knot;" } : Jvm.MethodName) ({ cls := "JetTrees$Tree", name := "knotAt", desc := "(I)LJetTrees$Knot;" } : Jvm.MethodName) ∈ zTbl := zIn 705 (by decide +kernel) rfl
theorem wl_706 : Jvm.Cond.code ({ cls := "JetTrees$Tree", name := "knotAt", desc := "(I)LJetTrees$Knot;" } : Jvm.MethodName) prog_12_method_6_code (2 : Nat) (Option.some (Jvm.ClassFile.FieldType.object "JetTrees$Knot")) ∈ zTbl := zIn 706 (by decide +kernel) rfl
theorem wl_707 : Jvm.Cond.methodLink "JetTrees" (163 : Nat) ({ cls := "JetTrees$Branches", name := "gatheredApart", desc := "(LJetTrees$Tree;LJetTrees$Knot;II)LJetTrees$Tree;" } : Jvm.MethodName) ∈ zTbl := zIn 707 (by decide +kernel) rfl
theorem wl_708 : Jvm.Cond.static ({ cls := "JetTrees$Branches", name := "gatheredApart", desc := "(LJetTrees$Tree;LJetTrees$Knot;II)LJetTrees$Tree;" } : Jvm.MethodName) ∈ zTbl := zIn 708 (by decide +kernel) rfl
theorem wl_709 : Jvm.Cond.code ({ cls := "JetTrees$Branches", name := "gatheredApart", desc := "(LJetTrees$Tree;LJetTrees$Knot;II)LJetTrees$Tree;" } : Jvm.MethodName) prog_3_method_2_code (9 : Nat) (Option.some (Jvm.ClassFile.FieldType.object "JetTrees$Tree")) ∈ zTbl := zIn 709 (by decide +kernel) rfl
theorem wl_710 : Jvm.Cond.methodLink "JetTrees$Branches" (15 : Nat) ({ cls := "java/lang/Long", name := "bitCount", desc := "(J)I" } : Jvm.MethodName) ∈ zTbl := zIn 710 (by decide +kernel) rfl
theorem wl_711 : Jvm.Cond.static ({ cls := "java/lang/Long", name := "bitCount", desc := "(J)I" } : Jvm.MethodName) ∈ zTbl := zIn 711 (by decide +kernel) rfl
theorem wl_712 : Jvm.Cond.code ({ cls := "java/lang/Long", name := "bitCount", desc := "(J)I" } : Jvm.MethodName) prog_16_method_50_code (2 : Nat) (Option.some Jvm.ClassFile.FieldType.int) ∈ zTbl := zIn 712 (by decide +kernel) rfl
theorem wl_713 : Jvm.Cond.constantLong "java/lang/Long" (314 : Nat) (6148914691236517205 : Int64) ∈ zTbl := zIn 713 (by decide +kernel) rfl
theorem wl_714 : Jvm.Cond.constantLong "java/lang/Long" (316 : Nat) (3689348814741910323 : Int64) ∈ zTbl := zIn 714 (by decide +kernel) rfl
theorem wl_715 : Jvm.Cond.constantLong "java/lang/Long" (318 : Nat) (1085102592571150095 : Int64) ∈ zTbl := zIn 715 (by decide +kernel) rfl
theorem wl_716 : Jvm.Cond.classLink "JetTrees$Branches" (21 : Nat) "JetTrees$Body" ∈ zTbl := zIn 716 (by decide +kernel) rfl
theorem wl_717 : Jvm.Cond.methodLinkNest "JetTrees$Branches" (29 : Nat) ({ cls := "JetTrees", name := "isIn", desc := "(JI)Z" } : Jvm.MethodName) "JetTrees" ∈ zTbl := zIn 717 (by decide +kernel) rfl
theorem wl_718 : Jvm.Cond.static ({ cls := "JetTrees", name := "isIn", desc := "(JI)Z" } : Jvm.MethodName) ∈ zTbl := zIn 718 (by decide +kernel) rfl
theorem wl_719 : Jvm.Cond.code ({ cls := "JetTrees", name := "isIn", desc := "(JI)Z" } : Jvm.MethodName) prog_1_method_85_code (3 : Nat) (Option.some Jvm.ClassFile.FieldType.boolean) ∈ zTbl := zIn 719 (by decide +kernel) rfl
theorem wl_720 : Jvm.Cond.methodLink "JetTrees" (449 : Nat) ({ cls := "JetTrees", name := "bitOf", desc := "(I)J" } : Jvm.MethodName) ∈ zTbl := zIn 720 (by decide +kernel) rfl
theorem wl_721 : Jvm.Cond.methodLink "JetTrees$Branches" (41 : Nat) ({ cls := "JetTrees$Body", name := "numbered", desc := "(I)LJetTrees$Body;" } : Jvm.MethodName) ∈ zTbl := zIn 721 (by decide +kernel) rfl
theorem wl_722 : Jvm.Cond.classLink "JetTrees$Branches" (45 : Nat) "JetTrees$Gatherer" ∈ zTbl := zIn 722 (by decide +kernel) rfl
theorem wl_723 : Jvm.Cond.methodLink "JetTrees$Branches" (50 : Nat) ({ cls := "JetTrees$Gatherer", name := "<init>", desc := "([LJetTrees$Body;III)V" } : Jvm.MethodName) ∈ zTbl := zIn 723 (by decide +kernel) rfl
theorem wl_724 : Jvm.Cond.methodLink "JetTrees$Branches" (53 : Nat) ({ cls := "JetTrees$Gatherer", name := "gathered", desc := "()LJetTrees$Tree;" } : Jvm.MethodName) ∈ zTbl := zIn 724 (by decide +kernel) rfl
theorem wl_725 : Jvm.Cond.methodLink "JetTreesLaw" (60 : Nat) ({ cls := "JetTrees", name := "hand", desc := "(I)I" } : Jvm.MethodName) ∈ zTbl := zIn 725 (by decide +kernel) rfl
theorem wl_726 : Jvm.Cond.instanceMethod ({ cls := "JetTrees", name := "hand", desc := "(I)I" } : Jvm.MethodName) ∈ zTbl := zIn 726 (by decide +kernel) rfl
theorem wl_727 : Jvm.Cond.selects "JetTrees" ({ cls := "JetTrees", name := "hand", desc := "(I)I" } : Jvm.MethodName) ({ cls := "JetTrees", name := "hand", desc := "(I)I" } : Jvm.MethodName) ∈ zTbl := zIn 727 (by decide +kernel) rfl
theorem wl_728 : Jvm.Cond.code ({ cls := "JetTrees", name := "hand", desc := "(I)I" } : Jvm.MethodName) prog_1_method_12_code (3 : Nat) (Option.some Jvm.ClassFile.FieldType.int) ∈ zTbl := zIn 728 (by decide +kernel) rfl
theorem wl_729 : Jvm.Cond.methodLink "JetTreesLaw" (64 : Nat) ({ cls := "JetTrees", name := "mix", desc := "(II)I" } : Jvm.MethodName) ∈ zTbl := zIn 729 (by decide +kernel) rfl
theorem wl_730 : Jvm.Cond.instanceMethod ({ cls := "JetTrees", name := "mix", desc := "(II)I" } : Jvm.MethodName) ∈ zTbl := zIn 730 (by decide +kernel) rfl
theorem wl_731 : Jvm.Cond.selects "JetTrees" ({ cls := "JetTrees", name := "mix", desc := "(II)I" } : Jvm.MethodName) ({ cls := "JetTrees", name := "mix", desc := "(II)I" } : Jvm.MethodName) ∈ zTbl := zIn 731 (by decide +kernel) rfl
theorem wl_732 : Jvm.Cond.code ({ cls := "JetTrees", name := "mix", desc := "(II)I" } : Jvm.MethodName) prog_1_method_13_code (10 : Nat) (Option.some Jvm.ClassFile.FieldType.int) ∈ zTbl := zIn 732 (by decide +kernel) rfl
theorem wl_733 : Jvm.Cond.methodLink "JetTreesLaw" (69 : Nat) ({ cls := "JetTrees", name := "free", desc := "(I)Z" } : Jvm.MethodName) ∈ zTbl := zIn 733 (by decide +kernel) rfl
theorem wl_734 : Jvm.Cond.instanceMethod ({ cls := "JetTrees", name := "free", desc := "(I)Z" } : Jvm.MethodName) ∈ zTbl := zIn 734 (by decide +kernel) rfl
theorem wl_735 : Jvm.Cond.selects "JetTrees" ({ cls := "JetTrees", name := "free", desc := "(I)Z" } : Jvm.MethodName) ({ cls := "JetTrees", name := "free", desc := "(I)Z" } : Jvm.MethodName) ∈ zTbl := zIn 735 (by decide +kernel) rfl
theorem wl_736 : Jvm.Cond.code ({ cls := "JetTrees", name := "free", desc := "(I)Z" } : Jvm.MethodName) prog_1_method_14_code (2 : Nat) (Option.some Jvm.ClassFile.FieldType.boolean) ∈ zTbl := zIn 736 (by decide +kernel) rfl
theorem wl_737 : Jvm.Cond.methodLink "JetTreesLaw" (73 : Nat) ({ cls := "JetTrees", name := "undo", desc := "()I" } : Jvm.MethodName) ∈ zTbl := zIn 737 (by decide +kernel) rfl
theorem wl_738 : Jvm.Cond.instanceMethod ({ cls := "JetTrees", name := "undo", desc := "()I" } : Jvm.MethodName) ∈ zTbl := zIn 738 (by decide +kernel) rfl
theorem wl_739 : Jvm.Cond.selects "JetTrees" ({ cls := "JetTrees", name := "undo", desc := "()I" } : Jvm.MethodName) ({ cls := "JetTrees", name := "undo", desc := "()I" } : Jvm.MethodName) ∈ zTbl := zIn 739 (by decide +kernel) rfl
theorem wl_740 : Jvm.Cond.code ({ cls := "JetTrees", name := "undo", desc := "()I" } : Jvm.MethodName) prog_1_method_15_code (1 : Nat) (Option.some Jvm.ClassFile.FieldType.int) ∈ zTbl := zIn 740 (by decide +kernel) rfl
theorem wl_741 : Jvm.Cond.methodLink "JetTreesLaw" (78 : Nat) ({ cls := "JetTrees", name := "is", desc := "(I)I" } : Jvm.MethodName) ∈ zTbl := zIn 741 (by decide +kernel) rfl
theorem wl_742 : Jvm.Cond.instanceMethod ({ cls := "JetTrees", name := "is", desc := "(I)I" } : Jvm.MethodName) ∈ zTbl := zIn 742 (by decide +kernel) rfl
theorem wl_743 : Jvm.Cond.selects "JetTrees" ({ cls := "JetTrees", name := "is", desc := "(I)I" } : Jvm.MethodName) ({ cls := "JetTrees", name := "is", desc := "(I)I" } : Jvm.MethodName) ∈ zTbl := zIn 743 (by decide +kernel) rfl
theorem wl_744 : Jvm.Cond.code ({ cls := "JetTrees", name := "is", desc := "(I)I" } : Jvm.MethodName) prog_1_method_16_code (2 : Nat) (Option.some Jvm.ClassFile.FieldType.int) ∈ zTbl := zIn 744 (by decide +kernel) rfl
theorem wl_745 : Jvm.Cond.methodLink "JetTrees" (176 : Nat) ({ cls := "JetTrees", name := "treeBits", desc := "()I" } : Jvm.MethodName) ∈ zTbl := zIn 745 (by decide +kernel) rfl
theorem wl_747 : Jvm.Cond.instanceMethod ({ cls := "JetTrees", name := "treeBits", desc := "()I" } : Jvm.MethodName) ∈ zTbl := zIn 747 (by decide +kernel) rfl
theorem wl_748 : Jvm.Cond.code ({ cls := "JetTrees", name := "treeBits", desc := "()I" } : Jvm.MethodName) prog_1_method_72_code (3 : Nat) (Option.some Jvm.ClassFile.FieldType.int) ∈ zTbl := zIn 748 (by decide +kernel) rfl
theorem wl_749 : Jvm.Cond.methodLink "JetTrees" (179 : Nat) ({ cls := "JetTrees$Event", name := "weightOfAll", desc := "()I" } : Jvm.MethodName) ∈ zTbl := zIn 749 (by decide +kernel) rfl
theorem wl_750 : Jvm.Cond.instanceMethod ({ cls := "JetTrees$Event", name := "weightOfAll", desc := "()I" } : Jvm.MethodName) ∈ zTbl := zIn 750 (by decide +kernel) rfl
theorem wl_751 : Jvm.Cond.selects "JetTrees$Event" ({ cls := "JetTrees$Event", name := "weightOfAll", desc := "()I" } : Jvm.MethodName) ({ cls := "JetTrees$Event", name := "weightOfAll", desc := "()I" } : Jvm.MethodName) ∈ zTbl := zIn 751 (by decide +kernel) rfl
theorem wl_752 : Jvm.Cond.code ({ cls := "JetTrees$Event", name := "weightOfAll", desc := "()I" } : Jvm.MethodName) prog_5_method_5_code (3 : Nat) (Option.some Jvm.ClassFile.FieldType.int) ∈ zTbl := zIn 752 (by decide +kernel) rfl
theorem wl_753 : Jvm.Cond.methodLink "JetTreesLaw" (82 : Nat) ({ cls := "JetTrees", name := "of", desc := "(II)I" } : Jvm.MethodName) ∈ zTbl := zIn 753 (by decide +kernel) rfl
theorem wl_754 : Jvm.Cond.instanceMethod ({ cls := "JetTrees", name := "of", desc := "(II)I" } : Jvm.MethodName) ∈ zTbl := zIn 754 (by decide +kernel) rfl
theorem wl_755 : Jvm.Cond.selects "JetTrees" ({ cls := "JetTrees", name := "of", desc := "(II)I" } : Jvm.MethodName) ({ cls := "JetTrees", name := "of", desc := "(II)I" } : Jvm.MethodName) ∈ zTbl := zIn 755 (by decide +kernel) rfl
theorem wl_756 : Jvm.Cond.code ({ cls := "JetTrees", name := "of", desc := "(II)I" } : Jvm.MethodName) prog_1_method_17_code (4 : Nat) (Option.some Jvm.ClassFile.FieldType.int) ∈ zTbl := zIn 756 (by decide +kernel) rfl
theorem wl_757 : Jvm.Cond.methodLink "JetTreesLaw" (86 : Nat) ({ cls := "JetTrees", name := "square", desc := "(II)I" } : Jvm.MethodName) ∈ zTbl := zIn 757 (by decide +kernel) rfl
theorem wl_758 : Jvm.Cond.instanceMethod ({ cls := "JetTrees", name := "square", desc := "(II)I" } : Jvm.MethodName) ∈ zTbl := zIn 758 (by decide +kernel) rfl
theorem wl_759 : Jvm.Cond.selects "JetTrees" ({ cls := "JetTrees", name := "square", desc := "(II)I" } : Jvm.MethodName) ({ cls := "JetTrees", name := "square", desc := "(II)I" } : Jvm.MethodName) ∈ zTbl := zIn 759 (by decide +kernel) rfl
theorem wl_760 : Jvm.Cond.code ({ cls := "JetTrees", name := "square", desc := "(II)I" } : Jvm.MethodName) prog_1_method_18_code (5 : Nat) (Option.some Jvm.ClassFile.FieldType.int) ∈ zTbl := zIn 760 (by decide +kernel) rfl
theorem wl_761 : Jvm.Cond.methodLink "JetTrees" (182 : Nat) ({ cls := "JetTrees$Body", name := "squareTo", desc := "(LJetTrees$Body;)I" } : Jvm.MethodName) ∈ zTbl := zIn 761 (by decide +kernel) rfl
theorem wl_762 : Jvm.Cond.methodLink "JetTreesLaw" (90 : Nat) ({ cls := "JetTrees", name := "nearest", desc := "(I)I" } : Jvm.MethodName) ∈ zTbl := zIn 762 (by decide +kernel) rfl
theorem wl_763 : Jvm.Cond.instanceMethod ({ cls := "JetTrees", name := "nearest", desc := "(I)I" } : Jvm.MethodName) ∈ zTbl := zIn 763 (by decide +kernel) rfl
theorem wl_764 : Jvm.Cond.selects "JetTrees" ({ cls := "JetTrees", name := "nearest", desc := "(I)I" } : Jvm.MethodName) ({ cls := "JetTrees", name := "nearest", desc := "(I)I" } : Jvm.MethodName) ∈ zTbl := zIn 764 (by decide +kernel) rfl
theorem wl_765 : Jvm.Cond.code ({ cls := "JetTrees", name := "nearest", desc := "(I)I" } : Jvm.MethodName) prog_1_method_19_code (3 : Nat) (Option.some Jvm.ClassFile.FieldType.int) ∈ zTbl := zIn 765 (by decide +kernel) rfl
theorem wl_766 : Jvm.Cond.methodLink "JetTrees" (186 : Nat) ({ cls := "JetTrees$Event", name := "nearestTo", desc := "(LJetTrees$Body;)I" } : Jvm.MethodName) ∈ zTbl := zIn 766 (by decide +kernel) rfl
theorem wl_767 : Jvm.Cond.instanceMethod ({ cls := "JetTrees$Event", name := "nearestTo", desc := "(LJetTrees$Body;)I" } : Jvm.MethodName) ∈ zTbl := zIn 767 (by decide +kernel) rfl
theorem wl_768 : Jvm.Cond.selects "JetTrees$Event" ({ cls := "JetTrees$Event", name := "nearestTo", desc := "(LJetTrees$Body;)I" } : Jvm.MethodName) ({ cls := "JetTrees$Event", name := "nearestTo", desc := "(LJetTrees$Body;)I" } : Jvm.MethodName) ∈ zTbl := zIn 768 (by decide +kernel) rfl
theorem wl_769 : Jvm.Cond.code ({ cls := "JetTrees$Event", name := "nearestTo", desc := "(LJetTrees$Body;)I" } : Jvm.MethodName) prog_5_method_6_code (7 : Nat) (Option.some Jvm.ClassFile.FieldType.int) ∈ zTbl := zIn 769 (by decide +kernel) rfl
theorem wl_770 : Jvm.Cond.methodLink "JetTrees$Event" (36 : Nat) ({ cls := "JetTrees$Body", name := "squareTo", desc := "(LJetTrees$Body;)I" } : Jvm.MethodName) ∈ zTbl := zIn 770 (by decide +kernel) rfl
theorem wl_771 : Jvm.Cond.methodLink "JetTrees$Event" (40 : Nat) ({ cls := "JetTrees$Body", name := "isAheadOf", desc := "(LJetTrees$Body;)Z" } : Jvm.MethodName) ∈ zTbl := zIn 771 (by decide +kernel) rfl
theorem wl_772 : Jvm.Cond.methodLink "JetTreesLaw" (94 : Nat) ({ cls := "JetTrees", name := "tree", desc := "(II)I" } : Jvm.MethodName) ∈ zTbl := zIn 772 (by decide +kernel) rfl
theorem wl_773 : Jvm.Cond.instanceMethod ({ cls := "JetTrees", name := "tree", desc := "(II)I" } : Jvm.MethodName) ∈ zTbl := zIn 773 (by decide +kernel) rfl
theorem wl_774 : Jvm.Cond.selects "JetTrees" ({ cls := "JetTrees", name := "tree", desc := "(II)I" } : Jvm.MethodName) ({ cls := "JetTrees", name := "tree", desc := "(II)I" } : Jvm.MethodName) ∈ zTbl := zIn 774 (by decide +kernel) rfl
theorem wl_775 : Jvm.Cond.code ({ cls := "JetTrees", name := "tree", desc := "(II)I" } : Jvm.MethodName) prog_1_method_20_code (4 : Nat) (Option.some Jvm.ClassFile.FieldType.int) ∈ zTbl := zIn 775 (by decide +kernel) rfl
theorem wl_776 : Jvm.Cond.methodLink "JetTreesLaw" (98 : Nat) ({ cls := "JetTrees", name := "knot", desc := "(III)I" } : Jvm.MethodName) ∈ zTbl := zIn 776 (by decide +kernel) rfl
theorem wl_777 : Jvm.Cond.instanceMethod ({ cls := "JetTrees", name := "knot", desc := "(III)I" } : Jvm.MethodName) ∈ zTbl := zIn 777 (by decide +kernel) rfl
theorem wl_778 : Jvm.Cond.selects "JetTrees" ({ cls := "JetTrees", name := "knot", desc := "(III)I" } : Jvm.MethodName) ({ cls := "JetTrees", name := "knot", desc := "(III)I" } : Jvm.MethodName) ∈ zTbl := zIn 778 (by decide +kernel) rfl
theorem wl_779 : Jvm.Cond.code ({ cls := "JetTrees", name := "knot", desc := "(III)I" } : Jvm.MethodName) prog_1_method_21_code (5 : Nat) (Option.some Jvm.ClassFile.FieldType.int) ∈ zTbl := zIn 779 (by decide +kernel) rfl
theorem wl_780 : Jvm.Cond.methodLink "JetTrees" (211 : Nat) ({ cls := "JetTrees", name := "numberOf", desc := "(LJetTrees$Knot;)I" } : Jvm.MethodName) ∈ zTbl := zIn 780 (by decide +kernel) rfl
theorem wl_781 : Jvm.Cond.static ({ cls := "JetTrees", name := "numberOf", desc := "(LJetTrees$Knot;)I" } : Jvm.MethodName) ∈ zTbl := zIn 781 (by decide +kernel) rfl
theorem wl_782 : Jvm.Cond.code ({ cls := "JetTrees", name := "numberOf", desc := "(LJetTrees$Knot;)I" } : Jvm.MethodName) prog_1_method_73_code (1 : Nat) (Option.some Jvm.ClassFile.FieldType.int) ∈ zTbl := zIn 782 (by decide +kernel) rfl
theorem wl_783 : Jvm.Cond.methodLink "JetTreesLaw" (102 : Nat) ({ cls := "JetTrees", name := "origin", desc := "(II)I" } : Jvm.MethodName) ∈ zTbl := zIn 783 (by decide +kernel) rfl
theorem wl_784 : Jvm.Cond.instanceMethod ({ cls := "JetTrees", name := "origin", desc := "(II)I" } : Jvm.MethodName) ∈ zTbl := zIn 784 (by decide +kernel) rfl
theorem wl_785 : Jvm.Cond.selects "JetTrees" ({ cls := "JetTrees", name := "origin", desc := "(II)I" } : Jvm.MethodName) ({ cls := "JetTrees", name := "origin", desc := "(II)I" } : Jvm.MethodName) ∈ zTbl := zIn 785 (by decide +kernel) rfl
theorem wl_786 : Jvm.Cond.code ({ cls := "JetTrees", name := "origin", desc := "(II)I" } : Jvm.MethodName) prog_1_method_22_code (4 : Nat) (Option.some Jvm.ClassFile.FieldType.int) ∈ zTbl := zIn 786 (by decide +kernel) rfl
theorem wl_787 : Jvm.Cond.methodLink "JetTreesLaw" (106 : Nat) ({ cls := "JetTrees", name := "step", desc := "(III)I" } : Jvm.MethodName) ∈ zTbl := zIn 787 (by decide +kernel) rfl
theorem wl_788 : Jvm.Cond.instanceMethod ({ cls := "JetTrees", name := "step", desc := "(III)I" } : Jvm.MethodName) ∈ zTbl := zIn 788 (by decide +kernel) rfl
theorem wl_789 : Jvm.Cond.selects "JetTrees" ({ cls := "JetTrees", name := "step", desc := "(III)I" } : Jvm.MethodName) ({ cls := "JetTrees", name := "step", desc := "(III)I" } : Jvm.MethodName) ∈ zTbl := zIn 789 (by decide +kernel) rfl
theorem wl_790 : Jvm.Cond.code ({ cls := "JetTrees", name := "step", desc := "(III)I" } : Jvm.MethodName) prog_1_method_23_code (5 : Nat) (Option.some Jvm.ClassFile.FieldType.int) ∈ zTbl := zIn 790 (by decide +kernel) rfl
theorem wl_791 : Jvm.Cond.methodLink "JetTrees" (231 : Nat) ({ cls := "JetTrees", name := "stepAt", desc := "(II)LJetTrees$Step;" } : Jvm.MethodName) ∈ zTbl := zIn 791 (by decide +kernel) rfl
theorem wl_793 : Jvm.Cond.instanceMethod ({ cls := "JetTrees", name := "stepAt", desc := "(II)LJetTrees$Step;" } : Jvm.MethodName) ∈ zTbl := zIn 793 (by decide +kernel) rfl
theorem wl_794 : Jvm.Cond.code ({ cls := "JetTrees", name := "stepAt", desc := "(II)LJetTrees$Step;" } : Jvm.MethodName) prog_1_method_69_code (4 : Nat) (Option.some (Jvm.ClassFile.FieldType.object "JetTrees$Step")) ∈ zTbl := zIn 794 (by decide +kernel) rfl
theorem wl_795 : Jvm.Cond.methodLink "JetTreesLaw" (110 : Nat) ({ cls := "JetTrees", name := "up", desc := "(II)J" } : Jvm.MethodName) ∈ zTbl := zIn 795 (by decide +kernel) rfl
theorem wl_796 : Jvm.Cond.instanceMethod ({ cls := "JetTrees", name := "up", desc := "(II)J" } : Jvm.MethodName) ∈ zTbl := zIn 796 (by decide +kernel) rfl
theorem wl_797 : Jvm.Cond.selects "JetTrees" ({ cls := "JetTrees", name := "up", desc := "(II)J" } : Jvm.MethodName) ({ cls := "JetTrees", name := "up", desc := "(II)J" } : Jvm.MethodName) ∈ zTbl := zIn 797 (by decide +kernel) rfl
theorem wl_798 : Jvm.Cond.code ({ cls := "JetTrees", name := "up", desc := "(II)J" } : Jvm.MethodName) prog_1_method_24_code (4 : Nat) (Option.some Jvm.ClassFile.FieldType.long) ∈ zTbl := zIn 798 (by decide +kernel) rfl
theorem wl_799 : Jvm.Cond.constantLong "JetTrees" (244 : Nat) (-1 : Int64) ∈ zTbl := zIn 799 (by decide +kernel) rfl
theorem wl_800 : Jvm.Cond.methodLink "JetTreesLaw" (115 : Nat) ({ cls := "JetTrees", name := "down", desc := "(II)J" } : Jvm.MethodName) ∈ zTbl := zIn 800 (by decide +kernel) rfl
theorem wl_801 : Jvm.Cond.instanceMethod ({ cls := "JetTrees", name := "down", desc := "(II)J" } : Jvm.MethodName) ∈ zTbl := zIn 801 (by decide +kernel) rfl
theorem wl_802 : Jvm.Cond.selects "JetTrees" ({ cls := "JetTrees", name := "down", desc := "(II)J" } : Jvm.MethodName) ({ cls := "JetTrees", name := "down", desc := "(II)J" } : Jvm.MethodName) ∈ zTbl := zIn 802 (by decide +kernel) rfl
theorem wl_803 : Jvm.Cond.code ({ cls := "JetTrees", name := "down", desc := "(II)J" } : Jvm.MethodName) prog_1_method_25_code (4 : Nat) (Option.some Jvm.ClassFile.FieldType.long) ∈ zTbl := zIn 803 (by decide +kernel) rfl
theorem wl_804 : Jvm.Cond.methodLink "JetTreesLaw" (119 : Nat) ({ cls := "JetTrees", name := "leaves", desc := "(II)J" } : Jvm.MethodName) ∈ zTbl := zIn 804 (by decide +kernel) rfl
theorem wl_805 : Jvm.Cond.instanceMethod ({ cls := "JetTrees", name := "leaves", desc := "(II)J" } : Jvm.MethodName) ∈ zTbl := zIn 805 (by decide +kernel) rfl
theorem wl_806 : Jvm.Cond.selects "JetTrees" ({ cls := "JetTrees", name := "leaves", desc := "(II)J" } : Jvm.MethodName) ({ cls := "JetTrees", name := "leaves", desc := "(II)J" } : Jvm.MethodName) ∈ zTbl := zIn 806 (by decide +kernel) rfl
theorem wl_807 : Jvm.Cond.code ({ cls := "JetTrees", name := "leaves", desc := "(II)J" } : Jvm.MethodName) prog_1_method_26_code (4 : Nat) (Option.some Jvm.ClassFile.FieldType.long) ∈ zTbl := zIn 807 (by decide +kernel) rfl
theorem wl_808 : Jvm.Cond.methodLink "JetTreesLaw" (123 : Nat) ({ cls := "JetTrees", name := "jet", desc := "(II)I" } : Jvm.MethodName) ∈ zTbl := zIn 808 (by decide +kernel) rfl
theorem wl_809 : Jvm.Cond.instanceMethod ({ cls := "JetTrees", name := "jet", desc := "(II)I" } : Jvm.MethodName) ∈ zTbl := zIn 809 (by decide +kernel) rfl
theorem wl_810 : Jvm.Cond.selects "JetTrees" ({ cls := "JetTrees", name := "jet", desc := "(II)I" } : Jvm.MethodName) ({ cls := "JetTrees", name := "jet", desc := "(II)I" } : Jvm.MethodName) ∈ zTbl := zIn 810 (by decide +kernel) rfl
theorem wl_811 : Jvm.Cond.code ({ cls := "JetTrees", name := "jet", desc := "(II)I" } : Jvm.MethodName) prog_1_method_27_code (3 : Nat) (Option.some Jvm.ClassFile.FieldType.int) ∈ zTbl := zIn 811 (by decide +kernel) rfl
theorem wl_812 : Jvm.Cond.methodLink "JetTrees" (256 : Nat) ({ cls := "JetTrees", name := "jetByWeight", desc := "(II)LJetTrees$Knot;" } : Jvm.MethodName) ∈ zTbl := zIn 812 (by decide +kernel) rfl
theorem wl_814 : Jvm.Cond.instanceMethod ({ cls := "JetTrees", name := "jetByWeight", desc := "(II)LJetTrees$Knot;" } : Jvm.MethodName) ∈ zTbl := zIn 814 (by decide +kernel) rfl
theorem wl_815 : Jvm.Cond.code ({ cls := "JetTrees", name := "jetByWeight", desc := "(II)LJetTrees$Knot;" } : Jvm.MethodName) prog_1_method_70_code (4 : Nat) (Option.some (Jvm.ClassFile.FieldType.object "JetTrees$Knot")) ∈ zTbl := zIn 815 (by decide +kernel) rfl
theorem wl_816 : Jvm.Cond.methodLink "JetTreesLaw" (127 : Nat) ({ cls := "JetTrees", name := "jetOf", desc := "(II)I" } : Jvm.MethodName) ∈ zTbl := zIn 816 (by decide +kernel) rfl
theorem wl_817 : Jvm.Cond.instanceMethod ({ cls := "JetTrees", name := "jetOf", desc := "(II)I" } : Jvm.MethodName) ∈ zTbl := zIn 817 (by decide +kernel) rfl
theorem wl_818 : Jvm.Cond.selects "JetTrees" ({ cls := "JetTrees", name := "jetOf", desc := "(II)I" } : Jvm.MethodName) ({ cls := "JetTrees", name := "jetOf", desc := "(II)I" } : Jvm.MethodName) ∈ zTbl := zIn 818 (by decide +kernel) rfl
theorem wl_819 : Jvm.Cond.code ({ cls := "JetTrees", name := "jetOf", desc := "(II)I" } : Jvm.MethodName) prog_1_method_28_code (5 : Nat) (Option.some Jvm.ClassFile.FieldType.int) ∈ zTbl := zIn 819 (by decide +kernel) rfl
theorem wl_820 : Jvm.Cond.methodLink "JetTrees" (259 : Nat) ({ cls := "JetTrees$Tree", name := "trackAt", desc := "(I)LJetTrees$Knot;" } : Jvm.MethodName) ∈ zTbl := zIn 820 (by decide +kernel) rfl
theorem wl_821 : Jvm.Cond.instanceMethod ({ cls := "JetTrees$Tree", name := "trackAt", desc := "(I)LJetTrees$Knot;" } : Jvm.MethodName) ∈ zTbl := zIn 821 (by decide +kernel) rfl
theorem wl_822 : Jvm.Cond.selects "JetTrees$Tree" ({ cls := "JetTrees$Tree", name := "trackAt", desc := "(I)LJetTrees$Knot;" } : Jvm.MethodName) ({ cls := "JetTrees$Tree", name := "trackAt", desc := "(I)LJetTrees$Knot;" } : Jvm.MethodName) ∈ zTbl := zIn 822 (by decide +kernel) rfl
theorem wl_823 : Jvm.Cond.code ({ cls := "JetTrees$Tree", name := "trackAt", desc := "(I)LJetTrees$Knot;" } : Jvm.MethodName) prog_12_method_7_code (2 : Nat) (Option.some (Jvm.ClassFile.FieldType.object "JetTrees$Knot")) ∈ zTbl := zIn 823 (by decide +kernel) rfl
theorem wl_824 : Jvm.Cond.methodLink "JetTrees" (262 : Nat) ({ cls := "JetTrees$Tree", name := "jetWith", desc := "(J)LJetTrees$Knot;" } : Jvm.MethodName) ∈ zTbl := zIn 824 (by decide +kernel) rfl
theorem wl_825 : Jvm.Cond.instanceMethod ({ cls := "JetTrees$Tree", name := "jetWith", desc := "(J)LJetTrees$Knot;" } : Jvm.MethodName) ∈ zTbl := zIn 825 (by decide +kernel) rfl
theorem wl_826 : Jvm.Cond.selects "JetTrees$Tree" ({ cls := "JetTrees$Tree", name := "jetWith", desc := "(J)LJetTrees$Knot;" } : Jvm.MethodName) ({ cls := "JetTrees$Tree", name := "jetWith", desc := "(J)LJetTrees$Knot;" } : Jvm.MethodName) ∈ zTbl := zIn 826 (by decide +kernel) rfl
theorem wl_827 : Jvm.Cond.code ({ cls := "JetTrees$Tree", name := "jetWith", desc := "(J)LJetTrees$Knot;" } : Jvm.MethodName) prog_12_method_8_code (4 : Nat) (Option.some (Jvm.ClassFile.FieldType.object "JetTrees$Knot")) ∈ zTbl := zIn 827 (by decide +kernel) rfl
theorem wl_828 : Jvm.Cond.methodLink "JetTreesLaw" (131 : Nat) ({ cls := "JetTrees", name := "left", desc := "(III)I" } : Jvm.MethodName) ∈ zTbl := zIn 828 (by decide +kernel) rfl
theorem wl_829 : Jvm.Cond.instanceMethod ({ cls := "JetTrees", name := "left", desc := "(III)I" } : Jvm.MethodName) ∈ zTbl := zIn 829 (by decide +kernel) rfl
theorem wl_830 : Jvm.Cond.selects "JetTrees" ({ cls := "JetTrees", name := "left", desc := "(III)I" } : Jvm.MethodName) ({ cls := "JetTrees", name := "left", desc := "(III)I" } : Jvm.MethodName) ∈ zTbl := zIn 830 (by decide +kernel) rfl
theorem wl_831 : Jvm.Cond.code ({ cls := "JetTrees", name := "left", desc := "(III)I" } : Jvm.MethodName) prog_1_method_29_code (5 : Nat) (Option.some Jvm.ClassFile.FieldType.int) ∈ zTbl := zIn 831 (by decide +kernel) rfl
theorem wl_832 : Jvm.Cond.methodLink "JetTrees" (266 : Nat) ({ cls := "JetTrees$Tree", name := "ithBehind", desc := "(IZI)I" } : Jvm.MethodName) ∈ zTbl := zIn 832 (by decide +kernel) rfl
theorem wl_833 : Jvm.Cond.methodLink "JetTreesLaw" (135 : Nat) ({ cls := "JetTrees", name := "cut", desc := "(III)I" } : Jvm.MethodName) ∈ zTbl := zIn 833 (by decide +kernel) rfl
theorem wl_834 : Jvm.Cond.instanceMethod ({ cls := "JetTrees", name := "cut", desc := "(III)I" } : Jvm.MethodName) ∈ zTbl := zIn 834 (by decide +kernel) rfl
theorem wl_835 : Jvm.Cond.selects "JetTrees" ({ cls := "JetTrees", name := "cut", desc := "(III)I" } : Jvm.MethodName) ({ cls := "JetTrees", name := "cut", desc := "(III)I" } : Jvm.MethodName) ∈ zTbl := zIn 835 (by decide +kernel) rfl
theorem wl_836 : Jvm.Cond.code ({ cls := "JetTrees", name := "cut", desc := "(III)I" } : Jvm.MethodName) prog_1_method_30_code (6 : Nat) (Option.some Jvm.ClassFile.FieldType.int) ∈ zTbl := zIn 836 (by decide +kernel) rfl
theorem wl_837 : Jvm.Cond.methodLink "JetTreesLaw" (139 : Nat) ({ cls := "JetTrees", name := "cutBy", desc := "(IIII)I" } : Jvm.MethodName) ∈ zTbl := zIn 837 (by decide +kernel) rfl
theorem wl_838 : Jvm.Cond.instanceMethod ({ cls := "JetTrees", name := "cutBy", desc := "(IIII)I" } : Jvm.MethodName) ∈ zTbl := zIn 838 (by decide +kernel) rfl
theorem wl_839 : Jvm.Cond.selects "JetTrees" ({ cls := "JetTrees", name := "cutBy", desc := "(IIII)I" } : Jvm.MethodName) ({ cls := "JetTrees", name := "cutBy", desc := "(IIII)I" } : Jvm.MethodName) ∈ zTbl := zIn 839 (by decide +kernel) rfl
theorem wl_840 : Jvm.Cond.code ({ cls := "JetTrees", name := "cutBy", desc := "(IIII)I" } : Jvm.MethodName) prog_1_method_31_code (6 : Nat) (Option.some Jvm.ClassFile.FieldType.int) ∈ zTbl := zIn 840 (by decide +kernel) rfl
theorem wl_841 : Jvm.Cond.methodLink "JetTrees" (270 : Nat) ({ cls := "JetTrees$Tree", name := "stepsToMark", desc := "(JJ)I" } : Jvm.MethodName) ∈ zTbl := zIn 841 (by decide +kernel) rfl
theorem wl_842 : Jvm.Cond.instanceMethod ({ cls := "JetTrees$Tree", name := "stepsToMark", desc := "(JJ)I" } : Jvm.MethodName) ∈ zTbl := zIn 842 (by decide +kernel) rfl
theorem wl_843 : Jvm.Cond.selects "JetTrees$Tree" ({ cls := "JetTrees$Tree", name := "stepsToMark", desc := "(JJ)I" } : Jvm.MethodName) ({ cls := "JetTrees$Tree", name := "stepsToMark", desc := "(JJ)I" } : Jvm.MethodName) ∈ zTbl := zIn 843 (by decide +kernel) rfl
theorem wl_844 : Jvm.Cond.code ({ cls := "JetTrees$Tree", name := "stepsToMark", desc := "(JJ)I" } : Jvm.MethodName) prog_12_method_12_code (6 : Nat) (Option.some Jvm.ClassFile.FieldType.int) ∈ zTbl := zIn 844 (by decide +kernel) rfl
theorem wl_845 : Jvm.Cond.methodLink "JetTrees$Tree" (85 : Nat) ({ cls := "JetTrees$Step", name := "isAbove", desc := "(JJ)Z" } : Jvm.MethodName) ∈ zTbl := zIn 845 (by decide +kernel) rfl
theorem wl_846 : Jvm.Cond.instanceMethod ({ cls := "JetTrees$Step", name := "isAbove", desc := "(JJ)Z" } : Jvm.MethodName) ∈ zTbl := zIn 846 (by decide +kernel) rfl
theorem wl_847 : Jvm.Cond.selects "JetTrees$Step" ({ cls := "JetTrees$Step", name := "isAbove", desc := "(JJ)Z" } : Jvm.MethodName) ({ cls := "JetTrees$Step", name := "isAbove", desc := "(JJ)Z" } : Jvm.MethodName) ∈ zTbl := zIn 847 (by decide +kernel) rfl
theorem wl_848 : Jvm.Cond.code ({ cls := "JetTrees$Step", name := "isAbove", desc := "(JJ)Z" } : Jvm.MethodName) prog_9_method_3_code (23 : Nat) (Option.some Jvm.ClassFile.FieldType.boolean) ∈ zTbl := zIn 848 (by decide +kernel) rfl
theorem wl_849 : Jvm.Cond.methodLink "JetTreesLaw" (143 : Nat) ({ cls := "JetTrees", name := "together", desc := "(III)I" } : Jvm.MethodName) ∈ zTbl := zIn 849 (by decide +kernel) rfl
theorem wl_850 : Jvm.Cond.instanceMethod ({ cls := "JetTrees", name := "together", desc := "(III)I" } : Jvm.MethodName) ∈ zTbl := zIn 850 (by decide +kernel) rfl
theorem wl_851 : Jvm.Cond.selects "JetTrees" ({ cls := "JetTrees", name := "together", desc := "(III)I" } : Jvm.MethodName) ({ cls := "JetTrees", name := "together", desc := "(III)I" } : Jvm.MethodName) ∈ zTbl := zIn 851 (by decide +kernel) rfl
theorem wl_852 : Jvm.Cond.code ({ cls := "JetTrees", name := "together", desc := "(III)I" } : Jvm.MethodName) prog_1_method_32_code (7 : Nat) (Option.some Jvm.ClassFile.FieldType.int) ∈ zTbl := zIn 852 (by decide +kernel) rfl
theorem wl_853 : Jvm.Cond.methodLink "JetTrees" (274 : Nat) ({ cls := "JetTrees$Tree", name := "stepThatJoined", desc := "(J)I" } : Jvm.MethodName) ∈ zTbl := zIn 853 (by decide +kernel) rfl
theorem wl_854 : Jvm.Cond.instanceMethod ({ cls := "JetTrees$Tree", name := "stepThatJoined", desc := "(J)I" } : Jvm.MethodName) ∈ zTbl := zIn 854 (by decide +kernel) rfl
theorem wl_855 : Jvm.Cond.selects "JetTrees$Tree" ({ cls := "JetTrees$Tree", name := "stepThatJoined", desc := "(J)I" } : Jvm.MethodName) ({ cls := "JetTrees$Tree", name := "stepThatJoined", desc := "(J)I" } : Jvm.MethodName) ∈ zTbl := zIn 855 (by decide +kernel) rfl
theorem wl_856 : Jvm.Cond.code ({ cls := "JetTrees$Tree", name := "stepThatJoined", desc := "(J)I" } : Jvm.MethodName) prog_12_method_9_code (4 : Nat) (Option.some Jvm.ClassFile.FieldType.int) ∈ zTbl := zIn 856 (by decide +kernel) rfl
theorem wl_857 : Jvm.Cond.constantLong "JetTrees$Tree" (73 : Nat) (-1 : Int64) ∈ zTbl := zIn 857 (by decide +kernel) rfl
theorem wl_858 : Jvm.Cond.methodLink "JetTreesLaw" (147 : Nat) ({ cls := "JetTrees", name := "groom", desc := "(IIII)I" } : Jvm.MethodName) ∈ zTbl := zIn 858 (by decide +kernel) rfl
theorem wl_859 : Jvm.Cond.instanceMethod ({ cls := "JetTrees", name := "groom", desc := "(IIII)I" } : Jvm.MethodName) ∈ zTbl := zIn 859 (by decide +kernel) rfl
theorem wl_860 : Jvm.Cond.selects "JetTrees" ({ cls := "JetTrees", name := "groom", desc := "(IIII)I" } : Jvm.MethodName) ({ cls := "JetTrees", name := "groom", desc := "(IIII)I" } : Jvm.MethodName) ∈ zTbl := zIn 860 (by decide +kernel) rfl
theorem wl_861 : Jvm.Cond.code ({ cls := "JetTrees", name := "groom", desc := "(IIII)I" } : Jvm.MethodName) prog_1_method_33_code (7 : Nat) (Option.some Jvm.ClassFile.FieldType.int) ∈ zTbl := zIn 861 (by decide +kernel) rfl
theorem wl_862 : Jvm.Cond.methodLink "JetTrees" (278 : Nat) ({ cls := "JetTrees", name := "isOfThousand", desc := "(I)Z" } : Jvm.MethodName) ∈ zTbl := zIn 862 (by decide +kernel) rfl
theorem wl_863 : Jvm.Cond.static ({ cls := "JetTrees", name := "isOfThousand", desc := "(I)Z" } : Jvm.MethodName) ∈ zTbl := zIn 863 (by decide +kernel) rfl
theorem wl_864 : Jvm.Cond.code ({ cls := "JetTrees", name := "isOfThousand", desc := "(I)Z" } : Jvm.MethodName) prog_1_method_83_code (1 : Nat) (Option.some Jvm.ClassFile.FieldType.boolean) ∈ zTbl := zIn 864 (by decide +kernel) rfl
theorem wl_865 : Jvm.Cond.methodLink "JetTrees" (281 : Nat) ({ cls := "JetTrees$Branches", name := "groomed", desc := "(LJetTrees$Knot;IZI)LJetTrees$Knot;" } : Jvm.MethodName) ∈ zTbl := zIn 865 (by decide +kernel) rfl
theorem wl_866 : Jvm.Cond.static ({ cls := "JetTrees$Branches", name := "groomed", desc := "(LJetTrees$Knot;IZI)LJetTrees$Knot;" } : Jvm.MethodName) ∈ zTbl := zIn 866 (by decide +kernel) rfl
theorem wl_867 : Jvm.Cond.code ({ cls := "JetTrees$Branches", name := "groomed", desc := "(LJetTrees$Knot;IZI)LJetTrees$Knot;" } : Jvm.MethodName) prog_3_method_3_code (12 : Nat) (Option.some (Jvm.ClassFile.FieldType.object "JetTrees$Knot")) ∈ zTbl := zIn 867 (by decide +kernel) rfl
theorem wl_868 : Jvm.Cond.methodLink "JetTrees$Branches" (61 : Nat) ({ cls := "JetTrees$Knot", name := "lighter", desc := "()LJetTrees$Knot;" } : Jvm.MethodName) ∈ zTbl := zIn 868 (by decide +kernel) rfl
theorem wl_869 : Jvm.Cond.instanceMethod ({ cls := "JetTrees$Knot", name := "lighter", desc := "()LJetTrees$Knot;" } : Jvm.MethodName) ∈ zTbl := zIn 869 (by decide +kernel) rfl
theorem wl_870 : Jvm.Cond.selects "JetTrees$Knot" ({ cls := "JetTrees$Knot", name := "lighter", desc := "()LJetTrees$Knot;" } : Jvm.MethodName) ({ cls := "JetTrees$Knot", name := "lighter", desc := "()LJetTrees$Knot;" } : Jvm.MethodName) ∈ zTbl := zIn 870 (by decide +kernel) rfl
theorem wl_871 : Jvm.Cond.code ({ cls := "JetTrees$Knot", name := "lighter", desc := "()LJetTrees$Knot;" } : Jvm.MethodName) prog_7_method_4_code (1 : Nat) (Option.some (Jvm.ClassFile.FieldType.object "JetTrees$Knot")) ∈ zTbl := zIn 871 (by decide +kernel) rfl
theorem wl_872 : Jvm.Cond.methodLink "JetTrees$Branches" (65 : Nat) ({ cls := "JetTrees$Knot", name := "heavier", desc := "()LJetTrees$Knot;" } : Jvm.MethodName) ∈ zTbl := zIn 872 (by decide +kernel) rfl
theorem wl_873 : Jvm.Cond.instanceMethod ({ cls := "JetTrees$Knot", name := "heavier", desc := "()LJetTrees$Knot;" } : Jvm.MethodName) ∈ zTbl := zIn 873 (by decide +kernel) rfl
theorem wl_874 : Jvm.Cond.selects "JetTrees$Knot" ({ cls := "JetTrees$Knot", name := "heavier", desc := "()LJetTrees$Knot;" } : Jvm.MethodName) ({ cls := "JetTrees$Knot", name := "heavier", desc := "()LJetTrees$Knot;" } : Jvm.MethodName) ∈ zTbl := zIn 874 (by decide +kernel) rfl
theorem wl_875 : Jvm.Cond.code ({ cls := "JetTrees$Knot", name := "heavier", desc := "()LJetTrees$Knot;" } : Jvm.MethodName) prog_7_method_3_code (1 : Nat) (Option.some (Jvm.ClassFile.FieldType.object "JetTrees$Knot")) ∈ zTbl := zIn 875 (by decide +kernel) rfl
theorem wl_876 : Jvm.Cond.constantLong "JetTrees$Branches" (71 : Nat) (1000 : Int64) ∈ zTbl := zIn 876 (by decide +kernel) rfl
theorem wl_877 : Jvm.Cond.methodLink "JetTrees$Branches" (73 : Nat) ({ cls := "JetTrees$Knot", name := "squareOfParts", desc := "()I" } : Jvm.MethodName) ∈ zTbl := zIn 877 (by decide +kernel) rfl
theorem wl_878 : Jvm.Cond.instanceMethod ({ cls := "JetTrees$Knot", name := "squareOfParts", desc := "()I" } : Jvm.MethodName) ∈ zTbl := zIn 878 (by decide +kernel) rfl
theorem wl_879 : Jvm.Cond.selects "JetTrees$Knot" ({ cls := "JetTrees$Knot", name := "squareOfParts", desc := "()I" } : Jvm.MethodName) ({ cls := "JetTrees$Knot", name := "squareOfParts", desc := "()I" } : Jvm.MethodName) ∈ zTbl := zIn 879 (by decide +kernel) rfl
theorem wl_880 : Jvm.Cond.code ({ cls := "JetTrees$Knot", name := "squareOfParts", desc := "()I" } : Jvm.MethodName) prog_7_method_5_code (1 : Nat) (Option.some Jvm.ClassFile.FieldType.int) ∈ zTbl := zIn 880 (by decide +kernel) rfl
theorem wl_881 : Jvm.Cond.methodLink "JetTrees$Knot" (41 : Nat) ({ cls := "JetTrees$Body", name := "squareTo", desc := "(LJetTrees$Body;)I" } : Jvm.MethodName) ∈ zTbl := zIn 881 (by decide +kernel) rfl
theorem wl_882 : Jvm.Cond.methodLink "JetTreesLaw" (151 : Nat) ({ cls := "JetTrees", name := "trim", desc := "(IIII)J" } : Jvm.MethodName) ∈ zTbl := zIn 882 (by decide +kernel) rfl
theorem wl_883 : Jvm.Cond.instanceMethod ({ cls := "JetTrees", name := "trim", desc := "(IIII)J" } : Jvm.MethodName) ∈ zTbl := zIn 883 (by decide +kernel) rfl
theorem wl_884 : Jvm.Cond.selects "JetTrees" ({ cls := "JetTrees", name := "trim", desc := "(IIII)J" } : Jvm.MethodName) ({ cls := "JetTrees", name := "trim", desc := "(IIII)J" } : Jvm.MethodName) ∈ zTbl := zIn 884 (by decide +kernel) rfl
theorem wl_885 : Jvm.Cond.code ({ cls := "JetTrees", name := "trim", desc := "(IIII)J" } : Jvm.MethodName) prog_1_method_34_code (8 : Nat) (Option.some Jvm.ClassFile.FieldType.long) ∈ zTbl := zIn 885 (by decide +kernel) rfl
theorem wl_886 : Jvm.Cond.methodLink "JetTrees" (285 : Nat) ({ cls := "JetTrees$Branches", name := "trimmed", desc := "(LJetTrees$Tree;LJetTrees$Knot;I)J" } : Jvm.MethodName) ∈ zTbl := zIn 886 (by decide +kernel) rfl
theorem wl_887 : Jvm.Cond.static ({ cls := "JetTrees$Branches", name := "trimmed", desc := "(LJetTrees$Tree;LJetTrees$Knot;I)J" } : Jvm.MethodName) ∈ zTbl := zIn 887 (by decide +kernel) rfl
theorem wl_888 : Jvm.Cond.code ({ cls := "JetTrees$Branches", name := "trimmed", desc := "(LJetTrees$Tree;LJetTrees$Knot;I)J" } : Jvm.MethodName) prog_3_method_4_code (8 : Nat) (Option.some Jvm.ClassFile.FieldType.long) ∈ zTbl := zIn 888 (by decide +kernel) rfl
theorem wl_889 : Jvm.Cond.methodLinkNest "JetTrees$Branches" (83 : Nat) ({ cls := "JetTrees", name := "bitOf", desc := "(I)J" } : Jvm.MethodName) "JetTrees" ∈ zTbl := zIn 889 (by decide +kernel) rfl
theorem wl_890 : Jvm.Cond.methodLink "JetTreesLaw" (156 : Nat) ({ cls := "JetTrees", name := "prune", desc := "(IIII)J" } : Jvm.MethodName) ∈ zTbl := zIn 890 (by decide +kernel) rfl
theorem wl_891 : Jvm.Cond.instanceMethod ({ cls := "JetTrees", name := "prune", desc := "(IIII)J" } : Jvm.MethodName) ∈ zTbl := zIn 891 (by decide +kernel) rfl
theorem wl_892 : Jvm.Cond.selects "JetTrees" ({ cls := "JetTrees", name := "prune", desc := "(IIII)J" } : Jvm.MethodName) ({ cls := "JetTrees", name := "prune", desc := "(IIII)J" } : Jvm.MethodName) ∈ zTbl := zIn 892 (by decide +kernel) rfl
theorem wl_893 : Jvm.Cond.code ({ cls := "JetTrees", name := "prune", desc := "(IIII)J" } : Jvm.MethodName) prog_1_method_35_code (7 : Nat) (Option.some Jvm.ClassFile.FieldType.long) ∈ zTbl := zIn 893 (by decide +kernel) rfl
theorem wl_894 : Jvm.Cond.methodLink "JetTrees" (289 : Nat) ({ cls := "JetTrees$Branches", name := "pruned", desc := "(LJetTrees$Tree;LJetTrees$Knot;II)J" } : Jvm.MethodName) ∈ zTbl := zIn 894 (by decide +kernel) rfl
theorem wl_895 : Jvm.Cond.static ({ cls := "JetTrees$Branches", name := "pruned", desc := "(LJetTrees$Tree;LJetTrees$Knot;II)J" } : Jvm.MethodName) ∈ zTbl := zIn 895 (by decide +kernel) rfl
theorem wl_896 : Jvm.Cond.code ({ cls := "JetTrees$Branches", name := "pruned", desc := "(LJetTrees$Tree;LJetTrees$Knot;II)J" } : Jvm.MethodName) prog_3_method_5_code (10 : Nat) (Option.some Jvm.ClassFile.FieldType.long) ∈ zTbl := zIn 896 (by decide +kernel) rfl
theorem wl_897 : Jvm.Cond.arrayClass Jvm.ClassFile.FieldType.boolean ∈ zTbl := zIn 897 (by decide +kernel) rfl
theorem wl_898 : Jvm.Cond.methodLink "JetTreesLaw" (160 : Nat) ({ cls := "JetTrees", name := "split", desc := "(IIII)I" } : Jvm.MethodName) ∈ zTbl := zIn 898 (by decide +kernel) rfl
theorem wl_899 : Jvm.Cond.instanceMethod ({ cls := "JetTrees", name := "split", desc := "(IIII)I" } : Jvm.MethodName) ∈ zTbl := zIn 899 (by decide +kernel) rfl
theorem wl_900 : Jvm.Cond.selects "JetTrees" ({ cls := "JetTrees", name := "split", desc := "(IIII)I" } : Jvm.MethodName) ({ cls := "JetTrees", name := "split", desc := "(IIII)I" } : Jvm.MethodName) ∈ zTbl := zIn 900 (by decide +kernel) rfl
theorem wl_901 : Jvm.Cond.code ({ cls := "JetTrees", name := "split", desc := "(IIII)I" } : Jvm.MethodName) prog_1_method_36_code (7 : Nat) (Option.some Jvm.ClassFile.FieldType.int) ∈ zTbl := zIn 901 (by decide +kernel) rfl
theorem wl_902 : Jvm.Cond.methodLink "JetTrees" (293 : Nat) ({ cls := "JetTrees$Branches", name := "splitsOf", desc := "(LJetTrees$Knot;)I" } : Jvm.MethodName) ∈ zTbl := zIn 902 (by decide +kernel) rfl
theorem wl_903 : Jvm.Cond.static ({ cls := "JetTrees$Branches", name := "splitsOf", desc := "(LJetTrees$Knot;)I" } : Jvm.MethodName) ∈ zTbl := zIn 903 (by decide +kernel) rfl
theorem wl_904 : Jvm.Cond.code ({ cls := "JetTrees$Branches", name := "splitsOf", desc := "(LJetTrees$Knot;)I" } : Jvm.MethodName) prog_3_method_6_code (4 : Nat) (Option.some Jvm.ClassFile.FieldType.int) ∈ zTbl := zIn 904 (by decide +kernel) rfl
theorem wl_905 : Jvm.Cond.methodLink "JetTrees" (296 : Nat) ({ cls := "JetTrees$Branches", name := "splitAt", desc := "(LJetTrees$Knot;I)LJetTrees$Knot;" } : Jvm.MethodName) ∈ zTbl := zIn 905 (by decide +kernel) rfl
theorem wl_906 : Jvm.Cond.static ({ cls := "JetTrees$Branches", name := "splitAt", desc := "(LJetTrees$Knot;I)LJetTrees$Knot;" } : Jvm.MethodName) ∈ zTbl := zIn 906 (by decide +kernel) rfl
theorem wl_907 : Jvm.Cond.code ({ cls := "JetTrees$Branches", name := "splitAt", desc := "(LJetTrees$Knot;I)LJetTrees$Knot;" } : Jvm.MethodName) prog_3_method_7_code (4 : Nat) (Option.some (Jvm.ClassFile.FieldType.object "JetTrees$Knot")) ∈ zTbl := zIn 907 (by decide +kernel) rfl
theorem wl_908 : Jvm.Cond.methodLink "JetTrees$Branches" (93 : Nat) ({ cls := "JetTrees$Branches", name := "splitsOf", desc := "(LJetTrees$Knot;)I" } : Jvm.MethodName) ∈ zTbl := zIn 908 (by decide +kernel) rfl
theorem wl_909 : Jvm.Cond.methodLink "JetTrees" (303 : Nat) ({ cls := "JetTrees$Branches", name := "lightShare", desc := "(LJetTrees$Knot;)I" } : Jvm.MethodName) ∈ zTbl := zIn 909 (by decide +kernel) rfl
theorem wl_910 : Jvm.Cond.static ({ cls := "JetTrees$Branches", name := "lightShare", desc := "(LJetTrees$Knot;)I" } : Jvm.MethodName) ∈ zTbl := zIn 910 (by decide +kernel) rfl
theorem wl_911 : Jvm.Cond.code ({ cls := "JetTrees$Branches", name := "lightShare", desc := "(LJetTrees$Knot;)I" } : Jvm.MethodName) prog_3_method_8_code (2 : Nat) (Option.some Jvm.ClassFile.FieldType.int) ∈ zTbl := zIn 911 (by decide +kernel) rfl
theorem wl_912 : Jvm.Cond.methodLinkNest "JetTrees$Branches" (99 : Nat) ({ cls := "JetTrees", name := "downward", desc := "(II)I" } : Jvm.MethodName) "JetTrees" ∈ zTbl := zIn 912 (by decide +kernel) rfl
theorem wl_913 : Jvm.Cond.methodLink "JetTrees" (306 : Nat) ({ cls := "JetTrees$Knot", name := "squareOfParts", desc := "()I" } : Jvm.MethodName) ∈ zTbl := zIn 913 (by decide +kernel) rfl
theorem wl_914 : Jvm.Cond.methodLink "JetTreesLaw" (164 : Nat) ({ cls := "JetTrees", name := "width", desc := "(II)J" } : Jvm.MethodName) ∈ zTbl := zIn 914 (by decide +kernel) rfl
theorem wl_915 : Jvm.Cond.instanceMethod ({ cls := "JetTrees", name := "width", desc := "(II)J" } : Jvm.MethodName) ∈ zTbl := zIn 915 (by decide +kernel) rfl
theorem wl_916 : Jvm.Cond.selects "JetTrees" ({ cls := "JetTrees", name := "width", desc := "(II)J" } : Jvm.MethodName) ({ cls := "JetTrees", name := "width", desc := "(II)J" } : Jvm.MethodName) ∈ zTbl := zIn 916 (by decide +kernel) rfl
theorem wl_917 : Jvm.Cond.code ({ cls := "JetTrees", name := "width", desc := "(II)J" } : Jvm.MethodName) prog_1_method_37_code (5 : Nat) (Option.some Jvm.ClassFile.FieldType.long) ∈ zTbl := zIn 917 (by decide +kernel) rfl
theorem wl_918 : Jvm.Cond.methodLink "JetTrees" (309 : Nat) ({ cls := "JetTrees$Branches", name := "widthBits", desc := "(LJetTrees$Tree;LJetTrees$Knot;)J" } : Jvm.MethodName) ∈ zTbl := zIn 918 (by decide +kernel) rfl
theorem wl_919 : Jvm.Cond.static ({ cls := "JetTrees$Branches", name := "widthBits", desc := "(LJetTrees$Tree;LJetTrees$Knot;)J" } : Jvm.MethodName) ∈ zTbl := zIn 919 (by decide +kernel) rfl
theorem wl_920 : Jvm.Cond.code ({ cls := "JetTrees$Branches", name := "widthBits", desc := "(LJetTrees$Tree;LJetTrees$Knot;)J" } : Jvm.MethodName) prog_3_method_9_code (6 : Nat) (Option.some Jvm.ClassFile.FieldType.long) ∈ zTbl := zIn 920 (by decide +kernel) rfl
theorem wl_921 : Jvm.Cond.methodLink "JetTrees$Branches" (103 : Nat) ({ cls := "JetTrees$Body", name := "squareTo", desc := "(LJetTrees$Body;)I" } : Jvm.MethodName) ∈ zTbl := zIn 921 (by decide +kernel) rfl
theorem wl_922 : Jvm.Cond.methodLink "JetTrees$Branches" (107 : Nat) ({ cls := "JetTrees$Branches", name := "quotientBits", desc := "(JJ)J" } : Jvm.MethodName) ∈ zTbl := zIn 922 (by decide +kernel) rfl
theorem wl_923 : Jvm.Cond.static ({ cls := "JetTrees$Branches", name := "quotientBits", desc := "(JJ)J" } : Jvm.MethodName) ∈ zTbl := zIn 923 (by decide +kernel) rfl
theorem wl_924 : Jvm.Cond.code ({ cls := "JetTrees$Branches", name := "quotientBits", desc := "(JJ)J" } : Jvm.MethodName) prog_3_method_14_code (10 : Nat) (Option.some Jvm.ClassFile.FieldType.long) ∈ zTbl := zIn 924 (by decide +kernel) rfl
theorem wl_925 : Jvm.Cond.constantDouble "JetTrees$Branches" (142 : Nat) (4841369599423283200 : UInt64) ∈ zTbl := zIn 925 (by decide +kernel) rfl
theorem wl_926 : Jvm.Cond.constantDouble "JetTrees$Branches" (144 : Nat) (4611686018427387904 : UInt64) ∈ zTbl := zIn 926 (by decide +kernel) rfl
theorem wl_927 : Jvm.Cond.constantLong "JetTrees$Branches" (146 : Nat) (4503599627370495 : Int64) ∈ zTbl := zIn 927 (by decide +kernel) rfl
theorem wl_928 : Jvm.Cond.methodLink "JetTreesLaw" (168 : Nat) ({ cls := "JetTrees", name := "closeness", desc := "(II)J" } : Jvm.MethodName) ∈ zTbl := zIn 928 (by decide +kernel) rfl
theorem wl_929 : Jvm.Cond.instanceMethod ({ cls := "JetTrees", name := "closeness", desc := "(II)J" } : Jvm.MethodName) ∈ zTbl := zIn 929 (by decide +kernel) rfl
theorem wl_930 : Jvm.Cond.selects "JetTrees" ({ cls := "JetTrees", name := "closeness", desc := "(II)J" } : Jvm.MethodName) ({ cls := "JetTrees", name := "closeness", desc := "(II)J" } : Jvm.MethodName) ∈ zTbl := zIn 930 (by decide +kernel) rfl
theorem wl_931 : Jvm.Cond.code ({ cls := "JetTrees", name := "closeness", desc := "(II)J" } : Jvm.MethodName) prog_1_method_38_code (5 : Nat) (Option.some Jvm.ClassFile.FieldType.long) ∈ zTbl := zIn 931 (by decide +kernel) rfl
theorem wl_932 : Jvm.Cond.methodLink "JetTrees" (313 : Nat) ({ cls := "JetTrees$Branches", name := "closenessBits", desc := "(LJetTrees$Tree;LJetTrees$Knot;)J" } : Jvm.MethodName) ∈ zTbl := zIn 932 (by decide +kernel) rfl
theorem wl_933 : Jvm.Cond.static ({ cls := "JetTrees$Branches", name := "closenessBits", desc := "(LJetTrees$Tree;LJetTrees$Knot;)J" } : Jvm.MethodName) ∈ zTbl := zIn 933 (by decide +kernel) rfl
theorem wl_934 : Jvm.Cond.code ({ cls := "JetTrees$Branches", name := "closenessBits", desc := "(LJetTrees$Tree;LJetTrees$Knot;)J" } : Jvm.MethodName) prog_3_method_10_code (6 : Nat) (Option.some Jvm.ClassFile.FieldType.long) ∈ zTbl := zIn 934 (by decide +kernel) rfl
theorem wl_935 : Jvm.Cond.methodLink "JetTrees$Branches" (111 : Nat) ({ cls := "JetTrees$Body", name := "pairedWith", desc := "(LJetTrees$Body;)J" } : Jvm.MethodName) ∈ zTbl := zIn 935 (by decide +kernel) rfl
theorem wl_936 : Jvm.Cond.instanceMethod ({ cls := "JetTrees$Body", name := "pairedWith", desc := "(LJetTrees$Body;)J" } : Jvm.MethodName) ∈ zTbl := zIn 936 (by decide +kernel) rfl
theorem wl_937 : Jvm.Cond.selects "JetTrees$Body" ({ cls := "JetTrees$Body", name := "pairedWith", desc := "(LJetTrees$Body;)J" } : Jvm.MethodName) ({ cls := "JetTrees$Body", name := "pairedWith", desc := "(LJetTrees$Body;)J" } : Jvm.MethodName) ∈ zTbl := zIn 937 (by decide +kernel) rfl
theorem wl_938 : Jvm.Cond.code ({ cls := "JetTrees$Body", name := "pairedWith", desc := "(LJetTrees$Body;)J" } : Jvm.MethodName) prog_2_method_6_code (2 : Nat) (Option.some Jvm.ClassFile.FieldType.long) ∈ zTbl := zIn 938 (by decide +kernel) rfl
theorem wl_939 : Jvm.Cond.methodLink "JetTrees$Body" (34 : Nat) ({ cls := "JetTrees$Body", name := "squareTo", desc := "(LJetTrees$Body;)I" } : Jvm.MethodName) ∈ zTbl := zIn 939 (by decide +kernel) rfl
theorem wl_940 : Jvm.Cond.methodLink "JetTreesLaw" (172 : Nat) ({ cls := "JetTrees", name := "kept", desc := "(II)J" } : Jvm.MethodName) ∈ zTbl := zIn 940 (by decide +kernel) rfl
theorem wl_941 : Jvm.Cond.instanceMethod ({ cls := "JetTrees", name := "kept", desc := "(II)J" } : Jvm.MethodName) ∈ zTbl := zIn 941 (by decide +kernel) rfl
theorem wl_942 : Jvm.Cond.selects "JetTrees" ({ cls := "JetTrees", name := "kept", desc := "(II)J" } : Jvm.MethodName) ({ cls := "JetTrees", name := "kept", desc := "(II)J" } : Jvm.MethodName) ∈ zTbl := zIn 942 (by decide +kernel) rfl
theorem wl_943 : Jvm.Cond.code ({ cls := "JetTrees", name := "kept", desc := "(II)J" } : Jvm.MethodName) prog_1_method_39_code (4 : Nat) (Option.some Jvm.ClassFile.FieldType.long) ∈ zTbl := zIn 943 (by decide +kernel) rfl
theorem wl_944 : Jvm.Cond.methodLink "JetTrees" (316 : Nat) ({ cls := "JetTrees", name := "keptAt", desc := "(I)[J" } : Jvm.MethodName) ∈ zTbl := zIn 944 (by decide +kernel) rfl
theorem wl_946 : Jvm.Cond.instanceMethod ({ cls := "JetTrees", name := "keptAt", desc := "(I)[J" } : Jvm.MethodName) ∈ zTbl := zIn 946 (by decide +kernel) rfl
theorem wl_947 : Jvm.Cond.code ({ cls := "JetTrees", name := "keptAt", desc := "(I)[J" } : Jvm.MethodName) prog_1_method_71_code (2 : Nat) (Option.some (Jvm.ClassFile.FieldType.array Jvm.ClassFile.FieldType.long)) ∈ zTbl := zIn 947 (by decide +kernel) rfl
theorem wl_948 : Jvm.Cond.methodLink "JetTreesLaw" (176 : Nat) ({ cls := "JetTrees", name := "within", desc := "(II)Z" } : Jvm.MethodName) ∈ zTbl := zIn 948 (by decide +kernel) rfl
theorem wl_949 : Jvm.Cond.instanceMethod ({ cls := "JetTrees", name := "within", desc := "(II)Z" } : Jvm.MethodName) ∈ zTbl := zIn 949 (by decide +kernel) rfl
theorem wl_950 : Jvm.Cond.selects "JetTrees" ({ cls := "JetTrees", name := "within", desc := "(II)Z" } : Jvm.MethodName) ({ cls := "JetTrees", name := "within", desc := "(II)Z" } : Jvm.MethodName) ∈ zTbl := zIn 950 (by decide +kernel) rfl
theorem wl_951 : Jvm.Cond.code ({ cls := "JetTrees", name := "within", desc := "(II)Z" } : Jvm.MethodName) prog_1_method_40_code (6 : Nat) (Option.some Jvm.ClassFile.FieldType.boolean) ∈ zTbl := zIn 951 (by decide +kernel) rfl
theorem wl_952 : Jvm.Cond.methodLink "JetTrees" (319 : Nat) ({ cls := "JetTrees", name := "isInOneOf", desc := "(J[J)Z" } : Jvm.MethodName) ∈ zTbl := zIn 952 (by decide +kernel) rfl
theorem wl_953 : Jvm.Cond.static ({ cls := "JetTrees", name := "isInOneOf", desc := "(J[J)Z" } : Jvm.MethodName) ∈ zTbl := zIn 953 (by decide +kernel) rfl
theorem wl_954 : Jvm.Cond.code ({ cls := "JetTrees", name := "isInOneOf", desc := "(J[J)Z" } : Jvm.MethodName) prog_1_method_75_code (4 : Nat) (Option.some Jvm.ClassFile.FieldType.boolean) ∈ zTbl := zIn 954 (by decide +kernel) rfl
theorem wl_955 : Jvm.Cond.methodLink "JetTreesLaw" (180 : Nat) ({ cls := "JetTrees", name := "tau", desc := "(III)J" } : Jvm.MethodName) ∈ zTbl := zIn 955 (by decide +kernel) rfl
theorem wl_956 : Jvm.Cond.instanceMethod ({ cls := "JetTrees", name := "tau", desc := "(III)J" } : Jvm.MethodName) ∈ zTbl := zIn 956 (by decide +kernel) rfl
theorem wl_957 : Jvm.Cond.selects "JetTrees" ({ cls := "JetTrees", name := "tau", desc := "(III)J" } : Jvm.MethodName) ({ cls := "JetTrees", name := "tau", desc := "(III)J" } : Jvm.MethodName) ∈ zTbl := zIn 957 (by decide +kernel) rfl
theorem wl_958 : Jvm.Cond.code ({ cls := "JetTrees", name := "tau", desc := "(III)J" } : Jvm.MethodName) prog_1_method_41_code (6 : Nat) (Option.some Jvm.ClassFile.FieldType.long) ∈ zTbl := zIn 958 (by decide +kernel) rfl
theorem wl_959 : Jvm.Cond.methodLink "JetTrees" (323 : Nat) ({ cls := "JetTrees$Branches", name := "tauBits", desc := "(LJetTrees$Tree;LJetTrees$Knot;I)J" } : Jvm.MethodName) ∈ zTbl := zIn 959 (by decide +kernel) rfl
theorem wl_960 : Jvm.Cond.static ({ cls := "JetTrees$Branches", name := "tauBits", desc := "(LJetTrees$Tree;LJetTrees$Knot;I)J" } : Jvm.MethodName) ∈ zTbl := zIn 960 (by decide +kernel) rfl
theorem wl_961 : Jvm.Cond.code ({ cls := "JetTrees$Branches", name := "tauBits", desc := "(LJetTrees$Tree;LJetTrees$Knot;I)J" } : Jvm.MethodName) prog_3_method_11_code (9 : Nat) (Option.some Jvm.ClassFile.FieldType.long) ∈ zTbl := zIn 961 (by decide +kernel) rfl
theorem wl_962 : Jvm.Cond.classLink "JetTrees$Branches" (10 : Nat) "JetTrees$Knot" ∈ zTbl := zIn 962 (by decide +kernel) rfl
theorem wl_963 : Jvm.Cond.methodLink "JetTrees$Branches" (115 : Nat) ({ cls := "JetTrees$Branches", name := "latestJoined", desc := "([LJetTrees$Knot;I)I" } : Jvm.MethodName) ∈ zTbl := zIn 963 (by decide +kernel) rfl
theorem wl_964 : Jvm.Cond.static ({ cls := "JetTrees$Branches", name := "latestJoined", desc := "([LJetTrees$Knot;I)I" } : Jvm.MethodName) ∈ zTbl := zIn 964 (by decide +kernel) rfl
theorem wl_965 : Jvm.Cond.code ({ cls := "JetTrees$Branches", name := "latestJoined", desc := "([LJetTrees$Knot;I)I" } : Jvm.MethodName) prog_3_method_12_code (4 : Nat) (Option.some Jvm.ClassFile.FieldType.int) ∈ zTbl := zIn 965 (by decide +kernel) rfl
theorem wl_966 : Jvm.Cond.methodLink "JetTrees$Branches" (130 : Nat) ({ cls := "JetTrees$Knot", name := "wasJoined", desc := "()Z" } : Jvm.MethodName) ∈ zTbl := zIn 966 (by decide +kernel) rfl
theorem wl_967 : Jvm.Cond.instanceMethod ({ cls := "JetTrees$Knot", name := "wasJoined", desc := "()Z" } : Jvm.MethodName) ∈ zTbl := zIn 967 (by decide +kernel) rfl
theorem wl_968 : Jvm.Cond.selects "JetTrees$Knot" ({ cls := "JetTrees$Knot", name := "wasJoined", desc := "()Z" } : Jvm.MethodName) ({ cls := "JetTrees$Knot", name := "wasJoined", desc := "()Z" } : Jvm.MethodName) ∈ zTbl := zIn 968 (by decide +kernel) rfl
theorem wl_969 : Jvm.Cond.code ({ cls := "JetTrees$Knot", name := "wasJoined", desc := "()Z" } : Jvm.MethodName) prog_7_method_2_code (1 : Nat) (Option.some Jvm.ClassFile.FieldType.boolean) ∈ zTbl := zIn 969 (by decide +kernel) rfl
theorem wl_970 : Jvm.Cond.methodLink "JetTrees$Branches" (126 : Nat) ({ cls := "JetTrees$Branches", name := "leastSquare", desc := "(LJetTrees$Body;[LJetTrees$Knot;I)I" } : Jvm.MethodName) ∈ zTbl := zIn 970 (by decide +kernel) rfl
theorem wl_971 : Jvm.Cond.static ({ cls := "JetTrees$Branches", name := "leastSquare", desc := "(LJetTrees$Body;[LJetTrees$Knot;I)I" } : Jvm.MethodName) ∈ zTbl := zIn 971 (by decide +kernel) rfl
theorem wl_972 : Jvm.Cond.code ({ cls := "JetTrees$Branches", name := "leastSquare", desc := "(LJetTrees$Body;[LJetTrees$Knot;I)I" } : Jvm.MethodName) prog_3_method_13_code (5 : Nat) (Option.some Jvm.ClassFile.FieldType.int) ∈ zTbl := zIn 972 (by decide +kernel) rfl
theorem wl_973 : Jvm.Cond.methodLink "JetTrees$Branches" (137 : Nat) ({ cls := "java/lang/Math", name := "min", desc := "(II)I" } : Jvm.MethodName) ∈ zTbl := zIn 973 (by decide +kernel) rfl
theorem wl_974 : Jvm.Cond.methodLink "JetTreesLaw" (185 : Nat) ({ cls := "JetTrees", name := "matched", desc := "(III)I" } : Jvm.MethodName) ∈ zTbl := zIn 974 (by decide +kernel) rfl
theorem wl_975 : Jvm.Cond.instanceMethod ({ cls := "JetTrees", name := "matched", desc := "(III)I" } : Jvm.MethodName) ∈ zTbl := zIn 975 (by decide +kernel) rfl
theorem wl_976 : Jvm.Cond.selects "JetTrees" ({ cls := "JetTrees", name := "matched", desc := "(III)I" } : Jvm.MethodName) ({ cls := "JetTrees", name := "matched", desc := "(III)I" } : Jvm.MethodName) ∈ zTbl := zIn 976 (by decide +kernel) rfl
theorem wl_977 : Jvm.Cond.code ({ cls := "JetTrees", name := "matched", desc := "(III)I" } : Jvm.MethodName) prog_1_method_42_code (11 : Nat) (Option.some Jvm.ClassFile.FieldType.int) ∈ zTbl := zIn 977 (by decide +kernel) rfl
theorem wl_978 : Jvm.Cond.methodLink "JetTrees" (330 : Nat) ({ cls := "JetTrees$Tree", name := "weightOf", desc := "(J)I" } : Jvm.MethodName) ∈ zTbl := zIn 978 (by decide +kernel) rfl
theorem wl_979 : Jvm.Cond.instanceMethod ({ cls := "JetTrees$Tree", name := "weightOf", desc := "(J)I" } : Jvm.MethodName) ∈ zTbl := zIn 979 (by decide +kernel) rfl
theorem wl_980 : Jvm.Cond.selects "JetTrees$Tree" ({ cls := "JetTrees$Tree", name := "weightOf", desc := "(J)I" } : Jvm.MethodName) ({ cls := "JetTrees$Tree", name := "weightOf", desc := "(J)I" } : Jvm.MethodName) ∈ zTbl := zIn 980 (by decide +kernel) rfl
theorem wl_981 : Jvm.Cond.code ({ cls := "JetTrees$Tree", name := "weightOf", desc := "(J)I" } : Jvm.MethodName) prog_12_method_10_code (5 : Nat) (Option.some Jvm.ClassFile.FieldType.int) ∈ zTbl := zIn 981 (by decide +kernel) rfl
theorem wl_982 : Jvm.Cond.methodLinkNest "JetTrees$Tree" (78 : Nat) ({ cls := "JetTrees", name := "isIn", desc := "(JI)Z" } : Jvm.MethodName) "JetTrees" ∈ zTbl := zIn 982 (by decide +kernel) rfl
theorem wl_983 : Jvm.Cond.methodLink "JetTreesLaw" (189 : Nat) ({ cls := "JetTrees", name := "alike", desc := "(II)Z" } : Jvm.MethodName) ∈ zTbl := zIn 983 (by decide +kernel) rfl
theorem wl_984 : Jvm.Cond.instanceMethod ({ cls := "JetTrees", name := "alike", desc := "(II)Z" } : Jvm.MethodName) ∈ zTbl := zIn 984 (by decide +kernel) rfl
theorem wl_985 : Jvm.Cond.selects "JetTrees" ({ cls := "JetTrees", name := "alike", desc := "(II)Z" } : Jvm.MethodName) ({ cls := "JetTrees", name := "alike", desc := "(II)Z" } : Jvm.MethodName) ∈ zTbl := zIn 985 (by decide +kernel) rfl
theorem wl_986 : Jvm.Cond.code ({ cls := "JetTrees", name := "alike", desc := "(II)Z" } : Jvm.MethodName) prog_1_method_43_code (5 : Nat) (Option.some Jvm.ClassFile.FieldType.boolean) ∈ zTbl := zIn 986 (by decide +kernel) rfl
theorem wl_987 : Jvm.Cond.methodLink "JetTrees" (333 : Nat) ({ cls := "JetTrees$Tree", name := "jetsUnlike", desc := "(LJetTrees$Tree;)I" } : Jvm.MethodName) ∈ zTbl := zIn 987 (by decide +kernel) rfl
theorem wl_988 : Jvm.Cond.instanceMethod ({ cls := "JetTrees$Tree", name := "jetsUnlike", desc := "(LJetTrees$Tree;)I" } : Jvm.MethodName) ∈ zTbl := zIn 988 (by decide +kernel) rfl
theorem wl_989 : Jvm.Cond.selects "JetTrees$Tree" ({ cls := "JetTrees$Tree", name := "jetsUnlike", desc := "(LJetTrees$Tree;)I" } : Jvm.MethodName) ({ cls := "JetTrees$Tree", name := "jetsUnlike", desc := "(LJetTrees$Tree;)I" } : Jvm.MethodName) ∈ zTbl := zIn 989 (by decide +kernel) rfl
theorem wl_990 : Jvm.Cond.code ({ cls := "JetTrees$Tree", name := "jetsUnlike", desc := "(LJetTrees$Tree;)I" } : Jvm.MethodName) prog_12_method_16_code (5 : Nat) (Option.some Jvm.ClassFile.FieldType.int) ∈ zTbl := zIn 990 (by decide +kernel) rfl
theorem wl_991 : Jvm.Cond.methodLink "JetTrees$Tree" (110 : Nat) ({ cls := "JetTrees$Tree", name := "jetWith", desc := "(J)LJetTrees$Knot;" } : Jvm.MethodName) ∈ zTbl := zIn 991 (by decide +kernel) rfl
theorem wl_992 : Jvm.Cond.methodLink "JetTreesLaw" (193 : Nat) ({ cls := "JetTrees", name := "unlike", desc := "(II)I" } : Jvm.MethodName) ∈ zTbl := zIn 992 (by decide +kernel) rfl
theorem wl_993 : Jvm.Cond.instanceMethod ({ cls := "JetTrees", name := "unlike", desc := "(II)I" } : Jvm.MethodName) ∈ zTbl := zIn 993 (by decide +kernel) rfl
theorem wl_994 : Jvm.Cond.selects "JetTrees" ({ cls := "JetTrees", name := "unlike", desc := "(II)I" } : Jvm.MethodName) ({ cls := "JetTrees", name := "unlike", desc := "(II)I" } : Jvm.MethodName) ∈ zTbl := zIn 994 (by decide +kernel) rfl
theorem wl_995 : Jvm.Cond.code ({ cls := "JetTrees", name := "unlike", desc := "(II)I" } : Jvm.MethodName) prog_1_method_44_code (5 : Nat) (Option.some Jvm.ClassFile.FieldType.int) ∈ zTbl := zIn 995 (by decide +kernel) rfl
theorem wl_996 : Jvm.Cond.methodLink "JetTreesLaw" (197 : Nat) ({ cls := "JetTrees", name := "backToBack", desc := "(I)I" } : Jvm.MethodName) ∈ zTbl := zIn 996 (by decide +kernel) rfl
theorem wl_997 : Jvm.Cond.instanceMethod ({ cls := "JetTrees", name := "backToBack", desc := "(I)I" } : Jvm.MethodName) ∈ zTbl := zIn 997 (by decide +kernel) rfl
theorem wl_998 : Jvm.Cond.selects "JetTrees" ({ cls := "JetTrees", name := "backToBack", desc := "(I)I" } : Jvm.MethodName) ({ cls := "JetTrees", name := "backToBack", desc := "(I)I" } : Jvm.MethodName) ∈ zTbl := zIn 998 (by decide +kernel) rfl
theorem wl_999 : Jvm.Cond.code ({ cls := "JetTrees", name := "backToBack", desc := "(I)I" } : Jvm.MethodName) prog_1_method_45_code (4 : Nat) (Option.some Jvm.ClassFile.FieldType.int) ∈ zTbl := zIn 999 (by decide +kernel) rfl
theorem wl_1000 : Jvm.Cond.methodLink "JetTrees" (337 : Nat) ({ cls := "JetTrees$Body", name := "lesserWay", desc := "(II)I" } : Jvm.MethodName) ∈ zTbl := zIn 1000 (by decide +kernel) rfl
theorem wl_1001 : Jvm.Cond.methodLink "JetTreesLaw" (201 : Nat) ({ cls := "JetTrees", name := "fresh", desc := "(I)Z" } : Jvm.MethodName) ∈ zTbl := zIn 1001 (by decide +kernel) rfl
theorem wl_1002 : Jvm.Cond.instanceMethod ({ cls := "JetTrees", name := "fresh", desc := "(I)Z" } : Jvm.MethodName) ∈ zTbl := zIn 1002 (by decide +kernel) rfl
theorem wl_1003 : Jvm.Cond.selects "JetTrees" ({ cls := "JetTrees", name := "fresh", desc := "(I)Z" } : Jvm.MethodName) ({ cls := "JetTrees", name := "fresh", desc := "(I)Z" } : Jvm.MethodName) ∈ zTbl := zIn 1003 (by decide +kernel) rfl
theorem wl_1004 : Jvm.Cond.code ({ cls := "JetTrees", name := "fresh", desc := "(I)Z" } : Jvm.MethodName) prog_1_method_46_code (3 : Nat) (Option.some Jvm.ClassFile.FieldType.boolean) ∈ zTbl := zIn 1004 (by decide +kernel) rfl
theorem wl_1005 : Jvm.Cond.methodLink "JetTrees" (340 : Nat) ({ cls := "JetTrees$Tree", name := "hasStepsOf", desc := "(LJetTrees$Tree;)Z" } : Jvm.MethodName) ∈ zTbl := zIn 1005 (by decide +kernel) rfl
theorem wl_1006 : Jvm.Cond.instanceMethod ({ cls := "JetTrees$Tree", name := "hasStepsOf", desc := "(LJetTrees$Tree;)Z" } : Jvm.MethodName) ∈ zTbl := zIn 1006 (by decide +kernel) rfl
theorem wl_1007 : Jvm.Cond.selects "JetTrees$Tree" ({ cls := "JetTrees$Tree", name := "hasStepsOf", desc := "(LJetTrees$Tree;)Z" } : Jvm.MethodName) ({ cls := "JetTrees$Tree", name := "hasStepsOf", desc := "(LJetTrees$Tree;)Z" } : Jvm.MethodName) ∈ zTbl := zIn 1007 (by decide +kernel) rfl
theorem wl_1008 : Jvm.Cond.code ({ cls := "JetTrees$Tree", name := "hasStepsOf", desc := "(LJetTrees$Tree;)Z" } : Jvm.MethodName) prog_12_method_18_code (3 : Nat) (Option.some Jvm.ClassFile.FieldType.boolean) ∈ zTbl := zIn 1008 (by decide +kernel) rfl
theorem wl_1009 : Jvm.Cond.methodLink "JetTrees$Tree" (114 : Nat) ({ cls := "JetTrees$Step", name := "isLike", desc := "(LJetTrees$Step;)Z" } : Jvm.MethodName) ∈ zTbl := zIn 1009 (by decide +kernel) rfl
theorem wl_1010 : Jvm.Cond.instanceMethod ({ cls := "JetTrees$Step", name := "isLike", desc := "(LJetTrees$Step;)Z" } : Jvm.MethodName) ∈ zTbl := zIn 1010 (by decide +kernel) rfl
theorem wl_1011 : Jvm.Cond.selects "JetTrees$Step" ({ cls := "JetTrees$Step", name := "isLike", desc := "(LJetTrees$Step;)Z" } : Jvm.MethodName) ({ cls := "JetTrees$Step", name := "isLike", desc := "(LJetTrees$Step;)Z" } : Jvm.MethodName) ∈ zTbl := zIn 1011 (by decide +kernel) rfl
theorem wl_1012 : Jvm.Cond.code ({ cls := "JetTrees$Step", name := "isLike", desc := "(LJetTrees$Step;)Z" } : Jvm.MethodName) prog_9_method_2_code (2 : Nat) (Option.some Jvm.ClassFile.FieldType.boolean) ∈ zTbl := zIn 1012 (by decide +kernel) rfl
theorem wl_1013 : Jvm.Cond.methodLink "JetTreesLaw" (205 : Nat) ({ cls := "JetTrees", name := "pair", desc := "(III)J" } : Jvm.MethodName) ∈ zTbl := zIn 1013 (by decide +kernel) rfl
theorem wl_1014 : Jvm.Cond.instanceMethod ({ cls := "JetTrees", name := "pair", desc := "(III)J" } : Jvm.MethodName) ∈ zTbl := zIn 1014 (by decide +kernel) rfl
theorem wl_1015 : Jvm.Cond.selects "JetTrees" ({ cls := "JetTrees", name := "pair", desc := "(III)J" } : Jvm.MethodName) ({ cls := "JetTrees", name := "pair", desc := "(III)J" } : Jvm.MethodName) ∈ zTbl := zIn 1015 (by decide +kernel) rfl
theorem wl_1016 : Jvm.Cond.code ({ cls := "JetTrees", name := "pair", desc := "(III)J" } : Jvm.MethodName) prog_1_method_47_code (6 : Nat) (Option.some Jvm.ClassFile.FieldType.long) ∈ zTbl := zIn 1016 (by decide +kernel) rfl
theorem wl_1017 : Jvm.Cond.methodLink "JetTrees" (344 : Nat) ({ cls := "JetTrees$Body", name := "pairedWith", desc := "(LJetTrees$Body;)J" } : Jvm.MethodName) ∈ zTbl := zIn 1017 (by decide +kernel) rfl
theorem wl_1018 : Jvm.Cond.methodLink "JetTreesLaw" (211 : Nat) ({ cls := "JetTrees", name := "nearestPair", desc := "(IJ)I" } : Jvm.MethodName) ∈ zTbl := zIn 1018 (by decide +kernel) rfl
theorem wl_1019 : Jvm.Cond.instanceMethod ({ cls := "JetTrees", name := "nearestPair", desc := "(IJ)I" } : Jvm.MethodName) ∈ zTbl := zIn 1019 (by decide +kernel) rfl
theorem wl_1020 : Jvm.Cond.selects "JetTrees" ({ cls := "JetTrees", name := "nearestPair", desc := "(IJ)I" } : Jvm.MethodName) ({ cls := "JetTrees", name := "nearestPair", desc := "(IJ)I" } : Jvm.MethodName) ∈ zTbl := zIn 1020 (by decide +kernel) rfl
theorem wl_1021 : Jvm.Cond.code ({ cls := "JetTrees", name := "nearestPair", desc := "(IJ)I" } : Jvm.MethodName) prog_1_method_48_code (5 : Nat) (Option.some Jvm.ClassFile.FieldType.int) ∈ zTbl := zIn 1021 (by decide +kernel) rfl
theorem wl_1022 : Jvm.Cond.methodLink "JetTrees" (348 : Nat) ({ cls := "JetTrees$Tree", name := "pairNearestTo", desc := "(J)I" } : Jvm.MethodName) ∈ zTbl := zIn 1022 (by decide +kernel) rfl
theorem wl_1023 : Jvm.Cond.instanceMethod ({ cls := "JetTrees$Tree", name := "pairNearestTo", desc := "(J)I" } : Jvm.MethodName) ∈ zTbl := zIn 1023 (by decide +kernel) rfl
theorem wl_1024 : Jvm.Cond.selects "JetTrees$Tree" ({ cls := "JetTrees$Tree", name := "pairNearestTo", desc := "(J)I" } : Jvm.MethodName) ({ cls := "JetTrees$Tree", name := "pairNearestTo", desc := "(J)I" } : Jvm.MethodName) ∈ zTbl := zIn 1024 (by decide +kernel) rfl
theorem wl_1025 : Jvm.Cond.code ({ cls := "JetTrees$Tree", name := "pairNearestTo", desc := "(J)I" } : Jvm.MethodName) prog_12_method_19_code (10 : Nat) (Option.some Jvm.ClassFile.FieldType.int) ∈ zTbl := zIn 1025 (by decide +kernel) rfl
theorem wl_1026 : Jvm.Cond.methodLink "JetTrees$Tree" (118 : Nat) ({ cls := "JetTrees$Body", name := "pairedWith", desc := "(LJetTrees$Body;)J" } : Jvm.MethodName) ∈ zTbl := zIn 1026 (by decide +kernel) rfl
theorem wl_1027 : Jvm.Cond.methodLink "JetTrees$Tree" (122 : Nat) ({ cls := "java/lang/Math", name := "abs", desc := "(J)J" } : Jvm.MethodName) ∈ zTbl := zIn 1027 (by decide +kernel) rfl
theorem wl_1028 : Jvm.Cond.static ({ cls := "java/lang/Math", name := "abs", desc := "(J)J" } : Jvm.MethodName) ∈ zTbl := zIn 1028 (by decide +kernel) rfl
theorem wl_1029 : Jvm.Cond.code ({ cls := "java/lang/Math", name := "abs", desc := "(J)J" } : Jvm.MethodName) prog_17_method_61_code (2 : Nat) (Option.some Jvm.ClassFile.FieldType.long) ∈ zTbl := zIn 1029 (by decide +kernel) rfl
theorem wl_1030 : Jvm.Cond.methodLink "JetTreesLaw" (216 : Nat) ({ cls := "JetTrees", name := "count", desc := "(III)I" } : Jvm.MethodName) ∈ zTbl := zIn 1030 (by decide +kernel) rfl
theorem wl_1031 : Jvm.Cond.instanceMethod ({ cls := "JetTrees", name := "count", desc := "(III)I" } : Jvm.MethodName) ∈ zTbl := zIn 1031 (by decide +kernel) rfl
theorem wl_1032 : Jvm.Cond.selects "JetTrees" ({ cls := "JetTrees", name := "count", desc := "(III)I" } : Jvm.MethodName) ({ cls := "JetTrees", name := "count", desc := "(III)I" } : Jvm.MethodName) ∈ zTbl := zIn 1032 (by decide +kernel) rfl
theorem wl_1033 : Jvm.Cond.code ({ cls := "JetTrees", name := "count", desc := "(III)I" } : Jvm.MethodName) prog_1_method_49_code (8 : Nat) (Option.some Jvm.ClassFile.FieldType.int) ∈ zTbl := zIn 1033 (by decide +kernel) rfl
theorem wl_1034 : Jvm.Cond.methodLink "JetTrees" (351 : Nat) ({ cls := "java/lang/Math", name := "abs", desc := "(I)I" } : Jvm.MethodName) ∈ zTbl := zIn 1034 (by decide +kernel) rfl
theorem wl_1035 : Jvm.Cond.methodLink "JetTreesLaw" (220 : Nat) ({ cls := "JetTrees", name := "common", desc := "(II)I" } : Jvm.MethodName) ∈ zTbl := zIn 1035 (by decide +kernel) rfl
theorem wl_1036 : Jvm.Cond.instanceMethod ({ cls := "JetTrees", name := "common", desc := "(II)I" } : Jvm.MethodName) ∈ zTbl := zIn 1036 (by decide +kernel) rfl
theorem wl_1037 : Jvm.Cond.selects "JetTrees" ({ cls := "JetTrees", name := "common", desc := "(II)I" } : Jvm.MethodName) ({ cls := "JetTrees", name := "common", desc := "(II)I" } : Jvm.MethodName) ∈ zTbl := zIn 1037 (by decide +kernel) rfl
theorem wl_1038 : Jvm.Cond.code ({ cls := "JetTrees", name := "common", desc := "(II)I" } : Jvm.MethodName) prog_1_method_50_code (5 : Nat) (Option.some Jvm.ClassFile.FieldType.int) ∈ zTbl := zIn 1038 (by decide +kernel) rfl
theorem wl_1039 : Jvm.Cond.methodLink "JetTrees" (354 : Nat) ({ cls := "JetTrees$Tree", name := "joinedInCommon", desc := "(LJetTrees$Tree;)I" } : Jvm.MethodName) ∈ zTbl := zIn 1039 (by decide +kernel) rfl
theorem wl_1040 : Jvm.Cond.instanceMethod ({ cls := "JetTrees$Tree", name := "joinedInCommon", desc := "(LJetTrees$Tree;)I" } : Jvm.MethodName) ∈ zTbl := zIn 1040 (by decide +kernel) rfl
theorem wl_1041 : Jvm.Cond.selects "JetTrees$Tree" ({ cls := "JetTrees$Tree", name := "joinedInCommon", desc := "(LJetTrees$Tree;)I" } : Jvm.MethodName) ({ cls := "JetTrees$Tree", name := "joinedInCommon", desc := "(LJetTrees$Tree;)I" } : Jvm.MethodName) ∈ zTbl := zIn 1041 (by decide +kernel) rfl
theorem wl_1042 : Jvm.Cond.code ({ cls := "JetTrees$Tree", name := "joinedInCommon", desc := "(LJetTrees$Tree;)I" } : Jvm.MethodName) prog_12_method_17_code (5 : Nat) (Option.some Jvm.ClassFile.FieldType.int) ∈ zTbl := zIn 1042 (by decide +kernel) rfl
theorem wl_1043 : Jvm.Cond.methodLink "JetTreesLaw" (224 : Nat) ({ cls := "JetTrees", name := "span", desc := "(II)I" } : Jvm.MethodName) ∈ zTbl := zIn 1043 (by decide +kernel) rfl
theorem wl_1044 : Jvm.Cond.instanceMethod ({ cls := "JetTrees", name := "span", desc := "(II)I" } : Jvm.MethodName) ∈ zTbl := zIn 1044 (by decide +kernel) rfl
theorem wl_1045 : Jvm.Cond.selects "JetTrees" ({ cls := "JetTrees", name := "span", desc := "(II)I" } : Jvm.MethodName) ({ cls := "JetTrees", name := "span", desc := "(II)I" } : Jvm.MethodName) ∈ zTbl := zIn 1045 (by decide +kernel) rfl
theorem wl_1046 : Jvm.Cond.code ({ cls := "JetTrees", name := "span", desc := "(II)I" } : Jvm.MethodName) prog_1_method_51_code (3 : Nat) (Option.some Jvm.ClassFile.FieldType.int) ∈ zTbl := zIn 1046 (by decide +kernel) rfl
theorem wl_1047 : Jvm.Cond.methodLink "JetTrees" (357 : Nat) ({ cls := "JetTrees$Event", name := "spanned", desc := "(II)I" } : Jvm.MethodName) ∈ zTbl := zIn 1047 (by decide +kernel) rfl
theorem wl_1048 : Jvm.Cond.instanceMethod ({ cls := "JetTrees$Event", name := "spanned", desc := "(II)I" } : Jvm.MethodName) ∈ zTbl := zIn 1048 (by decide +kernel) rfl
theorem wl_1049 : Jvm.Cond.selects "JetTrees$Event" ({ cls := "JetTrees$Event", name := "spanned", desc := "(II)I" } : Jvm.MethodName) ({ cls := "JetTrees$Event", name := "spanned", desc := "(II)I" } : Jvm.MethodName) ∈ zTbl := zIn 1049 (by decide +kernel) rfl
theorem wl_1050 : Jvm.Cond.code ({ cls := "JetTrees$Event", name := "spanned", desc := "(II)I" } : Jvm.MethodName) prog_5_method_8_code (9 : Nat) (Option.some Jvm.ClassFile.FieldType.int) ∈ zTbl := zIn 1050 (by decide +kernel) rfl
theorem wl_1051 : Jvm.Cond.methodLink "JetTrees$Event" (51 : Nat) ({ cls := "JetTrees$Event", name := "asTheyComeAhead", desc := "()[LJetTrees$Body;" } : Jvm.MethodName) ∈ zTbl := zIn 1051 (by decide +kernel) rfl
theorem wl_1053 : Jvm.Cond.instanceMethod ({ cls := "JetTrees$Event", name := "asTheyComeAhead", desc := "()[LJetTrees$Body;" } : Jvm.MethodName) ∈ zTbl := zIn 1053 (by decide +kernel) rfl
theorem wl_1054 : Jvm.Cond.code ({ cls := "JetTrees$Event", name := "asTheyComeAhead", desc := "()[LJetTrees$Body;" } : Jvm.MethodName) prog_5_method_7_code (6 : Nat) (Option.some (Jvm.ClassFile.FieldType.array (Jvm.ClassFile.FieldType.object "JetTrees$Body"))) ∈ zTbl := zIn 1054 (by decide +kernel) rfl
theorem wl_1055 : Jvm.Cond.methodLink "JetTrees$Event" (47 : Nat) ({ cls := "JetTrees$Event", name := "copiedTo", desc := "(I)[LJetTrees$Body;" } : Jvm.MethodName) ∈ zTbl := zIn 1055 (by decide +kernel) rfl
theorem wl_1056 : Jvm.Cond.methodLink "JetTrees$Event" (55 : Nat) ({ cls := "JetTrees$Event", name := "leastWithoutWay", desc := "([LJetTrees$Body;[I)I" } : Jvm.MethodName) ∈ zTbl := zIn 1056 (by decide +kernel) rfl
theorem wl_1057 : Jvm.Cond.static ({ cls := "JetTrees$Event", name := "leastWithoutWay", desc := "([LJetTrees$Body;[I)I" } : Jvm.MethodName) ∈ zTbl := zIn 1057 (by decide +kernel) rfl
theorem wl_1058 : Jvm.Cond.code ({ cls := "JetTrees$Event", name := "leastWithoutWay", desc := "([LJetTrees$Body;[I)I" } : Jvm.MethodName) prog_5_method_9_code (7 : Nat) (Option.some Jvm.ClassFile.FieldType.int) ∈ zTbl := zIn 1058 (by decide +kernel) rfl
theorem wl_1059 : Jvm.Cond.methodLink "JetTrees$Event" (59 : Nat) ({ cls := "JetTrees$Event", name := "putTogether", desc := "([III)V" } : Jvm.MethodName) ∈ zTbl := zIn 1059 (by decide +kernel) rfl
theorem wl_1060 : Jvm.Cond.static ({ cls := "JetTrees$Event", name := "putTogether", desc := "([III)V" } : Jvm.MethodName) ∈ zTbl := zIn 1060 (by decide +kernel) rfl
theorem wl_1061 : Jvm.Cond.code ({ cls := "JetTrees$Event", name := "putTogether", desc := "([III)V" } : Jvm.MethodName) prog_5_method_10_code (4 : Nat) (Option.none : Option Jvm.ClassFile.FieldType) ∈ zTbl := zIn 1061 (by decide +kernel) rfl
theorem wl_1062 : Jvm.Cond.methodLink "JetTreesLaw" (228 : Nat) ({ cls := "JetTrees", name := "gap", desc := "(I)I" } : Jvm.MethodName) ∈ zTbl := zIn 1062 (by decide +kernel) rfl
theorem wl_1063 : Jvm.Cond.instanceMethod ({ cls := "JetTrees", name := "gap", desc := "(I)I" } : Jvm.MethodName) ∈ zTbl := zIn 1063 (by decide +kernel) rfl
theorem wl_1064 : Jvm.Cond.selects "JetTrees" ({ cls := "JetTrees", name := "gap", desc := "(I)I" } : Jvm.MethodName) ({ cls := "JetTrees", name := "gap", desc := "(I)I" } : Jvm.MethodName) ∈ zTbl := zIn 1064 (by decide +kernel) rfl
theorem wl_1065 : Jvm.Cond.code ({ cls := "JetTrees", name := "gap", desc := "(I)I" } : Jvm.MethodName) prog_1_method_52_code (2 : Nat) (Option.some Jvm.ClassFile.FieldType.int) ∈ zTbl := zIn 1065 (by decide +kernel) rfl
theorem wl_1066 : Jvm.Cond.methodLink "JetTrees" (360 : Nat) ({ cls := "JetTrees$Event", name := "greatestGap", desc := "(Z)I" } : Jvm.MethodName) ∈ zTbl := zIn 1066 (by decide +kernel) rfl
theorem wl_1067 : Jvm.Cond.instanceMethod ({ cls := "JetTrees$Event", name := "greatestGap", desc := "(Z)I" } : Jvm.MethodName) ∈ zTbl := zIn 1067 (by decide +kernel) rfl
theorem wl_1068 : Jvm.Cond.selects "JetTrees$Event" ({ cls := "JetTrees$Event", name := "greatestGap", desc := "(Z)I" } : Jvm.MethodName) ({ cls := "JetTrees$Event", name := "greatestGap", desc := "(Z)I" } : Jvm.MethodName) ∈ zTbl := zIn 1068 (by decide +kernel) rfl
theorem wl_1069 : Jvm.Cond.code ({ cls := "JetTrees$Event", name := "greatestGap", desc := "(Z)I" } : Jvm.MethodName) prog_5_method_11_code (7 : Nat) (Option.some Jvm.ClassFile.FieldType.int) ∈ zTbl := zIn 1069 (by decide +kernel) rfl
theorem wl_1070 : Jvm.Cond.methodLink "JetTrees$Event" (66 : Nat) ({ cls := "JetTrees$Event", name := "wayToNext", desc := "(I)I" } : Jvm.MethodName) ∈ zTbl := zIn 1070 (by decide +kernel) rfl
theorem wl_1072 : Jvm.Cond.instanceMethod ({ cls := "JetTrees$Event", name := "wayToNext", desc := "(I)I" } : Jvm.MethodName) ∈ zTbl := zIn 1072 (by decide +kernel) rfl
theorem wl_1073 : Jvm.Cond.code ({ cls := "JetTrees$Event", name := "wayToNext", desc := "(I)I" } : Jvm.MethodName) prog_5_method_12_code (5 : Nat) (Option.some Jvm.ClassFile.FieldType.int) ∈ zTbl := zIn 1073 (by decide +kernel) rfl
theorem wl_1074 : Jvm.Cond.methodLink "JetTrees$Event" (70 : Nat) ({ cls := "java/lang/Math", name := "floorMod", desc := "(II)I" } : Jvm.MethodName) ∈ zTbl := zIn 1074 (by decide +kernel) rfl
theorem wl_1075 : Jvm.Cond.methodLink "JetTreesLaw" (232 : Nat) ({ cls := "JetTrees", name := "tiles", desc := "(II)I" } : Jvm.MethodName) ∈ zTbl := zIn 1075 (by decide +kernel) rfl
theorem wl_1076 : Jvm.Cond.instanceMethod ({ cls := "JetTrees", name := "tiles", desc := "(II)I" } : Jvm.MethodName) ∈ zTbl := zIn 1076 (by decide +kernel) rfl
theorem wl_1077 : Jvm.Cond.selects "JetTrees" ({ cls := "JetTrees", name := "tiles", desc := "(II)I" } : Jvm.MethodName) ({ cls := "JetTrees", name := "tiles", desc := "(II)I" } : Jvm.MethodName) ∈ zTbl := zIn 1077 (by decide +kernel) rfl
theorem wl_1078 : Jvm.Cond.code ({ cls := "JetTrees", name := "tiles", desc := "(II)I" } : Jvm.MethodName) prog_1_method_53_code (4 : Nat) (Option.some Jvm.ClassFile.FieldType.int) ∈ zTbl := zIn 1078 (by decide +kernel) rfl
theorem wl_1079 : Jvm.Cond.methodLink "JetTrees" (364 : Nat) ({ cls := "JetTrees", name := "isTile", desc := "(I)Z" } : Jvm.MethodName) ∈ zTbl := zIn 1079 (by decide +kernel) rfl
theorem wl_1080 : Jvm.Cond.static ({ cls := "JetTrees", name := "isTile", desc := "(I)Z" } : Jvm.MethodName) ∈ zTbl := zIn 1080 (by decide +kernel) rfl
theorem wl_1081 : Jvm.Cond.code ({ cls := "JetTrees", name := "isTile", desc := "(I)Z" } : Jvm.MethodName) prog_1_method_82_code (1 : Nat) (Option.some Jvm.ClassFile.FieldType.boolean) ∈ zTbl := zIn 1081 (by decide +kernel) rfl
theorem wl_1082 : Jvm.Cond.methodLink "JetTrees" (367 : Nat) ({ cls := "JetTrees$Event", name := "tiledBy", desc := "(I)LJetTrees$Tiling;" } : Jvm.MethodName) ∈ zTbl := zIn 1082 (by decide +kernel) rfl
theorem wl_1083 : Jvm.Cond.instanceMethod ({ cls := "JetTrees$Event", name := "tiledBy", desc := "(I)LJetTrees$Tiling;" } : Jvm.MethodName) ∈ zTbl := zIn 1083 (by decide +kernel) rfl
theorem wl_1084 : Jvm.Cond.selects "JetTrees$Event" ({ cls := "JetTrees$Event", name := "tiledBy", desc := "(I)LJetTrees$Tiling;" } : Jvm.MethodName) ({ cls := "JetTrees$Event", name := "tiledBy", desc := "(I)LJetTrees$Tiling;" } : Jvm.MethodName) ∈ zTbl := zIn 1084 (by decide +kernel) rfl
theorem wl_1085 : Jvm.Cond.code ({ cls := "JetTrees$Event", name := "tiledBy", desc := "(I)LJetTrees$Tiling;" } : Jvm.MethodName) prog_5_method_13_code (4 : Nat) (Option.some (Jvm.ClassFile.FieldType.object "JetTrees$Tiling")) ∈ zTbl := zIn 1085 (by decide +kernel) rfl
theorem wl_1086 : Jvm.Cond.classLink "JetTrees$Event" (73 : Nat) "JetTrees$Tiling" ∈ zTbl := zIn 1086 (by decide +kernel) rfl
theorem wl_1087 : Jvm.Cond.instantiable "JetTrees$Tiling" (6 : Nat) ∈ zTbl := zIn 1087 (by decide +kernel) rfl
theorem wl_1088 : Jvm.Cond.methodLink "JetTrees$Event" (75 : Nat) ({ cls := "JetTrees$Tiling", name := "<init>", desc := "(I)V" } : Jvm.MethodName) ∈ zTbl := zIn 1088 (by decide +kernel) rfl
theorem wl_1089 : Jvm.Cond.instanceMethod ({ cls := "JetTrees$Tiling", name := "<init>", desc := "(I)V" } : Jvm.MethodName) ∈ zTbl := zIn 1089 (by decide +kernel) rfl
theorem wl_1090 : Jvm.Cond.code ({ cls := "JetTrees$Tiling", name := "<init>", desc := "(I)V" } : Jvm.MethodName) prog_11_method_1_code (2 : Nat) (Option.none : Option Jvm.ClassFile.FieldType) ∈ zTbl := zIn 1090 (by decide +kernel) rfl
theorem wl_1091 : Jvm.Cond.methodLink "JetTrees$Tiling" (3 : Nat) ({ cls := "java/lang/Object", name := "<init>", desc := "()V" } : Jvm.MethodName) ∈ zTbl := zIn 1091 (by decide +kernel) rfl
theorem wl_1092 : Jvm.Cond.fieldLink "JetTrees$Tiling" (9 : Nat) "JetTrees$Tiling" "size" "I" ∈ zTbl := zIn 1092 (by decide +kernel) rfl
theorem wl_1093 : Jvm.Cond.fieldLink "JetTrees$Tiling" (15 : Nat) "JetTrees$Tiling" "acrosses" "[I" ∈ zTbl := zIn 1093 (by decide +kernel) rfl
theorem wl_1094 : Jvm.Cond.fieldLink "JetTrees$Tiling" (19 : Nat) "JetTrees$Tiling" "rounds" "[I" ∈ zTbl := zIn 1094 (by decide +kernel) rfl
theorem wl_1095 : Jvm.Cond.fieldLink "JetTrees$Tiling" (22 : Nat) "JetTrees$Tiling" "weights" "[I" ∈ zTbl := zIn 1095 (by decide +kernel) rfl
theorem wl_1096 : Jvm.Cond.fieldLink "JetTrees$Tiling" (25 : Nat) "JetTrees$Tiling" "tracks" "[I" ∈ zTbl := zIn 1096 (by decide +kernel) rfl
theorem wl_1097 : Jvm.Cond.fieldLink "JetTrees$Tiling" (28 : Nat) "JetTrees$Tiling" "used" "I" ∈ zTbl := zIn 1097 (by decide +kernel) rfl
theorem wl_1098 : Jvm.Cond.fieldLink "JetTrees$Tree" (135 : Nat) "JetTrees$Tiling" "used" "I" ∈ zTbl := zIn 1098 (by decide +kernel) rfl
theorem wl_1099 : Jvm.Cond.fieldLink "JetTrees" (371 : Nat) "JetTrees$Tiling" "used" "I" ∈ zTbl := zIn 1099 (by decide +kernel) rfl
theorem wl_1113 : Jvm.Cond.methodLink "JetTrees$Event" (78 : Nat) ({ cls := "JetTrees$Tiling", name := "add", desc := "(LJetTrees$Body;)V" } : Jvm.MethodName) ∈ zTbl := zIn 1113 (by decide +kernel) rfl
theorem wl_1114 : Jvm.Cond.instanceMethod ({ cls := "JetTrees$Tiling", name := "add", desc := "(LJetTrees$Body;)V" } : Jvm.MethodName) ∈ zTbl := zIn 1114 (by decide +kernel) rfl
theorem wl_1115 : Jvm.Cond.selects "JetTrees$Tiling" ({ cls := "JetTrees$Tiling", name := "add", desc := "(LJetTrees$Body;)V" } : Jvm.MethodName) ({ cls := "JetTrees$Tiling", name := "add", desc := "(LJetTrees$Body;)V" } : Jvm.MethodName) ∈ zTbl := zIn 1115 (by decide +kernel) rfl
theorem wl_1116 : Jvm.Cond.code ({ cls := "JetTrees$Tiling", name := "add", desc := "(LJetTrees$Body;)V" } : Jvm.MethodName) prog_11_method_2_code (5 : Nat) (Option.none : Option Jvm.ClassFile.FieldType) ∈ zTbl := zIn 1116 (by decide +kernel) rfl
theorem wl_1117 : Jvm.Cond.methodLinkNest "JetTrees$Tiling" (36 : Nat) ({ cls := "JetTrees", name := "downward", desc := "(II)I" } : Jvm.MethodName) "JetTrees" ∈ zTbl := zIn 1117 (by decide +kernel) rfl
theorem wl_1118 : Jvm.Cond.methodLink "JetTrees" (376 : Nat) ({ cls := "JetTrees$Tiling", name := "mostTracks", desc := "()I" } : Jvm.MethodName) ∈ zTbl := zIn 1118 (by decide +kernel) rfl
theorem wl_1119 : Jvm.Cond.instanceMethod ({ cls := "JetTrees$Tiling", name := "mostTracks", desc := "()I" } : Jvm.MethodName) ∈ zTbl := zIn 1119 (by decide +kernel) rfl
theorem wl_1120 : Jvm.Cond.selects "JetTrees$Tiling" ({ cls := "JetTrees$Tiling", name := "mostTracks", desc := "()I" } : Jvm.MethodName) ({ cls := "JetTrees$Tiling", name := "mostTracks", desc := "()I" } : Jvm.MethodName) ∈ zTbl := zIn 1120 (by decide +kernel) rfl
theorem wl_1121 : Jvm.Cond.code ({ cls := "JetTrees$Tiling", name := "mostTracks", desc := "()I" } : Jvm.MethodName) prog_11_method_3_code (3 : Nat) (Option.some Jvm.ClassFile.FieldType.int) ∈ zTbl := zIn 1121 (by decide +kernel) rfl
theorem wl_1122 : Jvm.Cond.methodLink "JetTrees$Tiling" (46 : Nat) ({ cls := "java/lang/Math", name := "max", desc := "(II)I" } : Jvm.MethodName) ∈ zTbl := zIn 1122 (by decide +kernel) rfl
theorem wl_1123 : Jvm.Cond.methodLink "JetTreesLaw" (236 : Nat) ({ cls := "JetTrees", name := "cone", desc := "(IIII)I" } : Jvm.MethodName) ∈ zTbl := zIn 1123 (by decide +kernel) rfl
theorem wl_1124 : Jvm.Cond.instanceMethod ({ cls := "JetTrees", name := "cone", desc := "(IIII)I" } : Jvm.MethodName) ∈ zTbl := zIn 1124 (by decide +kernel) rfl
theorem wl_1125 : Jvm.Cond.selects "JetTrees" ({ cls := "JetTrees", name := "cone", desc := "(IIII)I" } : Jvm.MethodName) ({ cls := "JetTrees", name := "cone", desc := "(IIII)I" } : Jvm.MethodName) ∈ zTbl := zIn 1125 (by decide +kernel) rfl
theorem wl_1126 : Jvm.Cond.code ({ cls := "JetTrees", name := "cone", desc := "(IIII)I" } : Jvm.MethodName) prog_1_method_54_code (8 : Nat) (Option.some Jvm.ClassFile.FieldType.int) ∈ zTbl := zIn 1126 (by decide +kernel) rfl
theorem wl_1127 : Jvm.Cond.classLink "JetTrees" (379 : Nat) "JetTrees$Cones" ∈ zTbl := zIn 1127 (by decide +kernel) rfl
theorem wl_1128 : Jvm.Cond.instantiable "JetTrees$Cones" (7 : Nat) ∈ zTbl := zIn 1128 (by decide +kernel) rfl
theorem wl_1129 : Jvm.Cond.methodLink "JetTrees" (381 : Nat) ({ cls := "JetTrees$Cones", name := "<init>", desc := "([LJetTrees$Body;)V" } : Jvm.MethodName) ∈ zTbl := zIn 1129 (by decide +kernel) rfl
theorem wl_1130 : Jvm.Cond.instanceMethod ({ cls := "JetTrees$Cones", name := "<init>", desc := "([LJetTrees$Body;)V" } : Jvm.MethodName) ∈ zTbl := zIn 1130 (by decide +kernel) rfl
theorem wl_1131 : Jvm.Cond.code ({ cls := "JetTrees$Cones", name := "<init>", desc := "([LJetTrees$Body;)V" } : Jvm.MethodName) prog_4_method_1_code (2 : Nat) (Option.none : Option Jvm.ClassFile.FieldType) ∈ zTbl := zIn 1131 (by decide +kernel) rfl
theorem wl_1132 : Jvm.Cond.methodLink "JetTrees$Cones" (3 : Nat) ({ cls := "java/lang/Object", name := "<init>", desc := "()V" } : Jvm.MethodName) ∈ zTbl := zIn 1132 (by decide +kernel) rfl
theorem wl_1133 : Jvm.Cond.classLink "JetTrees$Cones" (15 : Nat) "JetTrees$Sum" ∈ zTbl := zIn 1133 (by decide +kernel) rfl
theorem wl_1134 : Jvm.Cond.methodLinkNest "JetTrees$Cones" (17 : Nat) ({ cls := "JetTrees$Sum", name := "<init>", desc := "()V" } : Jvm.MethodName) "JetTrees" ∈ zTbl := zIn 1134 (by decide +kernel) rfl
theorem wl_1135 : Jvm.Cond.fieldLink "JetTrees$Cones" (9 : Nat) "JetTrees$Cones" "tracks" "[LJetTrees$Body;" ∈ zTbl := zIn 1135 (by decide +kernel) rfl
theorem wl_1136 : Jvm.Cond.fieldLink "JetTrees$Cones" (18 : Nat) "JetTrees$Cones" "sum" "LJetTrees$Sum;" ∈ zTbl := zIn 1136 (by decide +kernel) rfl
theorem wl_1137 : Jvm.Cond.fieldLink "JetTrees$Cones" (22 : Nat) "JetTrees$Cones" "otherSum" "LJetTrees$Sum;" ∈ zTbl := zIn 1137 (by decide +kernel) rfl
theorem wl_1138 : Jvm.Cond.fieldLink "JetTrees$Cones" (25 : Nat) "JetTrees$Cones" "sets" "[J" ∈ zTbl := zIn 1138 (by decide +kernel) rfl
theorem wl_1139 : Jvm.Cond.fieldLink "JetTrees$Cones" (29 : Nat) "JetTrees$Cones" "setCount" "I" ∈ zTbl := zIn 1139 (by decide +kernel) rfl
theorem wl_1140 : Jvm.Cond.fieldLink "JetTrees$Cones" (33 : Nat) "JetTrees$Cones" "patches" "[J" ∈ zTbl := zIn 1140 (by decide +kernel) rfl
theorem wl_1141 : Jvm.Cond.fieldLink "JetTrees$Cones" (36 : Nat) "JetTrees$Cones" "patchCount" "I" ∈ zTbl := zIn 1141 (by decide +kernel) rfl
theorem wl_1157 : Jvm.Cond.methodLink "JetTrees" (384 : Nat) ({ cls := "JetTrees$Cones", name := "tracksAbout", desc := "(III)J" } : Jvm.MethodName) ∈ zTbl := zIn 1157 (by decide +kernel) rfl
theorem wl_1158 : Jvm.Cond.instanceMethod ({ cls := "JetTrees$Cones", name := "tracksAbout", desc := "(III)J" } : Jvm.MethodName) ∈ zTbl := zIn 1158 (by decide +kernel) rfl
theorem wl_1159 : Jvm.Cond.selects "JetTrees$Cones" ({ cls := "JetTrees$Cones", name := "tracksAbout", desc := "(III)J" } : Jvm.MethodName) ({ cls := "JetTrees$Cones", name := "tracksAbout", desc := "(III)J" } : Jvm.MethodName) ∈ zTbl := zIn 1159 (by decide +kernel) rfl
theorem wl_1160 : Jvm.Cond.code ({ cls := "JetTrees$Cones", name := "tracksAbout", desc := "(III)J" } : Jvm.MethodName) prog_4_method_2_code (7 : Nat) (Option.some Jvm.ClassFile.FieldType.long) ∈ zTbl := zIn 1160 (by decide +kernel) rfl
theorem wl_1161 : Jvm.Cond.methodLink "JetTrees$Cones" (39 : Nat) ({ cls := "JetTrees$Body", name := "squareTo", desc := "(II)I" } : Jvm.MethodName) ∈ zTbl := zIn 1161 (by decide +kernel) rfl
theorem wl_1162 : Jvm.Cond.methodLinkNest "JetTrees$Cones" (45 : Nat) ({ cls := "JetTrees", name := "bitOf", desc := "(I)J" } : Jvm.MethodName) "JetTrees" ∈ zTbl := zIn 1162 (by decide +kernel) rfl
theorem wl_1163 : Jvm.Cond.methodLink "JetTrees" (388 : Nat) ({ cls := "java/lang/Long", name := "bitCount", desc := "(J)I" } : Jvm.MethodName) ∈ zTbl := zIn 1163 (by decide +kernel) rfl
theorem wl_1164 : Jvm.Cond.methodLink "JetTrees" (393 : Nat) ({ cls := "JetTrees$Cones", name := "weightOf", desc := "(J)I" } : Jvm.MethodName) ∈ zTbl := zIn 1164 (by decide +kernel) rfl
theorem wl_1165 : Jvm.Cond.instanceMethod ({ cls := "JetTrees$Cones", name := "weightOf", desc := "(J)I" } : Jvm.MethodName) ∈ zTbl := zIn 1165 (by decide +kernel) rfl
theorem wl_1166 : Jvm.Cond.selects "JetTrees$Cones" ({ cls := "JetTrees$Cones", name := "weightOf", desc := "(J)I" } : Jvm.MethodName) ({ cls := "JetTrees$Cones", name := "weightOf", desc := "(J)I" } : Jvm.MethodName) ∈ zTbl := zIn 1166 (by decide +kernel) rfl
theorem wl_1167 : Jvm.Cond.code ({ cls := "JetTrees$Cones", name := "weightOf", desc := "(J)I" } : Jvm.MethodName) prog_4_method_3_code (5 : Nat) (Option.some Jvm.ClassFile.FieldType.int) ∈ zTbl := zIn 1167 (by decide +kernel) rfl
theorem wl_1168 : Jvm.Cond.methodLinkNest "JetTrees$Cones" (49 : Nat) ({ cls := "JetTrees", name := "isIn", desc := "(JI)Z" } : Jvm.MethodName) "JetTrees" ∈ zTbl := zIn 1168 (by decide +kernel) rfl
theorem wl_1169 : Jvm.Cond.methodLink "JetTrees" (394 : Nat) ({ cls := "JetTrees$Cones", name := "isSteady", desc := "(IIJ)Z" } : Jvm.MethodName) ∈ zTbl := zIn 1169 (by decide +kernel) rfl
theorem wl_1170 : Jvm.Cond.instanceMethod ({ cls := "JetTrees$Cones", name := "isSteady", desc := "(IIJ)Z" } : Jvm.MethodName) ∈ zTbl := zIn 1170 (by decide +kernel) rfl
theorem wl_1171 : Jvm.Cond.selects "JetTrees$Cones" ({ cls := "JetTrees$Cones", name := "isSteady", desc := "(IIJ)Z" } : Jvm.MethodName) ({ cls := "JetTrees$Cones", name := "isSteady", desc := "(IIJ)Z" } : Jvm.MethodName) ∈ zTbl := zIn 1171 (by decide +kernel) rfl
theorem wl_1172 : Jvm.Cond.code ({ cls := "JetTrees$Cones", name := "isSteady", desc := "(IIJ)Z" } : Jvm.MethodName) prog_4_method_4_code (5 : Nat) (Option.some Jvm.ClassFile.FieldType.boolean) ∈ zTbl := zIn 1172 (by decide +kernel) rfl
theorem wl_1173 : Jvm.Cond.methodLink "JetTrees$Cones" (56 : Nat) ({ cls := "JetTrees$Sum", name := "addAll", desc := "([LJetTrees$Body;J)V" } : Jvm.MethodName) ∈ zTbl := zIn 1173 (by decide +kernel) rfl
theorem wl_1174 : Jvm.Cond.instanceMethod ({ cls := "JetTrees$Sum", name := "addAll", desc := "([LJetTrees$Body;J)V" } : Jvm.MethodName) ∈ zTbl := zIn 1174 (by decide +kernel) rfl
theorem wl_1175 : Jvm.Cond.selects "JetTrees$Sum" ({ cls := "JetTrees$Sum", name := "addAll", desc := "([LJetTrees$Body;J)V" } : Jvm.MethodName) ({ cls := "JetTrees$Sum", name := "addAll", desc := "([LJetTrees$Body;J)V" } : Jvm.MethodName) ∈ zTbl := zIn 1175 (by decide +kernel) rfl
theorem wl_1176 : Jvm.Cond.code ({ cls := "JetTrees$Sum", name := "addAll", desc := "([LJetTrees$Body;J)V" } : Jvm.MethodName) prog_10_method_4_code (6 : Nat) (Option.none : Option Jvm.ClassFile.FieldType) ∈ zTbl := zIn 1176 (by decide +kernel) rfl
theorem wl_1177 : Jvm.Cond.methodLinkNest "JetTrees$Sum" (38 : Nat) ({ cls := "JetTrees", name := "isIn", desc := "(JI)Z" } : Jvm.MethodName) "JetTrees" ∈ zTbl := zIn 1177 (by decide +kernel) rfl
theorem wl_1178 : Jvm.Cond.methodLink "JetTrees$Sum" (42 : Nat) ({ cls := "JetTrees$Sum", name := "add", desc := "(LJetTrees$Body;)V" } : Jvm.MethodName) ∈ zTbl := zIn 1178 (by decide +kernel) rfl
theorem wl_1179 : Jvm.Cond.methodLink "JetTrees$Sum" (46 : Nat) ({ cls := "JetTrees$Sum", name := "begin", desc := "(LJetTrees$Body;)V" } : Jvm.MethodName) ∈ zTbl := zIn 1179 (by decide +kernel) rfl
theorem wl_1180 : Jvm.Cond.methodLink "JetTreesLaw" (240 : Nat) ({ cls := "JetTrees", name := "still", desc := "(II)J" } : Jvm.MethodName) ∈ zTbl := zIn 1180 (by decide +kernel) rfl
theorem wl_1181 : Jvm.Cond.instanceMethod ({ cls := "JetTrees", name := "still", desc := "(II)J" } : Jvm.MethodName) ∈ zTbl := zIn 1181 (by decide +kernel) rfl
theorem wl_1182 : Jvm.Cond.selects "JetTrees" ({ cls := "JetTrees", name := "still", desc := "(II)J" } : Jvm.MethodName) ({ cls := "JetTrees", name := "still", desc := "(II)J" } : Jvm.MethodName) ∈ zTbl := zIn 1182 (by decide +kernel) rfl
theorem wl_1183 : Jvm.Cond.code ({ cls := "JetTrees", name := "still", desc := "(II)J" } : Jvm.MethodName) prog_1_method_55_code (4 : Nat) (Option.some Jvm.ClassFile.FieldType.long) ∈ zTbl := zIn 1183 (by decide +kernel) rfl
theorem wl_1184 : Jvm.Cond.methodLink "JetTrees" (398 : Nat) ({ cls := "JetTrees$Cones", name := "findStill", desc := "(I)V" } : Jvm.MethodName) ∈ zTbl := zIn 1184 (by decide +kernel) rfl
theorem wl_1185 : Jvm.Cond.instanceMethod ({ cls := "JetTrees$Cones", name := "findStill", desc := "(I)V" } : Jvm.MethodName) ∈ zTbl := zIn 1185 (by decide +kernel) rfl
theorem wl_1186 : Jvm.Cond.selects "JetTrees$Cones" ({ cls := "JetTrees$Cones", name := "findStill", desc := "(I)V" } : Jvm.MethodName) ({ cls := "JetTrees$Cones", name := "findStill", desc := "(I)V" } : Jvm.MethodName) ∈ zTbl := zIn 1186 (by decide +kernel) rfl
theorem wl_1187 : Jvm.Cond.code ({ cls := "JetTrees$Cones", name := "findStill", desc := "(I)V" } : Jvm.MethodName) prog_4_method_5_code (5 : Nat) (Option.none : Option Jvm.ClassFile.FieldType) ∈ zTbl := zIn 1187 (by decide +kernel) rfl
theorem wl_1188 : Jvm.Cond.methodLink "JetTrees$Cones" (66 : Nat) ({ cls := "JetTrees$Cones", name := "stillFrom", desc := "(LJetTrees$Body;I)J" } : Jvm.MethodName) ∈ zTbl := zIn 1188 (by decide +kernel) rfl
theorem wl_1190 : Jvm.Cond.instanceMethod ({ cls := "JetTrees$Cones", name := "stillFrom", desc := "(LJetTrees$Body;I)J" } : Jvm.MethodName) ∈ zTbl := zIn 1190 (by decide +kernel) rfl
theorem wl_1191 : Jvm.Cond.code ({ cls := "JetTrees$Cones", name := "stillFrom", desc := "(LJetTrees$Body;I)J" } : Jvm.MethodName) prog_4_method_7_code (8 : Nat) (Option.some Jvm.ClassFile.FieldType.long) ∈ zTbl := zIn 1191 (by decide +kernel) rfl
theorem wl_1192 : Jvm.Cond.methodLink "JetTrees$Cones" (76 : Nat) ({ cls := "JetTrees$Cones", name := "tracksAbout", desc := "(III)J" } : Jvm.MethodName) ∈ zTbl := zIn 1192 (by decide +kernel) rfl
theorem wl_1193 : Jvm.Cond.methodLink "JetTrees$Cones" (80 : Nat) ({ cls := "JetTrees$Cones", name := "isSteady", desc := "(IIJ)Z" } : Jvm.MethodName) ∈ zTbl := zIn 1193 (by decide +kernel) rfl
theorem wl_1194 : Jvm.Cond.methodLink "JetTrees$Cones" (70 : Nat) ({ cls := "JetTrees$Cones", name := "isFound", desc := "(J)Z" } : Jvm.MethodName) ∈ zTbl := zIn 1194 (by decide +kernel) rfl
theorem wl_1196 : Jvm.Cond.instanceMethod ({ cls := "JetTrees$Cones", name := "isFound", desc := "(J)Z" } : Jvm.MethodName) ∈ zTbl := zIn 1196 (by decide +kernel) rfl
theorem wl_1197 : Jvm.Cond.code ({ cls := "JetTrees$Cones", name := "isFound", desc := "(J)Z" } : Jvm.MethodName) prog_4_method_6_code (4 : Nat) (Option.some Jvm.ClassFile.FieldType.boolean) ∈ zTbl := zIn 1197 (by decide +kernel) rfl
theorem wl_1198 : Jvm.Cond.methodLink "JetTrees" (402 : Nat) ({ cls := "JetTrees$Cones", name := "stillAt", desc := "(I)J" } : Jvm.MethodName) ∈ zTbl := zIn 1198 (by decide +kernel) rfl
theorem wl_1199 : Jvm.Cond.instanceMethod ({ cls := "JetTrees$Cones", name := "stillAt", desc := "(I)J" } : Jvm.MethodName) ∈ zTbl := zIn 1199 (by decide +kernel) rfl
theorem wl_1200 : Jvm.Cond.selects "JetTrees$Cones" ({ cls := "JetTrees$Cones", name := "stillAt", desc := "(I)J" } : Jvm.MethodName) ({ cls := "JetTrees$Cones", name := "stillAt", desc := "(I)J" } : Jvm.MethodName) ∈ zTbl := zIn 1200 (by decide +kernel) rfl
theorem wl_1201 : Jvm.Cond.code ({ cls := "JetTrees$Cones", name := "stillAt", desc := "(I)J" } : Jvm.MethodName) prog_4_method_8_code (2 : Nat) (Option.some Jvm.ClassFile.FieldType.long) ∈ zTbl := zIn 1201 (by decide +kernel) rfl
theorem wl_1202 : Jvm.Cond.constantLong "JetTrees$Cones" (84 : Nat) (-1 : Int64) ∈ zTbl := zIn 1202 (by decide +kernel) rfl
theorem wl_1203 : Jvm.Cond.methodLink "JetTreesLaw" (244 : Nat) ({ cls := "JetTrees", name := "patch", desc := "(III)J" } : Jvm.MethodName) ∈ zTbl := zIn 1203 (by decide +kernel) rfl
theorem wl_1204 : Jvm.Cond.instanceMethod ({ cls := "JetTrees", name := "patch", desc := "(III)J" } : Jvm.MethodName) ∈ zTbl := zIn 1204 (by decide +kernel) rfl
theorem wl_1205 : Jvm.Cond.selects "JetTrees" ({ cls := "JetTrees", name := "patch", desc := "(III)J" } : Jvm.MethodName) ({ cls := "JetTrees", name := "patch", desc := "(III)J" } : Jvm.MethodName) ∈ zTbl := zIn 1205 (by decide +kernel) rfl
theorem wl_1206 : Jvm.Cond.code ({ cls := "JetTrees", name := "patch", desc := "(III)J" } : Jvm.MethodName) prog_1_method_56_code (5 : Nat) (Option.some Jvm.ClassFile.FieldType.long) ∈ zTbl := zIn 1206 (by decide +kernel) rfl
theorem wl_1207 : Jvm.Cond.methodLink "JetTrees" (406 : Nat) ({ cls := "JetTrees$Cones", name := "shareOut", desc := "(I)V" } : Jvm.MethodName) ∈ zTbl := zIn 1207 (by decide +kernel) rfl
theorem wl_1208 : Jvm.Cond.instanceMethod ({ cls := "JetTrees$Cones", name := "shareOut", desc := "(I)V" } : Jvm.MethodName) ∈ zTbl := zIn 1208 (by decide +kernel) rfl
theorem wl_1209 : Jvm.Cond.selects "JetTrees$Cones" ({ cls := "JetTrees$Cones", name := "shareOut", desc := "(I)V" } : Jvm.MethodName) ({ cls := "JetTrees$Cones", name := "shareOut", desc := "(I)V" } : Jvm.MethodName) ∈ zTbl := zIn 1209 (by decide +kernel) rfl
theorem wl_1210 : Jvm.Cond.code ({ cls := "JetTrees$Cones", name := "shareOut", desc := "(I)V" } : Jvm.MethodName) prog_4_method_10_code (5 : Nat) (Option.none : Option Jvm.ClassFile.FieldType) ∈ zTbl := zIn 1210 (by decide +kernel) rfl
theorem wl_1211 : Jvm.Cond.constant "JetTrees$Cones" (86 : Nat) (1000000 : Int32) ∈ zTbl := zIn 1211 (by decide +kernel) rfl
theorem wl_1212 : Jvm.Cond.methodLink "JetTrees$Cones" (87 : Nat) ({ cls := "JetTrees$Cones", name := "heaviest", desc := "(I)I" } : Jvm.MethodName) ∈ zTbl := zIn 1212 (by decide +kernel) rfl
theorem wl_1214 : Jvm.Cond.instanceMethod ({ cls := "JetTrees$Cones", name := "heaviest", desc := "(I)I" } : Jvm.MethodName) ∈ zTbl := zIn 1214 (by decide +kernel) rfl
theorem wl_1215 : Jvm.Cond.code ({ cls := "JetTrees$Cones", name := "heaviest", desc := "(I)I" } : Jvm.MethodName) prog_4_method_11_code (7 : Nat) (Option.some Jvm.ClassFile.FieldType.int) ∈ zTbl := zIn 1215 (by decide +kernel) rfl
theorem wl_1216 : Jvm.Cond.methodLink "JetTrees$Cones" (99 : Nat) ({ cls := "JetTrees$Cones", name := "weightOf", desc := "(J)I" } : Jvm.MethodName) ∈ zTbl := zIn 1216 (by decide +kernel) rfl
theorem wl_1217 : Jvm.Cond.methodLink "JetTrees$Cones" (91 : Nat) ({ cls := "JetTrees$Cones", name := "makePatch", desc := "(I)V" } : Jvm.MethodName) ∈ zTbl := zIn 1217 (by decide +kernel) rfl
theorem wl_1219 : Jvm.Cond.instanceMethod ({ cls := "JetTrees$Cones", name := "makePatch", desc := "(I)V" } : Jvm.MethodName) ∈ zTbl := zIn 1219 (by decide +kernel) rfl
theorem wl_1220 : Jvm.Cond.code ({ cls := "JetTrees$Cones", name := "makePatch", desc := "(I)V" } : Jvm.MethodName) prog_4_method_12_code (2 : Nat) (Option.none : Option Jvm.ClassFile.FieldType) ∈ zTbl := zIn 1220 (by decide +kernel) rfl
theorem wl_1221 : Jvm.Cond.methodLink "JetTrees$Cones" (103 : Nat) ({ cls := "JetTrees$Cones", name := "removeSet", desc := "(I)V" } : Jvm.MethodName) ∈ zTbl := zIn 1221 (by decide +kernel) rfl
theorem wl_1223 : Jvm.Cond.instanceMethod ({ cls := "JetTrees$Cones", name := "removeSet", desc := "(I)V" } : Jvm.MethodName) ∈ zTbl := zIn 1223 (by decide +kernel) rfl
theorem wl_1224 : Jvm.Cond.code ({ cls := "JetTrees$Cones", name := "removeSet", desc := "(I)V" } : Jvm.MethodName) prog_4_method_13_code (3 : Nat) (Option.none : Option Jvm.ClassFile.FieldType) ∈ zTbl := zIn 1224 (by decide +kernel) rfl
theorem wl_1225 : Jvm.Cond.methodLink "JetTrees$Cones" (95 : Nat) ({ cls := "JetTrees$Cones", name := "settle", desc := "(III)V" } : Jvm.MethodName) ∈ zTbl := zIn 1225 (by decide +kernel) rfl
theorem wl_1227 : Jvm.Cond.instanceMethod ({ cls := "JetTrees$Cones", name := "settle", desc := "(III)V" } : Jvm.MethodName) ∈ zTbl := zIn 1227 (by decide +kernel) rfl
theorem wl_1228 : Jvm.Cond.code ({ cls := "JetTrees$Cones", name := "settle", desc := "(III)V" } : Jvm.MethodName) prog_4_method_14_code (10 : Nat) (Option.none : Option Jvm.ClassFile.FieldType) ∈ zTbl := zIn 1228 (by decide +kernel) rfl
theorem wl_1229 : Jvm.Cond.methodLink "JetTrees$Cones" (106 : Nat) ({ cls := "java/lang/Math", name := "min", desc := "(II)I" } : Jvm.MethodName) ∈ zTbl := zIn 1229 (by decide +kernel) rfl
theorem wl_1230 : Jvm.Cond.constantLong "JetTrees$Cones" (111 : Nat) (1000 : Int64) ∈ zTbl := zIn 1230 (by decide +kernel) rfl
theorem wl_1231 : Jvm.Cond.methodLink "JetTrees$Cones" (113 : Nat) ({ cls := "JetTrees$Cones", name := "divide", desc := "(IIJ)V" } : Jvm.MethodName) ∈ zTbl := zIn 1231 (by decide +kernel) rfl
theorem wl_1233 : Jvm.Cond.instanceMethod ({ cls := "JetTrees$Cones", name := "divide", desc := "(IIJ)V" } : Jvm.MethodName) ∈ zTbl := zIn 1233 (by decide +kernel) rfl
theorem wl_1234 : Jvm.Cond.code ({ cls := "JetTrees$Cones", name := "divide", desc := "(IIJ)V" } : Jvm.MethodName) prog_4_method_15_code (8 : Nat) (Option.none : Option Jvm.ClassFile.FieldType) ∈ zTbl := zIn 1234 (by decide +kernel) rfl
theorem wl_1235 : Jvm.Cond.methodLink "JetTrees$Cones" (117 : Nat) ({ cls := "java/lang/Math", name := "max", desc := "(II)I" } : Jvm.MethodName) ∈ zTbl := zIn 1235 (by decide +kernel) rfl
theorem wl_1236 : Jvm.Cond.methodLink "JetTrees" (409 : Nat) ({ cls := "JetTrees$Cones", name := "patchAt", desc := "(I)J" } : Jvm.MethodName) ∈ zTbl := zIn 1236 (by decide +kernel) rfl
theorem wl_1237 : Jvm.Cond.instanceMethod ({ cls := "JetTrees$Cones", name := "patchAt", desc := "(I)J" } : Jvm.MethodName) ∈ zTbl := zIn 1237 (by decide +kernel) rfl
theorem wl_1238 : Jvm.Cond.selects "JetTrees$Cones" ({ cls := "JetTrees$Cones", name := "patchAt", desc := "(I)J" } : Jvm.MethodName) ({ cls := "JetTrees$Cones", name := "patchAt", desc := "(I)J" } : Jvm.MethodName) ∈ zTbl := zIn 1238 (by decide +kernel) rfl
theorem wl_1239 : Jvm.Cond.code ({ cls := "JetTrees$Cones", name := "patchAt", desc := "(I)J" } : Jvm.MethodName) prog_4_method_9_code (2 : Nat) (Option.some Jvm.ClassFile.FieldType.long) ∈ zTbl := zIn 1239 (by decide +kernel) rfl
theorem wl_1240 : Jvm.Cond.methodLink "JetTreesLaw" (248 : Nat) ({ cls := "JetTrees", name := "pedestal", desc := "(I)I" } : Jvm.MethodName) ∈ zTbl := zIn 1240 (by decide +kernel) rfl
theorem wl_1241 : Jvm.Cond.instanceMethod ({ cls := "JetTrees", name := "pedestal", desc := "(I)I" } : Jvm.MethodName) ∈ zTbl := zIn 1241 (by decide +kernel) rfl
theorem wl_1242 : Jvm.Cond.selects "JetTrees" ({ cls := "JetTrees", name := "pedestal", desc := "(I)I" } : Jvm.MethodName) ({ cls := "JetTrees", name := "pedestal", desc := "(I)I" } : Jvm.MethodName) ∈ zTbl := zIn 1242 (by decide +kernel) rfl
theorem wl_1243 : Jvm.Cond.code ({ cls := "JetTrees", name := "pedestal", desc := "(I)I" } : Jvm.MethodName) prog_1_method_57_code (2 : Nat) (Option.some Jvm.ClassFile.FieldType.int) ∈ zTbl := zIn 1243 (by decide +kernel) rfl
theorem wl_1244 : Jvm.Cond.methodLink "JetTrees" (412 : Nat) ({ cls := "JetTrees$Tiling", name := "middleWeight", desc := "()I" } : Jvm.MethodName) ∈ zTbl := zIn 1244 (by decide +kernel) rfl
theorem wl_1245 : Jvm.Cond.instanceMethod ({ cls := "JetTrees$Tiling", name := "middleWeight", desc := "()I" } : Jvm.MethodName) ∈ zTbl := zIn 1245 (by decide +kernel) rfl
theorem wl_1246 : Jvm.Cond.selects "JetTrees$Tiling" ({ cls := "JetTrees$Tiling", name := "middleWeight", desc := "()I" } : Jvm.MethodName) ({ cls := "JetTrees$Tiling", name := "middleWeight", desc := "()I" } : Jvm.MethodName) ∈ zTbl := zIn 1246 (by decide +kernel) rfl
theorem wl_1247 : Jvm.Cond.code ({ cls := "JetTrees$Tiling", name := "middleWeight", desc := "()I" } : Jvm.MethodName) prog_11_method_4_code (6 : Nat) (Option.some Jvm.ClassFile.FieldType.int) ∈ zTbl := zIn 1247 (by decide +kernel) rfl
theorem wl_1248 : Jvm.Cond.methodLink "JetTrees$Tiling" (51 : Nat) ({ cls := "JetTrees$Tiling", name := "lessThan", desc := "(I)I" } : Jvm.MethodName) ∈ zTbl := zIn 1248 (by decide +kernel) rfl
theorem wl_1250 : Jvm.Cond.instanceMethod ({ cls := "JetTrees$Tiling", name := "lessThan", desc := "(I)I" } : Jvm.MethodName) ∈ zTbl := zIn 1250 (by decide +kernel) rfl
theorem wl_1251 : Jvm.Cond.code ({ cls := "JetTrees$Tiling", name := "lessThan", desc := "(I)I" } : Jvm.MethodName) prog_11_method_5_code (5 : Nat) (Option.some Jvm.ClassFile.FieldType.int) ∈ zTbl := zIn 1251 (by decide +kernel) rfl
theorem wl_1252 : Jvm.Cond.methodLink "JetTreesLaw" (252 : Nat) ({ cls := "JetTrees", name := "clean", desc := "(III)I" } : Jvm.MethodName) ∈ zTbl := zIn 1252 (by decide +kernel) rfl
theorem wl_1253 : Jvm.Cond.instanceMethod ({ cls := "JetTrees", name := "clean", desc := "(III)I" } : Jvm.MethodName) ∈ zTbl := zIn 1253 (by decide +kernel) rfl
theorem wl_1254 : Jvm.Cond.selects "JetTrees" ({ cls := "JetTrees", name := "clean", desc := "(III)I" } : Jvm.MethodName) ({ cls := "JetTrees", name := "clean", desc := "(III)I" } : Jvm.MethodName) ∈ zTbl := zIn 1254 (by decide +kernel) rfl
theorem wl_1255 : Jvm.Cond.code ({ cls := "JetTrees", name := "clean", desc := "(III)I" } : Jvm.MethodName) prog_1_method_58_code (7 : Nat) (Option.some Jvm.ClassFile.FieldType.int) ∈ zTbl := zIn 1255 (by decide +kernel) rfl
theorem wl_1256 : Jvm.Cond.methodLink "JetTrees" (415 : Nat) ({ cls := "JetTrees$Tree", name := "tilesOf", desc := "(LJetTrees$Knot;I)I" } : Jvm.MethodName) ∈ zTbl := zIn 1256 (by decide +kernel) rfl
theorem wl_1257 : Jvm.Cond.instanceMethod ({ cls := "JetTrees$Tree", name := "tilesOf", desc := "(LJetTrees$Knot;I)I" } : Jvm.MethodName) ∈ zTbl := zIn 1257 (by decide +kernel) rfl
theorem wl_1258 : Jvm.Cond.selects "JetTrees$Tree" ({ cls := "JetTrees$Tree", name := "tilesOf", desc := "(LJetTrees$Knot;I)I" } : Jvm.MethodName) ({ cls := "JetTrees$Tree", name := "tilesOf", desc := "(LJetTrees$Knot;I)I" } : Jvm.MethodName) ∈ zTbl := zIn 1258 (by decide +kernel) rfl
theorem wl_1259 : Jvm.Cond.code ({ cls := "JetTrees$Tree", name := "tilesOf", desc := "(LJetTrees$Knot;I)I" } : Jvm.MethodName) prog_12_method_20_code (5 : Nat) (Option.some Jvm.ClassFile.FieldType.int) ∈ zTbl := zIn 1259 (by decide +kernel) rfl
theorem wl_1260 : Jvm.Cond.classLink "JetTrees$Tree" (126 : Nat) "JetTrees$Tiling" ∈ zTbl := zIn 1260 (by decide +kernel) rfl
theorem wl_1261 : Jvm.Cond.methodLink "JetTrees$Tree" (128 : Nat) ({ cls := "JetTrees$Tiling", name := "<init>", desc := "(I)V" } : Jvm.MethodName) ∈ zTbl := zIn 1261 (by decide +kernel) rfl
theorem wl_1262 : Jvm.Cond.methodLink "JetTrees$Tree" (131 : Nat) ({ cls := "JetTrees$Tiling", name := "add", desc := "(LJetTrees$Body;)V" } : Jvm.MethodName) ∈ zTbl := zIn 1262 (by decide +kernel) rfl
theorem wl_1263 : Jvm.Cond.methodLink "JetTreesLaw" (256 : Nat) ({ cls := "JetTrees", name := "balance", desc := "(I)I" } : Jvm.MethodName) ∈ zTbl := zIn 1263 (by decide +kernel) rfl
theorem wl_1264 : Jvm.Cond.instanceMethod ({ cls := "JetTrees", name := "balance", desc := "(I)I" } : Jvm.MethodName) ∈ zTbl := zIn 1264 (by decide +kernel) rfl
theorem wl_1265 : Jvm.Cond.selects "JetTrees" ({ cls := "JetTrees", name := "balance", desc := "(I)I" } : Jvm.MethodName) ({ cls := "JetTrees", name := "balance", desc := "(I)I" } : Jvm.MethodName) ∈ zTbl := zIn 1265 (by decide +kernel) rfl
theorem wl_1266 : Jvm.Cond.code ({ cls := "JetTrees", name := "balance", desc := "(I)I" } : Jvm.MethodName) prog_1_method_59_code (2 : Nat) (Option.some Jvm.ClassFile.FieldType.int) ∈ zTbl := zIn 1266 (by decide +kernel) rfl
theorem wl_1267 : Jvm.Cond.methodLink "JetTrees" (422 : Nat) ({ cls := "JetTrees$Event", name := "balanceAbout", desc := "(I)I" } : Jvm.MethodName) ∈ zTbl := zIn 1267 (by decide +kernel) rfl
theorem wl_1268 : Jvm.Cond.instanceMethod ({ cls := "JetTrees$Event", name := "balanceAbout", desc := "(I)I" } : Jvm.MethodName) ∈ zTbl := zIn 1268 (by decide +kernel) rfl
theorem wl_1269 : Jvm.Cond.selects "JetTrees$Event" ({ cls := "JetTrees$Event", name := "balanceAbout", desc := "(I)I" } : Jvm.MethodName) ({ cls := "JetTrees$Event", name := "balanceAbout", desc := "(I)I" } : Jvm.MethodName) ∈ zTbl := zIn 1269 (by decide +kernel) rfl
theorem wl_1270 : Jvm.Cond.code ({ cls := "JetTrees$Event", name := "balanceAbout", desc := "(I)I" } : Jvm.MethodName) prog_5_method_14_code (5 : Nat) (Option.some Jvm.ClassFile.FieldType.int) ∈ zTbl := zIn 1270 (by decide +kernel) rfl
theorem wl_1271 : Jvm.Cond.methodLink "JetTrees$Event" (82 : Nat) ({ cls := "JetTrees$Body", name := "lesserWay", desc := "(II)I" } : Jvm.MethodName) ∈ zTbl := zIn 1271 (by decide +kernel) rfl
theorem wl_1272 : Jvm.Cond.methodLink "JetTreesLaw" (260 : Nat) ({ cls := "JetTrees", name := "axis", desc := "()I" } : Jvm.MethodName) ∈ zTbl := zIn 1272 (by decide +kernel) rfl
theorem wl_1273 : Jvm.Cond.instanceMethod ({ cls := "JetTrees", name := "axis", desc := "()I" } : Jvm.MethodName) ∈ zTbl := zIn 1273 (by decide +kernel) rfl
theorem wl_1274 : Jvm.Cond.selects "JetTrees" ({ cls := "JetTrees", name := "axis", desc := "()I" } : Jvm.MethodName) ({ cls := "JetTrees", name := "axis", desc := "()I" } : Jvm.MethodName) ∈ zTbl := zIn 1274 (by decide +kernel) rfl
theorem wl_1275 : Jvm.Cond.code ({ cls := "JetTrees", name := "axis", desc := "()I" } : Jvm.MethodName) prog_1_method_60_code (5 : Nat) (Option.some Jvm.ClassFile.FieldType.int) ∈ zTbl := zIn 1275 (by decide +kernel) rfl
theorem wl_1276 : Jvm.Cond.methodLink "JetTreesLaw" (264 : Nat) ({ cls := "JetTrees", name := "image", desc := "()I" } : Jvm.MethodName) ∈ zTbl := zIn 1276 (by decide +kernel) rfl
theorem wl_1277 : Jvm.Cond.instanceMethod ({ cls := "JetTrees", name := "image", desc := "()I" } : Jvm.MethodName) ∈ zTbl := zIn 1277 (by decide +kernel) rfl
theorem wl_1278 : Jvm.Cond.selects "JetTrees" ({ cls := "JetTrees", name := "image", desc := "()I" } : Jvm.MethodName) ({ cls := "JetTrees", name := "image", desc := "()I" } : Jvm.MethodName) ∈ zTbl := zIn 1278 (by decide +kernel) rfl
theorem wl_1279 : Jvm.Cond.code ({ cls := "JetTrees", name := "image", desc := "()I" } : Jvm.MethodName) prog_1_method_61_code (1 : Nat) (Option.some Jvm.ClassFile.FieldType.int) ∈ zTbl := zIn 1279 (by decide +kernel) rfl
theorem wl_1280 : Jvm.Cond.methodLink "JetTreesLaw" (268 : Nat) ({ cls := "JetTrees", name := "back", desc := "()I" } : Jvm.MethodName) ∈ zTbl := zIn 1280 (by decide +kernel) rfl
theorem wl_1281 : Jvm.Cond.instanceMethod ({ cls := "JetTrees", name := "back", desc := "()I" } : Jvm.MethodName) ∈ zTbl := zIn 1281 (by decide +kernel) rfl
theorem wl_1282 : Jvm.Cond.selects "JetTrees" ({ cls := "JetTrees", name := "back", desc := "()I" } : Jvm.MethodName) ({ cls := "JetTrees", name := "back", desc := "()I" } : Jvm.MethodName) ∈ zTbl := zIn 1282 (by decide +kernel) rfl
theorem wl_1283 : Jvm.Cond.code ({ cls := "JetTrees", name := "back", desc := "()I" } : Jvm.MethodName) prog_1_method_62_code (1 : Nat) (Option.some Jvm.ClassFile.FieldType.int) ∈ zTbl := zIn 1283 (by decide +kernel) rfl
theorem wl_1284 : Jvm.Cond.methodLink "JetTreesLaw" (272 : Nat) ({ cls := "JetTrees", name := "steps", desc := "()I" } : Jvm.MethodName) ∈ zTbl := zIn 1284 (by decide +kernel) rfl
theorem wl_1285 : Jvm.Cond.instanceMethod ({ cls := "JetTrees", name := "steps", desc := "()I" } : Jvm.MethodName) ∈ zTbl := zIn 1285 (by decide +kernel) rfl
theorem wl_1286 : Jvm.Cond.selects "JetTrees" ({ cls := "JetTrees", name := "steps", desc := "()I" } : Jvm.MethodName) ({ cls := "JetTrees", name := "steps", desc := "()I" } : Jvm.MethodName) ∈ zTbl := zIn 1286 (by decide +kernel) rfl
theorem wl_1287 : Jvm.Cond.code ({ cls := "JetTrees", name := "steps", desc := "()I" } : Jvm.MethodName) prog_1_method_63_code (1 : Nat) (Option.some Jvm.ClassFile.FieldType.int) ∈ zTbl := zIn 1287 (by decide +kernel) rfl
theorem wl_1288 : Jvm.Cond.classLink "JetTreesLaw" (10 : Nat) "JetTreesModel" ∈ zTbl := zIn 1288 (by decide +kernel) rfl
theorem wl_1289 : Jvm.Cond.instantiable "JetTreesModel" (27 : Nat) ∈ zTbl := zIn 1289 (by decide +kernel) rfl
theorem wl_1290 : Jvm.Cond.methodLink "JetTreesLaw" (12 : Nat) ({ cls := "JetTreesModel", name := "<init>", desc := "()V" } : Jvm.MethodName) ∈ zTbl := zIn 1290 (by decide +kernel) rfl
theorem wl_1291 : Jvm.Cond.instanceMethod ({ cls := "JetTreesModel", name := "<init>", desc := "()V" } : Jvm.MethodName) ∈ zTbl := zIn 1291 (by decide +kernel) rfl
theorem wl_1292 : Jvm.Cond.code ({ cls := "JetTreesModel", name := "<init>", desc := "()V" } : Jvm.MethodName) prog_14_method_1_code (1 : Nat) (Option.none : Option Jvm.ClassFile.FieldType) ∈ zTbl := zIn 1292 (by decide +kernel) rfl
theorem wl_1293 : Jvm.Cond.methodLink "JetTreesModel" (1 : Nat) ({ cls := "java/lang/Object", name := "<init>", desc := "()V" } : Jvm.MethodName) ∈ zTbl := zIn 1293 (by decide +kernel) rfl
theorem wl_1294 : Jvm.Cond.constant "JetTreesModel" (7 : Nat) (58319 : Int32) ∈ zTbl := zIn 1294 (by decide +kernel) rfl
theorem wl_1295 : Jvm.Cond.methodLink "JetTreesModel" (61 : Nat) ({ cls := "JetTreesModel", name := "copy", desc := "([I[I)V" } : Jvm.MethodName) ∈ zTbl := zIn 1295 (by decide +kernel) rfl
theorem wl_1296 : Jvm.Cond.static ({ cls := "JetTreesModel", name := "copy", desc := "([I[I)V" } : Jvm.MethodName) ∈ zTbl := zIn 1296 (by decide +kernel) rfl
theorem wl_1297 : Jvm.Cond.code ({ cls := "JetTreesModel", name := "copy", desc := "([I[I)V" } : Jvm.MethodName) prog_14_method_2_code (3 : Nat) (Option.none : Option Jvm.ClassFile.FieldType) ∈ zTbl := zIn 1297 (by decide +kernel) rfl
theorem wl_1298 : Jvm.Cond.fieldLink "JetTreesModel" (8 : Nat) "JetTreesModel" "a" "[I" ∈ zTbl := zIn 1298 (by decide +kernel) rfl
theorem wl_1299 : Jvm.Cond.fieldLink "JetTreesModel" (14 : Nat) "JetTreesModel" "image" "[I" ∈ zTbl := zIn 1299 (by decide +kernel) rfl
theorem wl_1300 : Jvm.Cond.fieldLink "JetTreesModel" (17 : Nat) "JetTreesModel" "across0" "[I" ∈ zTbl := zIn 1300 (by decide +kernel) rfl
theorem wl_1301 : Jvm.Cond.fieldLink "JetTreesModel" (20 : Nat) "JetTreesModel" "round0" "[I" ∈ zTbl := zIn 1301 (by decide +kernel) rfl
theorem wl_1302 : Jvm.Cond.fieldLink "JetTreesModel" (23 : Nat) "JetTreesModel" "weight0" "[I" ∈ zTbl := zIn 1302 (by decide +kernel) rfl
theorem wl_1303 : Jvm.Cond.fieldLink "JetTreesModel" (26 : Nat) "JetTreesModel" "one0" "[I" ∈ zTbl := zIn 1303 (by decide +kernel) rfl
theorem wl_1304 : Jvm.Cond.fieldLink "JetTreesModel" (29 : Nat) "JetTreesModel" "other0" "[I" ∈ zTbl := zIn 1304 (by decide +kernel) rfl
theorem wl_1305 : Jvm.Cond.fieldLink "JetTreesModel" (32 : Nat) "JetTreesModel" "isThere" "[Z" ∈ zTbl := zIn 1305 (by decide +kernel) rfl
theorem wl_1306 : Jvm.Cond.fieldLink "JetTreesModel" (36 : Nat) "JetTreesModel" "first0" "[I" ∈ zTbl := zIn 1306 (by decide +kernel) rfl
theorem wl_1307 : Jvm.Cond.fieldLink "JetTreesModel" (39 : Nat) "JetTreesModel" "second0" "[I" ∈ zTbl := zIn 1307 (by decide +kernel) rfl
theorem wl_1308 : Jvm.Cond.fieldLink "JetTreesModel" (95 : Nat) "JetTreesModel" "knots0" "I" ∈ zTbl := zIn 1308 (by decide +kernel) rfl
theorem wl_1309 : Jvm.Cond.fieldLink "JetTreesModel" (140 : Nat) "JetTreesModel" "steps0" "I" ∈ zTbl := zIn 1309 (by decide +kernel) rfl
theorem wl_1310 : Jvm.Cond.fieldLink "JetTreesModel" (99 : Nat) "JetTreesModel" "radius0" "I" ∈ zTbl := zIn 1310 (by decide +kernel) rfl
theorem wl_1311 : Jvm.Cond.fieldLink "JetTreesModel" (106 : Nat) "JetTreesModel" "power0" "I" ∈ zTbl := zIn 1311 (by decide +kernel) rfl
theorem wl_1312 : Jvm.Cond.fieldLink "JetTreesModel" (124 : Nat) "JetTreesModel" "sums0" "I" ∈ zTbl := zIn 1312 (by decide +kernel) rfl
theorem wl_1313 : Jvm.Cond.fieldLink "JetTreesModel" (42 : Nat) "JetTreesModel" "had" "[I" ∈ zTbl := zIn 1313 (by decide +kernel) rfl
theorem wl_1314 : Jvm.Cond.fieldLink "JetTreesModel" (45 : Nat) "JetTreesModel" "row" "[I" ∈ zTbl := zIn 1314 (by decide +kernel) rfl
theorem wl_1315 : Jvm.Cond.fieldLink "JetTreesModel" (269 : Nat) "JetTreesModel" "rows" "I" ∈ zTbl := zIn 1315 (by decide +kernel) rfl
theorem wl_1316 : Jvm.Cond.fieldLink "JetTreesModel" (48 : Nat) "JetTreesModel" "down0" "[I" ∈ zTbl := zIn 1316 (by decide +kernel) rfl
theorem wl_1317 : Jvm.Cond.fieldLink "JetTreesModel" (51 : Nat) "JetTreesModel" "piece" "[I" ∈ zTbl := zIn 1317 (by decide +kernel) rfl
theorem wl_1318 : Jvm.Cond.fieldLink "JetTreesModel" (367 : Nat) "JetTreesModel" "one1" "I" ∈ zTbl := zIn 1318 (by decide +kernel) rfl
theorem wl_1319 : Jvm.Cond.fieldLink "JetTreesModel" (370 : Nat) "JetTreesModel" "two1" "I" ∈ zTbl := zIn 1319 (by decide +kernel) rfl
theorem wl_1320 : Jvm.Cond.fieldLink "JetTreesModel" (54 : Nat) "JetTreesModel" "heavy" "[I" ∈ zTbl := zIn 1320 (by decide +kernel) rfl
theorem wl_1321 : Jvm.Cond.fieldLink "JetTreesModel" (398 : Nat) "JetTreesModel" "meanA" "I" ∈ zTbl := zIn 1321 (by decide +kernel) rfl
theorem wl_1322 : Jvm.Cond.fieldLink "JetTreesModel" (401 : Nat) "JetTreesModel" "meanR" "I" ∈ zTbl := zIn 1322 (by decide +kernel) rfl
theorem wl_1323 : Jvm.Cond.fieldLink "JetTreesModel" (57 : Nat) "JetTreesModel" "sets" "[J" ∈ zTbl := zIn 1323 (by decide +kernel) rfl
theorem wl_1324 : Jvm.Cond.fieldLink "JetTreesModel" (418 : Nat) "JetTreesModel" "setMany" "I" ∈ zTbl := zIn 1324 (by decide +kernel) rfl
theorem wl_1380 : Jvm.Cond.methodLink "JetTreesLaw" (77 : Nat) ({ cls := "JetTreesModel", name := "undo", desc := "()I" } : Jvm.MethodName) ∈ zTbl := zIn 1380 (by decide +kernel) rfl
theorem wl_1381 : Jvm.Cond.instanceMethod ({ cls := "JetTreesModel", name := "undo", desc := "()I" } : Jvm.MethodName) ∈ zTbl := zIn 1381 (by decide +kernel) rfl
theorem wl_1382 : Jvm.Cond.selects "JetTreesModel" ({ cls := "JetTreesModel", name := "undo", desc := "()I" } : Jvm.MethodName) ({ cls := "JetTreesModel", name := "undo", desc := "()I" } : Jvm.MethodName) ∈ zTbl := zIn 1382 (by decide +kernel) rfl
theorem wl_1383 : Jvm.Cond.code ({ cls := "JetTreesModel", name := "undo", desc := "()I" } : Jvm.MethodName) prog_14_method_38_code (3 : Nat) (Option.some Jvm.ClassFile.FieldType.int) ∈ zTbl := zIn 1383 (by decide +kernel) rfl
theorem wl_1384 : Jvm.Cond.methodLink "JetTreesModel" (161 : Nat) ({ cls := "JetTreesModel", name := "stepAt", desc := "(II)I" } : Jvm.MethodName) ∈ zTbl := zIn 1384 (by decide +kernel) rfl
theorem wl_1385 : Jvm.Cond.static ({ cls := "JetTreesModel", name := "stepAt", desc := "(II)I" } : Jvm.MethodName) ∈ zTbl := zIn 1385 (by decide +kernel) rfl
theorem wl_1386 : Jvm.Cond.code ({ cls := "JetTreesModel", name := "stepAt", desc := "(II)I" } : Jvm.MethodName) prog_14_method_36_code (2 : Nat) (Option.some Jvm.ClassFile.FieldType.int) ∈ zTbl := zIn 1386 (by decide +kernel) rfl
theorem wl_1387 : Jvm.Cond.methodLink "JetTreesLaw" (17 : Nat) ({ cls := "JetTreesModel", name := "track", desc := "(III)I" } : Jvm.MethodName) ∈ zTbl := zIn 1387 (by decide +kernel) rfl
theorem wl_1388 : Jvm.Cond.instanceMethod ({ cls := "JetTreesModel", name := "track", desc := "(III)I" } : Jvm.MethodName) ∈ zTbl := zIn 1388 (by decide +kernel) rfl
theorem wl_1389 : Jvm.Cond.selects "JetTreesModel" ({ cls := "JetTreesModel", name := "track", desc := "(III)I" } : Jvm.MethodName) ({ cls := "JetTreesModel", name := "track", desc := "(III)I" } : Jvm.MethodName) ∈ zTbl := zIn 1389 (by decide +kernel) rfl
theorem wl_1390 : Jvm.Cond.code ({ cls := "JetTreesModel", name := "track", desc := "(III)I" } : Jvm.MethodName) prog_14_method_41_code (4 : Nat) (Option.some Jvm.ClassFile.FieldType.int) ∈ zTbl := zIn 1390 (by decide +kernel) rfl
theorem wl_1391 : Jvm.Cond.methodLink "JetTreesModel" (164 : Nat) ({ cls := "JetTreesModel", name := "isPlace", desc := "(II)Z" } : Jvm.MethodName) ∈ zTbl := zIn 1391 (by decide +kernel) rfl
theorem wl_1392 : Jvm.Cond.static ({ cls := "JetTreesModel", name := "isPlace", desc := "(II)Z" } : Jvm.MethodName) ∈ zTbl := zIn 1392 (by decide +kernel) rfl
theorem wl_1393 : Jvm.Cond.code ({ cls := "JetTreesModel", name := "isPlace", desc := "(II)Z" } : Jvm.MethodName) prog_14_method_9_code (2 : Nat) (Option.some Jvm.ClassFile.FieldType.boolean) ∈ zTbl := zIn 1393 (by decide +kernel) rfl
theorem wl_1394 : Jvm.Cond.methodLink "JetTreesModel" (69 : Nat) ({ cls := "JetTreesModel", name := "isIn", desc := "(III)Z" } : Jvm.MethodName) ∈ zTbl := zIn 1394 (by decide +kernel) rfl
theorem wl_1395 : Jvm.Cond.static ({ cls := "JetTreesModel", name := "isIn", desc := "(III)Z" } : Jvm.MethodName) ∈ zTbl := zIn 1395 (by decide +kernel) rfl
theorem wl_1396 : Jvm.Cond.code ({ cls := "JetTreesModel", name := "isIn", desc := "(III)Z" } : Jvm.MethodName) prog_14_method_3_code (3 : Nat) (Option.some Jvm.ClassFile.FieldType.boolean) ∈ zTbl := zIn 1396 (by decide +kernel) rfl
theorem wl_1397 : Jvm.Cond.methodLink "JetTreesModel" (77 : Nat) ({ cls := "JetTreesModel", name := "tracks", desc := "()I" } : Jvm.MethodName) ∈ zTbl := zIn 1397 (by decide +kernel) rfl
theorem wl_1399 : Jvm.Cond.instanceMethod ({ cls := "JetTreesModel", name := "tracks", desc := "()I" } : Jvm.MethodName) ∈ zTbl := zIn 1399 (by decide +kernel) rfl
theorem wl_1400 : Jvm.Cond.code ({ cls := "JetTreesModel", name := "tracks", desc := "()I" } : Jvm.MethodName) prog_14_method_11_code (1 : Nat) (Option.some Jvm.ClassFile.FieldType.int) ∈ zTbl := zIn 1400 (by decide +kernel) rfl
theorem wl_1401 : Jvm.Cond.methodLink "JetTreesModel" (73 : Nat) ({ cls := "JetTreesModel", name := "eventAt", desc := "(I)I" } : Jvm.MethodName) ∈ zTbl := zIn 1401 (by decide +kernel) rfl
theorem wl_1402 : Jvm.Cond.static ({ cls := "JetTreesModel", name := "eventAt", desc := "(I)I" } : Jvm.MethodName) ∈ zTbl := zIn 1402 (by decide +kernel) rfl
theorem wl_1403 : Jvm.Cond.code ({ cls := "JetTreesModel", name := "eventAt", desc := "(I)I" } : Jvm.MethodName) prog_14_method_10_code (1 : Nat) (Option.some Jvm.ClassFile.FieldType.int) ∈ zTbl := zIn 1403 (by decide +kernel) rfl
theorem wl_1404 : Jvm.Cond.methodLink "JetTreesModel" (167 : Nat) ({ cls := "JetTreesModel", name := "keepNow", desc := "()V" } : Jvm.MethodName) ∈ zTbl := zIn 1404 (by decide +kernel) rfl
theorem wl_1406 : Jvm.Cond.instanceMethod ({ cls := "JetTreesModel", name := "keepNow", desc := "()V" } : Jvm.MethodName) ∈ zTbl := zIn 1406 (by decide +kernel) rfl
theorem wl_1407 : Jvm.Cond.code ({ cls := "JetTreesModel", name := "keepNow", desc := "()V" } : Jvm.MethodName) prog_14_method_37_code (3 : Nat) (Option.none : Option Jvm.ClassFile.FieldType) ∈ zTbl := zIn 1407 (by decide +kernel) rfl
theorem wl_1408 : Jvm.Cond.methodLink "JetTreesModel" (170 : Nat) ({ cls := "JetTreesModel", name := "layTrack", desc := "(IIII)V" } : Jvm.MethodName) ∈ zTbl := zIn 1408 (by decide +kernel) rfl
theorem wl_1410 : Jvm.Cond.instanceMethod ({ cls := "JetTreesModel", name := "layTrack", desc := "(IIII)V" } : Jvm.MethodName) ∈ zTbl := zIn 1410 (by decide +kernel) rfl
theorem wl_1411 : Jvm.Cond.code ({ cls := "JetTreesModel", name := "layTrack", desc := "(IIII)V" } : Jvm.MethodName) prog_14_method_39_code (6 : Nat) (Option.none : Option Jvm.ClassFile.FieldType) ∈ zTbl := zIn 1411 (by decide +kernel) rfl
theorem wl_1412 : Jvm.Cond.methodLink "JetTreesModel" (174 : Nat) ({ cls := "JetTreesModel", name := "counted", desc := "(I)I" } : Jvm.MethodName) ∈ zTbl := zIn 1412 (by decide +kernel) rfl
theorem wl_1414 : Jvm.Cond.instanceMethod ({ cls := "JetTreesModel", name := "counted", desc := "(I)I" } : Jvm.MethodName) ∈ zTbl := zIn 1414 (by decide +kernel) rfl
theorem wl_1415 : Jvm.Cond.code ({ cls := "JetTreesModel", name := "counted", desc := "(I)I" } : Jvm.MethodName) prog_14_method_40_code (2 : Nat) (Option.some Jvm.ClassFile.FieldType.int) ∈ zTbl := zIn 1415 (by decide +kernel) rfl
theorem wl_1416 : Jvm.Cond.methodLink "JetTreesLaw" (22 : Nat) ({ cls := "JetTreesModel", name := "move", desc := "(III)Z" } : Jvm.MethodName) ∈ zTbl := zIn 1416 (by decide +kernel) rfl
theorem wl_1417 : Jvm.Cond.instanceMethod ({ cls := "JetTreesModel", name := "move", desc := "(III)Z" } : Jvm.MethodName) ∈ zTbl := zIn 1417 (by decide +kernel) rfl
theorem wl_1418 : Jvm.Cond.selects "JetTreesModel" ({ cls := "JetTreesModel", name := "move", desc := "(III)Z" } : Jvm.MethodName) ({ cls := "JetTreesModel", name := "move", desc := "(III)Z" } : Jvm.MethodName) ∈ zTbl := zIn 1418 (by decide +kernel) rfl
theorem wl_1419 : Jvm.Cond.code ({ cls := "JetTreesModel", name := "move", desc := "(III)Z" } : Jvm.MethodName) prog_14_method_42_code (4 : Nat) (Option.some Jvm.ClassFile.FieldType.boolean) ∈ zTbl := zIn 1419 (by decide +kernel) rfl
theorem wl_1420 : Jvm.Cond.methodLink "JetTreesModel" (177 : Nat) ({ cls := "JetTreesModel", name := "isTrack", desc := "(I)Z" } : Jvm.MethodName) ∈ zTbl := zIn 1420 (by decide +kernel) rfl
theorem wl_1422 : Jvm.Cond.instanceMethod ({ cls := "JetTreesModel", name := "isTrack", desc := "(I)Z" } : Jvm.MethodName) ∈ zTbl := zIn 1422 (by decide +kernel) rfl
theorem wl_1423 : Jvm.Cond.code ({ cls := "JetTreesModel", name := "isTrack", desc := "(I)Z" } : Jvm.MethodName) prog_14_method_12_code (2 : Nat) (Option.some Jvm.ClassFile.FieldType.boolean) ∈ zTbl := zIn 1423 (by decide +kernel) rfl
theorem wl_1424 : Jvm.Cond.methodLink "JetTreesModel" (151 : Nat) ({ cls := "JetTreesModel", name := "ofTrack", desc := "(II)I" } : Jvm.MethodName) ∈ zTbl := zIn 1424 (by decide +kernel) rfl
theorem wl_1426 : Jvm.Cond.instanceMethod ({ cls := "JetTreesModel", name := "ofTrack", desc := "(II)I" } : Jvm.MethodName) ∈ zTbl := zIn 1426 (by decide +kernel) rfl
theorem wl_1427 : Jvm.Cond.code ({ cls := "JetTreesModel", name := "ofTrack", desc := "(II)I" } : Jvm.MethodName) prog_14_method_13_code (3 : Nat) (Option.some Jvm.ClassFile.FieldType.int) ∈ zTbl := zIn 1427 (by decide +kernel) rfl
theorem wl_1428 : Jvm.Cond.methodLink "JetTreesLaw" (27 : Nat) ({ cls := "JetTreesModel", name := "weigh", desc := "(II)Z" } : Jvm.MethodName) ∈ zTbl := zIn 1428 (by decide +kernel) rfl
theorem wl_1429 : Jvm.Cond.instanceMethod ({ cls := "JetTreesModel", name := "weigh", desc := "(II)Z" } : Jvm.MethodName) ∈ zTbl := zIn 1429 (by decide +kernel) rfl
theorem wl_1430 : Jvm.Cond.selects "JetTreesModel" ({ cls := "JetTreesModel", name := "weigh", desc := "(II)Z" } : Jvm.MethodName) ({ cls := "JetTreesModel", name := "weigh", desc := "(II)Z" } : Jvm.MethodName) ∈ zTbl := zIn 1430 (by decide +kernel) rfl
theorem wl_1431 : Jvm.Cond.code ({ cls := "JetTreesModel", name := "weigh", desc := "(II)Z" } : Jvm.MethodName) prog_14_method_43_code (3 : Nat) (Option.some Jvm.ClassFile.FieldType.boolean) ∈ zTbl := zIn 1431 (by decide +kernel) rfl
theorem wl_1432 : Jvm.Cond.methodLink "JetTreesLaw" (32 : Nat) ({ cls := "JetTreesModel", name := "drop", desc := "(I)I" } : Jvm.MethodName) ∈ zTbl := zIn 1432 (by decide +kernel) rfl
theorem wl_1433 : Jvm.Cond.instanceMethod ({ cls := "JetTreesModel", name := "drop", desc := "(I)I" } : Jvm.MethodName) ∈ zTbl := zIn 1433 (by decide +kernel) rfl
theorem wl_1434 : Jvm.Cond.selects "JetTreesModel" ({ cls := "JetTreesModel", name := "drop", desc := "(I)I" } : Jvm.MethodName) ({ cls := "JetTreesModel", name := "drop", desc := "(I)I" } : Jvm.MethodName) ∈ zTbl := zIn 1434 (by decide +kernel) rfl
theorem wl_1435 : Jvm.Cond.code ({ cls := "JetTreesModel", name := "drop", desc := "(I)I" } : Jvm.MethodName) prog_14_method_44_code (3 : Nat) (Option.some Jvm.ClassFile.FieldType.int) ∈ zTbl := zIn 1435 (by decide +kernel) rfl
theorem wl_1436 : Jvm.Cond.methodLink "JetTreesLaw" (37 : Nat) ({ cls := "JetTreesModel", name := "drawn", desc := "(IIII)I" } : Jvm.MethodName) ∈ zTbl := zIn 1436 (by decide +kernel) rfl
theorem wl_1437 : Jvm.Cond.instanceMethod ({ cls := "JetTreesModel", name := "drawn", desc := "(IIII)I" } : Jvm.MethodName) ∈ zTbl := zIn 1437 (by decide +kernel) rfl
theorem wl_1438 : Jvm.Cond.selects "JetTreesModel" ({ cls := "JetTreesModel", name := "drawn", desc := "(IIII)I" } : Jvm.MethodName) ({ cls := "JetTreesModel", name := "drawn", desc := "(IIII)I" } : Jvm.MethodName) ∈ zTbl := zIn 1438 (by decide +kernel) rfl
theorem wl_1439 : Jvm.Cond.code ({ cls := "JetTreesModel", name := "drawn", desc := "(IIII)I" } : Jvm.MethodName) prog_14_method_47_code (8 : Nat) (Option.some Jvm.ClassFile.FieldType.int) ∈ zTbl := zIn 1439 (by decide +kernel) rfl
theorem wl_1440 : Jvm.Cond.methodLink "JetTreesModel" (180 : Nat) ({ cls := "JetTreesModel", name := "draw", desc := "(I)I" } : Jvm.MethodName) ∈ zTbl := zIn 1440 (by decide +kernel) rfl
theorem wl_1442 : Jvm.Cond.instanceMethod ({ cls := "JetTreesModel", name := "draw", desc := "(I)I" } : Jvm.MethodName) ∈ zTbl := zIn 1442 (by decide +kernel) rfl
theorem wl_1443 : Jvm.Cond.code ({ cls := "JetTreesModel", name := "draw", desc := "(I)I" } : Jvm.MethodName) prog_14_method_45_code (2 : Nat) (Option.some Jvm.ClassFile.FieldType.int) ∈ zTbl := zIn 1443 (by decide +kernel) rfl
theorem wl_1444 : Jvm.Cond.methodLink "JetTreesModel" (183 : Nat) ({ cls := "JetTreesModel", name := "held", desc := "(III)I" } : Jvm.MethodName) ∈ zTbl := zIn 1444 (by decide +kernel) rfl
theorem wl_1445 : Jvm.Cond.static ({ cls := "JetTreesModel", name := "held", desc := "(III)I" } : Jvm.MethodName) ∈ zTbl := zIn 1445 (by decide +kernel) rfl
theorem wl_1446 : Jvm.Cond.code ({ cls := "JetTreesModel", name := "held", desc := "(III)I" } : Jvm.MethodName) prog_14_method_46_code (3 : Nat) (Option.some Jvm.ClassFile.FieldType.int) ∈ zTbl := zIn 1446 (by decide +kernel) rfl
theorem wl_1447 : Jvm.Cond.methodLink "JetTreesLaw" (42 : Nat) ({ cls := "JetTreesModel", name := "tell", desc := "(I)Z" } : Jvm.MethodName) ∈ zTbl := zIn 1447 (by decide +kernel) rfl
theorem wl_1448 : Jvm.Cond.instanceMethod ({ cls := "JetTreesModel", name := "tell", desc := "(I)Z" } : Jvm.MethodName) ∈ zTbl := zIn 1448 (by decide +kernel) rfl
theorem wl_1449 : Jvm.Cond.selects "JetTreesModel" ({ cls := "JetTreesModel", name := "tell", desc := "(I)Z" } : Jvm.MethodName) ({ cls := "JetTreesModel", name := "tell", desc := "(I)Z" } : Jvm.MethodName) ∈ zTbl := zIn 1449 (by decide +kernel) rfl
theorem wl_1450 : Jvm.Cond.code ({ cls := "JetTreesModel", name := "tell", desc := "(I)Z" } : Jvm.MethodName) prog_14_method_48_code (2 : Nat) (Option.some Jvm.ClassFile.FieldType.boolean) ∈ zTbl := zIn 1450 (by decide +kernel) rfl
theorem wl_1451 : Jvm.Cond.methodLink "JetTreesLaw" (46 : Nat) ({ cls := "JetTreesModel", name := "set", desc := "(II)Z" } : Jvm.MethodName) ∈ zTbl := zIn 1451 (by decide +kernel) rfl
theorem wl_1452 : Jvm.Cond.instanceMethod ({ cls := "JetTreesModel", name := "set", desc := "(II)Z" } : Jvm.MethodName) ∈ zTbl := zIn 1452 (by decide +kernel) rfl
theorem wl_1453 : Jvm.Cond.selects "JetTreesModel" ({ cls := "JetTreesModel", name := "set", desc := "(II)Z" } : Jvm.MethodName) ({ cls := "JetTreesModel", name := "set", desc := "(II)Z" } : Jvm.MethodName) ∈ zTbl := zIn 1453 (by decide +kernel) rfl
theorem wl_1454 : Jvm.Cond.code ({ cls := "JetTreesModel", name := "set", desc := "(II)Z" } : Jvm.MethodName) prog_14_method_49_code (3 : Nat) (Option.some Jvm.ClassFile.FieldType.boolean) ∈ zTbl := zIn 1454 (by decide +kernel) rfl
theorem wl_1455 : Jvm.Cond.methodLink "JetTreesLaw" (50 : Nat) ({ cls := "JetTreesModel", name := "gather", desc := "(I)I" } : Jvm.MethodName) ∈ zTbl := zIn 1455 (by decide +kernel) rfl
theorem wl_1456 : Jvm.Cond.instanceMethod ({ cls := "JetTreesModel", name := "gather", desc := "(I)I" } : Jvm.MethodName) ∈ zTbl := zIn 1456 (by decide +kernel) rfl
theorem wl_1457 : Jvm.Cond.selects "JetTreesModel" ({ cls := "JetTreesModel", name := "gather", desc := "(I)I" } : Jvm.MethodName) ({ cls := "JetTreesModel", name := "gather", desc := "(I)I" } : Jvm.MethodName) ∈ zTbl := zIn 1457 (by decide +kernel) rfl
theorem wl_1458 : Jvm.Cond.code ({ cls := "JetTreesModel", name := "gather", desc := "(I)I" } : Jvm.MethodName) prog_14_method_54_code (2 : Nat) (Option.some Jvm.ClassFile.FieldType.int) ∈ zTbl := zIn 1458 (by decide +kernel) rfl
theorem wl_1459 : Jvm.Cond.methodLink "JetTreesModel" (197 : Nat) ({ cls := "JetTreesModel", name := "gatherNow", desc := "()V" } : Jvm.MethodName) ∈ zTbl := zIn 1459 (by decide +kernel) rfl
theorem wl_1461 : Jvm.Cond.instanceMethod ({ cls := "JetTreesModel", name := "gatherNow", desc := "()V" } : Jvm.MethodName) ∈ zTbl := zIn 1461 (by decide +kernel) rfl
theorem wl_1462 : Jvm.Cond.code ({ cls := "JetTreesModel", name := "gatherNow", desc := "()V" } : Jvm.MethodName) prog_14_method_53_code (1 : Nat) (Option.none : Option Jvm.ClassFile.FieldType) ∈ zTbl := zIn 1462 (by decide +kernel) rfl
theorem wl_1463 : Jvm.Cond.methodLink "JetTreesModel" (190 : Nat) ({ cls := "JetTreesModel", name := "layTracks", desc := "()V" } : Jvm.MethodName) ∈ zTbl := zIn 1463 (by decide +kernel) rfl
theorem wl_1465 : Jvm.Cond.instanceMethod ({ cls := "JetTreesModel", name := "layTracks", desc := "()V" } : Jvm.MethodName) ∈ zTbl := zIn 1465 (by decide +kernel) rfl
theorem wl_1466 : Jvm.Cond.code ({ cls := "JetTreesModel", name := "layTracks", desc := "()V" } : Jvm.MethodName) prog_14_method_34_code (2 : Nat) (Option.none : Option Jvm.ClassFile.FieldType) ∈ zTbl := zIn 1466 (by decide +kernel) rfl
theorem wl_1467 : Jvm.Cond.methodLink "JetTreesModel" (127 : Nat) ({ cls := "JetTreesModel", name := "come", desc := "(IIIII)V" } : Jvm.MethodName) ∈ zTbl := zIn 1467 (by decide +kernel) rfl
theorem wl_1469 : Jvm.Cond.instanceMethod ({ cls := "JetTreesModel", name := "come", desc := "(IIIII)V" } : Jvm.MethodName) ∈ zTbl := zIn 1469 (by decide +kernel) rfl
theorem wl_1470 : Jvm.Cond.code ({ cls := "JetTreesModel", name := "come", desc := "(IIIII)V" } : Jvm.MethodName) prog_14_method_25_code (6 : Nat) (Option.none : Option Jvm.ClassFile.FieldType) ∈ zTbl := zIn 1470 (by decide +kernel) rfl
theorem wl_1471 : Jvm.Cond.methodLink "JetTreesModel" (193 : Nat) ({ cls := "JetTreesModel", name := "gatherAll", desc := "(III)V" } : Jvm.MethodName) ∈ zTbl := zIn 1471 (by decide +kernel) rfl
theorem wl_1473 : Jvm.Cond.instanceMethod ({ cls := "JetTreesModel", name := "gatherAll", desc := "(III)V" } : Jvm.MethodName) ∈ zTbl := zIn 1473 (by decide +kernel) rfl
theorem wl_1474 : Jvm.Cond.code ({ cls := "JetTreesModel", name := "gatherAll", desc := "(III)V" } : Jvm.MethodName) prog_14_method_33_code (10 : Nat) (Option.none : Option Jvm.ClassFile.FieldType) ∈ zTbl := zIn 1474 (by decide +kernel) rfl
theorem wl_1475 : Jvm.Cond.methodLink "JetTreesModel" (120 : Nat) ({ cls := "JetTreesModel", name := "isAhead", desc := "(II)Z" } : Jvm.MethodName) ∈ zTbl := zIn 1475 (by decide +kernel) rfl
theorem wl_1477 : Jvm.Cond.instanceMethod ({ cls := "JetTreesModel", name := "isAhead", desc := "(II)Z" } : Jvm.MethodName) ∈ zTbl := zIn 1477 (by decide +kernel) rfl
theorem wl_1478 : Jvm.Cond.code ({ cls := "JetTreesModel", name := "isAhead", desc := "(II)Z" } : Jvm.MethodName) prog_14_method_26_code (3 : Nat) (Option.some Jvm.ClassFile.FieldType.boolean) ∈ zTbl := zIn 1478 (by decide +kernel) rfl
theorem wl_1479 : Jvm.Cond.methodLink "JetTreesModel" (143 : Nat) ({ cls := "JetTreesModel", name := "isSooner", desc := "(IIII)Z" } : Jvm.MethodName) ∈ zTbl := zIn 1479 (by decide +kernel) rfl
theorem wl_1481 : Jvm.Cond.instanceMethod ({ cls := "JetTreesModel", name := "isSooner", desc := "(IIII)Z" } : Jvm.MethodName) ∈ zTbl := zIn 1481 (by decide +kernel) rfl
theorem wl_1482 : Jvm.Cond.code ({ cls := "JetTreesModel", name := "isSooner", desc := "(IIII)Z" } : Jvm.MethodName) prog_14_method_29_code (6 : Nat) (Option.some Jvm.ClassFile.FieldType.boolean) ∈ zTbl := zIn 1482 (by decide +kernel) rfl
theorem wl_1483 : Jvm.Cond.methodLink "JetTreesModel" (109 : Nat) ({ cls := "JetTreesModel", name := "upOf", desc := "(II)J" } : Jvm.MethodName) ∈ zTbl := zIn 1483 (by decide +kernel) rfl
theorem wl_1485 : Jvm.Cond.instanceMethod ({ cls := "JetTreesModel", name := "upOf", desc := "(II)J" } : Jvm.MethodName) ∈ zTbl := zIn 1485 (by decide +kernel) rfl
theorem wl_1486 : Jvm.Cond.code ({ cls := "JetTreesModel", name := "upOf", desc := "(II)J" } : Jvm.MethodName) prog_14_method_27_code (7 : Nat) (Option.some Jvm.ClassFile.FieldType.long) ∈ zTbl := zIn 1486 (by decide +kernel) rfl
theorem wl_1487 : Jvm.Cond.methodLink "JetTreesModel" (102 : Nat) ({ cls := "JetTreesModel", name := "squareOf", desc := "(IIII)I" } : Jvm.MethodName) ∈ zTbl := zIn 1487 (by decide +kernel) rfl
theorem wl_1488 : Jvm.Cond.static ({ cls := "JetTreesModel", name := "squareOf", desc := "(IIII)I" } : Jvm.MethodName) ∈ zTbl := zIn 1488 (by decide +kernel) rfl
theorem wl_1489 : Jvm.Cond.code ({ cls := "JetTreesModel", name := "squareOf", desc := "(IIII)I" } : Jvm.MethodName) prog_14_method_8_code (5 : Nat) (Option.some Jvm.ClassFile.FieldType.int) ∈ zTbl := zIn 1489 (by decide +kernel) rfl
theorem wl_1490 : Jvm.Cond.methodLink "JetTreesModel" (65 : Nat) ({ cls := "JetTreesModel", name := "wayOf", desc := "(II)I" } : Jvm.MethodName) ∈ zTbl := zIn 1490 (by decide +kernel) rfl
theorem wl_1491 : Jvm.Cond.static ({ cls := "JetTreesModel", name := "wayOf", desc := "(II)I" } : Jvm.MethodName) ∈ zTbl := zIn 1491 (by decide +kernel) rfl
theorem wl_1492 : Jvm.Cond.code ({ cls := "JetTreesModel", name := "wayOf", desc := "(II)I" } : Jvm.MethodName) prog_14_method_7_code (3 : Nat) (Option.some Jvm.ClassFile.FieldType.int) ∈ zTbl := zIn 1492 (by decide +kernel) rfl
theorem wl_1493 : Jvm.Cond.methodLink "JetTreesModel" (113 : Nat) ({ cls := "JetTreesModel", name := "downOf", desc := "(II)J" } : Jvm.MethodName) ∈ zTbl := zIn 1493 (by decide +kernel) rfl
theorem wl_1495 : Jvm.Cond.instanceMethod ({ cls := "JetTreesModel", name := "downOf", desc := "(II)J" } : Jvm.MethodName) ∈ zTbl := zIn 1495 (by decide +kernel) rfl
theorem wl_1496 : Jvm.Cond.code ({ cls := "JetTreesModel", name := "downOf", desc := "(II)J" } : Jvm.MethodName) prog_14_method_28_code (5 : Nat) (Option.some Jvm.ClassFile.FieldType.long) ∈ zTbl := zIn 1496 (by decide +kernel) rfl
theorem wl_1497 : Jvm.Cond.methodLink "JetTreesModel" (116 : Nat) ({ cls := "JetTreesModel", name := "order", desc := "(JJJJ)I" } : Jvm.MethodName) ∈ zTbl := zIn 1497 (by decide +kernel) rfl
theorem wl_1498 : Jvm.Cond.static ({ cls := "JetTreesModel", name := "order", desc := "(JJJJ)I" } : Jvm.MethodName) ∈ zTbl := zIn 1498 (by decide +kernel) rfl
theorem wl_1499 : Jvm.Cond.code ({ cls := "JetTreesModel", name := "order", desc := "(JJJJ)I" } : Jvm.MethodName) prog_14_method_23_code (21 : Nat) (Option.some Jvm.ClassFile.FieldType.int) ∈ zTbl := zIn 1499 (by decide +kernel) rfl
theorem wl_1500 : Jvm.Cond.methodLink "JetTreesModel" (147 : Nat) ({ cls := "JetTreesModel", name := "join", desc := "(II)V" } : Jvm.MethodName) ∈ zTbl := zIn 1500 (by decide +kernel) rfl
theorem wl_1502 : Jvm.Cond.instanceMethod ({ cls := "JetTreesModel", name := "join", desc := "(II)V" } : Jvm.MethodName) ∈ zTbl := zIn 1502 (by decide +kernel) rfl
theorem wl_1503 : Jvm.Cond.code ({ cls := "JetTreesModel", name := "join", desc := "(II)V" } : Jvm.MethodName) prog_14_method_30_code (5 : Nat) (Option.none : Option Jvm.ClassFile.FieldType) ∈ zTbl := zIn 1503 (by decide +kernel) rfl
theorem wl_1504 : Jvm.Cond.methodLink "JetTreesModel" (131 : Nat) ({ cls := "JetTreesModel", name := "meanAcross", desc := "(IIII)I" } : Jvm.MethodName) ∈ zTbl := zIn 1504 (by decide +kernel) rfl
theorem wl_1505 : Jvm.Cond.static ({ cls := "JetTreesModel", name := "meanAcross", desc := "(IIII)I" } : Jvm.MethodName) ∈ zTbl := zIn 1505 (by decide +kernel) rfl
theorem wl_1506 : Jvm.Cond.code ({ cls := "JetTreesModel", name := "meanAcross", desc := "(IIII)I" } : Jvm.MethodName) prog_14_method_31_code (4 : Nat) (Option.some Jvm.ClassFile.FieldType.int) ∈ zTbl := zIn 1506 (by decide +kernel) rfl
theorem wl_1507 : Jvm.Cond.methodLink "JetTreesModel" (137 : Nat) ({ cls := "JetTreesModel", name := "floor", desc := "(II)I" } : Jvm.MethodName) ∈ zTbl := zIn 1507 (by decide +kernel) rfl
theorem wl_1508 : Jvm.Cond.static ({ cls := "JetTreesModel", name := "floor", desc := "(II)I" } : Jvm.MethodName) ∈ zTbl := zIn 1508 (by decide +kernel) rfl
theorem wl_1509 : Jvm.Cond.code ({ cls := "JetTreesModel", name := "floor", desc := "(II)I" } : Jvm.MethodName) prog_14_method_6_code (2 : Nat) (Option.some Jvm.ClassFile.FieldType.int) ∈ zTbl := zIn 1509 (by decide +kernel) rfl
theorem wl_1510 : Jvm.Cond.methodLink "JetTreesModel" (134 : Nat) ({ cls := "JetTreesModel", name := "meanRound", desc := "(IIII)I" } : Jvm.MethodName) ∈ zTbl := zIn 1510 (by decide +kernel) rfl
theorem wl_1511 : Jvm.Cond.static ({ cls := "JetTreesModel", name := "meanRound", desc := "(IIII)I" } : Jvm.MethodName) ∈ zTbl := zIn 1511 (by decide +kernel) rfl
theorem wl_1512 : Jvm.Cond.code ({ cls := "JetTreesModel", name := "meanRound", desc := "(IIII)I" } : Jvm.MethodName) prog_14_method_32_code (4 : Nat) (Option.some Jvm.ClassFile.FieldType.int) ∈ zTbl := zIn 1512 (by decide +kernel) rfl
theorem wl_1513 : Jvm.Cond.methodLink "JetTreesModel" (200 : Nat) ({ cls := "JetTreesModel", name := "layTree", desc := "(I)V" } : Jvm.MethodName) ∈ zTbl := zIn 1513 (by decide +kernel) rfl
theorem wl_1515 : Jvm.Cond.instanceMethod ({ cls := "JetTreesModel", name := "layTree", desc := "(I)V" } : Jvm.MethodName) ∈ zTbl := zIn 1515 (by decide +kernel) rfl
theorem wl_1516 : Jvm.Cond.code ({ cls := "JetTreesModel", name := "layTree", desc := "(I)V" } : Jvm.MethodName) prog_14_method_52_code (5 : Nat) (Option.none : Option Jvm.ClassFile.FieldType) ∈ zTbl := zIn 1516 (by decide +kernel) rfl
theorem wl_1517 : Jvm.Cond.methodLink "JetTreesModel" (186 : Nat) ({ cls := "JetTreesModel", name := "clearTree", desc := "(I)V" } : Jvm.MethodName) ∈ zTbl := zIn 1517 (by decide +kernel) rfl
theorem wl_1519 : Jvm.Cond.instanceMethod ({ cls := "JetTreesModel", name := "clearTree", desc := "(I)V" } : Jvm.MethodName) ∈ zTbl := zIn 1519 (by decide +kernel) rfl
theorem wl_1520 : Jvm.Cond.code ({ cls := "JetTreesModel", name := "clearTree", desc := "(I)V" } : Jvm.MethodName) prog_14_method_50_code (3 : Nat) (Option.none : Option Jvm.ClassFile.FieldType) ∈ zTbl := zIn 1520 (by decide +kernel) rfl
theorem wl_1521 : Jvm.Cond.methodLink "JetTreesModel" (81 : Nat) ({ cls := "JetTreesModel", name := "treeAt", desc := "(I)I" } : Jvm.MethodName) ∈ zTbl := zIn 1521 (by decide +kernel) rfl
theorem wl_1522 : Jvm.Cond.static ({ cls := "JetTreesModel", name := "treeAt", desc := "(I)I" } : Jvm.MethodName) ∈ zTbl := zIn 1522 (by decide +kernel) rfl
theorem wl_1523 : Jvm.Cond.code ({ cls := "JetTreesModel", name := "treeAt", desc := "(I)I" } : Jvm.MethodName) prog_14_method_15_code (1 : Nat) (Option.some Jvm.ClassFile.FieldType.int) ∈ zTbl := zIn 1523 (by decide +kernel) rfl
theorem wl_1524 : Jvm.Cond.methodLink "JetTreesModel" (203 : Nat) ({ cls := "JetTreesModel", name := "jetsOf", desc := "(I)I" } : Jvm.MethodName) ∈ zTbl := zIn 1524 (by decide +kernel) rfl
theorem wl_1526 : Jvm.Cond.instanceMethod ({ cls := "JetTreesModel", name := "jetsOf", desc := "(I)I" } : Jvm.MethodName) ∈ zTbl := zIn 1526 (by decide +kernel) rfl
theorem wl_1527 : Jvm.Cond.code ({ cls := "JetTreesModel", name := "jetsOf", desc := "(I)I" } : Jvm.MethodName) prog_14_method_51_code (2 : Nat) (Option.some Jvm.ClassFile.FieldType.int) ∈ zTbl := zIn 1527 (by decide +kernel) rfl
theorem wl_1528 : Jvm.Cond.methodLink "JetTreesModel" (88 : Nat) ({ cls := "JetTreesModel", name := "ofTree", desc := "(II)I" } : Jvm.MethodName) ∈ zTbl := zIn 1528 (by decide +kernel) rfl
theorem wl_1530 : Jvm.Cond.instanceMethod ({ cls := "JetTreesModel", name := "ofTree", desc := "(II)I" } : Jvm.MethodName) ∈ zTbl := zIn 1530 (by decide +kernel) rfl
theorem wl_1531 : Jvm.Cond.code ({ cls := "JetTreesModel", name := "ofTree", desc := "(II)I" } : Jvm.MethodName) prog_14_method_16_code (3 : Nat) (Option.some Jvm.ClassFile.FieldType.int) ∈ zTbl := zIn 1531 (by decide +kernel) rfl
theorem wl_1532 : Jvm.Cond.methodLink "JetTreesLaw" (59 : Nat) ({ cls := "JetTreesModel", name := "apart", desc := "(IIIII)I" } : Jvm.MethodName) ∈ zTbl := zIn 1532 (by decide +kernel) rfl
theorem wl_1533 : Jvm.Cond.instanceMethod ({ cls := "JetTreesModel", name := "apart", desc := "(IIIII)I" } : Jvm.MethodName) ∈ zTbl := zIn 1533 (by decide +kernel) rfl
theorem wl_1534 : Jvm.Cond.selects "JetTreesModel" ({ cls := "JetTreesModel", name := "apart", desc := "(IIIII)I" } : Jvm.MethodName) ({ cls := "JetTreesModel", name := "apart", desc := "(IIIII)I" } : Jvm.MethodName) ∈ zTbl := zIn 1534 (by decide +kernel) rfl
theorem wl_1535 : Jvm.Cond.code ({ cls := "JetTreesModel", name := "apart", desc := "(IIIII)I" } : Jvm.MethodName) prog_14_method_55_code (10 : Nat) (Option.some Jvm.ClassFile.FieldType.int) ∈ zTbl := zIn 1535 (by decide +kernel) rfl
theorem wl_1536 : Jvm.Cond.methodLink "JetTreesModel" (206 : Nat) ({ cls := "JetTreesModel", name := "isKnot", desc := "(II)Z" } : Jvm.MethodName) ∈ zTbl := zIn 1536 (by decide +kernel) rfl
theorem wl_1538 : Jvm.Cond.instanceMethod ({ cls := "JetTreesModel", name := "isKnot", desc := "(II)Z" } : Jvm.MethodName) ∈ zTbl := zIn 1538 (by decide +kernel) rfl
theorem wl_1539 : Jvm.Cond.code ({ cls := "JetTreesModel", name := "isKnot", desc := "(II)Z" } : Jvm.MethodName) prog_14_method_17_code (3 : Nat) (Option.some Jvm.ClassFile.FieldType.boolean) ∈ zTbl := zIn 1539 (by decide +kernel) rfl
theorem wl_1540 : Jvm.Cond.methodLink "JetTreesModel" (84 : Nat) ({ cls := "JetTreesModel", name := "isTree", desc := "(I)Z" } : Jvm.MethodName) ∈ zTbl := zIn 1540 (by decide +kernel) rfl
theorem wl_1542 : Jvm.Cond.instanceMethod ({ cls := "JetTreesModel", name := "isTree", desc := "(I)Z" } : Jvm.MethodName) ∈ zTbl := zIn 1542 (by decide +kernel) rfl
theorem wl_1543 : Jvm.Cond.code ({ cls := "JetTreesModel", name := "isTree", desc := "(I)Z" } : Jvm.MethodName) prog_14_method_14_code (2 : Nat) (Option.some Jvm.ClassFile.FieldType.boolean) ∈ zTbl := zIn 1543 (by decide +kernel) rfl
theorem wl_1544 : Jvm.Cond.methodLink "JetTreesModel" (209 : Nat) ({ cls := "JetTreesModel", name := "leavesOf", desc := "(II)J" } : Jvm.MethodName) ∈ zTbl := zIn 1544 (by decide +kernel) rfl
theorem wl_1546 : Jvm.Cond.instanceMethod ({ cls := "JetTreesModel", name := "leavesOf", desc := "(II)J" } : Jvm.MethodName) ∈ zTbl := zIn 1546 (by decide +kernel) rfl
theorem wl_1547 : Jvm.Cond.code ({ cls := "JetTreesModel", name := "leavesOf", desc := "(II)J" } : Jvm.MethodName) prog_14_method_81_code (6 : Nat) (Option.some Jvm.ClassFile.FieldType.long) ∈ zTbl := zIn 1547 (by decide +kernel) rfl
theorem wl_1548 : Jvm.Cond.methodLink "JetTreesModel" (233 : Nat) ({ cls := "JetTreesModel", name := "isJoined", desc := "(II)Z" } : Jvm.MethodName) ∈ zTbl := zIn 1548 (by decide +kernel) rfl
theorem wl_1550 : Jvm.Cond.instanceMethod ({ cls := "JetTreesModel", name := "isJoined", desc := "(II)Z" } : Jvm.MethodName) ∈ zTbl := zIn 1550 (by decide +kernel) rfl
theorem wl_1551 : Jvm.Cond.code ({ cls := "JetTreesModel", name := "isJoined", desc := "(II)Z" } : Jvm.MethodName) prog_14_method_20_code (3 : Nat) (Option.some Jvm.ClassFile.FieldType.boolean) ∈ zTbl := zIn 1551 (by decide +kernel) rfl
theorem wl_1552 : Jvm.Cond.methodLink "JetTreesModel" (91 : Nat) ({ cls := "JetTreesModel", name := "ofKnot", desc := "(III)I" } : Jvm.MethodName) ∈ zTbl := zIn 1552 (by decide +kernel) rfl
theorem wl_1554 : Jvm.Cond.instanceMethod ({ cls := "JetTreesModel", name := "ofKnot", desc := "(III)I" } : Jvm.MethodName) ∈ zTbl := zIn 1554 (by decide +kernel) rfl
theorem wl_1555 : Jvm.Cond.code ({ cls := "JetTreesModel", name := "ofKnot", desc := "(III)I" } : Jvm.MethodName) prog_14_method_18_code (4 : Nat) (Option.some Jvm.ClassFile.FieldType.int) ∈ zTbl := zIn 1555 (by decide +kernel) rfl
theorem wl_1556 : Jvm.Cond.methodLink "JetTreesModel" (154 : Nat) ({ cls := "JetTreesModel", name := "has", desc := "(JI)Z" } : Jvm.MethodName) ∈ zTbl := zIn 1556 (by decide +kernel) rfl
theorem wl_1557 : Jvm.Cond.static ({ cls := "JetTreesModel", name := "has", desc := "(JI)Z" } : Jvm.MethodName) ∈ zTbl := zIn 1557 (by decide +kernel) rfl
theorem wl_1558 : Jvm.Cond.code ({ cls := "JetTreesModel", name := "has", desc := "(JI)Z" } : Jvm.MethodName) prog_14_method_4_code (3 : Nat) (Option.some Jvm.ClassFile.FieldType.boolean) ∈ zTbl := zIn 1558 (by decide +kernel) rfl
theorem wl_1559 : Jvm.Cond.methodLink "JetTreesModel" (212 : Nat) ({ cls := "JetTreesModel", name := "layLeaves", desc := "(IJ)V" } : Jvm.MethodName) ∈ zTbl := zIn 1559 (by decide +kernel) rfl
theorem wl_1561 : Jvm.Cond.instanceMethod ({ cls := "JetTreesModel", name := "layLeaves", desc := "(IJ)V" } : Jvm.MethodName) ∈ zTbl := zIn 1561 (by decide +kernel) rfl
theorem wl_1562 : Jvm.Cond.code ({ cls := "JetTreesModel", name := "layLeaves", desc := "(IJ)V" } : Jvm.MethodName) prog_14_method_35_code (5 : Nat) (Option.none : Option Jvm.ClassFile.FieldType) ∈ zTbl := zIn 1562 (by decide +kernel) rfl
theorem wl_1563 : Jvm.Cond.methodLink "JetTreesModel" (158 : Nat) ({ cls := "JetTreesModel", name := "weightOf", desc := "(II)I" } : Jvm.MethodName) ∈ zTbl := zIn 1563 (by decide +kernel) rfl
theorem wl_1565 : Jvm.Cond.instanceMethod ({ cls := "JetTreesModel", name := "weightOf", desc := "(II)I" } : Jvm.MethodName) ∈ zTbl := zIn 1565 (by decide +kernel) rfl
theorem wl_1566 : Jvm.Cond.code ({ cls := "JetTreesModel", name := "weightOf", desc := "(II)I" } : Jvm.MethodName) prog_14_method_19_code (3 : Nat) (Option.some Jvm.ClassFile.FieldType.int) ∈ zTbl := zIn 1566 (by decide +kernel) rfl
theorem wl_1567 : Jvm.Cond.methodLink "JetTreesLaw" (105 : Nat) ({ cls := "JetTreesModel", name := "origin", desc := "(II)I" } : Jvm.MethodName) ∈ zTbl := zIn 1567 (by decide +kernel) rfl
theorem wl_1568 : Jvm.Cond.instanceMethod ({ cls := "JetTreesModel", name := "origin", desc := "(II)I" } : Jvm.MethodName) ∈ zTbl := zIn 1568 (by decide +kernel) rfl
theorem wl_1569 : Jvm.Cond.selects "JetTreesModel" ({ cls := "JetTreesModel", name := "origin", desc := "(II)I" } : Jvm.MethodName) ({ cls := "JetTreesModel", name := "origin", desc := "(II)I" } : Jvm.MethodName) ∈ zTbl := zIn 1569 (by decide +kernel) rfl
theorem wl_1570 : Jvm.Cond.code ({ cls := "JetTreesModel", name := "origin", desc := "(II)I" } : Jvm.MethodName) prog_14_method_56_code (3 : Nat) (Option.some Jvm.ClassFile.FieldType.int) ∈ zTbl := zIn 1570 (by decide +kernel) rfl
theorem wl_1571 : Jvm.Cond.methodLink "JetTreesLaw" (63 : Nat) ({ cls := "JetTreesModel", name := "hand", desc := "(I)I" } : Jvm.MethodName) ∈ zTbl := zIn 1571 (by decide +kernel) rfl
theorem wl_1572 : Jvm.Cond.instanceMethod ({ cls := "JetTreesModel", name := "hand", desc := "(I)I" } : Jvm.MethodName) ∈ zTbl := zIn 1572 (by decide +kernel) rfl
theorem wl_1573 : Jvm.Cond.selects "JetTreesModel" ({ cls := "JetTreesModel", name := "hand", desc := "(I)I" } : Jvm.MethodName) ({ cls := "JetTreesModel", name := "hand", desc := "(I)I" } : Jvm.MethodName) ∈ zTbl := zIn 1573 (by decide +kernel) rfl
theorem wl_1574 : Jvm.Cond.code ({ cls := "JetTreesModel", name := "hand", desc := "(I)I" } : Jvm.MethodName) prog_14_method_58_code (2 : Nat) (Option.some Jvm.ClassFile.FieldType.int) ∈ zTbl := zIn 1574 (by decide +kernel) rfl
theorem wl_1575 : Jvm.Cond.methodLink "JetTreesModel" (216 : Nat) ({ cls := "JetTreesModel", name := "isEvent", desc := "(I)Z" } : Jvm.MethodName) ∈ zTbl := zIn 1575 (by decide +kernel) rfl
theorem wl_1576 : Jvm.Cond.static ({ cls := "JetTreesModel", name := "isEvent", desc := "(I)Z" } : Jvm.MethodName) ∈ zTbl := zIn 1576 (by decide +kernel) rfl
theorem wl_1577 : Jvm.Cond.code ({ cls := "JetTreesModel", name := "isEvent", desc := "(I)Z" } : Jvm.MethodName) prog_14_method_57_code (1 : Nat) (Option.some Jvm.ClassFile.FieldType.boolean) ∈ zTbl := zIn 1577 (by decide +kernel) rfl
theorem wl_1578 : Jvm.Cond.methodLink "JetTreesLaw" (68 : Nat) ({ cls := "JetTreesModel", name := "mix", desc := "(II)I" } : Jvm.MethodName) ∈ zTbl := zIn 1578 (by decide +kernel) rfl
theorem wl_1579 : Jvm.Cond.instanceMethod ({ cls := "JetTreesModel", name := "mix", desc := "(II)I" } : Jvm.MethodName) ∈ zTbl := zIn 1579 (by decide +kernel) rfl
theorem wl_1580 : Jvm.Cond.selects "JetTreesModel" ({ cls := "JetTreesModel", name := "mix", desc := "(II)I" } : Jvm.MethodName) ({ cls := "JetTreesModel", name := "mix", desc := "(II)I" } : Jvm.MethodName) ∈ zTbl := zIn 1580 (by decide +kernel) rfl
theorem wl_1581 : Jvm.Cond.code ({ cls := "JetTreesModel", name := "mix", desc := "(II)I" } : Jvm.MethodName) prog_14_method_59_code (5 : Nat) (Option.some Jvm.ClassFile.FieldType.int) ∈ zTbl := zIn 1581 (by decide +kernel) rfl
theorem wl_1582 : Jvm.Cond.methodLink "JetTreesLaw" (72 : Nat) ({ cls := "JetTreesModel", name := "free", desc := "(I)Z" } : Jvm.MethodName) ∈ zTbl := zIn 1582 (by decide +kernel) rfl
theorem wl_1583 : Jvm.Cond.instanceMethod ({ cls := "JetTreesModel", name := "free", desc := "(I)Z" } : Jvm.MethodName) ∈ zTbl := zIn 1583 (by decide +kernel) rfl
theorem wl_1584 : Jvm.Cond.selects "JetTreesModel" ({ cls := "JetTreesModel", name := "free", desc := "(I)Z" } : Jvm.MethodName) ({ cls := "JetTreesModel", name := "free", desc := "(I)Z" } : Jvm.MethodName) ∈ zTbl := zIn 1584 (by decide +kernel) rfl
theorem wl_1585 : Jvm.Cond.code ({ cls := "JetTreesModel", name := "free", desc := "(I)Z" } : Jvm.MethodName) prog_14_method_60_code (2 : Nat) (Option.some Jvm.ClassFile.FieldType.boolean) ∈ zTbl := zIn 1585 (by decide +kernel) rfl
theorem wl_1586 : Jvm.Cond.methodLink "JetTreesLaw" (81 : Nat) ({ cls := "JetTreesModel", name := "is", desc := "(I)I" } : Jvm.MethodName) ∈ zTbl := zIn 1586 (by decide +kernel) rfl
theorem wl_1587 : Jvm.Cond.instanceMethod ({ cls := "JetTreesModel", name := "is", desc := "(I)I" } : Jvm.MethodName) ∈ zTbl := zIn 1587 (by decide +kernel) rfl
theorem wl_1588 : Jvm.Cond.selects "JetTreesModel" ({ cls := "JetTreesModel", name := "is", desc := "(I)I" } : Jvm.MethodName) ({ cls := "JetTreesModel", name := "is", desc := "(I)I" } : Jvm.MethodName) ∈ zTbl := zIn 1588 (by decide +kernel) rfl
theorem wl_1589 : Jvm.Cond.code ({ cls := "JetTreesModel", name := "is", desc := "(I)I" } : Jvm.MethodName) prog_14_method_61_code (2 : Nat) (Option.some Jvm.ClassFile.FieldType.int) ∈ zTbl := zIn 1589 (by decide +kernel) rfl
theorem wl_1590 : Jvm.Cond.methodLink "JetTreesModel" (219 : Nat) ({ cls := "JetTreesModel", name := "allTracks", desc := "()J" } : Jvm.MethodName) ∈ zTbl := zIn 1590 (by decide +kernel) rfl
theorem wl_1592 : Jvm.Cond.instanceMethod ({ cls := "JetTreesModel", name := "allTracks", desc := "()J" } : Jvm.MethodName) ∈ zTbl := zIn 1592 (by decide +kernel) rfl
theorem wl_1593 : Jvm.Cond.code ({ cls := "JetTreesModel", name := "allTracks", desc := "()J" } : Jvm.MethodName) prog_14_method_62_code (1 : Nat) (Option.some Jvm.ClassFile.FieldType.long) ∈ zTbl := zIn 1593 (by decide +kernel) rfl
theorem wl_1594 : Jvm.Cond.methodLink "JetTreesModel" (223 : Nat) ({ cls := "JetTreesModel", name := "weightsOf", desc := "(J)I" } : Jvm.MethodName) ∈ zTbl := zIn 1594 (by decide +kernel) rfl
theorem wl_1596 : Jvm.Cond.instanceMethod ({ cls := "JetTreesModel", name := "weightsOf", desc := "(J)I" } : Jvm.MethodName) ∈ zTbl := zIn 1596 (by decide +kernel) rfl
theorem wl_1597 : Jvm.Cond.code ({ cls := "JetTreesModel", name := "weightsOf", desc := "(J)I" } : Jvm.MethodName) prog_14_method_63_code (5 : Nat) (Option.some Jvm.ClassFile.FieldType.int) ∈ zTbl := zIn 1597 (by decide +kernel) rfl
theorem wl_1598 : Jvm.Cond.methodLink "JetTreesLaw" (85 : Nat) ({ cls := "JetTreesModel", name := "of", desc := "(II)I" } : Jvm.MethodName) ∈ zTbl := zIn 1598 (by decide +kernel) rfl
theorem wl_1599 : Jvm.Cond.instanceMethod ({ cls := "JetTreesModel", name := "of", desc := "(II)I" } : Jvm.MethodName) ∈ zTbl := zIn 1599 (by decide +kernel) rfl
theorem wl_1600 : Jvm.Cond.selects "JetTreesModel" ({ cls := "JetTreesModel", name := "of", desc := "(II)I" } : Jvm.MethodName) ({ cls := "JetTreesModel", name := "of", desc := "(II)I" } : Jvm.MethodName) ∈ zTbl := zIn 1600 (by decide +kernel) rfl
theorem wl_1601 : Jvm.Cond.code ({ cls := "JetTreesModel", name := "of", desc := "(II)I" } : Jvm.MethodName) prog_14_method_64_code (3 : Nat) (Option.some Jvm.ClassFile.FieldType.int) ∈ zTbl := zIn 1601 (by decide +kernel) rfl
theorem wl_1602 : Jvm.Cond.methodLink "JetTreesLaw" (89 : Nat) ({ cls := "JetTreesModel", name := "square", desc := "(II)I" } : Jvm.MethodName) ∈ zTbl := zIn 1602 (by decide +kernel) rfl
theorem wl_1603 : Jvm.Cond.instanceMethod ({ cls := "JetTreesModel", name := "square", desc := "(II)I" } : Jvm.MethodName) ∈ zTbl := zIn 1603 (by decide +kernel) rfl
theorem wl_1604 : Jvm.Cond.selects "JetTreesModel" ({ cls := "JetTreesModel", name := "square", desc := "(II)I" } : Jvm.MethodName) ({ cls := "JetTreesModel", name := "square", desc := "(II)I" } : Jvm.MethodName) ∈ zTbl := zIn 1604 (by decide +kernel) rfl
theorem wl_1605 : Jvm.Cond.code ({ cls := "JetTreesModel", name := "square", desc := "(II)I" } : Jvm.MethodName) prog_14_method_66_code (3 : Nat) (Option.some Jvm.ClassFile.FieldType.int) ∈ zTbl := zIn 1605 (by decide +kernel) rfl
theorem wl_1606 : Jvm.Cond.methodLink "JetTreesModel" (227 : Nat) ({ cls := "JetTreesModel", name := "squareOfTracks", desc := "(II)I" } : Jvm.MethodName) ∈ zTbl := zIn 1606 (by decide +kernel) rfl
theorem wl_1608 : Jvm.Cond.instanceMethod ({ cls := "JetTreesModel", name := "squareOfTracks", desc := "(II)I" } : Jvm.MethodName) ∈ zTbl := zIn 1608 (by decide +kernel) rfl
theorem wl_1609 : Jvm.Cond.code ({ cls := "JetTreesModel", name := "squareOfTracks", desc := "(II)I" } : Jvm.MethodName) prog_14_method_65_code (3 : Nat) (Option.some Jvm.ClassFile.FieldType.int) ∈ zTbl := zIn 1609 (by decide +kernel) rfl
theorem wl_1610 : Jvm.Cond.methodLink "JetTreesLaw" (93 : Nat) ({ cls := "JetTreesModel", name := "nearest", desc := "(I)I" } : Jvm.MethodName) ∈ zTbl := zIn 1610 (by decide +kernel) rfl
theorem wl_1611 : Jvm.Cond.instanceMethod ({ cls := "JetTreesModel", name := "nearest", desc := "(I)I" } : Jvm.MethodName) ∈ zTbl := zIn 1611 (by decide +kernel) rfl
theorem wl_1612 : Jvm.Cond.selects "JetTreesModel" ({ cls := "JetTreesModel", name := "nearest", desc := "(I)I" } : Jvm.MethodName) ({ cls := "JetTreesModel", name := "nearest", desc := "(I)I" } : Jvm.MethodName) ∈ zTbl := zIn 1612 (by decide +kernel) rfl
theorem wl_1613 : Jvm.Cond.code ({ cls := "JetTreesModel", name := "nearest", desc := "(I)I" } : Jvm.MethodName) prog_14_method_67_code (5 : Nat) (Option.some Jvm.ClassFile.FieldType.int) ∈ zTbl := zIn 1613 (by decide +kernel) rfl
theorem wl_1614 : Jvm.Cond.methodLink "JetTreesLaw" (97 : Nat) ({ cls := "JetTreesModel", name := "tree", desc := "(II)I" } : Jvm.MethodName) ∈ zTbl := zIn 1614 (by decide +kernel) rfl
theorem wl_1615 : Jvm.Cond.instanceMethod ({ cls := "JetTreesModel", name := "tree", desc := "(II)I" } : Jvm.MethodName) ∈ zTbl := zIn 1615 (by decide +kernel) rfl
theorem wl_1616 : Jvm.Cond.selects "JetTreesModel" ({ cls := "JetTreesModel", name := "tree", desc := "(II)I" } : Jvm.MethodName) ({ cls := "JetTreesModel", name := "tree", desc := "(II)I" } : Jvm.MethodName) ∈ zTbl := zIn 1616 (by decide +kernel) rfl
theorem wl_1617 : Jvm.Cond.code ({ cls := "JetTreesModel", name := "tree", desc := "(II)I" } : Jvm.MethodName) prog_14_method_68_code (3 : Nat) (Option.some Jvm.ClassFile.FieldType.int) ∈ zTbl := zIn 1617 (by decide +kernel) rfl
theorem wl_1618 : Jvm.Cond.methodLink "JetTreesLaw" (101 : Nat) ({ cls := "JetTreesModel", name := "knot", desc := "(III)I" } : Jvm.MethodName) ∈ zTbl := zIn 1618 (by decide +kernel) rfl
theorem wl_1619 : Jvm.Cond.instanceMethod ({ cls := "JetTreesModel", name := "knot", desc := "(III)I" } : Jvm.MethodName) ∈ zTbl := zIn 1619 (by decide +kernel) rfl
theorem wl_1620 : Jvm.Cond.selects "JetTreesModel" ({ cls := "JetTreesModel", name := "knot", desc := "(III)I" } : Jvm.MethodName) ({ cls := "JetTreesModel", name := "knot", desc := "(III)I" } : Jvm.MethodName) ∈ zTbl := zIn 1620 (by decide +kernel) rfl
theorem wl_1621 : Jvm.Cond.code ({ cls := "JetTreesModel", name := "knot", desc := "(III)I" } : Jvm.MethodName) prog_14_method_73_code (4 : Nat) (Option.some Jvm.ClassFile.FieldType.int) ∈ zTbl := zIn 1621 (by decide +kernel) rfl
theorem wl_1622 : Jvm.Cond.methodLink "JetTreesModel" (239 : Nat) ({ cls := "JetTreesModel", name := "aboveOf", desc := "(II)I" } : Jvm.MethodName) ∈ zTbl := zIn 1622 (by decide +kernel) rfl
theorem wl_1624 : Jvm.Cond.instanceMethod ({ cls := "JetTreesModel", name := "aboveOf", desc := "(II)I" } : Jvm.MethodName) ∈ zTbl := zIn 1624 (by decide +kernel) rfl
theorem wl_1625 : Jvm.Cond.code ({ cls := "JetTreesModel", name := "aboveOf", desc := "(II)I" } : Jvm.MethodName) prog_14_method_69_code (4 : Nat) (Option.some Jvm.ClassFile.FieldType.int) ∈ zTbl := zIn 1625 (by decide +kernel) rfl
theorem wl_1626 : Jvm.Cond.methodLink "JetTreesModel" (242 : Nat) ({ cls := "JetTreesModel", name := "joinedBy", desc := "(II)I" } : Jvm.MethodName) ∈ zTbl := zIn 1626 (by decide +kernel) rfl
theorem wl_1628 : Jvm.Cond.instanceMethod ({ cls := "JetTreesModel", name := "joinedBy", desc := "(II)I" } : Jvm.MethodName) ∈ zTbl := zIn 1628 (by decide +kernel) rfl
theorem wl_1629 : Jvm.Cond.code ({ cls := "JetTreesModel", name := "joinedBy", desc := "(II)I" } : Jvm.MethodName) prog_14_method_72_code (4 : Nat) (Option.some Jvm.ClassFile.FieldType.int) ∈ zTbl := zIn 1629 (by decide +kernel) rfl
theorem wl_1630 : Jvm.Cond.methodLink "JetTreesModel" (236 : Nat) ({ cls := "JetTreesModel", name := "cameBy", desc := "(II)I" } : Jvm.MethodName) ∈ zTbl := zIn 1630 (by decide +kernel) rfl
theorem wl_1632 : Jvm.Cond.instanceMethod ({ cls := "JetTreesModel", name := "cameBy", desc := "(II)I" } : Jvm.MethodName) ∈ zTbl := zIn 1632 (by decide +kernel) rfl
theorem wl_1633 : Jvm.Cond.code ({ cls := "JetTreesModel", name := "cameBy", desc := "(II)I" } : Jvm.MethodName) prog_14_method_71_code (5 : Nat) (Option.some Jvm.ClassFile.FieldType.int) ∈ zTbl := zIn 1633 (by decide +kernel) rfl
theorem wl_1634 : Jvm.Cond.methodLink "JetTreesModel" (230 : Nat) ({ cls := "JetTreesModel", name := "ofStep", desc := "(III)I" } : Jvm.MethodName) ∈ zTbl := zIn 1634 (by decide +kernel) rfl
theorem wl_1636 : Jvm.Cond.instanceMethod ({ cls := "JetTreesModel", name := "ofStep", desc := "(III)I" } : Jvm.MethodName) ∈ zTbl := zIn 1636 (by decide +kernel) rfl
theorem wl_1637 : Jvm.Cond.code ({ cls := "JetTreesModel", name := "ofStep", desc := "(III)I" } : Jvm.MethodName) prog_14_method_22_code (4 : Nat) (Option.some Jvm.ClassFile.FieldType.int) ∈ zTbl := zIn 1637 (by decide +kernel) rfl
theorem wl_1638 : Jvm.Cond.methodLink "JetTreesModel" (245 : Nat) ({ cls := "JetTreesModel", name := "wentBy", desc := "(II)I" } : Jvm.MethodName) ∈ zTbl := zIn 1638 (by decide +kernel) rfl
theorem wl_1640 : Jvm.Cond.instanceMethod ({ cls := "JetTreesModel", name := "wentBy", desc := "(II)I" } : Jvm.MethodName) ∈ zTbl := zIn 1640 (by decide +kernel) rfl
theorem wl_1641 : Jvm.Cond.code ({ cls := "JetTreesModel", name := "wentBy", desc := "(II)I" } : Jvm.MethodName) prog_14_method_70_code (4 : Nat) (Option.some Jvm.ClassFile.FieldType.int) ∈ zTbl := zIn 1641 (by decide +kernel) rfl
theorem wl_1642 : Jvm.Cond.methodLink "JetTreesLaw" (109 : Nat) ({ cls := "JetTreesModel", name := "step", desc := "(III)I" } : Jvm.MethodName) ∈ zTbl := zIn 1642 (by decide +kernel) rfl
theorem wl_1643 : Jvm.Cond.instanceMethod ({ cls := "JetTreesModel", name := "step", desc := "(III)I" } : Jvm.MethodName) ∈ zTbl := zIn 1643 (by decide +kernel) rfl
theorem wl_1644 : Jvm.Cond.selects "JetTreesModel" ({ cls := "JetTreesModel", name := "step", desc := "(III)I" } : Jvm.MethodName) ({ cls := "JetTreesModel", name := "step", desc := "(III)I" } : Jvm.MethodName) ∈ zTbl := zIn 1644 (by decide +kernel) rfl
theorem wl_1645 : Jvm.Cond.code ({ cls := "JetTreesModel", name := "step", desc := "(III)I" } : Jvm.MethodName) prog_14_method_75_code (4 : Nat) (Option.some Jvm.ClassFile.FieldType.int) ∈ zTbl := zIn 1645 (by decide +kernel) rfl
theorem wl_1646 : Jvm.Cond.methodLink "JetTreesModel" (251 : Nat) ({ cls := "JetTreesModel", name := "isStep", desc := "(II)Z" } : Jvm.MethodName) ∈ zTbl := zIn 1646 (by decide +kernel) rfl
theorem wl_1648 : Jvm.Cond.instanceMethod ({ cls := "JetTreesModel", name := "isStep", desc := "(II)Z" } : Jvm.MethodName) ∈ zTbl := zIn 1648 (by decide +kernel) rfl
theorem wl_1649 : Jvm.Cond.code ({ cls := "JetTreesModel", name := "isStep", desc := "(II)Z" } : Jvm.MethodName) prog_14_method_74_code (3 : Nat) (Option.some Jvm.ClassFile.FieldType.boolean) ∈ zTbl := zIn 1649 (by decide +kernel) rfl
theorem wl_1650 : Jvm.Cond.methodLink "JetTreesModel" (248 : Nat) ({ cls := "JetTreesModel", name := "stepsOf", desc := "(I)I" } : Jvm.MethodName) ∈ zTbl := zIn 1650 (by decide +kernel) rfl
theorem wl_1652 : Jvm.Cond.instanceMethod ({ cls := "JetTreesModel", name := "stepsOf", desc := "(I)I" } : Jvm.MethodName) ∈ zTbl := zIn 1652 (by decide +kernel) rfl
theorem wl_1653 : Jvm.Cond.code ({ cls := "JetTreesModel", name := "stepsOf", desc := "(I)I" } : Jvm.MethodName) prog_14_method_21_code (2 : Nat) (Option.some Jvm.ClassFile.FieldType.int) ∈ zTbl := zIn 1653 (by decide +kernel) rfl
theorem wl_1654 : Jvm.Cond.methodLink "JetTreesLaw" (114 : Nat) ({ cls := "JetTreesModel", name := "up", desc := "(II)J" } : Jvm.MethodName) ∈ zTbl := zIn 1654 (by decide +kernel) rfl
theorem wl_1655 : Jvm.Cond.instanceMethod ({ cls := "JetTreesModel", name := "up", desc := "(II)J" } : Jvm.MethodName) ∈ zTbl := zIn 1655 (by decide +kernel) rfl
theorem wl_1656 : Jvm.Cond.selects "JetTreesModel" ({ cls := "JetTreesModel", name := "up", desc := "(II)J" } : Jvm.MethodName) ({ cls := "JetTreesModel", name := "up", desc := "(II)J" } : Jvm.MethodName) ∈ zTbl := zIn 1656 (by decide +kernel) rfl
theorem wl_1657 : Jvm.Cond.code ({ cls := "JetTreesModel", name := "up", desc := "(II)J" } : Jvm.MethodName) prog_14_method_79_code (5 : Nat) (Option.some Jvm.ClassFile.FieldType.long) ∈ zTbl := zIn 1657 (by decide +kernel) rfl
theorem wl_1658 : Jvm.Cond.constantLong "JetTreesModel" (254 : Nat) (-1 : Int64) ∈ zTbl := zIn 1658 (by decide +kernel) rfl
theorem wl_1659 : Jvm.Cond.methodLink "JetTreesModel" (256 : Nat) ({ cls := "JetTreesModel", name := "layOf", desc := "(I)V" } : Jvm.MethodName) ∈ zTbl := zIn 1659 (by decide +kernel) rfl
theorem wl_1661 : Jvm.Cond.instanceMethod ({ cls := "JetTreesModel", name := "layOf", desc := "(I)V" } : Jvm.MethodName) ∈ zTbl := zIn 1661 (by decide +kernel) rfl
theorem wl_1662 : Jvm.Cond.code ({ cls := "JetTreesModel", name := "layOf", desc := "(I)V" } : Jvm.MethodName) prog_14_method_76_code (3 : Nat) (Option.none : Option Jvm.ClassFile.FieldType) ∈ zTbl := zIn 1662 (by decide +kernel) rfl
theorem wl_1663 : Jvm.Cond.methodLink "JetTreesModel" (259 : Nat) ({ cls := "JetTreesModel", name := "upOfStep", desc := "(II)J" } : Jvm.MethodName) ∈ zTbl := zIn 1663 (by decide +kernel) rfl
theorem wl_1665 : Jvm.Cond.instanceMethod ({ cls := "JetTreesModel", name := "upOfStep", desc := "(II)J" } : Jvm.MethodName) ∈ zTbl := zIn 1665 (by decide +kernel) rfl
theorem wl_1666 : Jvm.Cond.code ({ cls := "JetTreesModel", name := "upOfStep", desc := "(II)J" } : Jvm.MethodName) prog_14_method_77_code (3 : Nat) (Option.some Jvm.ClassFile.FieldType.long) ∈ zTbl := zIn 1666 (by decide +kernel) rfl
theorem wl_1667 : Jvm.Cond.methodLink "JetTreesModel" (262 : Nat) ({ cls := "JetTreesModel", name := "downOfStep", desc := "(II)J" } : Jvm.MethodName) ∈ zTbl := zIn 1667 (by decide +kernel) rfl
theorem wl_1669 : Jvm.Cond.instanceMethod ({ cls := "JetTreesModel", name := "downOfStep", desc := "(II)J" } : Jvm.MethodName) ∈ zTbl := zIn 1669 (by decide +kernel) rfl
theorem wl_1670 : Jvm.Cond.code ({ cls := "JetTreesModel", name := "downOfStep", desc := "(II)J" } : Jvm.MethodName) prog_14_method_78_code (3 : Nat) (Option.some Jvm.ClassFile.FieldType.long) ∈ zTbl := zIn 1670 (by decide +kernel) rfl
theorem wl_1671 : Jvm.Cond.methodLink "JetTreesModel" (265 : Nat) ({ cls := "JetTreesModel", name := "common", desc := "(JJ)J" } : Jvm.MethodName) ∈ zTbl := zIn 1671 (by decide +kernel) rfl
theorem wl_1672 : Jvm.Cond.static ({ cls := "JetTreesModel", name := "common", desc := "(JJ)J" } : Jvm.MethodName) ∈ zTbl := zIn 1672 (by decide +kernel) rfl
theorem wl_1673 : Jvm.Cond.code ({ cls := "JetTreesModel", name := "common", desc := "(JJ)J" } : Jvm.MethodName) prog_14_method_24_code (10 : Nat) (Option.some Jvm.ClassFile.FieldType.long) ∈ zTbl := zIn 1673 (by decide +kernel) rfl
theorem wl_1674 : Jvm.Cond.methodLink "JetTreesLaw" (118 : Nat) ({ cls := "JetTreesModel", name := "down", desc := "(II)J" } : Jvm.MethodName) ∈ zTbl := zIn 1674 (by decide +kernel) rfl
theorem wl_1675 : Jvm.Cond.instanceMethod ({ cls := "JetTreesModel", name := "down", desc := "(II)J" } : Jvm.MethodName) ∈ zTbl := zIn 1675 (by decide +kernel) rfl
theorem wl_1676 : Jvm.Cond.selects "JetTreesModel" ({ cls := "JetTreesModel", name := "down", desc := "(II)J" } : Jvm.MethodName) ({ cls := "JetTreesModel", name := "down", desc := "(II)J" } : Jvm.MethodName) ∈ zTbl := zIn 1676 (by decide +kernel) rfl
theorem wl_1677 : Jvm.Cond.code ({ cls := "JetTreesModel", name := "down", desc := "(II)J" } : Jvm.MethodName) prog_14_method_80_code (5 : Nat) (Option.some Jvm.ClassFile.FieldType.long) ∈ zTbl := zIn 1677 (by decide +kernel) rfl
theorem wl_1678 : Jvm.Cond.methodLink "JetTreesLaw" (122 : Nat) ({ cls := "JetTreesModel", name := "leaves", desc := "(II)J" } : Jvm.MethodName) ∈ zTbl := zIn 1678 (by decide +kernel) rfl
theorem wl_1679 : Jvm.Cond.instanceMethod ({ cls := "JetTreesModel", name := "leaves", desc := "(II)J" } : Jvm.MethodName) ∈ zTbl := zIn 1679 (by decide +kernel) rfl
theorem wl_1680 : Jvm.Cond.selects "JetTreesModel" ({ cls := "JetTreesModel", name := "leaves", desc := "(II)J" } : Jvm.MethodName) ({ cls := "JetTreesModel", name := "leaves", desc := "(II)J" } : Jvm.MethodName) ∈ zTbl := zIn 1680 (by decide +kernel) rfl
theorem wl_1681 : Jvm.Cond.code ({ cls := "JetTreesModel", name := "leaves", desc := "(II)J" } : Jvm.MethodName) prog_14_method_82_code (3 : Nat) (Option.some Jvm.ClassFile.FieldType.long) ∈ zTbl := zIn 1681 (by decide +kernel) rfl
theorem wl_1682 : Jvm.Cond.methodLink "JetTreesLaw" (126 : Nat) ({ cls := "JetTreesModel", name := "jet", desc := "(II)I" } : Jvm.MethodName) ∈ zTbl := zIn 1682 (by decide +kernel) rfl
theorem wl_1683 : Jvm.Cond.instanceMethod ({ cls := "JetTreesModel", name := "jet", desc := "(II)I" } : Jvm.MethodName) ∈ zTbl := zIn 1683 (by decide +kernel) rfl
theorem wl_1684 : Jvm.Cond.selects "JetTreesModel" ({ cls := "JetTreesModel", name := "jet", desc := "(II)I" } : Jvm.MethodName) ({ cls := "JetTreesModel", name := "jet", desc := "(II)I" } : Jvm.MethodName) ∈ zTbl := zIn 1684 (by decide +kernel) rfl
theorem wl_1685 : Jvm.Cond.code ({ cls := "JetTreesModel", name := "jet", desc := "(II)I" } : Jvm.MethodName) prog_14_method_87_code (3 : Nat) (Option.some Jvm.ClassFile.FieldType.int) ∈ zTbl := zIn 1685 (by decide +kernel) rfl
theorem wl_1686 : Jvm.Cond.methodLink "JetTreesModel" (281 : Nat) ({ cls := "JetTreesModel", name := "jetBy", desc := "(II)I" } : Jvm.MethodName) ∈ zTbl := zIn 1686 (by decide +kernel) rfl
theorem wl_1688 : Jvm.Cond.instanceMethod ({ cls := "JetTreesModel", name := "jetBy", desc := "(II)I" } : Jvm.MethodName) ∈ zTbl := zIn 1688 (by decide +kernel) rfl
theorem wl_1689 : Jvm.Cond.code ({ cls := "JetTreesModel", name := "jetBy", desc := "(II)I" } : Jvm.MethodName) prog_14_method_86_code (7 : Nat) (Option.some Jvm.ClassFile.FieldType.int) ∈ zTbl := zIn 1689 (by decide +kernel) rfl
theorem wl_1690 : Jvm.Cond.methodLink "JetTreesModel" (275 : Nat) ({ cls := "JetTreesModel", name := "isJet", desc := "(II)Z" } : Jvm.MethodName) ∈ zTbl := zIn 1690 (by decide +kernel) rfl
theorem wl_1692 : Jvm.Cond.instanceMethod ({ cls := "JetTreesModel", name := "isJet", desc := "(II)Z" } : Jvm.MethodName) ∈ zTbl := zIn 1692 (by decide +kernel) rfl
theorem wl_1693 : Jvm.Cond.code ({ cls := "JetTreesModel", name := "isJet", desc := "(II)Z" } : Jvm.MethodName) prog_14_method_83_code (3 : Nat) (Option.some Jvm.ClassFile.FieldType.boolean) ∈ zTbl := zIn 1693 (by decide +kernel) rfl
theorem wl_1694 : Jvm.Cond.methodLink "JetTreesModel" (278 : Nat) ({ cls := "JetTreesModel", name := "isHeavier", desc := "(III)Z" } : Jvm.MethodName) ∈ zTbl := zIn 1694 (by decide +kernel) rfl
theorem wl_1696 : Jvm.Cond.instanceMethod ({ cls := "JetTreesModel", name := "isHeavier", desc := "(III)Z" } : Jvm.MethodName) ∈ zTbl := zIn 1696 (by decide +kernel) rfl
theorem wl_1697 : Jvm.Cond.code ({ cls := "JetTreesModel", name := "isHeavier", desc := "(III)Z" } : Jvm.MethodName) prog_14_method_85_code (4 : Nat) (Option.some Jvm.ClassFile.FieldType.boolean) ∈ zTbl := zIn 1697 (by decide +kernel) rfl
theorem wl_1698 : Jvm.Cond.methodLink "JetTreesModel" (272 : Nat) ({ cls := "JetTreesModel", name := "isAheadIn", desc := "(III)Z" } : Jvm.MethodName) ∈ zTbl := zIn 1698 (by decide +kernel) rfl
theorem wl_1700 : Jvm.Cond.instanceMethod ({ cls := "JetTreesModel", name := "isAheadIn", desc := "(III)Z" } : Jvm.MethodName) ∈ zTbl := zIn 1700 (by decide +kernel) rfl
theorem wl_1701 : Jvm.Cond.code ({ cls := "JetTreesModel", name := "isAheadIn", desc := "(III)Z" } : Jvm.MethodName) prog_14_method_84_code (5 : Nat) (Option.some Jvm.ClassFile.FieldType.boolean) ∈ zTbl := zIn 1701 (by decide +kernel) rfl
theorem wl_1702 : Jvm.Cond.methodLink "JetTreesLaw" (130 : Nat) ({ cls := "JetTreesModel", name := "jetOf", desc := "(II)I" } : Jvm.MethodName) ∈ zTbl := zIn 1702 (by decide +kernel) rfl
theorem wl_1703 : Jvm.Cond.instanceMethod ({ cls := "JetTreesModel", name := "jetOf", desc := "(II)I" } : Jvm.MethodName) ∈ zTbl := zIn 1703 (by decide +kernel) rfl
theorem wl_1704 : Jvm.Cond.selects "JetTreesModel" ({ cls := "JetTreesModel", name := "jetOf", desc := "(II)I" } : Jvm.MethodName) ({ cls := "JetTreesModel", name := "jetOf", desc := "(II)I" } : Jvm.MethodName) ∈ zTbl := zIn 1704 (by decide +kernel) rfl
theorem wl_1705 : Jvm.Cond.code ({ cls := "JetTreesModel", name := "jetOf", desc := "(II)I" } : Jvm.MethodName) prog_14_method_88_code (4 : Nat) (Option.some Jvm.ClassFile.FieldType.int) ∈ zTbl := zIn 1705 (by decide +kernel) rfl
theorem wl_1706 : Jvm.Cond.methodLink "JetTreesLaw" (134 : Nat) ({ cls := "JetTreesModel", name := "left", desc := "(III)I" } : Jvm.MethodName) ∈ zTbl := zIn 1706 (by decide +kernel) rfl
theorem wl_1707 : Jvm.Cond.instanceMethod ({ cls := "JetTreesModel", name := "left", desc := "(III)I" } : Jvm.MethodName) ∈ zTbl := zIn 1707 (by decide +kernel) rfl
theorem wl_1708 : Jvm.Cond.selects "JetTreesModel" ({ cls := "JetTreesModel", name := "left", desc := "(III)I" } : Jvm.MethodName) ({ cls := "JetTreesModel", name := "left", desc := "(III)I" } : Jvm.MethodName) ∈ zTbl := zIn 1708 (by decide +kernel) rfl
theorem wl_1709 : Jvm.Cond.code ({ cls := "JetTreesModel", name := "left", desc := "(III)I" } : Jvm.MethodName) prog_14_method_91_code (4 : Nat) (Option.some Jvm.ClassFile.FieldType.int) ∈ zTbl := zIn 1709 (by decide +kernel) rfl
theorem wl_1710 : Jvm.Cond.methodLink "JetTreesModel" (284 : Nat) ({ cls := "JetTreesModel", name := "layStanding", desc := "(IIZ)V" } : Jvm.MethodName) ∈ zTbl := zIn 1710 (by decide +kernel) rfl
theorem wl_1712 : Jvm.Cond.instanceMethod ({ cls := "JetTreesModel", name := "layStanding", desc := "(IIZ)V" } : Jvm.MethodName) ∈ zTbl := zIn 1712 (by decide +kernel) rfl
theorem wl_1713 : Jvm.Cond.code ({ cls := "JetTreesModel", name := "layStanding", desc := "(IIZ)V" } : Jvm.MethodName) prog_14_method_89_code (8 : Nat) (Option.none : Option Jvm.ClassFile.FieldType) ∈ zTbl := zIn 1713 (by decide +kernel) rfl
theorem wl_1714 : Jvm.Cond.methodLink "JetTreesModel" (288 : Nat) ({ cls := "JetTreesModel", name := "ofRow", desc := "(I)I" } : Jvm.MethodName) ∈ zTbl := zIn 1714 (by decide +kernel) rfl
theorem wl_1716 : Jvm.Cond.instanceMethod ({ cls := "JetTreesModel", name := "ofRow", desc := "(I)I" } : Jvm.MethodName) ∈ zTbl := zIn 1716 (by decide +kernel) rfl
theorem wl_1717 : Jvm.Cond.code ({ cls := "JetTreesModel", name := "ofRow", desc := "(I)I" } : Jvm.MethodName) prog_14_method_90_code (2 : Nat) (Option.some Jvm.ClassFile.FieldType.int) ∈ zTbl := zIn 1717 (by decide +kernel) rfl
theorem wl_1718 : Jvm.Cond.methodLink "JetTreesLaw" (138 : Nat) ({ cls := "JetTreesModel", name := "cut", desc := "(III)I" } : Jvm.MethodName) ∈ zTbl := zIn 1718 (by decide +kernel) rfl
theorem wl_1719 : Jvm.Cond.instanceMethod ({ cls := "JetTreesModel", name := "cut", desc := "(III)I" } : Jvm.MethodName) ∈ zTbl := zIn 1719 (by decide +kernel) rfl
theorem wl_1720 : Jvm.Cond.selects "JetTreesModel" ({ cls := "JetTreesModel", name := "cut", desc := "(III)I" } : Jvm.MethodName) ({ cls := "JetTreesModel", name := "cut", desc := "(III)I" } : Jvm.MethodName) ∈ zTbl := zIn 1720 (by decide +kernel) rfl
theorem wl_1721 : Jvm.Cond.code ({ cls := "JetTreesModel", name := "cut", desc := "(III)I" } : Jvm.MethodName) prog_14_method_94_code (4 : Nat) (Option.some Jvm.ClassFile.FieldType.int) ∈ zTbl := zIn 1721 (by decide +kernel) rfl
theorem wl_1722 : Jvm.Cond.methodLink "JetTreesModel" (294 : Nat) ({ cls := "JetTreesModel", name := "isCut", desc := "(II)Z" } : Jvm.MethodName) ∈ zTbl := zIn 1722 (by decide +kernel) rfl
theorem wl_1724 : Jvm.Cond.instanceMethod ({ cls := "JetTreesModel", name := "isCut", desc := "(II)Z" } : Jvm.MethodName) ∈ zTbl := zIn 1724 (by decide +kernel) rfl
theorem wl_1725 : Jvm.Cond.code ({ cls := "JetTreesModel", name := "isCut", desc := "(II)Z" } : Jvm.MethodName) prog_14_method_93_code (3 : Nat) (Option.some Jvm.ClassFile.FieldType.boolean) ∈ zTbl := zIn 1725 (by decide +kernel) rfl
theorem wl_1726 : Jvm.Cond.methodLink "JetTreesModel" (291 : Nat) ({ cls := "JetTreesModel", name := "stepsTo", desc := "(II)I" } : Jvm.MethodName) ∈ zTbl := zIn 1726 (by decide +kernel) rfl
theorem wl_1728 : Jvm.Cond.instanceMethod ({ cls := "JetTreesModel", name := "stepsTo", desc := "(II)I" } : Jvm.MethodName) ∈ zTbl := zIn 1728 (by decide +kernel) rfl
theorem wl_1729 : Jvm.Cond.code ({ cls := "JetTreesModel", name := "stepsTo", desc := "(II)I" } : Jvm.MethodName) prog_14_method_92_code (5 : Nat) (Option.some Jvm.ClassFile.FieldType.int) ∈ zTbl := zIn 1729 (by decide +kernel) rfl
theorem wl_1730 : Jvm.Cond.methodLink "JetTreesLaw" (142 : Nat) ({ cls := "JetTreesModel", name := "cutBy", desc := "(IIII)I" } : Jvm.MethodName) ∈ zTbl := zIn 1730 (by decide +kernel) rfl
theorem wl_1731 : Jvm.Cond.instanceMethod ({ cls := "JetTreesModel", name := "cutBy", desc := "(IIII)I" } : Jvm.MethodName) ∈ zTbl := zIn 1731 (by decide +kernel) rfl
theorem wl_1732 : Jvm.Cond.selects "JetTreesModel" ({ cls := "JetTreesModel", name := "cutBy", desc := "(IIII)I" } : Jvm.MethodName) ({ cls := "JetTreesModel", name := "cutBy", desc := "(IIII)I" } : Jvm.MethodName) ∈ zTbl := zIn 1732 (by decide +kernel) rfl
theorem wl_1733 : Jvm.Cond.code ({ cls := "JetTreesModel", name := "cutBy", desc := "(IIII)I" } : Jvm.MethodName) prog_14_method_95_code (6 : Nat) (Option.some Jvm.ClassFile.FieldType.int) ∈ zTbl := zIn 1733 (by decide +kernel) rfl
theorem wl_1734 : Jvm.Cond.methodLink "JetTreesLaw" (146 : Nat) ({ cls := "JetTreesModel", name := "together", desc := "(III)I" } : Jvm.MethodName) ∈ zTbl := zIn 1734 (by decide +kernel) rfl
theorem wl_1735 : Jvm.Cond.instanceMethod ({ cls := "JetTreesModel", name := "together", desc := "(III)I" } : Jvm.MethodName) ∈ zTbl := zIn 1735 (by decide +kernel) rfl
theorem wl_1736 : Jvm.Cond.selects "JetTreesModel" ({ cls := "JetTreesModel", name := "together", desc := "(III)I" } : Jvm.MethodName) ({ cls := "JetTreesModel", name := "together", desc := "(III)I" } : Jvm.MethodName) ∈ zTbl := zIn 1736 (by decide +kernel) rfl
theorem wl_1737 : Jvm.Cond.code ({ cls := "JetTreesModel", name := "together", desc := "(III)I" } : Jvm.MethodName) prog_14_method_96_code (7 : Nat) (Option.some Jvm.ClassFile.FieldType.int) ∈ zTbl := zIn 1737 (by decide +kernel) rfl
theorem wl_1738 : Jvm.Cond.methodLink "JetTreesLaw" (54 : Nat) ({ cls := "JetTreesModel", name := "keep", desc := "(III)I" } : Jvm.MethodName) ∈ zTbl := zIn 1738 (by decide +kernel) rfl
theorem wl_1739 : Jvm.Cond.instanceMethod ({ cls := "JetTreesModel", name := "keep", desc := "(III)I" } : Jvm.MethodName) ∈ zTbl := zIn 1739 (by decide +kernel) rfl
theorem wl_1740 : Jvm.Cond.selects "JetTreesModel" ({ cls := "JetTreesModel", name := "keep", desc := "(III)I" } : Jvm.MethodName) ({ cls := "JetTreesModel", name := "keep", desc := "(III)I" } : Jvm.MethodName) ∈ zTbl := zIn 1740 (by decide +kernel) rfl
theorem wl_1741 : Jvm.Cond.code ({ cls := "JetTreesModel", name := "keep", desc := "(III)I" } : Jvm.MethodName) prog_14_method_100_code (8 : Nat) (Option.some Jvm.ClassFile.FieldType.int) ∈ zTbl := zIn 1741 (by decide +kernel) rfl
theorem wl_1742 : Jvm.Cond.methodLink "JetTreesModel" (302 : Nat) ({ cls := "JetTreesModel", name := "isPlaceOfCut", desc := "(I)Z" } : Jvm.MethodName) ∈ zTbl := zIn 1742 (by decide +kernel) rfl
theorem wl_1743 : Jvm.Cond.static ({ cls := "JetTreesModel", name := "isPlaceOfCut", desc := "(I)Z" } : Jvm.MethodName) ∈ zTbl := zIn 1743 (by decide +kernel) rfl
theorem wl_1744 : Jvm.Cond.code ({ cls := "JetTreesModel", name := "isPlaceOfCut", desc := "(I)Z" } : Jvm.MethodName) prog_14_method_99_code (1 : Nat) (Option.some Jvm.ClassFile.FieldType.boolean) ∈ zTbl := zIn 1744 (by decide +kernel) rfl
theorem wl_1745 : Jvm.Cond.methodLink "JetTreesModel" (305 : Nat) ({ cls := "JetTreesModel", name := "cut", desc := "(III)I" } : Jvm.MethodName) ∈ zTbl := zIn 1745 (by decide +kernel) rfl
theorem wl_1746 : Jvm.Cond.methodLink "JetTreesModel" (297 : Nat) ({ cls := "JetTreesModel", name := "cutAt", desc := "(I)I" } : Jvm.MethodName) ∈ zTbl := zIn 1746 (by decide +kernel) rfl
theorem wl_1747 : Jvm.Cond.static ({ cls := "JetTreesModel", name := "cutAt", desc := "(I)I" } : Jvm.MethodName) ∈ zTbl := zIn 1747 (by decide +kernel) rfl
theorem wl_1748 : Jvm.Cond.code ({ cls := "JetTreesModel", name := "cutAt", desc := "(I)I" } : Jvm.MethodName) prog_14_method_97_code (1 : Nat) (Option.some Jvm.ClassFile.FieldType.int) ∈ zTbl := zIn 1748 (by decide +kernel) rfl
theorem wl_1749 : Jvm.Cond.methodLink "JetTreesLaw" (175 : Nat) ({ cls := "JetTreesModel", name := "kept", desc := "(II)J" } : Jvm.MethodName) ∈ zTbl := zIn 1749 (by decide +kernel) rfl
theorem wl_1750 : Jvm.Cond.instanceMethod ({ cls := "JetTreesModel", name := "kept", desc := "(II)J" } : Jvm.MethodName) ∈ zTbl := zIn 1750 (by decide +kernel) rfl
theorem wl_1751 : Jvm.Cond.selects "JetTreesModel" ({ cls := "JetTreesModel", name := "kept", desc := "(II)J" } : Jvm.MethodName) ({ cls := "JetTreesModel", name := "kept", desc := "(II)J" } : Jvm.MethodName) ∈ zTbl := zIn 1751 (by decide +kernel) rfl
theorem wl_1752 : Jvm.Cond.code ({ cls := "JetTreesModel", name := "kept", desc := "(II)J" } : Jvm.MethodName) prog_14_method_102_code (3 : Nat) (Option.some Jvm.ClassFile.FieldType.long) ∈ zTbl := zIn 1752 (by decide +kernel) rfl
theorem wl_1753 : Jvm.Cond.methodLink "JetTreesModel" (308 : Nat) ({ cls := "JetTreesModel", name := "isKept", desc := "(I)Z" } : Jvm.MethodName) ∈ zTbl := zIn 1753 (by decide +kernel) rfl
theorem wl_1755 : Jvm.Cond.instanceMethod ({ cls := "JetTreesModel", name := "isKept", desc := "(I)Z" } : Jvm.MethodName) ∈ zTbl := zIn 1755 (by decide +kernel) rfl
theorem wl_1756 : Jvm.Cond.code ({ cls := "JetTreesModel", name := "isKept", desc := "(I)Z" } : Jvm.MethodName) prog_14_method_101_code (2 : Nat) (Option.some Jvm.ClassFile.FieldType.boolean) ∈ zTbl := zIn 1756 (by decide +kernel) rfl
theorem wl_1757 : Jvm.Cond.methodLink "JetTreesModel" (311 : Nat) ({ cls := "JetTreesModel", name := "keptAt", desc := "(II)J" } : Jvm.MethodName) ∈ zTbl := zIn 1757 (by decide +kernel) rfl
theorem wl_1759 : Jvm.Cond.instanceMethod ({ cls := "JetTreesModel", name := "keptAt", desc := "(II)J" } : Jvm.MethodName) ∈ zTbl := zIn 1759 (by decide +kernel) rfl
theorem wl_1760 : Jvm.Cond.code ({ cls := "JetTreesModel", name := "keptAt", desc := "(II)J" } : Jvm.MethodName) prog_14_method_98_code (4 : Nat) (Option.some Jvm.ClassFile.FieldType.long) ∈ zTbl := zIn 1760 (by decide +kernel) rfl
theorem wl_1761 : Jvm.Cond.constantLong "JetTreesModel" (300 : Nat) (4294967295 : Int64) ∈ zTbl := zIn 1761 (by decide +kernel) rfl
theorem wl_1762 : Jvm.Cond.methodLink "JetTreesLaw" (179 : Nat) ({ cls := "JetTreesModel", name := "within", desc := "(II)Z" } : Jvm.MethodName) ∈ zTbl := zIn 1762 (by decide +kernel) rfl
theorem wl_1763 : Jvm.Cond.instanceMethod ({ cls := "JetTreesModel", name := "within", desc := "(II)Z" } : Jvm.MethodName) ∈ zTbl := zIn 1763 (by decide +kernel) rfl
theorem wl_1764 : Jvm.Cond.selects "JetTreesModel" ({ cls := "JetTreesModel", name := "within", desc := "(II)Z" } : Jvm.MethodName) ({ cls := "JetTreesModel", name := "within", desc := "(II)Z" } : Jvm.MethodName) ∈ zTbl := zIn 1764 (by decide +kernel) rfl
theorem wl_1765 : Jvm.Cond.code ({ cls := "JetTreesModel", name := "within", desc := "(II)Z" } : Jvm.MethodName) prog_14_method_104_code (4 : Nat) (Option.some Jvm.ClassFile.FieldType.boolean) ∈ zTbl := zIn 1765 (by decide +kernel) rfl
theorem wl_1766 : Jvm.Cond.methodLink "JetTreesModel" (314 : Nat) ({ cls := "JetTreesModel", name := "isInOne", desc := "(IJ)Z" } : Jvm.MethodName) ∈ zTbl := zIn 1766 (by decide +kernel) rfl
theorem wl_1768 : Jvm.Cond.instanceMethod ({ cls := "JetTreesModel", name := "isInOne", desc := "(IJ)Z" } : Jvm.MethodName) ∈ zTbl := zIn 1768 (by decide +kernel) rfl
theorem wl_1769 : Jvm.Cond.code ({ cls := "JetTreesModel", name := "isInOne", desc := "(IJ)Z" } : Jvm.MethodName) prog_14_method_103_code (5 : Nat) (Option.some Jvm.ClassFile.FieldType.boolean) ∈ zTbl := zIn 1769 (by decide +kernel) rfl
theorem wl_1770 : Jvm.Cond.methodLink "JetTreesLaw" (150 : Nat) ({ cls := "JetTreesModel", name := "groom", desc := "(IIII)I" } : Jvm.MethodName) ∈ zTbl := zIn 1770 (by decide +kernel) rfl
theorem wl_1771 : Jvm.Cond.instanceMethod ({ cls := "JetTreesModel", name := "groom", desc := "(IIII)I" } : Jvm.MethodName) ∈ zTbl := zIn 1771 (by decide +kernel) rfl
theorem wl_1772 : Jvm.Cond.selects "JetTreesModel" ({ cls := "JetTreesModel", name := "groom", desc := "(IIII)I" } : Jvm.MethodName) ({ cls := "JetTreesModel", name := "groom", desc := "(IIII)I" } : Jvm.MethodName) ∈ zTbl := zIn 1772 (by decide +kernel) rfl
theorem wl_1773 : Jvm.Cond.code ({ cls := "JetTreesModel", name := "groom", desc := "(IIII)I" } : Jvm.MethodName) prog_14_method_110_code (6 : Nat) (Option.some Jvm.ClassFile.FieldType.int) ∈ zTbl := zIn 1773 (by decide +kernel) rfl
theorem wl_1774 : Jvm.Cond.methodLink "JetTreesModel" (324 : Nat) ({ cls := "JetTreesModel", name := "isMille", desc := "(I)Z" } : Jvm.MethodName) ∈ zTbl := zIn 1774 (by decide +kernel) rfl
theorem wl_1775 : Jvm.Cond.static ({ cls := "JetTreesModel", name := "isMille", desc := "(I)Z" } : Jvm.MethodName) ∈ zTbl := zIn 1775 (by decide +kernel) rfl
theorem wl_1776 : Jvm.Cond.code ({ cls := "JetTreesModel", name := "isMille", desc := "(I)Z" } : Jvm.MethodName) prog_14_method_108_code (1 : Nat) (Option.some Jvm.ClassFile.FieldType.boolean) ∈ zTbl := zIn 1776 (by decide +kernel) rfl
theorem wl_1777 : Jvm.Cond.methodLink "JetTreesModel" (327 : Nat) ({ cls := "JetTreesModel", name := "isWeak", desc := "(IIII)Z" } : Jvm.MethodName) ∈ zTbl := zIn 1777 (by decide +kernel) rfl
theorem wl_1779 : Jvm.Cond.instanceMethod ({ cls := "JetTreesModel", name := "isWeak", desc := "(IIII)Z" } : Jvm.MethodName) ∈ zTbl := zIn 1779 (by decide +kernel) rfl
theorem wl_1780 : Jvm.Cond.code ({ cls := "JetTreesModel", name := "isWeak", desc := "(IIII)Z" } : Jvm.MethodName) prog_14_method_107_code (11 : Nat) (Option.some Jvm.ClassFile.FieldType.boolean) ∈ zTbl := zIn 1780 (by decide +kernel) rfl
theorem wl_1781 : Jvm.Cond.methodLink "JetTreesModel" (318 : Nat) ({ cls := "JetTreesModel", name := "partOf", desc := "(III)I" } : Jvm.MethodName) ∈ zTbl := zIn 1781 (by decide +kernel) rfl
theorem wl_1783 : Jvm.Cond.instanceMethod ({ cls := "JetTreesModel", name := "partOf", desc := "(III)I" } : Jvm.MethodName) ∈ zTbl := zIn 1783 (by decide +kernel) rfl
theorem wl_1784 : Jvm.Cond.code ({ cls := "JetTreesModel", name := "partOf", desc := "(III)I" } : Jvm.MethodName) prog_14_method_105_code (7 : Nat) (Option.some Jvm.ClassFile.FieldType.int) ∈ zTbl := zIn 1784 (by decide +kernel) rfl
theorem wl_1785 : Jvm.Cond.methodLink "JetTreesModel" (321 : Nat) ({ cls := "JetTreesModel", name := "squareOfParts", desc := "(II)J" } : Jvm.MethodName) ∈ zTbl := zIn 1785 (by decide +kernel) rfl
theorem wl_1787 : Jvm.Cond.instanceMethod ({ cls := "JetTreesModel", name := "squareOfParts", desc := "(II)J" } : Jvm.MethodName) ∈ zTbl := zIn 1787 (by decide +kernel) rfl
theorem wl_1788 : Jvm.Cond.code ({ cls := "JetTreesModel", name := "squareOfParts", desc := "(II)J" } : Jvm.MethodName) prog_14_method_106_code (5 : Nat) (Option.some Jvm.ClassFile.FieldType.long) ∈ zTbl := zIn 1788 (by decide +kernel) rfl
theorem wl_1789 : Jvm.Cond.methodLink "JetTreesLaw" (155 : Nat) ({ cls := "JetTreesModel", name := "trim", desc := "(IIII)J" } : Jvm.MethodName) ∈ zTbl := zIn 1789 (by decide +kernel) rfl
theorem wl_1790 : Jvm.Cond.instanceMethod ({ cls := "JetTreesModel", name := "trim", desc := "(IIII)J" } : Jvm.MethodName) ∈ zTbl := zIn 1790 (by decide +kernel) rfl
theorem wl_1791 : Jvm.Cond.selects "JetTreesModel" ({ cls := "JetTreesModel", name := "trim", desc := "(IIII)J" } : Jvm.MethodName) ({ cls := "JetTreesModel", name := "trim", desc := "(IIII)J" } : Jvm.MethodName) ∈ zTbl := zIn 1791 (by decide +kernel) rfl
theorem wl_1792 : Jvm.Cond.code ({ cls := "JetTreesModel", name := "trim", desc := "(IIII)J" } : Jvm.MethodName) prog_14_method_113_code (11 : Nat) (Option.some Jvm.ClassFile.FieldType.long) ∈ zTbl := zIn 1792 (by decide +kernel) rfl
theorem wl_1793 : Jvm.Cond.methodLink "JetTreesModel" (334 : Nat) ({ cls := "JetTreesModel", name := "isRadius", desc := "(I)Z" } : Jvm.MethodName) ∈ zTbl := zIn 1793 (by decide +kernel) rfl
theorem wl_1794 : Jvm.Cond.static ({ cls := "JetTreesModel", name := "isRadius", desc := "(I)Z" } : Jvm.MethodName) ∈ zTbl := zIn 1794 (by decide +kernel) rfl
theorem wl_1795 : Jvm.Cond.code ({ cls := "JetTreesModel", name := "isRadius", desc := "(I)Z" } : Jvm.MethodName) prog_14_method_109_code (1 : Nat) (Option.some Jvm.ClassFile.FieldType.boolean) ∈ zTbl := zIn 1795 (by decide +kernel) rfl
theorem wl_1796 : Jvm.Cond.methodLink "JetTreesModel" (337 : Nat) ({ cls := "JetTreesModel", name := "leavesOfLent", desc := "(IJ)J" } : Jvm.MethodName) ∈ zTbl := zIn 1796 (by decide +kernel) rfl
theorem wl_1798 : Jvm.Cond.instanceMethod ({ cls := "JetTreesModel", name := "leavesOfLent", desc := "(IJ)J" } : Jvm.MethodName) ∈ zTbl := zIn 1798 (by decide +kernel) rfl
theorem wl_1799 : Jvm.Cond.code ({ cls := "JetTreesModel", name := "leavesOfLent", desc := "(IJ)J" } : Jvm.MethodName) prog_14_method_112_code (7 : Nat) (Option.some Jvm.ClassFile.FieldType.long) ∈ zTbl := zIn 1799 (by decide +kernel) rfl
theorem wl_1800 : Jvm.Cond.methodLink "JetTreesModel" (330 : Nat) ({ cls := "JetTreesModel", name := "nthOf", desc := "(JI)I" } : Jvm.MethodName) ∈ zTbl := zIn 1800 (by decide +kernel) rfl
theorem wl_1801 : Jvm.Cond.static ({ cls := "JetTreesModel", name := "nthOf", desc := "(JI)I" } : Jvm.MethodName) ∈ zTbl := zIn 1801 (by decide +kernel) rfl
theorem wl_1802 : Jvm.Cond.code ({ cls := "JetTreesModel", name := "nthOf", desc := "(JI)I" } : Jvm.MethodName) prog_14_method_111_code (6 : Nat) (Option.some Jvm.ClassFile.FieldType.int) ∈ zTbl := zIn 1802 (by decide +kernel) rfl
theorem wl_1803 : Jvm.Cond.methodLink "JetTreesLaw" (159 : Nat) ({ cls := "JetTreesModel", name := "prune", desc := "(IIII)J" } : Jvm.MethodName) ∈ zTbl := zIn 1803 (by decide +kernel) rfl
theorem wl_1804 : Jvm.Cond.instanceMethod ({ cls := "JetTreesModel", name := "prune", desc := "(IIII)J" } : Jvm.MethodName) ∈ zTbl := zIn 1804 (by decide +kernel) rfl
theorem wl_1805 : Jvm.Cond.selects "JetTreesModel" ({ cls := "JetTreesModel", name := "prune", desc := "(IIII)J" } : Jvm.MethodName) ({ cls := "JetTreesModel", name := "prune", desc := "(IIII)J" } : Jvm.MethodName) ∈ zTbl := zIn 1805 (by decide +kernel) rfl
theorem wl_1806 : Jvm.Cond.code ({ cls := "JetTreesModel", name := "prune", desc := "(IIII)J" } : Jvm.MethodName) prog_14_method_114_code (10 : Nat) (Option.some Jvm.ClassFile.FieldType.long) ∈ zTbl := zIn 1806 (by decide +kernel) rfl
theorem wl_1807 : Jvm.Cond.methodLink "JetTreesLaw" (163 : Nat) ({ cls := "JetTreesModel", name := "split", desc := "(IIII)I" } : Jvm.MethodName) ∈ zTbl := zIn 1807 (by decide +kernel) rfl
theorem wl_1808 : Jvm.Cond.instanceMethod ({ cls := "JetTreesModel", name := "split", desc := "(IIII)I" } : Jvm.MethodName) ∈ zTbl := zIn 1808 (by decide +kernel) rfl
theorem wl_1809 : Jvm.Cond.selects "JetTreesModel" ({ cls := "JetTreesModel", name := "split", desc := "(IIII)I" } : Jvm.MethodName) ({ cls := "JetTreesModel", name := "split", desc := "(IIII)I" } : Jvm.MethodName) ∈ zTbl := zIn 1809 (by decide +kernel) rfl
theorem wl_1810 : Jvm.Cond.code ({ cls := "JetTreesModel", name := "split", desc := "(IIII)I" } : Jvm.MethodName) prog_14_method_115_code (7 : Nat) (Option.some Jvm.ClassFile.FieldType.int) ∈ zTbl := zIn 1810 (by decide +kernel) rfl
theorem wl_1811 : Jvm.Cond.methodLink "JetTreesLaw" (167 : Nat) ({ cls := "JetTreesModel", name := "width", desc := "(II)J" } : Jvm.MethodName) ∈ zTbl := zIn 1811 (by decide +kernel) rfl
theorem wl_1812 : Jvm.Cond.instanceMethod ({ cls := "JetTreesModel", name := "width", desc := "(II)J" } : Jvm.MethodName) ∈ zTbl := zIn 1812 (by decide +kernel) rfl
theorem wl_1813 : Jvm.Cond.selects "JetTreesModel" ({ cls := "JetTreesModel", name := "width", desc := "(II)J" } : Jvm.MethodName) ({ cls := "JetTreesModel", name := "width", desc := "(II)J" } : Jvm.MethodName) ∈ zTbl := zIn 1813 (by decide +kernel) rfl
theorem wl_1814 : Jvm.Cond.code ({ cls := "JetTreesModel", name := "width", desc := "(II)J" } : Jvm.MethodName) prog_14_method_117_code (8 : Nat) (Option.some Jvm.ClassFile.FieldType.long) ∈ zTbl := zIn 1814 (by decide +kernel) rfl
theorem wl_1815 : Jvm.Cond.methodLink "JetTreesModel" (341 : Nat) ({ cls := "JetTreesModel", name := "squareIn", desc := "(III)J" } : Jvm.MethodName) ∈ zTbl := zIn 1815 (by decide +kernel) rfl
theorem wl_1817 : Jvm.Cond.instanceMethod ({ cls := "JetTreesModel", name := "squareIn", desc := "(III)J" } : Jvm.MethodName) ∈ zTbl := zIn 1817 (by decide +kernel) rfl
theorem wl_1818 : Jvm.Cond.code ({ cls := "JetTreesModel", name := "squareIn", desc := "(III)J" } : Jvm.MethodName) prog_14_method_116_code (4 : Nat) (Option.some Jvm.ClassFile.FieldType.long) ∈ zTbl := zIn 1818 (by decide +kernel) rfl
theorem wl_1819 : Jvm.Cond.methodLink "JetTreesModel" (345 : Nat) ({ cls := "java/lang/Double", name := "doubleToLongBits", desc := "(D)J" } : Jvm.MethodName) ∈ zTbl := zIn 1819 (by decide +kernel) rfl
theorem wl_1820 : Jvm.Cond.static ({ cls := "java/lang/Double", name := "doubleToLongBits", desc := "(D)J" } : Jvm.MethodName) ∈ zTbl := zIn 1820 (by decide +kernel) rfl
theorem wl_1821 : Jvm.Cond.code ({ cls := "java/lang/Double", name := "doubleToLongBits", desc := "(D)J" } : Jvm.MethodName) prog_15_method_23_code (2 : Nat) (Option.some Jvm.ClassFile.FieldType.long) ∈ zTbl := zIn 1821 (by decide +kernel) rfl
theorem wl_1822 : Jvm.Cond.methodLink "java/lang/Double" (122 : Nat) ({ cls := "java/lang/Double", name := "isNaN", desc := "(D)Z" } : Jvm.MethodName) ∈ zTbl := zIn 1822 (by decide +kernel) rfl
theorem wl_1823 : Jvm.Cond.static ({ cls := "java/lang/Double", name := "isNaN", desc := "(D)Z" } : Jvm.MethodName) ∈ zTbl := zIn 1823 (by decide +kernel) rfl
theorem wl_1824 : Jvm.Cond.code ({ cls := "java/lang/Double", name := "isNaN", desc := "(D)Z" } : Jvm.MethodName) prog_15_method_6_code (2 : Nat) (Option.some Jvm.ClassFile.FieldType.boolean) ∈ zTbl := zIn 1824 (by decide +kernel) rfl
theorem wl_1825 : Jvm.Cond.methodLink "java/lang/Double" (134 : Nat) ({ cls := "java/lang/Double", name := "doubleToRawLongBits", desc := "(D)J" } : Jvm.MethodName) ∈ zTbl := zIn 1825 (by decide +kernel) rfl
theorem wl_1826 : Jvm.Cond.static ({ cls := "java/lang/Double", name := "doubleToRawLongBits", desc := "(D)J" } : Jvm.MethodName) ∈ zTbl := zIn 1826 (by decide +kernel) rfl
theorem wl_1827 : Jvm.Cond.native ({ cls := "java/lang/Double", name := "doubleToRawLongBits", desc := "(D)J" } : Jvm.MethodName) ∈ zTbl := zIn 1827 (by decide +kernel) rfl
theorem wl_1828 : Jvm.Cond.constantLong "java/lang/Double" (137 : Nat) (9221120237041090560 : Int64) ∈ zTbl := zIn 1828 (by decide +kernel) rfl
theorem wl_1829 : Jvm.Cond.methodLink "JetTreesLaw" (171 : Nat) ({ cls := "JetTreesModel", name := "closeness", desc := "(II)J" } : Jvm.MethodName) ∈ zTbl := zIn 1829 (by decide +kernel) rfl
theorem wl_1830 : Jvm.Cond.instanceMethod ({ cls := "JetTreesModel", name := "closeness", desc := "(II)J" } : Jvm.MethodName) ∈ zTbl := zIn 1830 (by decide +kernel) rfl
theorem wl_1831 : Jvm.Cond.selects "JetTreesModel" ({ cls := "JetTreesModel", name := "closeness", desc := "(II)J" } : Jvm.MethodName) ({ cls := "JetTreesModel", name := "closeness", desc := "(II)J" } : Jvm.MethodName) ∈ zTbl := zIn 1831 (by decide +kernel) rfl
theorem wl_1832 : Jvm.Cond.code ({ cls := "JetTreesModel", name := "closeness", desc := "(II)J" } : Jvm.MethodName) prog_14_method_118_code (9 : Nat) (Option.some Jvm.ClassFile.FieldType.long) ∈ zTbl := zIn 1832 (by decide +kernel) rfl
theorem wl_1833 : Jvm.Cond.methodLink "JetTreesLaw" (184 : Nat) ({ cls := "JetTreesModel", name := "tau", desc := "(III)J" } : Jvm.MethodName) ∈ zTbl := zIn 1833 (by decide +kernel) rfl
theorem wl_1834 : Jvm.Cond.instanceMethod ({ cls := "JetTreesModel", name := "tau", desc := "(III)J" } : Jvm.MethodName) ∈ zTbl := zIn 1834 (by decide +kernel) rfl
theorem wl_1835 : Jvm.Cond.selects "JetTreesModel" ({ cls := "JetTreesModel", name := "tau", desc := "(III)J" } : Jvm.MethodName) ({ cls := "JetTreesModel", name := "tau", desc := "(III)J" } : Jvm.MethodName) ∈ zTbl := zIn 1835 (by decide +kernel) rfl
theorem wl_1836 : Jvm.Cond.code ({ cls := "JetTreesModel", name := "tau", desc := "(III)J" } : Jvm.MethodName) prog_14_method_120_code (12 : Nat) (Option.some Jvm.ClassFile.FieldType.long) ∈ zTbl := zIn 1836 (by decide +kernel) rfl
theorem wl_1837 : Jvm.Cond.methodLink "JetTreesModel" (351 : Nat) ({ cls := "JetTreesModel", name := "layApart", desc := "(III)V" } : Jvm.MethodName) ∈ zTbl := zIn 1837 (by decide +kernel) rfl
theorem wl_1839 : Jvm.Cond.instanceMethod ({ cls := "JetTreesModel", name := "layApart", desc := "(III)V" } : Jvm.MethodName) ∈ zTbl := zIn 1839 (by decide +kernel) rfl
theorem wl_1840 : Jvm.Cond.code ({ cls := "JetTreesModel", name := "layApart", desc := "(III)V" } : Jvm.MethodName) prog_14_method_119_code (7 : Nat) (Option.none : Option Jvm.ClassFile.FieldType) ∈ zTbl := zIn 1840 (by decide +kernel) rfl
theorem wl_1841 : Jvm.Cond.methodLink "JetTreesLaw" (188 : Nat) ({ cls := "JetTreesModel", name := "matched", desc := "(III)I" } : Jvm.MethodName) ∈ zTbl := zIn 1841 (by decide +kernel) rfl
theorem wl_1842 : Jvm.Cond.instanceMethod ({ cls := "JetTreesModel", name := "matched", desc := "(III)I" } : Jvm.MethodName) ∈ zTbl := zIn 1842 (by decide +kernel) rfl
theorem wl_1843 : Jvm.Cond.selects "JetTreesModel" ({ cls := "JetTreesModel", name := "matched", desc := "(III)I" } : Jvm.MethodName) ({ cls := "JetTreesModel", name := "matched", desc := "(III)I" } : Jvm.MethodName) ∈ zTbl := zIn 1843 (by decide +kernel) rfl
theorem wl_1844 : Jvm.Cond.code ({ cls := "JetTreesModel", name := "matched", desc := "(III)I" } : Jvm.MethodName) prog_14_method_122_code (11 : Nat) (Option.some Jvm.ClassFile.FieldType.int) ∈ zTbl := zIn 1844 (by decide +kernel) rfl
theorem wl_1845 : Jvm.Cond.methodLink "JetTreesModel" (354 : Nat) ({ cls := "JetTreesModel", name := "weightsIn", desc := "(IJ)I" } : Jvm.MethodName) ∈ zTbl := zIn 1845 (by decide +kernel) rfl
theorem wl_1847 : Jvm.Cond.instanceMethod ({ cls := "JetTreesModel", name := "weightsIn", desc := "(IJ)I" } : Jvm.MethodName) ∈ zTbl := zIn 1847 (by decide +kernel) rfl
theorem wl_1848 : Jvm.Cond.code ({ cls := "JetTreesModel", name := "weightsIn", desc := "(IJ)I" } : Jvm.MethodName) prog_14_method_121_code (6 : Nat) (Option.some Jvm.ClassFile.FieldType.int) ∈ zTbl := zIn 1848 (by decide +kernel) rfl
theorem wl_1849 : Jvm.Cond.methodLink "JetTreesLaw" (196 : Nat) ({ cls := "JetTreesModel", name := "unlike", desc := "(II)I" } : Jvm.MethodName) ∈ zTbl := zIn 1849 (by decide +kernel) rfl
theorem wl_1850 : Jvm.Cond.instanceMethod ({ cls := "JetTreesModel", name := "unlike", desc := "(II)I" } : Jvm.MethodName) ∈ zTbl := zIn 1850 (by decide +kernel) rfl
theorem wl_1851 : Jvm.Cond.selects "JetTreesModel" ({ cls := "JetTreesModel", name := "unlike", desc := "(II)I" } : Jvm.MethodName) ({ cls := "JetTreesModel", name := "unlike", desc := "(II)I" } : Jvm.MethodName) ∈ zTbl := zIn 1851 (by decide +kernel) rfl
theorem wl_1852 : Jvm.Cond.code ({ cls := "JetTreesModel", name := "unlike", desc := "(II)I" } : Jvm.MethodName) prog_14_method_125_code (3 : Nat) (Option.some Jvm.ClassFile.FieldType.int) ∈ zTbl := zIn 1852 (by decide +kernel) rfl
theorem wl_1853 : Jvm.Cond.methodLink "JetTreesModel" (361 : Nat) ({ cls := "JetTreesModel", name := "unlikeOf", desc := "(II)I" } : Jvm.MethodName) ∈ zTbl := zIn 1853 (by decide +kernel) rfl
theorem wl_1855 : Jvm.Cond.instanceMethod ({ cls := "JetTreesModel", name := "unlikeOf", desc := "(II)I" } : Jvm.MethodName) ∈ zTbl := zIn 1855 (by decide +kernel) rfl
theorem wl_1856 : Jvm.Cond.code ({ cls := "JetTreesModel", name := "unlikeOf", desc := "(II)I" } : Jvm.MethodName) prog_14_method_124_code (5 : Nat) (Option.some Jvm.ClassFile.FieldType.int) ∈ zTbl := zIn 1856 (by decide +kernel) rfl
theorem wl_1857 : Jvm.Cond.methodLink "JetTreesModel" (358 : Nat) ({ cls := "JetTreesModel", name := "hasJet", desc := "(IJ)Z" } : Jvm.MethodName) ∈ zTbl := zIn 1857 (by decide +kernel) rfl
theorem wl_1859 : Jvm.Cond.instanceMethod ({ cls := "JetTreesModel", name := "hasJet", desc := "(IJ)Z" } : Jvm.MethodName) ∈ zTbl := zIn 1859 (by decide +kernel) rfl
theorem wl_1860 : Jvm.Cond.code ({ cls := "JetTreesModel", name := "hasJet", desc := "(IJ)Z" } : Jvm.MethodName) prog_14_method_123_code (5 : Nat) (Option.some Jvm.ClassFile.FieldType.boolean) ∈ zTbl := zIn 1860 (by decide +kernel) rfl
theorem wl_1861 : Jvm.Cond.methodLink "JetTreesLaw" (192 : Nat) ({ cls := "JetTreesModel", name := "alike", desc := "(II)Z" } : Jvm.MethodName) ∈ zTbl := zIn 1861 (by decide +kernel) rfl
theorem wl_1862 : Jvm.Cond.instanceMethod ({ cls := "JetTreesModel", name := "alike", desc := "(II)Z" } : Jvm.MethodName) ∈ zTbl := zIn 1862 (by decide +kernel) rfl
theorem wl_1863 : Jvm.Cond.selects "JetTreesModel" ({ cls := "JetTreesModel", name := "alike", desc := "(II)Z" } : Jvm.MethodName) ({ cls := "JetTreesModel", name := "alike", desc := "(II)Z" } : Jvm.MethodName) ∈ zTbl := zIn 1863 (by decide +kernel) rfl
theorem wl_1864 : Jvm.Cond.code ({ cls := "JetTreesModel", name := "alike", desc := "(II)Z" } : Jvm.MethodName) prog_14_method_126_code (3 : Nat) (Option.some Jvm.ClassFile.FieldType.boolean) ∈ zTbl := zIn 1864 (by decide +kernel) rfl
theorem wl_1865 : Jvm.Cond.methodLink "JetTreesLaw" (223 : Nat) ({ cls := "JetTreesModel", name := "common", desc := "(II)I" } : Jvm.MethodName) ∈ zTbl := zIn 1865 (by decide +kernel) rfl
theorem wl_1866 : Jvm.Cond.instanceMethod ({ cls := "JetTreesModel", name := "common", desc := "(II)I" } : Jvm.MethodName) ∈ zTbl := zIn 1866 (by decide +kernel) rfl
theorem wl_1867 : Jvm.Cond.selects "JetTreesModel" ({ cls := "JetTreesModel", name := "common", desc := "(II)I" } : Jvm.MethodName) ({ cls := "JetTreesModel", name := "common", desc := "(II)I" } : Jvm.MethodName) ∈ zTbl := zIn 1867 (by decide +kernel) rfl
theorem wl_1868 : Jvm.Cond.code ({ cls := "JetTreesModel", name := "common", desc := "(II)I" } : Jvm.MethodName) prog_14_method_127_code (7 : Nat) (Option.some Jvm.ClassFile.FieldType.int) ∈ zTbl := zIn 1868 (by decide +kernel) rfl
theorem wl_1869 : Jvm.Cond.methodLink "JetTreesLaw" (200 : Nat) ({ cls := "JetTreesModel", name := "backToBack", desc := "(I)I" } : Jvm.MethodName) ∈ zTbl := zIn 1869 (by decide +kernel) rfl
theorem wl_1870 : Jvm.Cond.instanceMethod ({ cls := "JetTreesModel", name := "backToBack", desc := "(I)I" } : Jvm.MethodName) ∈ zTbl := zIn 1870 (by decide +kernel) rfl
theorem wl_1871 : Jvm.Cond.selects "JetTreesModel" ({ cls := "JetTreesModel", name := "backToBack", desc := "(I)I" } : Jvm.MethodName) ({ cls := "JetTreesModel", name := "backToBack", desc := "(I)I" } : Jvm.MethodName) ∈ zTbl := zIn 1871 (by decide +kernel) rfl
theorem wl_1872 : Jvm.Cond.code ({ cls := "JetTreesModel", name := "backToBack", desc := "(I)I" } : Jvm.MethodName) prog_14_method_128_code (3 : Nat) (Option.some Jvm.ClassFile.FieldType.int) ∈ zTbl := zIn 1872 (by decide +kernel) rfl
theorem wl_1873 : Jvm.Cond.methodLink "JetTreesLaw" (204 : Nat) ({ cls := "JetTreesModel", name := "fresh", desc := "(I)Z" } : Jvm.MethodName) ∈ zTbl := zIn 1873 (by decide +kernel) rfl
theorem wl_1874 : Jvm.Cond.instanceMethod ({ cls := "JetTreesModel", name := "fresh", desc := "(I)Z" } : Jvm.MethodName) ∈ zTbl := zIn 1874 (by decide +kernel) rfl
theorem wl_1875 : Jvm.Cond.selects "JetTreesModel" ({ cls := "JetTreesModel", name := "fresh", desc := "(I)Z" } : Jvm.MethodName) ({ cls := "JetTreesModel", name := "fresh", desc := "(I)Z" } : Jvm.MethodName) ∈ zTbl := zIn 1875 (by decide +kernel) rfl
theorem wl_1876 : Jvm.Cond.code ({ cls := "JetTreesModel", name := "fresh", desc := "(I)Z" } : Jvm.MethodName) prog_14_method_129_code (7 : Nat) (Option.some Jvm.ClassFile.FieldType.boolean) ∈ zTbl := zIn 1876 (by decide +kernel) rfl
theorem wl_1877 : Jvm.Cond.methodLink "JetTreesLaw" (208 : Nat) ({ cls := "JetTreesModel", name := "pair", desc := "(III)J" } : Jvm.MethodName) ∈ zTbl := zIn 1877 (by decide +kernel) rfl
theorem wl_1878 : Jvm.Cond.instanceMethod ({ cls := "JetTreesModel", name := "pair", desc := "(III)J" } : Jvm.MethodName) ∈ zTbl := zIn 1878 (by decide +kernel) rfl
theorem wl_1879 : Jvm.Cond.selects "JetTreesModel" ({ cls := "JetTreesModel", name := "pair", desc := "(III)J" } : Jvm.MethodName) ({ cls := "JetTreesModel", name := "pair", desc := "(III)J" } : Jvm.MethodName) ∈ zTbl := zIn 1879 (by decide +kernel) rfl
theorem wl_1880 : Jvm.Cond.code ({ cls := "JetTreesModel", name := "pair", desc := "(III)J" } : Jvm.MethodName) prog_14_method_131_code (4 : Nat) (Option.some Jvm.ClassFile.FieldType.long) ∈ zTbl := zIn 1880 (by decide +kernel) rfl
theorem wl_1881 : Jvm.Cond.methodLink "JetTreesModel" (364 : Nat) ({ cls := "JetTreesModel", name := "pairOf", desc := "(III)J" } : Jvm.MethodName) ∈ zTbl := zIn 1881 (by decide +kernel) rfl
theorem wl_1883 : Jvm.Cond.instanceMethod ({ cls := "JetTreesModel", name := "pairOf", desc := "(III)J" } : Jvm.MethodName) ∈ zTbl := zIn 1883 (by decide +kernel) rfl
theorem wl_1884 : Jvm.Cond.code ({ cls := "JetTreesModel", name := "pairOf", desc := "(III)J" } : Jvm.MethodName) prog_14_method_130_code (6 : Nat) (Option.some Jvm.ClassFile.FieldType.long) ∈ zTbl := zIn 1884 (by decide +kernel) rfl
theorem wl_1885 : Jvm.Cond.methodLink "JetTreesLaw" (215 : Nat) ({ cls := "JetTreesModel", name := "nearestPair", desc := "(IJ)I" } : Jvm.MethodName) ∈ zTbl := zIn 1885 (by decide +kernel) rfl
theorem wl_1886 : Jvm.Cond.instanceMethod ({ cls := "JetTreesModel", name := "nearestPair", desc := "(IJ)I" } : Jvm.MethodName) ∈ zTbl := zIn 1886 (by decide +kernel) rfl
theorem wl_1887 : Jvm.Cond.selects "JetTreesModel" ({ cls := "JetTreesModel", name := "nearestPair", desc := "(IJ)I" } : Jvm.MethodName) ({ cls := "JetTreesModel", name := "nearestPair", desc := "(IJ)I" } : Jvm.MethodName) ∈ zTbl := zIn 1887 (by decide +kernel) rfl
theorem wl_1888 : Jvm.Cond.code ({ cls := "JetTreesModel", name := "nearestPair", desc := "(IJ)I" } : Jvm.MethodName) prog_14_method_132_code (11 : Nat) (Option.some Jvm.ClassFile.FieldType.int) ∈ zTbl := zIn 1888 (by decide +kernel) rfl
theorem wl_1889 : Jvm.Cond.methodLink "JetTreesLaw" (219 : Nat) ({ cls := "JetTreesModel", name := "count", desc := "(III)I" } : Jvm.MethodName) ∈ zTbl := zIn 1889 (by decide +kernel) rfl
theorem wl_1890 : Jvm.Cond.instanceMethod ({ cls := "JetTreesModel", name := "count", desc := "(III)I" } : Jvm.MethodName) ∈ zTbl := zIn 1890 (by decide +kernel) rfl
theorem wl_1891 : Jvm.Cond.selects "JetTreesModel" ({ cls := "JetTreesModel", name := "count", desc := "(III)I" } : Jvm.MethodName) ({ cls := "JetTreesModel", name := "count", desc := "(III)I" } : Jvm.MethodName) ∈ zTbl := zIn 1891 (by decide +kernel) rfl
theorem wl_1892 : Jvm.Cond.code ({ cls := "JetTreesModel", name := "count", desc := "(III)I" } : Jvm.MethodName) prog_14_method_133_code (6 : Nat) (Option.some Jvm.ClassFile.FieldType.int) ∈ zTbl := zIn 1892 (by decide +kernel) rfl
theorem wl_1893 : Jvm.Cond.methodLink "JetTreesLaw" (227 : Nat) ({ cls := "JetTreesModel", name := "span", desc := "(II)I" } : Jvm.MethodName) ∈ zTbl := zIn 1893 (by decide +kernel) rfl
theorem wl_1894 : Jvm.Cond.instanceMethod ({ cls := "JetTreesModel", name := "span", desc := "(II)I" } : Jvm.MethodName) ∈ zTbl := zIn 1894 (by decide +kernel) rfl
theorem wl_1895 : Jvm.Cond.selects "JetTreesModel" ({ cls := "JetTreesModel", name := "span", desc := "(II)I" } : Jvm.MethodName) ({ cls := "JetTreesModel", name := "span", desc := "(II)I" } : Jvm.MethodName) ∈ zTbl := zIn 1895 (by decide +kernel) rfl
theorem wl_1896 : Jvm.Cond.code ({ cls := "JetTreesModel", name := "span", desc := "(II)I" } : Jvm.MethodName) prog_14_method_135_code (6 : Nat) (Option.some Jvm.ClassFile.FieldType.int) ∈ zTbl := zIn 1896 (by decide +kernel) rfl
theorem wl_1897 : Jvm.Cond.methodLink "JetTreesModel" (373 : Nat) ({ cls := "JetTreesModel", name := "findTwo", desc := "()Z" } : Jvm.MethodName) ∈ zTbl := zIn 1897 (by decide +kernel) rfl
theorem wl_1899 : Jvm.Cond.instanceMethod ({ cls := "JetTreesModel", name := "findTwo", desc := "()Z" } : Jvm.MethodName) ∈ zTbl := zIn 1899 (by decide +kernel) rfl
theorem wl_1900 : Jvm.Cond.code ({ cls := "JetTreesModel", name := "findTwo", desc := "()Z" } : Jvm.MethodName) prog_14_method_134_code (4 : Nat) (Option.some Jvm.ClassFile.FieldType.boolean) ∈ zTbl := zIn 1900 (by decide +kernel) rfl
theorem wl_1901 : Jvm.Cond.methodLink "JetTreesLaw" (231 : Nat) ({ cls := "JetTreesModel", name := "gap", desc := "(I)I" } : Jvm.MethodName) ∈ zTbl := zIn 1901 (by decide +kernel) rfl
theorem wl_1902 : Jvm.Cond.instanceMethod ({ cls := "JetTreesModel", name := "gap", desc := "(I)I" } : Jvm.MethodName) ∈ zTbl := zIn 1902 (by decide +kernel) rfl
theorem wl_1903 : Jvm.Cond.selects "JetTreesModel" ({ cls := "JetTreesModel", name := "gap", desc := "(I)I" } : Jvm.MethodName) ({ cls := "JetTreesModel", name := "gap", desc := "(I)I" } : Jvm.MethodName) ∈ zTbl := zIn 1903 (by decide +kernel) rfl
theorem wl_1904 : Jvm.Cond.code ({ cls := "JetTreesModel", name := "gap", desc := "(I)I" } : Jvm.MethodName) prog_14_method_137_code (6 : Nat) (Option.some Jvm.ClassFile.FieldType.int) ∈ zTbl := zIn 1904 (by decide +kernel) rfl
theorem wl_1905 : Jvm.Cond.methodLink "JetTreesModel" (377 : Nat) ({ cls := "JetTreesModel", name := "isRoundOf", desc := "(I)Z" } : Jvm.MethodName) ∈ zTbl := zIn 1905 (by decide +kernel) rfl
theorem wl_1907 : Jvm.Cond.instanceMethod ({ cls := "JetTreesModel", name := "isRoundOf", desc := "(I)Z" } : Jvm.MethodName) ∈ zTbl := zIn 1907 (by decide +kernel) rfl
theorem wl_1908 : Jvm.Cond.code ({ cls := "JetTreesModel", name := "isRoundOf", desc := "(I)Z" } : Jvm.MethodName) prog_14_method_136_code (3 : Nat) (Option.some Jvm.ClassFile.FieldType.boolean) ∈ zTbl := zIn 1908 (by decide +kernel) rfl
theorem wl_1909 : Jvm.Cond.methodLink "JetTreesLaw" (235 : Nat) ({ cls := "JetTreesModel", name := "tiles", desc := "(II)I" } : Jvm.MethodName) ∈ zTbl := zIn 1909 (by decide +kernel) rfl
theorem wl_1910 : Jvm.Cond.instanceMethod ({ cls := "JetTreesModel", name := "tiles", desc := "(II)I" } : Jvm.MethodName) ∈ zTbl := zIn 1910 (by decide +kernel) rfl
theorem wl_1911 : Jvm.Cond.selects "JetTreesModel" ({ cls := "JetTreesModel", name := "tiles", desc := "(II)I" } : Jvm.MethodName) ({ cls := "JetTreesModel", name := "tiles", desc := "(II)I" } : Jvm.MethodName) ∈ zTbl := zIn 1911 (by decide +kernel) rfl
theorem wl_1912 : Jvm.Cond.code ({ cls := "JetTreesModel", name := "tiles", desc := "(II)I" } : Jvm.MethodName) prog_14_method_142_code (7 : Nat) (Option.some Jvm.ClassFile.FieldType.int) ∈ zTbl := zIn 1912 (by decide +kernel) rfl
theorem wl_1913 : Jvm.Cond.methodLink "JetTreesModel" (383 : Nat) ({ cls := "JetTreesModel", name := "isSize", desc := "(I)Z" } : Jvm.MethodName) ∈ zTbl := zIn 1913 (by decide +kernel) rfl
theorem wl_1914 : Jvm.Cond.static ({ cls := "JetTreesModel", name := "isSize", desc := "(I)Z" } : Jvm.MethodName) ∈ zTbl := zIn 1914 (by decide +kernel) rfl
theorem wl_1915 : Jvm.Cond.code ({ cls := "JetTreesModel", name := "isSize", desc := "(I)Z" } : Jvm.MethodName) prog_14_method_141_code (1 : Nat) (Option.some Jvm.ClassFile.FieldType.boolean) ∈ zTbl := zIn 1915 (by decide +kernel) rfl
theorem wl_1916 : Jvm.Cond.methodLink "JetTreesModel" (380 : Nat) ({ cls := "JetTreesModel", name := "tileOf", desc := "(III)I" } : Jvm.MethodName) ∈ zTbl := zIn 1916 (by decide +kernel) rfl
theorem wl_1918 : Jvm.Cond.instanceMethod ({ cls := "JetTreesModel", name := "tileOf", desc := "(III)I" } : Jvm.MethodName) ∈ zTbl := zIn 1918 (by decide +kernel) rfl
theorem wl_1919 : Jvm.Cond.code ({ cls := "JetTreesModel", name := "tileOf", desc := "(III)I" } : Jvm.MethodName) prog_14_method_138_code (4 : Nat) (Option.some Jvm.ClassFile.FieldType.int) ∈ zTbl := zIn 1919 (by decide +kernel) rfl
theorem wl_1920 : Jvm.Cond.methodLink "JetTreesModel" (386 : Nat) ({ cls := "JetTreesModel", name := "tracksIn", desc := "(II)I" } : Jvm.MethodName) ∈ zTbl := zIn 1920 (by decide +kernel) rfl
theorem wl_1922 : Jvm.Cond.instanceMethod ({ cls := "JetTreesModel", name := "tracksIn", desc := "(II)I" } : Jvm.MethodName) ∈ zTbl := zIn 1922 (by decide +kernel) rfl
theorem wl_1923 : Jvm.Cond.code ({ cls := "JetTreesModel", name := "tracksIn", desc := "(II)I" } : Jvm.MethodName) prog_14_method_139_code (5 : Nat) (Option.some Jvm.ClassFile.FieldType.int) ∈ zTbl := zIn 1923 (by decide +kernel) rfl
theorem wl_1924 : Jvm.Cond.methodLink "JetTreesModel" (389 : Nat) ({ cls := "JetTreesModel", name := "isFirstIn", desc := "(II)Z" } : Jvm.MethodName) ∈ zTbl := zIn 1924 (by decide +kernel) rfl
theorem wl_1926 : Jvm.Cond.instanceMethod ({ cls := "JetTreesModel", name := "isFirstIn", desc := "(II)Z" } : Jvm.MethodName) ∈ zTbl := zIn 1926 (by decide +kernel) rfl
theorem wl_1927 : Jvm.Cond.code ({ cls := "JetTreesModel", name := "isFirstIn", desc := "(II)Z" } : Jvm.MethodName) prog_14_method_140_code (4 : Nat) (Option.some Jvm.ClassFile.FieldType.boolean) ∈ zTbl := zIn 1927 (by decide +kernel) rfl
theorem wl_1928 : Jvm.Cond.methodLink "JetTreesLaw" (251 : Nat) ({ cls := "JetTreesModel", name := "pedestal", desc := "(I)I" } : Jvm.MethodName) ∈ zTbl := zIn 1928 (by decide +kernel) rfl
theorem wl_1929 : Jvm.Cond.instanceMethod ({ cls := "JetTreesModel", name := "pedestal", desc := "(I)I" } : Jvm.MethodName) ∈ zTbl := zIn 1929 (by decide +kernel) rfl
theorem wl_1930 : Jvm.Cond.selects "JetTreesModel" ({ cls := "JetTreesModel", name := "pedestal", desc := "(I)I" } : Jvm.MethodName) ({ cls := "JetTreesModel", name := "pedestal", desc := "(I)I" } : Jvm.MethodName) ∈ zTbl := zIn 1930 (by decide +kernel) rfl
theorem wl_1931 : Jvm.Cond.code ({ cls := "JetTreesModel", name := "pedestal", desc := "(I)I" } : Jvm.MethodName) prog_14_method_144_code (2 : Nat) (Option.some Jvm.ClassFile.FieldType.int) ∈ zTbl := zIn 1931 (by decide +kernel) rfl
theorem wl_1932 : Jvm.Cond.methodLink "JetTreesModel" (392 : Nat) ({ cls := "JetTreesModel", name := "pedestalOf", desc := "(I)I" } : Jvm.MethodName) ∈ zTbl := zIn 1932 (by decide +kernel) rfl
theorem wl_1934 : Jvm.Cond.instanceMethod ({ cls := "JetTreesModel", name := "pedestalOf", desc := "(I)I" } : Jvm.MethodName) ∈ zTbl := zIn 1934 (by decide +kernel) rfl
theorem wl_1935 : Jvm.Cond.code ({ cls := "JetTreesModel", name := "pedestalOf", desc := "(I)I" } : Jvm.MethodName) prog_14_method_143_code (6 : Nat) (Option.some Jvm.ClassFile.FieldType.int) ∈ zTbl := zIn 1935 (by decide +kernel) rfl
theorem wl_1936 : Jvm.Cond.methodLink "JetTreesLaw" (255 : Nat) ({ cls := "JetTreesModel", name := "clean", desc := "(III)I" } : Jvm.MethodName) ∈ zTbl := zIn 1936 (by decide +kernel) rfl
theorem wl_1937 : Jvm.Cond.instanceMethod ({ cls := "JetTreesModel", name := "clean", desc := "(III)I" } : Jvm.MethodName) ∈ zTbl := zIn 1937 (by decide +kernel) rfl
theorem wl_1938 : Jvm.Cond.selects "JetTreesModel" ({ cls := "JetTreesModel", name := "clean", desc := "(III)I" } : Jvm.MethodName) ({ cls := "JetTreesModel", name := "clean", desc := "(III)I" } : Jvm.MethodName) ∈ zTbl := zIn 1938 (by decide +kernel) rfl
theorem wl_1939 : Jvm.Cond.code ({ cls := "JetTreesModel", name := "clean", desc := "(III)I" } : Jvm.MethodName) prog_14_method_145_code (10 : Nat) (Option.some Jvm.ClassFile.FieldType.int) ∈ zTbl := zIn 1939 (by decide +kernel) rfl
theorem wl_1940 : Jvm.Cond.methodLink "JetTreesLaw" (259 : Nat) ({ cls := "JetTreesModel", name := "balance", desc := "(I)I" } : Jvm.MethodName) ∈ zTbl := zIn 1940 (by decide +kernel) rfl
theorem wl_1941 : Jvm.Cond.instanceMethod ({ cls := "JetTreesModel", name := "balance", desc := "(I)I" } : Jvm.MethodName) ∈ zTbl := zIn 1941 (by decide +kernel) rfl
theorem wl_1942 : Jvm.Cond.selects "JetTreesModel" ({ cls := "JetTreesModel", name := "balance", desc := "(I)I" } : Jvm.MethodName) ({ cls := "JetTreesModel", name := "balance", desc := "(I)I" } : Jvm.MethodName) ∈ zTbl := zIn 1942 (by decide +kernel) rfl
theorem wl_1943 : Jvm.Cond.code ({ cls := "JetTreesModel", name := "balance", desc := "(I)I" } : Jvm.MethodName) prog_14_method_147_code (2 : Nat) (Option.some Jvm.ClassFile.FieldType.int) ∈ zTbl := zIn 1943 (by decide +kernel) rfl
theorem wl_1944 : Jvm.Cond.methodLink "JetTreesModel" (395 : Nat) ({ cls := "JetTreesModel", name := "balanceOf", desc := "(I)I" } : Jvm.MethodName) ∈ zTbl := zIn 1944 (by decide +kernel) rfl
theorem wl_1946 : Jvm.Cond.instanceMethod ({ cls := "JetTreesModel", name := "balanceOf", desc := "(I)I" } : Jvm.MethodName) ∈ zTbl := zIn 1946 (by decide +kernel) rfl
theorem wl_1947 : Jvm.Cond.code ({ cls := "JetTreesModel", name := "balanceOf", desc := "(I)I" } : Jvm.MethodName) prog_14_method_146_code (5 : Nat) (Option.some Jvm.ClassFile.FieldType.int) ∈ zTbl := zIn 1947 (by decide +kernel) rfl
theorem wl_1948 : Jvm.Cond.methodLink "JetTreesLaw" (263 : Nat) ({ cls := "JetTreesModel", name := "axis", desc := "()I" } : Jvm.MethodName) ∈ zTbl := zIn 1948 (by decide +kernel) rfl
theorem wl_1949 : Jvm.Cond.instanceMethod ({ cls := "JetTreesModel", name := "axis", desc := "()I" } : Jvm.MethodName) ∈ zTbl := zIn 1949 (by decide +kernel) rfl
theorem wl_1950 : Jvm.Cond.selects "JetTreesModel" ({ cls := "JetTreesModel", name := "axis", desc := "()I" } : Jvm.MethodName) ({ cls := "JetTreesModel", name := "axis", desc := "()I" } : Jvm.MethodName) ∈ zTbl := zIn 1950 (by decide +kernel) rfl
theorem wl_1951 : Jvm.Cond.code ({ cls := "JetTreesModel", name := "axis", desc := "()I" } : Jvm.MethodName) prog_14_method_148_code (5 : Nat) (Option.some Jvm.ClassFile.FieldType.int) ∈ zTbl := zIn 1951 (by decide +kernel) rfl
theorem wl_1952 : Jvm.Cond.methodLink "JetTreesLaw" (239 : Nat) ({ cls := "JetTreesModel", name := "cone", desc := "(IIII)I" } : Jvm.MethodName) ∈ zTbl := zIn 1952 (by decide +kernel) rfl
theorem wl_1953 : Jvm.Cond.instanceMethod ({ cls := "JetTreesModel", name := "cone", desc := "(IIII)I" } : Jvm.MethodName) ∈ zTbl := zIn 1953 (by decide +kernel) rfl
theorem wl_1954 : Jvm.Cond.selects "JetTreesModel" ({ cls := "JetTreesModel", name := "cone", desc := "(IIII)I" } : Jvm.MethodName) ({ cls := "JetTreesModel", name := "cone", desc := "(IIII)I" } : Jvm.MethodName) ∈ zTbl := zIn 1954 (by decide +kernel) rfl
theorem wl_1955 : Jvm.Cond.code ({ cls := "JetTreesModel", name := "cone", desc := "(IIII)I" } : Jvm.MethodName) prog_14_method_152_code (7 : Nat) (Option.some Jvm.ClassFile.FieldType.int) ∈ zTbl := zIn 1955 (by decide +kernel) rfl
theorem wl_1956 : Jvm.Cond.methodLink "JetTreesModel" (408 : Nat) ({ cls := "JetTreesModel", name := "coneOf", desc := "(III)J" } : Jvm.MethodName) ∈ zTbl := zIn 1956 (by decide +kernel) rfl
theorem wl_1958 : Jvm.Cond.instanceMethod ({ cls := "JetTreesModel", name := "coneOf", desc := "(III)J" } : Jvm.MethodName) ∈ zTbl := zIn 1958 (by decide +kernel) rfl
theorem wl_1959 : Jvm.Cond.code ({ cls := "JetTreesModel", name := "coneOf", desc := "(III)J" } : Jvm.MethodName) prog_14_method_149_code (7 : Nat) (Option.some Jvm.ClassFile.FieldType.long) ∈ zTbl := zIn 1959 (by decide +kernel) rfl
theorem wl_1960 : Jvm.Cond.methodLink "JetTreesModel" (411 : Nat) ({ cls := "JetTreesModel", name := "many", desc := "(J)I" } : Jvm.MethodName) ∈ zTbl := zIn 1960 (by decide +kernel) rfl
theorem wl_1961 : Jvm.Cond.static ({ cls := "JetTreesModel", name := "many", desc := "(J)I" } : Jvm.MethodName) ∈ zTbl := zIn 1961 (by decide +kernel) rfl
theorem wl_1962 : Jvm.Cond.code ({ cls := "JetTreesModel", name := "many", desc := "(J)I" } : Jvm.MethodName) prog_14_method_5_code (5 : Nat) (Option.some Jvm.ClassFile.FieldType.int) ∈ zTbl := zIn 1962 (by decide +kernel) rfl
theorem wl_1963 : Jvm.Cond.methodLink "JetTreesModel" (414 : Nat) ({ cls := "JetTreesModel", name := "isSteady", desc := "(IIJ)Z" } : Jvm.MethodName) ∈ zTbl := zIn 1963 (by decide +kernel) rfl
theorem wl_1965 : Jvm.Cond.instanceMethod ({ cls := "JetTreesModel", name := "isSteady", desc := "(IIJ)Z" } : Jvm.MethodName) ∈ zTbl := zIn 1965 (by decide +kernel) rfl
theorem wl_1966 : Jvm.Cond.code ({ cls := "JetTreesModel", name := "isSteady", desc := "(IIJ)Z" } : Jvm.MethodName) prog_14_method_151_code (5 : Nat) (Option.some Jvm.ClassFile.FieldType.boolean) ∈ zTbl := zIn 1966 (by decide +kernel) rfl
theorem wl_1967 : Jvm.Cond.methodLink "JetTreesModel" (404 : Nat) ({ cls := "JetTreesModel", name := "layMean", desc := "(J)V" } : Jvm.MethodName) ∈ zTbl := zIn 1967 (by decide +kernel) rfl
theorem wl_1969 : Jvm.Cond.instanceMethod ({ cls := "JetTreesModel", name := "layMean", desc := "(J)V" } : Jvm.MethodName) ∈ zTbl := zIn 1969 (by decide +kernel) rfl
theorem wl_1970 : Jvm.Cond.code ({ cls := "JetTreesModel", name := "layMean", desc := "(J)V" } : Jvm.MethodName) prog_14_method_150_code (5 : Nat) (Option.none : Option Jvm.ClassFile.FieldType) ∈ zTbl := zIn 1970 (by decide +kernel) rfl
theorem wl_1971 : Jvm.Cond.methodLink "JetTreesLaw" (243 : Nat) ({ cls := "JetTreesModel", name := "still", desc := "(II)J" } : Jvm.MethodName) ∈ zTbl := zIn 1971 (by decide +kernel) rfl
theorem wl_1972 : Jvm.Cond.instanceMethod ({ cls := "JetTreesModel", name := "still", desc := "(II)J" } : Jvm.MethodName) ∈ zTbl := zIn 1972 (by decide +kernel) rfl
theorem wl_1973 : Jvm.Cond.selects "JetTreesModel" ({ cls := "JetTreesModel", name := "still", desc := "(II)J" } : Jvm.MethodName) ({ cls := "JetTreesModel", name := "still", desc := "(II)J" } : Jvm.MethodName) ∈ zTbl := zIn 1973 (by decide +kernel) rfl
theorem wl_1974 : Jvm.Cond.code ({ cls := "JetTreesModel", name := "still", desc := "(II)J" } : Jvm.MethodName) prog_14_method_155_code (3 : Nat) (Option.some Jvm.ClassFile.FieldType.long) ∈ zTbl := zIn 1974 (by decide +kernel) rfl
theorem wl_1975 : Jvm.Cond.methodLink "JetTreesModel" (424 : Nat) ({ cls := "JetTreesModel", name := "layStill", desc := "(I)V" } : Jvm.MethodName) ∈ zTbl := zIn 1975 (by decide +kernel) rfl
theorem wl_1977 : Jvm.Cond.instanceMethod ({ cls := "JetTreesModel", name := "layStill", desc := "(I)V" } : Jvm.MethodName) ∈ zTbl := zIn 1977 (by decide +kernel) rfl
theorem wl_1978 : Jvm.Cond.code ({ cls := "JetTreesModel", name := "layStill", desc := "(I)V" } : Jvm.MethodName) prog_14_method_154_code (7 : Nat) (Option.none : Option Jvm.ClassFile.FieldType) ∈ zTbl := zIn 1978 (by decide +kernel) rfl
theorem wl_1979 : Jvm.Cond.methodLink "JetTreesModel" (421 : Nat) ({ cls := "JetTreesModel", name := "stillFrom", desc := "(II)J" } : Jvm.MethodName) ∈ zTbl := zIn 1979 (by decide +kernel) rfl
theorem wl_1981 : Jvm.Cond.instanceMethod ({ cls := "JetTreesModel", name := "stillFrom", desc := "(II)J" } : Jvm.MethodName) ∈ zTbl := zIn 1981 (by decide +kernel) rfl
theorem wl_1982 : Jvm.Cond.code ({ cls := "JetTreesModel", name := "stillFrom", desc := "(II)J" } : Jvm.MethodName) prog_14_method_153_code (8 : Nat) (Option.some Jvm.ClassFile.FieldType.long) ∈ zTbl := zIn 1982 (by decide +kernel) rfl
theorem wl_1983 : Jvm.Cond.methodLink "JetTreesLaw" (247 : Nat) ({ cls := "JetTreesModel", name := "patch", desc := "(III)J" } : Jvm.MethodName) ∈ zTbl := zIn 1983 (by decide +kernel) rfl
theorem wl_1984 : Jvm.Cond.instanceMethod ({ cls := "JetTreesModel", name := "patch", desc := "(III)J" } : Jvm.MethodName) ∈ zTbl := zIn 1984 (by decide +kernel) rfl
theorem wl_1985 : Jvm.Cond.selects "JetTreesModel" ({ cls := "JetTreesModel", name := "patch", desc := "(III)J" } : Jvm.MethodName) ({ cls := "JetTreesModel", name := "patch", desc := "(III)J" } : Jvm.MethodName) ∈ zTbl := zIn 1985 (by decide +kernel) rfl
theorem wl_1986 : Jvm.Cond.code ({ cls := "JetTreesModel", name := "patch", desc := "(III)J" } : Jvm.MethodName) prog_14_method_159_code (7 : Nat) (Option.some Jvm.ClassFile.FieldType.long) ∈ zTbl := zIn 1986 (by decide +kernel) rfl
theorem wl_1987 : Jvm.Cond.methodLink "JetTreesModel" (429 : Nat) ({ cls := "JetTreesModel", name := "heaviest", desc := "(I)I" } : Jvm.MethodName) ∈ zTbl := zIn 1987 (by decide +kernel) rfl
theorem wl_1989 : Jvm.Cond.instanceMethod ({ cls := "JetTreesModel", name := "heaviest", desc := "(I)I" } : Jvm.MethodName) ∈ zTbl := zIn 1989 (by decide +kernel) rfl
theorem wl_1990 : Jvm.Cond.code ({ cls := "JetTreesModel", name := "heaviest", desc := "(I)I" } : Jvm.MethodName) prog_14_method_156_code (4 : Nat) (Option.some Jvm.ClassFile.FieldType.int) ∈ zTbl := zIn 1990 (by decide +kernel) rfl
theorem wl_1991 : Jvm.Cond.methodLink "JetTreesModel" (432 : Nat) ({ cls := "JetTreesModel", name := "isMerged", desc := "(III)Z" } : Jvm.MethodName) ∈ zTbl := zIn 1991 (by decide +kernel) rfl
theorem wl_1993 : Jvm.Cond.instanceMethod ({ cls := "JetTreesModel", name := "isMerged", desc := "(III)Z" } : Jvm.MethodName) ∈ zTbl := zIn 1993 (by decide +kernel) rfl
theorem wl_1994 : Jvm.Cond.code ({ cls := "JetTreesModel", name := "isMerged", desc := "(III)Z" } : Jvm.MethodName) prog_14_method_158_code (6 : Nat) (Option.some Jvm.ClassFile.FieldType.boolean) ∈ zTbl := zIn 1994 (by decide +kernel) rfl
theorem wl_1995 : Jvm.Cond.constantLong "JetTreesModel" (427 : Nat) (1000 : Int64) ∈ zTbl := zIn 1995 (by decide +kernel) rfl
theorem wl_1996 : Jvm.Cond.methodLink "JetTreesModel" (435 : Nat) ({ cls := "JetTreesModel", name := "part", desc := "(II)V" } : Jvm.MethodName) ∈ zTbl := zIn 1996 (by decide +kernel) rfl
theorem wl_1998 : Jvm.Cond.instanceMethod ({ cls := "JetTreesModel", name := "part", desc := "(II)V" } : Jvm.MethodName) ∈ zTbl := zIn 1998 (by decide +kernel) rfl
theorem wl_1999 : Jvm.Cond.code ({ cls := "JetTreesModel", name := "part", desc := "(II)V" } : Jvm.MethodName) prog_14_method_157_code (9 : Nat) (Option.none : Option Jvm.ClassFile.FieldType) ∈ zTbl := zIn 1999 (by decide +kernel) rfl
theorem wl_2000 : Jvm.Cond.methodLink "JetTreesLaw" (267 : Nat) ({ cls := "JetTreesModel", name := "image", desc := "()I" } : Jvm.MethodName) ∈ zTbl := zIn 2000 (by decide +kernel) rfl
theorem wl_2001 : Jvm.Cond.instanceMethod ({ cls := "JetTreesModel", name := "image", desc := "()I" } : Jvm.MethodName) ∈ zTbl := zIn 2001 (by decide +kernel) rfl
theorem wl_2002 : Jvm.Cond.selects "JetTreesModel" ({ cls := "JetTreesModel", name := "image", desc := "()I" } : Jvm.MethodName) ({ cls := "JetTreesModel", name := "image", desc := "()I" } : Jvm.MethodName) ∈ zTbl := zIn 2002 (by decide +kernel) rfl
theorem wl_2003 : Jvm.Cond.code ({ cls := "JetTreesModel", name := "image", desc := "()I" } : Jvm.MethodName) prog_14_method_160_code (1 : Nat) (Option.some Jvm.ClassFile.FieldType.int) ∈ zTbl := zIn 2003 (by decide +kernel) rfl
theorem wl_2004 : Jvm.Cond.methodLink "JetTreesLaw" (271 : Nat) ({ cls := "JetTreesModel", name := "back", desc := "()I" } : Jvm.MethodName) ∈ zTbl := zIn 2004 (by decide +kernel) rfl
theorem wl_2005 : Jvm.Cond.instanceMethod ({ cls := "JetTreesModel", name := "back", desc := "()I" } : Jvm.MethodName) ∈ zTbl := zIn 2005 (by decide +kernel) rfl
theorem wl_2006 : Jvm.Cond.selects "JetTreesModel" ({ cls := "JetTreesModel", name := "back", desc := "()I" } : Jvm.MethodName) ({ cls := "JetTreesModel", name := "back", desc := "()I" } : Jvm.MethodName) ∈ zTbl := zIn 2006 (by decide +kernel) rfl
theorem wl_2007 : Jvm.Cond.code ({ cls := "JetTreesModel", name := "back", desc := "()I" } : Jvm.MethodName) prog_14_method_161_code (1 : Nat) (Option.some Jvm.ClassFile.FieldType.int) ∈ zTbl := zIn 2007 (by decide +kernel) rfl
theorem wl_2008 : Jvm.Cond.methodLink "JetTreesLaw" (275 : Nat) ({ cls := "JetTreesModel", name := "steps", desc := "()I" } : Jvm.MethodName) ∈ zTbl := zIn 2008 (by decide +kernel) rfl
theorem wl_2009 : Jvm.Cond.instanceMethod ({ cls := "JetTreesModel", name := "steps", desc := "()I" } : Jvm.MethodName) ∈ zTbl := zIn 2009 (by decide +kernel) rfl
theorem wl_2010 : Jvm.Cond.selects "JetTreesModel" ({ cls := "JetTreesModel", name := "steps", desc := "()I" } : Jvm.MethodName) ({ cls := "JetTreesModel", name := "steps", desc := "()I" } : Jvm.MethodName) ∈ zTbl := zIn 2010 (by decide +kernel) rfl
theorem wl_2011 : Jvm.Cond.code ({ cls := "JetTreesModel", name := "steps", desc := "()I" } : Jvm.MethodName) prog_14_method_162_code (1 : Nat) (Option.some Jvm.ClassFile.FieldType.int) ∈ zTbl := zIn 2011 (by decide +kernel) rfl
theorem wl_2012 : Jvm.Cond.constantLong "JetTreesLaw" (209 : Nat) (4294967295 : Int64) ∈ zTbl := zIn 2012 (by decide +kernel) rfl
theorem inZ_X0 : ∀ w ∈ u_ws RX0 TX0 4, w ∈ zTbl := zIns [276, 278, 280, 282] (by decide +kernel) (by decide +kernel)
theorem ds_X0 : ∀ j, j < 4 → defaultValue (tyX0 j) = vp_V [.int 0, .int 0, .int 0, .int 0] j := by decide
theorem inZ_X2 : ∀ w ∈ u_ws RX2 TX2 7, w ∈ zTbl := zIns [1142, 1144, 1146, 1148, 1150, 1152, 1154] (by decide +kernel) (by decide +kernel)
theorem ds_X2 : ∀ j, j < 7 → defaultValue (tyX2 j) = vp_V [.null, .null, .null, .null, .int 0, .null, .int 0] j := by decide
theorem inZ_X3 : ∀ w ∈ u_ws RX3 TX3 1, w ∈ zTbl := zIns [147] (by decide +kernel) (by decide +kernel)
theorem ds_X3 : ∀ j, j < 1 → defaultValue (tyX3 j) = vp_V [.null] j := by decide
theorem inZ_X4 : ∀ w ∈ u_ws RX4 TX4 9, w ∈ zTbl := zIns [466, 468, 470, 472, 474, 476, 478, 480, 482] (by decide +kernel) (by decide +kernel)
theorem ds_X4 : ∀ j, j < 9 → defaultValue (tyX4 j) = vp_V [.null, .null, .null, .null, .int 0, .int 0, .int 0, .long 0, .long 0] j := by decide
theorem inZ_X5 : ∀ w ∈ u_ws RX5 TX5 7, w ∈ zTbl := zIns [525, 527, 529, 531, 533, 535, 537] (by decide +kernel) (by decide +kernel)
theorem ds_X5 : ∀ j, j < 7 → defaultValue (tyX5 j) = vp_V [.null, .long 0, .null, .null, .int 0, .null, .int 0] j := by decide
theorem inZ_X6 : ∀ w ∈ u_ws RX6 TX6 8, w ∈ zTbl := zIns [170, 172, 174, 176, 178, 180, 182, 184] (by decide +kernel) (by decide +kernel)
theorem ds_X6 : ∀ j, j < 8 → defaultValue (tyX6 j) = vp_V [.int 0, .int 0, .int 0, .int 0, .int 0, .null, .null, .null] j := by decide
theorem inZ_X7 : ∀ w ∈ u_ws RX7 TX7 5, w ∈ zTbl := zIns [609, 611, 613, 615, 617] (by decide +kernel) (by decide +kernel)
theorem ds_X7 : ∀ j, j < 5 → defaultValue (tyX7 j) = vp_V [.int 0, .int 0, .int 0, .long 0, .long 0] j := by decide
theorem inZ_X8 : ∀ w ∈ u_ws RX8 TX8 3, w ∈ zTbl := zIns [449, 451, 453] (by decide +kernel) (by decide +kernel)
theorem ds_X8 : ∀ j, j < 3 → defaultValue (tyX8 j) = vp_V [.int 0, .int 0, .int 0] j := by decide
theorem inZ_X9 : ∀ w ∈ u_ws RX9 TX9 6, w ∈ zTbl := zIns [1100, 1102, 1104, 1106, 1108, 1110] (by decide +kernel) (by decide +kernel)
theorem ds_X9 : ∀ j, j < 6 → defaultValue (tyX9 j) = vp_V [.int 0, .null, .null, .null, .null, .int 0] j := by decide
theorem inZ_X10 : ∀ w ∈ u_ws RX10 TX10 11, w ∈ zTbl := zIns [411, 413, 415, 417, 419, 421, 423, 425, 427, 429, 431] (by decide +kernel) (by decide +kernel)
theorem ds_X10 : ∀ j, j < 11 → defaultValue (tyX10 j) = vp_V [.int 0, .int 0, .int 0, .int 0, .null, .int 0, .null, .int 0, .null, .int 0, .null] j := by decide
theorem inZ_X11 : ∀ w ∈ u_ws RX11 TX11 6, w ∈ zTbl := zIns [194, 196, 198, 200, 202, 204] (by decide +kernel) (by decide +kernel)
theorem ds_X11 : ∀ j, j < 6 → defaultValue (tyX11 j) = vp_V [.null, .null, .int 0, .null, .null, .int 0] j := by decide
theorem inZ_X12 : ∀ w ∈ u_ws RX12 TX12 27, w ∈ zTbl := zIns [1325, 1327, 1329, 1331, 1333, 1335, 1337, 1339, 1341, 1343, 1345, 1347, 1349, 1351, 1353, 1355, 1357, 1359, 1361, 1363, 1365, 1367, 1369, 1371, 1373, 1375, 1377] (by decide +kernel) (by decide +kernel)
theorem ds_X12 : ∀ j, j < 27 → defaultValue (tyX12 j) = vp_V [.null, .null, .null, .null, .null, .null, .null, .null, .null, .null, .int 0, .int 0, .int 0, .int 0, .int 0, .null, .null, .int 0, .null, .null, .int 0, .int 0, .null, .int 0, .int 0, .null, .int 0] j := by decide
abbrev mi_Ev_init : zMi := (cX3_init, 2, RX3, 1, 12, "<init>", (Option.none : Option Jvm.ClassFile.FieldType))
theorem cb_Ev_init : zCb yX3_init cX3_init 2 (Option.none : Option Jvm.ClassFile.FieldType) 1 := ⟨wl_143, wl_107, by decide, by decide, by decide +kernel⟩
abbrev mi_St_init : zMi := (cX6_init, 2, RX6, 2, 33, "<init>", (Option.none : Option Jvm.ClassFile.FieldType))
theorem cb_St_init : zCb yX6_init cX6_init 2 (Option.none : Option Jvm.ClassFile.FieldType) 0 := ⟨wl_134, wl_106, by decide, by decide, by decide +kernel⟩
abbrev mi_JT_init : zMi := (cX11_init, 1, RX11, 3, 54, "<init>", (Option.none : Option Jvm.ClassFile.FieldType))
theorem cb_JT_init : zCb yX11_init cX11_init 1 (Option.none : Option Jvm.ClassFile.FieldType) 0 := ⟨wl_126, wl_105, by decide, by decide, by decide +kernel⟩
abbrev mi_Bo_init : zMi := (cX0_init, 5, RX0, 1, 12, "<init>", (Option.none : Option Jvm.ClassFile.FieldType))
theorem cb_Bo_init : zCb yX0_init cX0_init 5 (Option.none : Option Jvm.ClassFile.FieldType) 4 := ⟨wl_246, wl_111, by decide, by decide, by decide +kernel⟩
abbrev mi_JT_isRound : zMi := (cX11_isRound, 1, RX11, 0, 0, "isRound", (Option.some Jvm.ClassFile.FieldType.boolean))
theorem cb_JT_isRound : zCb yX11_isRound cX11_isRound 1 (Option.some Jvm.ClassFile.FieldType.boolean) 1 := ⟨wl_224, wl_105, by decide, by decide, by decide +kernel⟩
abbrev mi_JT_isPlace : zMi := (cX11_isPlace, 2, RX11, 1, 20, "isPlace", (Option.some Jvm.ClassFile.FieldType.boolean))
theorem cb_JT_isPlace : zCb yX11_isPlace cX11_isPlace 2 (Option.some Jvm.ClassFile.FieldType.boolean) 2 := ⟨wl_221, wl_105, by decide, by decide, by decide +kernel⟩
abbrev mi_JT_isWeight : zMi := (cX11_isWeight, 1, RX11, 0, 0, "isWeight", (Option.some Jvm.ClassFile.FieldType.boolean))
theorem cb_JT_isWeight : zCb yX11_isWeight cX11_isWeight 1 (Option.some Jvm.ClassFile.FieldType.boolean) 1 := ⟨wl_227, wl_105, by decide, by decide, by decide +kernel⟩
abbrev mi_JT_takeStep : zMi := (cX11_takeStep, 2, RX11, 1, 40, "takeStep", (Option.none : Option Jvm.ClassFile.FieldType))
theorem cb_JT_takeStep : zCb yX11_takeStep cX11_takeStep 2 (Option.none : Option Jvm.ClassFile.FieldType) 1 := ⟨wl_297, wl_105, by decide, by decide, by decide +kernel⟩
abbrev mi_Ma_max_7cf53 : zMi := (cJ9_max_7cf53, 2, RJ9, 0, 0, "max", (Option.some Jvm.ClassFile.FieldType.int))
theorem cb_Ma_max_7cf53 : zCb yJ9_max_7cf53 cJ9_max_7cf53 2 (Option.some Jvm.ClassFile.FieldType.int) 2 := ⟨wl_234, wl_109, by decide, by decide, by decide +kernel⟩
abbrev mi_Ma_min_7cf53 : zMi := (cJ9_min_7cf53, 2, RJ9, 0, 0, "min", (Option.some Jvm.ClassFile.FieldType.int))
theorem cb_Ma_min_7cf53 : zCb yJ9_min_7cf53 cJ9_min_7cf53 2 (Option.some Jvm.ClassFile.FieldType.int) 2 := ⟨wl_238, wl_109, by decide, by decide, by decide +kernel⟩
abbrev mi_Ev_copiedTo : zMi := (cX3_copiedTo, 3, RX3, 1, 40, "copiedTo", (Option.some (Jvm.ClassFile.FieldType.array (Jvm.ClassFile.FieldType.object "JetTrees$Body"))))
theorem cb_Ev_copiedTo : zCb yX3_copiedTo cX3_copiedTo 3 (Option.some (Jvm.ClassFile.FieldType.array (Jvm.ClassFile.FieldType.object "JetTrees$Body"))) 1 := ⟨wl_231, wl_107, by decide, by decide, by decide +kernel⟩
abbrev mi_Ev_size : zMi := (cX3_size, 1, RX3, 0, 0, "size", (Option.some Jvm.ClassFile.FieldType.int))
theorem cb_Ev_size : zCb yX3_size cX3_size 1 (Option.some Jvm.ClassFile.FieldType.int) 0 := ⟨wl_218, wl_107, by decide, by decide, by decide +kernel⟩
abbrev mi_St_inHand : zMi := (cX6_inHand, 1, RX6, 0, 0, "inHand", (Option.some (Jvm.ClassFile.FieldType.object "JetTrees$Event")))
theorem cb_St_inHand : zCb yX6_inHand cX6_inHand 1 (Option.some (Jvm.ClassFile.FieldType.object "JetTrees$Event")) 0 := ⟨wl_214, wl_106, by decide, by decide, by decide +kernel⟩
abbrev mi_St_init_ : zMi := (cX6_init_, 2, RX6, 1, 40, "<init>", (Option.none : Option Jvm.ClassFile.FieldType))
theorem cb_St_init_ : zCb yX6_init_ cX6_init_ 2 (Option.none : Option Jvm.ClassFile.FieldType) 1 := ⟨wl_292, wl_106, by decide, by decide, by decide +kernel⟩
abbrev mi_St_withTracks : zMi := (cX6_withTracks, 3, RX6, 2, 61, "withTracks", (Option.some (Jvm.ClassFile.FieldType.object "JetTrees$State")))
theorem cb_St_withTracks : zCb yX6_withTracks cX6_withTracks 3 (Option.some (Jvm.ClassFile.FieldType.object "JetTrees$State")) 1 := ⟨wl_288, wl_106, by decide, by decide, by decide +kernel⟩
abbrev mi_JT_track : zMi := (cX11_track, 7, RX11, 3, 83, "track", (Option.some Jvm.ClassFile.FieldType.int))
theorem cb_JT_track : zCb yX11_track cX11_track 7 (Option.some Jvm.ClassFile.FieldType.int) 3 := ⟨wl_210, wl_105, by decide, by decide, by decide +kernel⟩
abbrev mi_JT_replaceTrack : zMi := (cX11_replaceTrack, 3, RX11, 3, 83, "replaceTrack", (Option.none : Option Jvm.ClassFile.FieldType))
theorem cb_JT_replaceTrack : zCb yX11_replaceTrack cX11_replaceTrack 3 (Option.none : Option Jvm.ClassFile.FieldType) 1 := ⟨wl_310, wl_105, by decide, by decide, by decide +kernel⟩
abbrev mi_Ev_trackAt : zMi := (cX3_trackAt, 2, RX3, 0, 0, "trackAt", (Option.some (Jvm.ClassFile.FieldType.object "JetTrees$Body")))
theorem cb_Ev_trackAt : zCb yX3_trackAt cX3_trackAt 2 (Option.some (Jvm.ClassFile.FieldType.object "JetTrees$Body")) 1 := ⟨wl_306, wl_107, by decide, by decide, by decide +kernel⟩
abbrev mi_JT_move : zMi := (cX11_move, 5, RX11, 4, 105, "move", (Option.some Jvm.ClassFile.FieldType.boolean))
theorem cb_JT_move : zCb yX11_move cX11_move 5 (Option.some Jvm.ClassFile.FieldType.boolean) 3 := ⟨wl_302, wl_105, by decide, by decide, by decide +kernel⟩
abbrev mi_JT_weigh : zMi := (cX11_weigh, 4, RX11, 4, 105, "weigh", (Option.some Jvm.ClassFile.FieldType.boolean))
theorem cb_JT_weigh : zCb yX11_weigh cX11_weigh 4 (Option.some Jvm.ClassFile.FieldType.boolean) 2 := ⟨wl_314, wl_105, by decide, by decide, by decide +kernel⟩
abbrev mi_Bo_numbered : zMi := (cX0_numbered, 2, RX0, 2, 36, "numbered", (Option.some (Jvm.ClassFile.FieldType.object "JetTrees$Body")))
theorem cb_Bo_numbered : zCb yX0_numbered cX0_numbered 2 (Option.some (Jvm.ClassFile.FieldType.object "JetTrees$Body")) 1 := ⟨wl_322, wl_111, by decide, by decide, by decide +kernel⟩
abbrev mi_JT_drop : zMi := (cX11_drop, 6, RX11, 3, 83, "drop", (Option.some Jvm.ClassFile.FieldType.int))
theorem cb_JT_drop : zCb yX11_drop cX11_drop 6 (Option.some Jvm.ClassFile.FieldType.int) 1 := ⟨wl_318, wl_105, by decide, by decide, by decide +kernel⟩
abbrev mi_Ma_floorMod_7cf53 : zMi := (cJ9_floorMod_7cf53, 3, RJ9, 0, 0, "floorMod", (Option.some Jvm.ClassFile.FieldType.int))
theorem cb_Ma_floorMod_7cf53 : zCb yJ9_floorMod_7cf53 cJ9_floorMod_7cf53 3 (Option.some Jvm.ClassFile.FieldType.int) 2 := ⟨wl_334, wl_109, by decide, by decide, by decide +kernel⟩
abbrev mi_JT_nextX : zMi := (cX11_nextX, 1, RX11, 0, 0, "nextX", (Option.some Jvm.ClassFile.FieldType.int))
theorem cb_JT_nextX : zCb yX11_nextX cX11_nextX 1 (Option.some Jvm.ClassFile.FieldType.int) 1 := ⟨wl_331, wl_105, by decide, by decide, by decide +kernel⟩
abbrev mi_JT_drawn : zMi := (cX11_drawn, 15, RX11, 3, 83, "drawn", (Option.some Jvm.ClassFile.FieldType.int))
theorem cb_JT_drawn : zCb yX11_drawn cX11_drawn 15 (Option.some Jvm.ClassFile.FieldType.int) 4 := ⟨wl_328, wl_105, by decide, by decide, by decide +kernel⟩
abbrev mi_JT_tell : zMi := (cX11_tell, 3, RX11, 2, 61, "tell", (Option.some Jvm.ClassFile.FieldType.boolean))
theorem cb_JT_tell : zCb yX11_tell cX11_tell 3 (Option.some Jvm.ClassFile.FieldType.boolean) 1 := ⟨wl_340, wl_105, by decide, by decide, by decide +kernel⟩
abbrev mi_JT_isPower : zMi := (cX11_isPower, 1, RX11, 0, 0, "isPower", (Option.some Jvm.ClassFile.FieldType.boolean))
theorem cb_JT_isPower : zCb yX11_isPower cX11_isPower 1 (Option.some Jvm.ClassFile.FieldType.boolean) 1 := ⟨wl_351, wl_105, by decide, by decide, by decide +kernel⟩
abbrev mi_JT_isRadius : zMi := (cX11_isRadius, 1, RX11, 0, 0, "isRadius", (Option.some Jvm.ClassFile.FieldType.boolean))
theorem cb_JT_isRadius : zCb yX11_isRadius cX11_isRadius 1 (Option.some Jvm.ClassFile.FieldType.boolean) 1 := ⟨wl_348, wl_105, by decide, by decide, by decide +kernel⟩
abbrev mi_JT_set : zMi := (cX11_set, 4, RX11, 2, 61, "set", (Option.some Jvm.ClassFile.FieldType.boolean))
theorem cb_JT_set : zCb yX11_set cX11_set 4 (Option.some Jvm.ClassFile.FieldType.boolean) 2 := ⟨wl_345, wl_105, by decide, by decide, by decide +kernel⟩
abbrev mi_JT_bitOf : zMi := (cX11_bitOf, 1, RX11, 0, 0, "bitOf", (Option.some Jvm.ClassFile.FieldType.long))
theorem cb_JT_bitOf : zCb yX11_bitOf cX11_bitOf 1 (Option.some Jvm.ClassFile.FieldType.long) 1 := ⟨wl_492, wl_105, by decide, by decide, by decide +kernel⟩
abbrev mi_Ga_offer : zMi := (cX4_offer, 11, RX4, 0, 0, "offer", (Option.none : Option Jvm.ClassFile.FieldType))
theorem cb_Ga_offer : zCb yX4_offer cX4_offer 11 (Option.none : Option Jvm.ClassFile.FieldType) 4 := ⟨wl_563, wl_112, by decide, by decide, by decide +kernel⟩
abbrev mi_Ga_offerAlone : zMi := (cX4_offerAlone, 4, RX4, 1, 30, "offerAlone", (Option.none : Option Jvm.ClassFile.FieldType))
theorem cb_Ga_offerAlone : zCb yX4_offerAlone cX4_offerAlone 4 (Option.none : Option Jvm.ClassFile.FieldType) 1 := ⟨wl_559, wl_112, by decide, by decide, by decide +kernel⟩
abbrev mi_Ma_abs_0f7a4 : zMi := (cJ9_abs_0f7a4, 1, RJ9, 0, 0, "abs", (Option.some Jvm.ClassFile.FieldType.int))
theorem cb_Ma_abs_0f7a4 : zCb yJ9_abs_0f7a4 cJ9_abs_0f7a4 1 (Option.some Jvm.ClassFile.FieldType.int) 1 := ⟨wl_583, wl_109, by decide, by decide, by decide +kernel⟩
abbrev mi_Bo_lesserWay : zMi := (cX0_lesserWay, 3, RX0, 1, 21, "lesserWay", (Option.some Jvm.ClassFile.FieldType.int))
theorem cb_Bo_lesserWay : zCb yX0_lesserWay cX0_lesserWay 3 (Option.some Jvm.ClassFile.FieldType.int) 2 := ⟨wl_580, wl_111, by decide, by decide, by decide +kernel⟩
abbrev mi_Bo_squareTo_ : zMi := (cX0_squareTo_, 5, RX0, 2, 43, "squareTo", (Option.some Jvm.ClassFile.FieldType.int))
theorem cb_Bo_squareTo_ : zCb yX0_squareTo_ cX0_squareTo_ 5 (Option.some Jvm.ClassFile.FieldType.int) 2 := ⟨wl_577, wl_111, by decide, by decide, by decide +kernel⟩
abbrev mi_Bo_squareTo : zMi := (cX0_squareTo, 2, RX0, 3, 67, "squareTo", (Option.some Jvm.ClassFile.FieldType.int))
theorem cb_Bo_squareTo : zCb yX0_squareTo cX0_squareTo 2 (Option.some Jvm.ClassFile.FieldType.int) 1 := ⟨wl_573, wl_111, by decide, by decide, by decide +kernel⟩
abbrev mi_Ga_offerTwo : zMi := (cX4_offerTwo, 7, RX4, 4, 88, "offerTwo", (Option.none : Option Jvm.ClassFile.FieldType))
theorem cb_Ga_offerTwo : zCb yX4_offerTwo cX4_offerTwo 7 (Option.none : Option Jvm.ClassFile.FieldType) 2 := ⟨wl_567, wl_112, by decide, by decide, by decide +kernel⟩
abbrev mi_Ga_findLeast : zMi := (cX4_findLeast, 3, RX4, 5, 114, "findLeast", (Option.none : Option Jvm.ClassFile.FieldType))
theorem cb_Ga_findLeast : zCb yX4_findLeast cX4_findLeast 3 (Option.none : Option Jvm.ClassFile.FieldType) 0 := ⟨wl_555, wl_112, by decide, by decide, by decide +kernel⟩
abbrev mi_Bo_isAheadOf : zMi := (cX0_isAheadOf, 2, RX0, 0, 0, "isAheadOf", (Option.some Jvm.ClassFile.FieldType.boolean))
theorem cb_Bo_isAheadOf : zCb yX0_isAheadOf cX0_isAheadOf 2 (Option.some Jvm.ClassFile.FieldType.boolean) 1 := ⟨wl_551, wl_111, by decide, by decide, by decide +kernel⟩
abbrev mi_Tr_isJetBefore : zMi := (cX10_isJetBefore, 2, RX10, 1, 21, "isJetBefore", (Option.some Jvm.ClassFile.FieldType.boolean))
theorem cb_Tr_isJetBefore : zCb yX10_isJetBefore cX10_isJetBefore 2 (Option.some Jvm.ClassFile.FieldType.boolean) 2 := ⟨wl_630, wl_113, by decide, by decide, by decide +kernel⟩
abbrev mi_Tr_addJet : zMi := (cX10_addJet, 4, RX10, 2, 42, "addJet", (Option.none : Option Jvm.ClassFile.FieldType))
theorem cb_Tr_addJet : zCb yX10_addJet cX10_addJet 4 (Option.none : Option Jvm.ClassFile.FieldType) 1 := ⟨wl_627, wl_113, by decide, by decide, by decide +kernel⟩
abbrev mi_Tr_addStep : zMi := (cX10_addStep, 2, RX10, 0, 0, "addStep", (Option.none : Option Jvm.ClassFile.FieldType))
theorem cb_Tr_addStep : zCb yX10_addStep cX10_addStep 2 (Option.none : Option Jvm.ClassFile.FieldType) 1 := ⟨wl_623, wl_113, by decide, by decide, by decide +kernel⟩
abbrev mi_Ga_takeOut : zMi := (cX4_takeOut, 3, RX4, 0, 0, "takeOut", (Option.none : Option Jvm.ClassFile.FieldType))
theorem cb_Ga_takeOut : zCb yX4_takeOut cX4_takeOut 3 (Option.none : Option Jvm.ClassFile.FieldType) 1 := ⟨wl_635, wl_112, by decide, by decide, by decide +kernel⟩
abbrev mi_Sp_commonDivisor : zMi := (cX7_commonDivisor, 11, RX7, 0, 0, "commonDivisor", (Option.some Jvm.ClassFile.FieldType.long))
theorem cb_Sp_commonDivisor : zCb yX7_commonDivisor cX7_commonDivisor 11 (Option.some Jvm.ClassFile.FieldType.long) 2 := ⟨wl_597, wl_116, by decide, by decide, by decide +kernel⟩
abbrev mi_Sp_init : zMi := (cX7_init, 10, RX7, 1, 30, "<init>", (Option.none : Option Jvm.ClassFile.FieldType))
theorem cb_Sp_init : zCb yX7_init cX7_init 10 (Option.none : Option Jvm.ClassFile.FieldType) 5 := ⟨wl_593, wl_116, by decide, by decide, by decide +kernel⟩
abbrev mi_Ga_goToBeam : zMi := (cX4_goToBeam, 3, RX4, 3, 65, "goToBeam", (Option.none : Option Jvm.ClassFile.FieldType))
theorem cb_Ga_goToBeam : zCb yX4_goToBeam cX4_goToBeam 3 (Option.none : Option Jvm.ClassFile.FieldType) 1 := ⟨wl_588, wl_112, by decide, by decide, by decide +kernel⟩
abbrev mi_Bo_wayFromTo : zMi := (cX0_wayFromTo, 3, RX0, 1, 22, "wayFromTo", (Option.some Jvm.ClassFile.FieldType.int))
theorem cb_Bo_wayFromTo : zCb yX0_wayFromTo cX0_wayFromTo 3 (Option.some Jvm.ClassFile.FieldType.int) 2 := ⟨wl_660, wl_111, by decide, by decide, by decide +kernel⟩
abbrev mi_Ma_floorDiv_7cf53 : zMi := (cJ9_floorDiv_7cf53, 3, RJ9, 0, 0, "floorDiv", (Option.some Jvm.ClassFile.FieldType.int))
theorem cb_Ma_floorDiv_7cf53 : zCb yJ9_floorDiv_7cf53 cJ9_floorDiv_7cf53 3 (Option.some Jvm.ClassFile.FieldType.int) 2 := ⟨wl_657, wl_109, by decide, by decide, by decide +kernel⟩
abbrev mi_JT_downward : zMi := (cX11_downward, 2, RX11, 1, 22, "downward", (Option.some Jvm.ClassFile.FieldType.int))
theorem cb_JT_downward : zCb yX11_downward cX11_downward 2 (Option.some Jvm.ClassFile.FieldType.int) 2 := ⟨wl_654, wl_105, by decide, by decide, by decide +kernel⟩
abbrev mi_Su_add : zMi := (cX8_add, 4, RX8, 2, 44, "add", (Option.none : Option Jvm.ClassFile.FieldType))
theorem cb_Su_add : zCb yX8_add cX8_add 4 (Option.none : Option Jvm.ClassFile.FieldType) 1 := ⟨wl_651, wl_114, by decide, by decide, by decide +kernel⟩
abbrev mi_Su_begin : zMi := (cX8_begin, 2, RX8, 0, 0, "begin", (Option.none : Option Jvm.ClassFile.FieldType))
theorem cb_Su_begin : zCb yX8_begin cX8_begin 2 (Option.none : Option Jvm.ClassFile.FieldType) 1 := ⟨wl_647, wl_114, by decide, by decide, by decide +kernel⟩
abbrev mi_Ga_joinedBody : zMi := (cX4_joinedBody, 5, RX4, 3, 67, "joinedBody", (Option.some (Jvm.ClassFile.FieldType.object "JetTrees$Body")))
theorem cb_Ga_joinedBody : zCb yX4_joinedBody cX4_joinedBody 5 (Option.some (Jvm.ClassFile.FieldType.object "JetTrees$Body")) 2 := ⟨wl_643, wl_112, by decide, by decide, by decide +kernel⟩
abbrev mi_Tr_addKnot : zMi := (cX10_addKnot, 2, RX10, 0, 0, "addKnot", (Option.none : Option Jvm.ClassFile.FieldType))
theorem cb_Tr_addKnot : zCb yX10_addKnot cX10_addKnot 2 (Option.none : Option Jvm.ClassFile.FieldType) 1 := ⟨wl_547, wl_113, by decide, by decide, by decide +kernel⟩
abbrev mi_Ga_putIn : zMi := (cX4_putIn, 4, RX4, 1, 21, "putIn", (Option.none : Option Jvm.ClassFile.FieldType))
theorem cb_Ga_putIn : zCb yX4_putIn cX4_putIn 4 (Option.none : Option Jvm.ClassFile.FieldType) 1 := ⟨wl_543, wl_112, by decide, by decide, by decide +kernel⟩
abbrev mi_Kn_init : zMi := (cX5_init, 7, RX5, 1, 12, "<init>", (Option.none : Option Jvm.ClassFile.FieldType))
theorem cb_Kn_init : zCb yX5_init cX5_init 7 (Option.none : Option Jvm.ClassFile.FieldType) 5 := ⟨wl_495, wl_115, by decide, by decide, by decide +kernel⟩
abbrev mi_Ga_joinBest : zMi := (cX4_joinBest, 6, RX4, 4, 91, "joinBest", (Option.none : Option Jvm.ClassFile.FieldType))
theorem cb_Ga_joinBest : zCb yX4_joinBest cX4_joinBest 6 (Option.none : Option Jvm.ClassFile.FieldType) 1 := ⟨wl_639, wl_112, by decide, by decide, by decide +kernel⟩
abbrev mi_Ga_gathered : zMi := (cX4_gathered, 2, RX4, 6, 136, "gathered", (Option.some (Jvm.ClassFile.FieldType.object "JetTrees$Tree")))
theorem cb_Ga_gathered : zCb yX4_gathered cX4_gathered 2 (Option.some (Jvm.ClassFile.FieldType.object "JetTrees$Tree")) 0 := ⟨wl_488, wl_112, by decide, by decide, by decide +kernel⟩
abbrev mi_Tr_init : zMi := (cX10_init, 5, RX10, 1, 12, "<init>", (Option.none : Option Jvm.ClassFile.FieldType))
theorem cb_Tr_init : zCb yX10_init cX10_init 5 (Option.none : Option Jvm.ClassFile.FieldType) 4 := ⟨wl_373, wl_113, by decide, by decide, by decide +kernel⟩
abbrev mi_Su_init : zMi := (cX8_init, 1, RX8, 1, 12, "<init>", (Option.none : Option Jvm.ClassFile.FieldType))
theorem cb_Su_init : zCb yX8_init cX8_init 1 (Option.none : Option Jvm.ClassFile.FieldType) 0 := ⟨wl_439, wl_114, by decide, by decide, by decide +kernel⟩
abbrev mi_Ga_init : zMi := (cX4_init, 5, RX4, 2, 36, "<init>", (Option.none : Option Jvm.ClassFile.FieldType))
theorem cb_Ga_init : zCb yX4_init cX4_init 5 (Option.none : Option Jvm.ClassFile.FieldType) 4 := ⟨wl_367, wl_112, by decide, by decide, by decide +kernel⟩
abbrev mi_JT_gatheredNow : zMi := (cX11_gatheredNow, 1, RX11, 7, 157, "gatheredNow", (Option.some (Jvm.ClassFile.FieldType.object "JetTrees$Tree")))
theorem cb_JT_gatheredNow : zCb yX11_gatheredNow cX11_gatheredNow 1 (Option.some (Jvm.ClassFile.FieldType.object "JetTrees$Tree")) 0 := ⟨wl_362, wl_105, by decide, by decide, by decide +kernel⟩
abbrev mi_JT_isTree : zMi := (cX11_isTree, 1, RX11, 0, 0, "isTree", (Option.some Jvm.ClassFile.FieldType.boolean))
theorem cb_JT_isTree : zCb yX11_isTree cX11_isTree 1 (Option.some Jvm.ClassFile.FieldType.boolean) 1 := ⟨wl_358, wl_105, by decide, by decide, by decide +kernel⟩
abbrev mi_St_withTree : zMi := (cX6_withTree, 4, RX6, 2, 61, "withTree", (Option.some (Jvm.ClassFile.FieldType.object "JetTrees$State")))
theorem cb_St_withTree : zCb yX6_withTree cX6_withTree 4 (Option.some (Jvm.ClassFile.FieldType.object "JetTrees$State")) 2 := ⟨wl_668, wl_106, by decide, by decide, by decide +kernel⟩
abbrev mi_JT_gather : zMi := (cX11_gather, 3, RX11, 8, 177, "gather", (Option.some Jvm.ClassFile.FieldType.int))
theorem cb_JT_gather : zCb yX11_gather cX11_gather 3 (Option.some Jvm.ClassFile.FieldType.int) 1 := ⟨wl_355, wl_105, by decide, by decide, by decide +kernel⟩
abbrev mi_Tr_isThereBehind : zMi := (cX10_isThereBehind, 4, RX10, 0, 0, "isThereBehind", (Option.some Jvm.ClassFile.FieldType.boolean))
theorem cb_Tr_isThereBehind : zCb yX10_isThereBehind cX10_isThereBehind 4 (Option.some Jvm.ClassFile.FieldType.boolean) 3 := ⟨wl_692, wl_113, by decide, by decide, by decide +kernel⟩
abbrev mi_Tr_ithBehind : zMi := (cX10_ithBehind, 6, RX10, 1, 23, "ithBehind", (Option.some Jvm.ClassFile.FieldType.int))
theorem cb_Tr_ithBehind : zCb yX10_ithBehind cX10_ithBehind 6 (Option.some Jvm.ClassFile.FieldType.int) 3 := ⟨wl_688, wl_113, by decide, by decide, by decide +kernel⟩
abbrev mi_Tr_setsOfCut : zMi := (cX10_setsOfCut, 6, RX10, 2, 48, "setsOfCut", (Option.some (Jvm.ClassFile.FieldType.array Jvm.ClassFile.FieldType.long)))
theorem cb_Tr_setsOfCut : zCb yX10_setsOfCut cX10_setsOfCut 6 (Option.some (Jvm.ClassFile.FieldType.array Jvm.ClassFile.FieldType.long)) 1 := ⟨wl_684, wl_113, by decide, by decide, by decide +kernel⟩
abbrev mi_Tr_stepsToCount : zMi := (cX10_stepsToCount, 4, RX10, 0, 0, "stepsToCount", (Option.some Jvm.ClassFile.FieldType.int))
theorem cb_Tr_stepsToCount : zCb yX10_stepsToCount cX10_stepsToCount 4 (Option.some Jvm.ClassFile.FieldType.int) 1 := ⟨wl_680, wl_113, by decide, by decide, by decide +kernel⟩
abbrev mi_JT_treeAt : zMi := (cX11_treeAt, 2, RX11, 1, 20, "treeAt", (Option.some (Jvm.ClassFile.FieldType.object "JetTrees$Tree")))
theorem cb_JT_treeAt : zCb yX11_treeAt cX11_treeAt 2 (Option.some (Jvm.ClassFile.FieldType.object "JetTrees$Tree")) 1 := ⟨wl_676, wl_105, by decide, by decide, by decide +kernel⟩
abbrev mi_JT_keep : zMi := (cX11_keep, 8, RX11, 3, 73, "keep", (Option.some Jvm.ClassFile.FieldType.int))
theorem cb_JT_keep : zCb yX11_keep cX11_keep 8 (Option.some Jvm.ClassFile.FieldType.int) 3 := ⟨wl_672, wl_105, by decide, by decide, by decide +kernel⟩
abbrev mi_Tr_knotAt : zMi := (cX10_knotAt, 2, RX10, 0, 0, "knotAt", (Option.some (Jvm.ClassFile.FieldType.object "JetTrees$Knot")))
theorem cb_Tr_knotAt : zCb yX10_knotAt cX10_knotAt 2 (Option.some (Jvm.ClassFile.FieldType.object "JetTrees$Knot")) 1 := ⟨wl_706, wl_113, by decide, by decide, by decide +kernel⟩
abbrev mi_JT_knotAt : zMi := (cX11_knotAt, 4, RX11, 2, 41, "knotAt", (Option.some (Jvm.ClassFile.FieldType.object "JetTrees$Knot")))
theorem cb_JT_knotAt : zCb yX11_knotAt cX11_knotAt 4 (Option.some (Jvm.ClassFile.FieldType.object "JetTrees$Knot")) 2 := ⟨wl_702, wl_105, by decide, by decide, by decide +kernel⟩
abbrev mi_Lo_bitCount_95d88 : zMi := (cJ13_bitCount_95d88, 2, RJ13, 0, 0, "bitCount", (Option.some Jvm.ClassFile.FieldType.int))
theorem cb_Lo_bitCount_95d88 : zCb yJ13_bitCount_95d88 cJ13_bitCount_95d88 2 (Option.some Jvm.ClassFile.FieldType.int) 1 := ⟨wl_712, wl_118, by decide, by decide, by decide +kernel⟩
abbrev mi_JT_isIn : zMi := (cX11_isIn, 3, RX11, 1, 20, "isIn", (Option.some Jvm.ClassFile.FieldType.boolean))
theorem cb_JT_isIn : zCb yX11_isIn cX11_isIn 3 (Option.some Jvm.ClassFile.FieldType.boolean) 2 := ⟨wl_719, wl_105, by decide, by decide, by decide +kernel⟩
abbrev mi_Br_gatheredApart : zMi := (cX1_gatheredApart, 9, RX1, 7, 157, "gatheredApart", (Option.some (Jvm.ClassFile.FieldType.object "JetTrees$Tree")))
theorem cb_Br_gatheredApart : zCb yX1_gatheredApart cX1_gatheredApart 9 (Option.some (Jvm.ClassFile.FieldType.object "JetTrees$Tree")) 4 := ⟨wl_709, wl_117, by decide, by decide, by decide +kernel⟩
abbrev mi_JT_apart : zMi := (cX11_apart, 9, RX11, 8, 185, "apart", (Option.some Jvm.ClassFile.FieldType.int))
theorem cb_JT_apart : zCb yX11_apart cX11_apart 9 (Option.some Jvm.ClassFile.FieldType.int) 5 := ⟨wl_698, wl_105, by decide, by decide, by decide +kernel⟩
abbrev mi_JT_hand : zMi := (cX11_hand, 3, RX11, 2, 61, "hand", (Option.some Jvm.ClassFile.FieldType.int))
theorem cb_JT_hand : zCb yX11_hand cX11_hand 3 (Option.some Jvm.ClassFile.FieldType.int) 1 := ⟨wl_728, wl_105, by decide, by decide, by decide +kernel⟩
abbrev mi_JT_mix : zMi := (cX11_mix, 10, RX11, 3, 83, "mix", (Option.some Jvm.ClassFile.FieldType.int))
theorem cb_JT_mix : zCb yX11_mix cX11_mix 10 (Option.some Jvm.ClassFile.FieldType.int) 2 := ⟨wl_732, wl_105, by decide, by decide, by decide +kernel⟩
abbrev mi_JT_free : zMi := (cX11_free, 2, RX11, 3, 84, "free", (Option.some Jvm.ClassFile.FieldType.boolean))
theorem cb_JT_free : zCb yX11_free cX11_free 2 (Option.some Jvm.ClassFile.FieldType.boolean) 1 := ⟨wl_736, wl_105, by decide, by decide, by decide +kernel⟩
abbrev mi_JT_undo : zMi := (cX11_undo, 1, RX11, 0, 0, "undo", (Option.some Jvm.ClassFile.FieldType.int))
theorem cb_JT_undo : zCb yX11_undo cX11_undo 1 (Option.some Jvm.ClassFile.FieldType.int) 0 := ⟨wl_740, wl_105, by decide, by decide, by decide +kernel⟩
abbrev mi_JT_treeBits : zMi := (cX11_treeBits, 3, RX11, 0, 0, "treeBits", (Option.some Jvm.ClassFile.FieldType.int))
theorem cb_JT_treeBits : zCb yX11_treeBits cX11_treeBits 3 (Option.some Jvm.ClassFile.FieldType.int) 0 := ⟨wl_748, wl_105, by decide, by decide, by decide +kernel⟩
abbrev mi_Ev_weightOfAll : zMi := (cX3_weightOfAll, 3, RX3, 0, 0, "weightOfAll", (Option.some Jvm.ClassFile.FieldType.int))
theorem cb_Ev_weightOfAll : zCb yX3_weightOfAll cX3_weightOfAll 3 (Option.some Jvm.ClassFile.FieldType.int) 0 := ⟨wl_752, wl_107, by decide, by decide, by decide +kernel⟩
abbrev mi_JT_is : zMi := (cX11_is, 2, RX11, 1, 22, "is", (Option.some Jvm.ClassFile.FieldType.int))
theorem cb_JT_is : zCb yX11_is cX11_is 2 (Option.some Jvm.ClassFile.FieldType.int) 1 := ⟨wl_744, wl_105, by decide, by decide, by decide +kernel⟩
abbrev mi_JT_of : zMi := (cX11_of, 4, RX11, 1, 21, "of", (Option.some Jvm.ClassFile.FieldType.int))
theorem cb_JT_of : zCb yX11_of cX11_of 4 (Option.some Jvm.ClassFile.FieldType.int) 2 := ⟨wl_756, wl_105, by decide, by decide, by decide +kernel⟩
abbrev mi_JT_square : zMi := (cX11_square, 5, RX11, 4, 88, "square", (Option.some Jvm.ClassFile.FieldType.int))
theorem cb_JT_square : zCb yX11_square cX11_square 5 (Option.some Jvm.ClassFile.FieldType.int) 2 := ⟨wl_760, wl_105, by decide, by decide, by decide +kernel⟩
abbrev mi_Ev_nearestTo : zMi := (cX3_nearestTo, 7, RX3, 4, 88, "nearestTo", (Option.some Jvm.ClassFile.FieldType.int))
theorem cb_Ev_nearestTo : zCb yX3_nearestTo cX3_nearestTo 7 (Option.some Jvm.ClassFile.FieldType.int) 1 := ⟨wl_769, wl_107, by decide, by decide, by decide +kernel⟩
abbrev mi_JT_nearest : zMi := (cX11_nearest, 3, RX11, 5, 114, "nearest", (Option.some Jvm.ClassFile.FieldType.int))
theorem cb_JT_nearest : zCb yX11_nearest cX11_nearest 3 (Option.some Jvm.ClassFile.FieldType.int) 1 := ⟨wl_765, wl_105, by decide, by decide, by decide +kernel⟩
abbrev mi_JT_tree : zMi := (cX11_tree, 4, RX11, 2, 41, "tree", (Option.some Jvm.ClassFile.FieldType.int))
theorem cb_JT_tree : zCb yX11_tree cX11_tree 4 (Option.some Jvm.ClassFile.FieldType.int) 2 := ⟨wl_775, wl_105, by decide, by decide, by decide +kernel⟩
abbrev mi_JT_numberOf : zMi := (cX11_numberOf, 1, RX11, 0, 0, "numberOf", (Option.some Jvm.ClassFile.FieldType.int))
theorem cb_JT_numberOf : zCb yX11_numberOf cX11_numberOf 1 (Option.some Jvm.ClassFile.FieldType.int) 1 := ⟨wl_782, wl_105, by decide, by decide, by decide +kernel⟩
abbrev mi_JT_knot : zMi := (cX11_knot, 5, RX11, 3, 64, "knot", (Option.some Jvm.ClassFile.FieldType.int))
theorem cb_JT_knot : zCb yX11_knot cX11_knot 5 (Option.some Jvm.ClassFile.FieldType.int) 3 := ⟨wl_779, wl_105, by decide, by decide, by decide +kernel⟩
abbrev mi_JT_origin : zMi := (cX11_origin, 4, RX11, 2, 41, "origin", (Option.some Jvm.ClassFile.FieldType.int))
theorem cb_JT_origin : zCb yX11_origin cX11_origin 4 (Option.some Jvm.ClassFile.FieldType.int) 2 := ⟨wl_786, wl_105, by decide, by decide, by decide +kernel⟩
abbrev mi_JT_stepAt : zMi := (cX11_stepAt, 4, RX11, 2, 41, "stepAt", (Option.some (Jvm.ClassFile.FieldType.object "JetTrees$Step")))
theorem cb_JT_stepAt : zCb yX11_stepAt cX11_stepAt 4 (Option.some (Jvm.ClassFile.FieldType.object "JetTrees$Step")) 2 := ⟨wl_794, wl_105, by decide, by decide, by decide +kernel⟩
abbrev mi_JT_step : zMi := (cX11_step, 5, RX11, 3, 64, "step", (Option.some Jvm.ClassFile.FieldType.int))
theorem cb_JT_step : zCb yX11_step cX11_step 5 (Option.some Jvm.ClassFile.FieldType.int) 3 := ⟨wl_790, wl_105, by decide, by decide, by decide +kernel⟩
abbrev mi_JT_up : zMi := (cX11_up, 4, RX11, 3, 64, "up", (Option.some Jvm.ClassFile.FieldType.long))
theorem cb_JT_up : zCb yX11_up cX11_up 4 (Option.some Jvm.ClassFile.FieldType.long) 2 := ⟨wl_798, wl_105, by decide, by decide, by decide +kernel⟩
abbrev mi_JT_down : zMi := (cX11_down, 4, RX11, 3, 64, "down", (Option.some Jvm.ClassFile.FieldType.long))
theorem cb_JT_down : zCb yX11_down cX11_down 4 (Option.some Jvm.ClassFile.FieldType.long) 2 := ⟨wl_803, wl_105, by decide, by decide, by decide +kernel⟩
abbrev mi_JT_leaves : zMi := (cX11_leaves, 4, RX11, 3, 64, "leaves", (Option.some Jvm.ClassFile.FieldType.long))
theorem cb_JT_leaves : zCb yX11_leaves cX11_leaves 4 (Option.some Jvm.ClassFile.FieldType.long) 2 := ⟨wl_807, wl_105, by decide, by decide, by decide +kernel⟩
abbrev mi_JT_jetByWeight : zMi := (cX11_jetByWeight, 4, RX11, 2, 41, "jetByWeight", (Option.some (Jvm.ClassFile.FieldType.object "JetTrees$Knot")))
theorem cb_JT_jetByWeight : zCb yX11_jetByWeight cX11_jetByWeight 4 (Option.some (Jvm.ClassFile.FieldType.object "JetTrees$Knot")) 2 := ⟨wl_815, wl_105, by decide, by decide, by decide +kernel⟩
abbrev mi_JT_jet : zMi := (cX11_jet, 3, RX11, 3, 64, "jet", (Option.some Jvm.ClassFile.FieldType.int))
theorem cb_JT_jet : zCb yX11_jet cX11_jet 3 (Option.some Jvm.ClassFile.FieldType.int) 2 := ⟨wl_811, wl_105, by decide, by decide, by decide +kernel⟩
abbrev mi_Tr_jetWith : zMi := (cX10_jetWith, 4, RX10, 0, 0, "jetWith", (Option.some (Jvm.ClassFile.FieldType.object "JetTrees$Knot")))
theorem cb_Tr_jetWith : zCb yX10_jetWith cX10_jetWith 4 (Option.some (Jvm.ClassFile.FieldType.object "JetTrees$Knot")) 1 := ⟨wl_827, wl_113, by decide, by decide, by decide +kernel⟩
abbrev mi_Tr_trackAt : zMi := (cX10_trackAt, 2, RX10, 0, 0, "trackAt", (Option.some (Jvm.ClassFile.FieldType.object "JetTrees$Knot")))
theorem cb_Tr_trackAt : zCb yX10_trackAt cX10_trackAt 2 (Option.some (Jvm.ClassFile.FieldType.object "JetTrees$Knot")) 1 := ⟨wl_823, wl_113, by decide, by decide, by decide +kernel⟩
abbrev mi_JT_jetOf : zMi := (cX11_jetOf, 5, RX11, 2, 41, "jetOf", (Option.some Jvm.ClassFile.FieldType.int))
theorem cb_JT_jetOf : zCb yX11_jetOf cX11_jetOf 5 (Option.some Jvm.ClassFile.FieldType.int) 2 := ⟨wl_819, wl_105, by decide, by decide, by decide +kernel⟩
abbrev mi_JT_left : zMi := (cX11_left, 5, RX11, 2, 48, "left", (Option.some Jvm.ClassFile.FieldType.int))
theorem cb_JT_left : zCb yX11_left cX11_left 5 (Option.some Jvm.ClassFile.FieldType.int) 3 := ⟨wl_831, wl_105, by decide, by decide, by decide +kernel⟩
abbrev mi_JT_cut : zMi := (cX11_cut, 6, RX11, 2, 48, "cut", (Option.some Jvm.ClassFile.FieldType.int))
theorem cb_JT_cut : zCb yX11_cut cX11_cut 6 (Option.some Jvm.ClassFile.FieldType.int) 3 := ⟨wl_836, wl_105, by decide, by decide, by decide +kernel⟩
abbrev mi_Sp_isAbove : zMi := (cX7_isAbove, 23, RX7, 0, 0, "isAbove", (Option.some Jvm.ClassFile.FieldType.boolean))
theorem cb_Sp_isAbove : zCb yX7_isAbove cX7_isAbove 23 (Option.some Jvm.ClassFile.FieldType.boolean) 2 := ⟨wl_848, wl_116, by decide, by decide, by decide +kernel⟩
abbrev mi_Tr_stepsToMark : zMi := (cX10_stepsToMark, 6, RX10, 1, 42, "stepsToMark", (Option.some Jvm.ClassFile.FieldType.int))
theorem cb_Tr_stepsToMark : zCb yX10_stepsToMark cX10_stepsToMark 6 (Option.some Jvm.ClassFile.FieldType.int) 2 := ⟨wl_844, wl_113, by decide, by decide, by decide +kernel⟩
abbrev mi_JT_cutBy : zMi := (cX11_cutBy, 6, RX11, 2, 67, "cutBy", (Option.some Jvm.ClassFile.FieldType.int))
theorem cb_JT_cutBy : zCb yX11_cutBy cX11_cutBy 6 (Option.some Jvm.ClassFile.FieldType.int) 4 := ⟨wl_840, wl_105, by decide, by decide, by decide +kernel⟩
abbrev mi_Tr_stepThatJoined : zMi := (cX10_stepThatJoined, 4, RX10, 0, 0, "stepThatJoined", (Option.some Jvm.ClassFile.FieldType.int))
theorem cb_Tr_stepThatJoined : zCb yX10_stepThatJoined cX10_stepThatJoined 4 (Option.some Jvm.ClassFile.FieldType.int) 1 := ⟨wl_856, wl_113, by decide, by decide, by decide +kernel⟩
abbrev mi_JT_together : zMi := (cX11_together, 7, RX11, 2, 41, "together", (Option.some Jvm.ClassFile.FieldType.int))
theorem cb_JT_together : zCb yX11_together cX11_together 7 (Option.some Jvm.ClassFile.FieldType.int) 3 := ⟨wl_852, wl_105, by decide, by decide, by decide +kernel⟩
abbrev mi_JT_isOfThousand : zMi := (cX11_isOfThousand, 1, RX11, 0, 0, "isOfThousand", (Option.some Jvm.ClassFile.FieldType.boolean))
theorem cb_JT_isOfThousand : zCb yX11_isOfThousand cX11_isOfThousand 1 (Option.some Jvm.ClassFile.FieldType.boolean) 1 := ⟨wl_864, wl_105, by decide, by decide, by decide +kernel⟩
abbrev mi_Kn_heavier : zMi := (cX5_heavier, 1, RX5, 0, 0, "heavier", (Option.some (Jvm.ClassFile.FieldType.object "JetTrees$Knot")))
theorem cb_Kn_heavier : zCb yX5_heavier cX5_heavier 1 (Option.some (Jvm.ClassFile.FieldType.object "JetTrees$Knot")) 0 := ⟨wl_875, wl_115, by decide, by decide, by decide +kernel⟩
abbrev mi_Kn_lighter : zMi := (cX5_lighter, 1, RX5, 0, 0, "lighter", (Option.some (Jvm.ClassFile.FieldType.object "JetTrees$Knot")))
theorem cb_Kn_lighter : zCb yX5_lighter cX5_lighter 1 (Option.some (Jvm.ClassFile.FieldType.object "JetTrees$Knot")) 0 := ⟨wl_871, wl_115, by decide, by decide, by decide +kernel⟩
abbrev mi_Kn_squareOfParts : zMi := (cX5_squareOfParts, 1, RX5, 4, 88, "squareOfParts", (Option.some Jvm.ClassFile.FieldType.int))
theorem cb_Kn_squareOfParts : zCb yX5_squareOfParts cX5_squareOfParts 1 (Option.some Jvm.ClassFile.FieldType.int) 0 := ⟨wl_880, wl_115, by decide, by decide, by decide +kernel⟩
abbrev mi_Br_groomed : zMi := (cX1_groomed, 12, RX1, 5, 108, "groomed", (Option.some (Jvm.ClassFile.FieldType.object "JetTrees$Knot")))
theorem cb_Br_groomed : zCb yX1_groomed cX1_groomed 12 (Option.some (Jvm.ClassFile.FieldType.object "JetTrees$Knot")) 4 := ⟨wl_867, wl_117, by decide, by decide, by decide +kernel⟩
abbrev mi_JT_groom : zMi := (cX11_groom, 7, RX11, 6, 139, "groom", (Option.some Jvm.ClassFile.FieldType.int))
theorem cb_JT_groom : zCb yX11_groom cX11_groom 7 (Option.some Jvm.ClassFile.FieldType.int) 4 := ⟨wl_861, wl_105, by decide, by decide, by decide +kernel⟩
abbrev mi_Br_trimmed : zMi := (cX1_trimmed, 8, RX1, 2, 42, "trimmed", (Option.some Jvm.ClassFile.FieldType.long))
theorem cb_Br_trimmed : zCb yX1_trimmed cX1_trimmed 8 (Option.some Jvm.ClassFile.FieldType.long) 3 := ⟨wl_888, wl_117, by decide, by decide, by decide +kernel⟩
abbrev mi_JT_trim : zMi := (cX11_trim, 8, RX11, 8, 185, "trim", (Option.some Jvm.ClassFile.FieldType.long))
theorem cb_JT_trim : zCb yX11_trim cX11_trim 8 (Option.some Jvm.ClassFile.FieldType.long) 4 := ⟨wl_885, wl_105, by decide, by decide, by decide +kernel⟩
abbrev mi_Br_pruned : zMi := (cX1_pruned, 10, RX1, 5, 108, "pruned", (Option.some Jvm.ClassFile.FieldType.long))
theorem cb_Br_pruned : zCb yX1_pruned cX1_pruned 10 (Option.some Jvm.ClassFile.FieldType.long) 4 := ⟨wl_896, wl_117, by decide, by decide, by decide +kernel⟩
abbrev mi_JT_prune : zMi := (cX11_prune, 7, RX11, 6, 137, "prune", (Option.some Jvm.ClassFile.FieldType.long))
theorem cb_JT_prune : zCb yX11_prune cX11_prune 7 (Option.some Jvm.ClassFile.FieldType.long) 4 := ⟨wl_893, wl_105, by decide, by decide, by decide +kernel⟩
abbrev mi_Br_lightShare : zMi := (cX1_lightShare, 2, RX1, 2, 43, "lightShare", (Option.some Jvm.ClassFile.FieldType.int))
theorem cb_Br_lightShare : zCb yX1_lightShare cX1_lightShare 2 (Option.some Jvm.ClassFile.FieldType.int) 1 := ⟨wl_911, wl_117, by decide, by decide, by decide +kernel⟩
abbrev mi_Br_splitsOf : zMi := (cX1_splitsOf, 4, RX1, 1, 20, "splitsOf", (Option.some Jvm.ClassFile.FieldType.int))
theorem cb_Br_splitsOf : zCb yX1_splitsOf cX1_splitsOf 4 (Option.some Jvm.ClassFile.FieldType.int) 1 := ⟨wl_904, wl_117, by decide, by decide, by decide +kernel⟩
abbrev mi_Br_splitAt : zMi := (cX1_splitAt, 4, RX1, 2, 43, "splitAt", (Option.some (Jvm.ClassFile.FieldType.object "JetTrees$Knot")))
theorem cb_Br_splitAt : zCb yX1_splitAt cX1_splitAt 4 (Option.some (Jvm.ClassFile.FieldType.object "JetTrees$Knot")) 2 := ⟨wl_907, wl_117, by decide, by decide, by decide +kernel⟩
abbrev mi_JT_split : zMi := (cX11_split, 7, RX11, 5, 108, "split", (Option.some Jvm.ClassFile.FieldType.int))
theorem cb_JT_split : zCb yX11_split cX11_split 7 (Option.some Jvm.ClassFile.FieldType.int) 4 := ⟨wl_901, wl_105, by decide, by decide, by decide +kernel⟩
abbrev mi_Br_quotientBits : zMi := (cX1_quotientBits, 10, RX1, 0, 0, "quotientBits", (Option.some Jvm.ClassFile.FieldType.long))
theorem cb_Br_quotientBits : zCb yX1_quotientBits cX1_quotientBits 10 (Option.some Jvm.ClassFile.FieldType.long) 2 := ⟨wl_924, wl_117, by decide, by decide, by decide +kernel⟩
abbrev mi_Br_widthBits : zMi := (cX1_widthBits, 6, RX1, 4, 88, "widthBits", (Option.some Jvm.ClassFile.FieldType.long))
theorem cb_Br_widthBits : zCb yX1_widthBits cX1_widthBits 6 (Option.some Jvm.ClassFile.FieldType.long) 2 := ⟨wl_920, wl_117, by decide, by decide, by decide +kernel⟩
abbrev mi_JT_width : zMi := (cX11_width, 5, RX11, 5, 113, "width", (Option.some Jvm.ClassFile.FieldType.long))
theorem cb_JT_width : zCb yX11_width cX11_width 5 (Option.some Jvm.ClassFile.FieldType.long) 2 := ⟨wl_917, wl_105, by decide, by decide, by decide +kernel⟩
abbrev mi_Bo_pairedWith : zMi := (cX0_pairedWith, 2, RX0, 4, 88, "pairedWith", (Option.some Jvm.ClassFile.FieldType.long))
theorem cb_Bo_pairedWith : zCb yX0_pairedWith cX0_pairedWith 2 (Option.some Jvm.ClassFile.FieldType.long) 1 := ⟨wl_938, wl_111, by decide, by decide, by decide +kernel⟩
abbrev mi_Br_closenessBits : zMi := (cX1_closenessBits, 6, RX1, 5, 109, "closenessBits", (Option.some Jvm.ClassFile.FieldType.long))
theorem cb_Br_closenessBits : zCb yX1_closenessBits cX1_closenessBits 6 (Option.some Jvm.ClassFile.FieldType.long) 2 := ⟨wl_934, wl_117, by decide, by decide, by decide +kernel⟩
abbrev mi_JT_closeness : zMi := (cX11_closeness, 5, RX11, 6, 134, "closeness", (Option.some Jvm.ClassFile.FieldType.long))
theorem cb_JT_closeness : zCb yX11_closeness cX11_closeness 5 (Option.some Jvm.ClassFile.FieldType.long) 2 := ⟨wl_931, wl_105, by decide, by decide, by decide +kernel⟩
abbrev mi_JT_keptAt : zMi := (cX11_keptAt, 2, RX11, 0, 0, "keptAt", (Option.some (Jvm.ClassFile.FieldType.array Jvm.ClassFile.FieldType.long)))
theorem cb_JT_keptAt : zCb yX11_keptAt cX11_keptAt 2 (Option.some (Jvm.ClassFile.FieldType.array Jvm.ClassFile.FieldType.long)) 1 := ⟨wl_947, wl_105, by decide, by decide, by decide +kernel⟩
abbrev mi_JT_kept : zMi := (cX11_kept, 4, RX11, 1, 21, "kept", (Option.some Jvm.ClassFile.FieldType.long))
theorem cb_JT_kept : zCb yX11_kept cX11_kept 4 (Option.some Jvm.ClassFile.FieldType.long) 2 := ⟨wl_943, wl_105, by decide, by decide, by decide +kernel⟩
abbrev mi_JT_isInOneOf : zMi := (cX11_isInOneOf, 4, RX11, 0, 0, "isInOneOf", (Option.some Jvm.ClassFile.FieldType.boolean))
theorem cb_JT_isInOneOf : zCb yX11_isInOneOf cX11_isInOneOf 4 (Option.some Jvm.ClassFile.FieldType.boolean) 2 := ⟨wl_954, wl_105, by decide, by decide, by decide +kernel⟩
abbrev mi_JT_within : zMi := (cX11_within, 6, RX11, 1, 23, "within", (Option.some Jvm.ClassFile.FieldType.boolean))
theorem cb_JT_within : zCb yX11_within cX11_within 6 (Option.some Jvm.ClassFile.FieldType.boolean) 2 := ⟨wl_951, wl_105, by decide, by decide, by decide +kernel⟩
abbrev mi_Kn_wasJoined : zMi := (cX5_wasJoined, 1, RX5, 0, 0, "wasJoined", (Option.some Jvm.ClassFile.FieldType.boolean))
theorem cb_Kn_wasJoined : zCb yX5_wasJoined cX5_wasJoined 1 (Option.some Jvm.ClassFile.FieldType.boolean) 0 := ⟨wl_969, wl_115, by decide, by decide, by decide +kernel⟩
abbrev mi_Br_latestJoined : zMi := (cX1_latestJoined, 4, RX1, 1, 20, "latestJoined", (Option.some Jvm.ClassFile.FieldType.int))
theorem cb_Br_latestJoined : zCb yX1_latestJoined cX1_latestJoined 4 (Option.some Jvm.ClassFile.FieldType.int) 2 := ⟨wl_965, wl_117, by decide, by decide, by decide +kernel⟩
abbrev mi_Br_leastSquare : zMi := (cX1_leastSquare, 5, RX1, 4, 88, "leastSquare", (Option.some Jvm.ClassFile.FieldType.int))
theorem cb_Br_leastSquare : zCb yX1_leastSquare cX1_leastSquare 5 (Option.some Jvm.ClassFile.FieldType.int) 3 := ⟨wl_972, wl_117, by decide, by decide, by decide +kernel⟩
abbrev mi_Br_tauBits : zMi := (cX1_tauBits, 9, RX1, 5, 112, "tauBits", (Option.some Jvm.ClassFile.FieldType.long))
theorem cb_Br_tauBits : zCb yX1_tauBits cX1_tauBits 9 (Option.some Jvm.ClassFile.FieldType.long) 3 := ⟨wl_961, wl_117, by decide, by decide, by decide +kernel⟩
abbrev mi_JT_tau : zMi := (cX11_tau, 6, RX11, 6, 140, "tau", (Option.some Jvm.ClassFile.FieldType.long))
theorem cb_JT_tau : zCb yX11_tau cX11_tau 6 (Option.some Jvm.ClassFile.FieldType.long) 3 := ⟨wl_958, wl_105, by decide, by decide, by decide +kernel⟩
abbrev mi_Tr_weightOf : zMi := (cX10_weightOf, 5, RX10, 2, 42, "weightOf", (Option.some Jvm.ClassFile.FieldType.int))
theorem cb_Tr_weightOf : zCb yX10_weightOf cX10_weightOf 5 (Option.some Jvm.ClassFile.FieldType.int) 1 := ⟨wl_981, wl_113, by decide, by decide, by decide +kernel⟩
abbrev mi_JT_matched : zMi := (cX11_matched, 11, RX11, 3, 66, "matched", (Option.some Jvm.ClassFile.FieldType.int))
theorem cb_JT_matched : zCb yX11_matched cX11_matched 11 (Option.some Jvm.ClassFile.FieldType.int) 3 := ⟨wl_977, wl_105, by decide, by decide, by decide +kernel⟩
abbrev mi_Tr_jetsUnlike : zMi := (cX10_jetsUnlike, 5, RX10, 1, 23, "jetsUnlike", (Option.some Jvm.ClassFile.FieldType.int))
theorem cb_Tr_jetsUnlike : zCb yX10_jetsUnlike cX10_jetsUnlike 5 (Option.some Jvm.ClassFile.FieldType.int) 1 := ⟨wl_990, wl_113, by decide, by decide, by decide +kernel⟩
abbrev mi_JT_alike : zMi := (cX11_alike, 5, RX11, 2, 47, "alike", (Option.some Jvm.ClassFile.FieldType.boolean))
theorem cb_JT_alike : zCb yX11_alike cX11_alike 5 (Option.some Jvm.ClassFile.FieldType.boolean) 2 := ⟨wl_986, wl_105, by decide, by decide, by decide +kernel⟩
abbrev mi_JT_unlike : zMi := (cX11_unlike, 5, RX11, 2, 47, "unlike", (Option.some Jvm.ClassFile.FieldType.int))
theorem cb_JT_unlike : zCb yX11_unlike cX11_unlike 5 (Option.some Jvm.ClassFile.FieldType.int) 2 := ⟨wl_995, wl_105, by decide, by decide, by decide +kernel⟩
abbrev mi_JT_backToBack : zMi := (cX11_backToBack, 4, RX11, 3, 64, "backToBack", (Option.some Jvm.ClassFile.FieldType.int))
theorem cb_JT_backToBack : zCb yX11_backToBack cX11_backToBack 4 (Option.some Jvm.ClassFile.FieldType.int) 1 := ⟨wl_999, wl_105, by decide, by decide, by decide +kernel⟩
abbrev mi_Sp_isLike : zMi := (cX7_isLike, 2, RX7, 0, 0, "isLike", (Option.some Jvm.ClassFile.FieldType.boolean))
theorem cb_Sp_isLike : zCb yX7_isLike cX7_isLike 2 (Option.some Jvm.ClassFile.FieldType.boolean) 1 := ⟨wl_1012, wl_116, by decide, by decide, by decide +kernel⟩
abbrev mi_Tr_hasStepsOf : zMi := (cX10_hasStepsOf, 3, RX10, 1, 21, "hasStepsOf", (Option.some Jvm.ClassFile.FieldType.boolean))
theorem cb_Tr_hasStepsOf : zCb yX10_hasStepsOf cX10_hasStepsOf 3 (Option.some Jvm.ClassFile.FieldType.boolean) 1 := ⟨wl_1008, wl_113, by decide, by decide, by decide +kernel⟩
abbrev mi_JT_fresh : zMi := (cX11_fresh, 3, RX11, 8, 177, "fresh", (Option.some Jvm.ClassFile.FieldType.boolean))
theorem cb_JT_fresh : zCb yX11_fresh cX11_fresh 3 (Option.some Jvm.ClassFile.FieldType.boolean) 1 := ⟨wl_1004, wl_105, by decide, by decide, by decide +kernel⟩
abbrev mi_JT_pair : zMi := (cX11_pair, 6, RX11, 5, 109, "pair", (Option.some Jvm.ClassFile.FieldType.long))
theorem cb_JT_pair : zCb yX11_pair cX11_pair 6 (Option.some Jvm.ClassFile.FieldType.long) 3 := ⟨wl_1016, wl_105, by decide, by decide, by decide +kernel⟩
abbrev mi_Ma_abs_067f4 : zMi := (cJ9_abs_067f4, 2, RJ9, 0, 0, "abs", (Option.some Jvm.ClassFile.FieldType.long))
theorem cb_Ma_abs_067f4 : zCb yJ9_abs_067f4 cJ9_abs_067f4 2 (Option.some Jvm.ClassFile.FieldType.long) 1 := ⟨wl_1029, wl_109, by decide, by decide, by decide +kernel⟩
abbrev mi_Tr_pairNearestTo : zMi := (cX10_pairNearestTo, 10, RX10, 5, 109, "pairNearestTo", (Option.some Jvm.ClassFile.FieldType.int))
theorem cb_Tr_pairNearestTo : zCb yX10_pairNearestTo cX10_pairNearestTo 10 (Option.some Jvm.ClassFile.FieldType.int) 1 := ⟨wl_1025, wl_113, by decide, by decide, by decide +kernel⟩
abbrev mi_JT_nearestPair : zMi := (cX11_nearestPair, 5, RX11, 6, 138, "nearestPair", (Option.some Jvm.ClassFile.FieldType.int))
theorem cb_JT_nearestPair : zCb yX11_nearestPair cX11_nearestPair 5 (Option.some Jvm.ClassFile.FieldType.int) 2 := ⟨wl_1021, wl_105, by decide, by decide, by decide +kernel⟩
abbrev mi_JT_count : zMi := (cX11_count, 8, RX11, 2, 41, "count", (Option.some Jvm.ClassFile.FieldType.int))
theorem cb_JT_count : zCb yX11_count cX11_count 8 (Option.some Jvm.ClassFile.FieldType.int) 3 := ⟨wl_1033, wl_105, by decide, by decide, by decide +kernel⟩
abbrev mi_Tr_joinedInCommon : zMi := (cX10_joinedInCommon, 5, RX10, 0, 0, "joinedInCommon", (Option.some Jvm.ClassFile.FieldType.int))
theorem cb_Tr_joinedInCommon : zCb yX10_joinedInCommon cX10_joinedInCommon 5 (Option.some Jvm.ClassFile.FieldType.int) 1 := ⟨wl_1042, wl_113, by decide, by decide, by decide +kernel⟩
abbrev mi_JT_common : zMi := (cX11_common, 5, RX11, 2, 41, "common", (Option.some Jvm.ClassFile.FieldType.int))
theorem cb_JT_common : zCb yX11_common cX11_common 5 (Option.some Jvm.ClassFile.FieldType.int) 2 := ⟨wl_1038, wl_105, by decide, by decide, by decide +kernel⟩
abbrev mi_Ev_asTheyComeAhead : zMi := (cX3_asTheyComeAhead, 6, RX3, 2, 62, "asTheyComeAhead", (Option.some (Jvm.ClassFile.FieldType.array (Jvm.ClassFile.FieldType.object "JetTrees$Body"))))
theorem cb_Ev_asTheyComeAhead : zCb yX3_asTheyComeAhead cX3_asTheyComeAhead 6 (Option.some (Jvm.ClassFile.FieldType.array (Jvm.ClassFile.FieldType.object "JetTrees$Body"))) 0 := ⟨wl_1054, wl_107, by decide, by decide, by decide +kernel⟩
abbrev mi_Ev_leastWithoutWay : zMi := (cX3_leastWithoutWay, 7, RX3, 4, 88, "leastWithoutWay", (Option.some Jvm.ClassFile.FieldType.int))
theorem cb_Ev_leastWithoutWay : zCb yX3_leastWithoutWay cX3_leastWithoutWay 7 (Option.some Jvm.ClassFile.FieldType.int) 2 := ⟨wl_1058, wl_107, by decide, by decide, by decide +kernel⟩
abbrev mi_Ev_putTogether : zMi := (cX3_putTogether, 4, RX3, 0, 0, "putTogether", (Option.none : Option Jvm.ClassFile.FieldType))
theorem cb_Ev_putTogether : zCb yX3_putTogether cX3_putTogether 4 (Option.none : Option Jvm.ClassFile.FieldType) 3 := ⟨wl_1061, wl_107, by decide, by decide, by decide +kernel⟩
abbrev mi_Ev_spanned : zMi := (cX3_spanned, 9, RX3, 5, 114, "spanned", (Option.some Jvm.ClassFile.FieldType.int))
theorem cb_Ev_spanned : zCb yX3_spanned cX3_spanned 9 (Option.some Jvm.ClassFile.FieldType.int) 2 := ⟨wl_1050, wl_107, by decide, by decide, by decide +kernel⟩
abbrev mi_JT_span : zMi := (cX11_span, 3, RX11, 6, 142, "span", (Option.some Jvm.ClassFile.FieldType.int))
theorem cb_JT_span : zCb yX11_span cX11_span 3 (Option.some Jvm.ClassFile.FieldType.int) 2 := ⟨wl_1046, wl_105, by decide, by decide, by decide +kernel⟩
abbrev mi_Ev_wayToNext : zMi := (cX3_wayToNext, 5, RX3, 1, 22, "wayToNext", (Option.some Jvm.ClassFile.FieldType.int))
theorem cb_Ev_wayToNext : zCb yX3_wayToNext cX3_wayToNext 5 (Option.some Jvm.ClassFile.FieldType.int) 1 := ⟨wl_1073, wl_107, by decide, by decide, by decide +kernel⟩
abbrev mi_Ev_greatestGap : zMi := (cX3_greatestGap, 7, RX3, 2, 46, "greatestGap", (Option.some Jvm.ClassFile.FieldType.int))
theorem cb_Ev_greatestGap : zCb yX3_greatestGap cX3_greatestGap 7 (Option.some Jvm.ClassFile.FieldType.int) 1 := ⟨wl_1069, wl_107, by decide, by decide, by decide +kernel⟩
abbrev mi_JT_gap : zMi := (cX11_gap, 2, RX11, 3, 72, "gap", (Option.some Jvm.ClassFile.FieldType.int))
theorem cb_JT_gap : zCb yX11_gap cX11_gap 2 (Option.some Jvm.ClassFile.FieldType.int) 1 := ⟨wl_1065, wl_105, by decide, by decide, by decide +kernel⟩
abbrev mi_JT_isTile : zMi := (cX11_isTile, 1, RX11, 0, 0, "isTile", (Option.some Jvm.ClassFile.FieldType.boolean))
theorem cb_JT_isTile : zCb yX11_isTile cX11_isTile 1 (Option.some Jvm.ClassFile.FieldType.boolean) 1 := ⟨wl_1081, wl_105, by decide, by decide, by decide +kernel⟩
abbrev mi_Ti_add : zMi := (cX9_add, 5, RX9, 2, 43, "add", (Option.none : Option Jvm.ClassFile.FieldType))
theorem cb_Ti_add : zCb yX9_add cX9_add 5 (Option.none : Option Jvm.ClassFile.FieldType) 1 := ⟨wl_1116, wl_120, by decide, by decide, by decide +kernel⟩
abbrev mi_Ti_init : zMi := (cX9_init, 2, RX9, 1, 12, "<init>", (Option.none : Option Jvm.ClassFile.FieldType))
theorem cb_Ti_init : zCb yX9_init cX9_init 2 (Option.none : Option Jvm.ClassFile.FieldType) 1 := ⟨wl_1090, wl_120, by decide, by decide, by decide +kernel⟩
abbrev mi_Ev_tiledBy : zMi := (cX3_tiledBy, 4, RX3, 3, 67, "tiledBy", (Option.some (Jvm.ClassFile.FieldType.object "JetTrees$Tiling")))
theorem cb_Ev_tiledBy : zCb yX3_tiledBy cX3_tiledBy 4 (Option.some (Jvm.ClassFile.FieldType.object "JetTrees$Tiling")) 1 := ⟨wl_1085, wl_107, by decide, by decide, by decide +kernel⟩
abbrev mi_Ti_mostTracks : zMi := (cX9_mostTracks, 3, RX9, 1, 21, "mostTracks", (Option.some Jvm.ClassFile.FieldType.int))
theorem cb_Ti_mostTracks : zCb yX9_mostTracks cX9_mostTracks 3 (Option.some Jvm.ClassFile.FieldType.int) 0 := ⟨wl_1121, wl_120, by decide, by decide, by decide +kernel⟩
abbrev mi_JT_tiles : zMi := (cX11_tiles, 4, RX11, 4, 90, "tiles", (Option.some Jvm.ClassFile.FieldType.int))
theorem cb_JT_tiles : zCb yX11_tiles cX11_tiles 4 (Option.some Jvm.ClassFile.FieldType.int) 2 := ⟨wl_1078, wl_105, by decide, by decide, by decide +kernel⟩
abbrev mi_Co_init : zMi := (cX2_init, 2, RX2, 2, 32, "<init>", (Option.none : Option Jvm.ClassFile.FieldType))
theorem cb_Co_init : zCb yX2_init cX2_init 2 (Option.none : Option Jvm.ClassFile.FieldType) 1 := ⟨wl_1131, wl_121, by decide, by decide, by decide +kernel⟩
abbrev mi_Su_addAll : zMi := (cX8_addAll, 6, RX8, 3, 67, "addAll", (Option.none : Option Jvm.ClassFile.FieldType))
theorem cb_Su_addAll : zCb yX8_addAll cX8_addAll 6 (Option.none : Option Jvm.ClassFile.FieldType) 2 := ⟨wl_1176, wl_114, by decide, by decide, by decide +kernel⟩
abbrev mi_Co_isSteady : zMi := (cX2_isSteady, 5, RX2, 4, 92, "isSteady", (Option.some Jvm.ClassFile.FieldType.boolean))
theorem cb_Co_isSteady : zCb yX2_isSteady cX2_isSteady 5 (Option.some Jvm.ClassFile.FieldType.boolean) 3 := ⟨wl_1172, wl_121, by decide, by decide, by decide +kernel⟩
abbrev mi_Co_tracksAbout : zMi := (cX2_tracksAbout, 7, RX2, 3, 67, "tracksAbout", (Option.some Jvm.ClassFile.FieldType.long))
theorem cb_Co_tracksAbout : zCb yX2_tracksAbout cX2_tracksAbout 7 (Option.some Jvm.ClassFile.FieldType.long) 3 := ⟨wl_1160, wl_121, by decide, by decide, by decide +kernel⟩
abbrev mi_Co_weightOf : zMi := (cX2_weightOf, 5, RX2, 2, 42, "weightOf", (Option.some Jvm.ClassFile.FieldType.int))
theorem cb_Co_weightOf : zCb yX2_weightOf cX2_weightOf 5 (Option.some Jvm.ClassFile.FieldType.int) 1 := ⟨wl_1167, wl_121, by decide, by decide, by decide +kernel⟩
abbrev mi_JT_cone : zMi := (cX11_cone, 8, RX11, 5, 116, "cone", (Option.some Jvm.ClassFile.FieldType.int))
theorem cb_JT_cone : zCb yX11_cone cX11_cone 8 (Option.some Jvm.ClassFile.FieldType.int) 4 := ⟨wl_1126, wl_105, by decide, by decide, by decide +kernel⟩
abbrev mi_Co_isFound : zMi := (cX2_isFound, 4, RX2, 0, 0, "isFound", (Option.some Jvm.ClassFile.FieldType.boolean))
theorem cb_Co_isFound : zCb yX2_isFound cX2_isFound 4 (Option.some Jvm.ClassFile.FieldType.boolean) 1 := ⟨wl_1197, wl_121, by decide, by decide, by decide +kernel⟩
abbrev mi_Co_stillFrom : zMi := (cX2_stillFrom, 8, RX2, 5, 116, "stillFrom", (Option.some Jvm.ClassFile.FieldType.long))
theorem cb_Co_stillFrom : zCb yX2_stillFrom cX2_stillFrom 8 (Option.some Jvm.ClassFile.FieldType.long) 2 := ⟨wl_1191, wl_121, by decide, by decide, by decide +kernel⟩
abbrev mi_Co_findStill : zMi := (cX2_findStill, 5, RX2, 6, 143, "findStill", (Option.none : Option Jvm.ClassFile.FieldType))
theorem cb_Co_findStill : zCb yX2_findStill cX2_findStill 5 (Option.none : Option Jvm.ClassFile.FieldType) 1 := ⟨wl_1187, wl_121, by decide, by decide, by decide +kernel⟩
abbrev mi_Co_stillAt : zMi := (cX2_stillAt, 2, RX2, 0, 0, "stillAt", (Option.some Jvm.ClassFile.FieldType.long))
theorem cb_Co_stillAt : zCb yX2_stillAt cX2_stillAt 2 (Option.some Jvm.ClassFile.FieldType.long) 1 := ⟨wl_1201, wl_121, by decide, by decide, by decide +kernel⟩
abbrev mi_JT_still : zMi := (cX11_still, 4, RX11, 7, 167, "still", (Option.some Jvm.ClassFile.FieldType.long))
theorem cb_JT_still : zCb yX11_still cX11_still 4 (Option.some Jvm.ClassFile.FieldType.long) 2 := ⟨wl_1183, wl_105, by decide, by decide, by decide +kernel⟩
abbrev mi_Co_patchAt : zMi := (cX2_patchAt, 2, RX2, 0, 0, "patchAt", (Option.some Jvm.ClassFile.FieldType.long))
theorem cb_Co_patchAt : zCb yX2_patchAt cX2_patchAt 2 (Option.some Jvm.ClassFile.FieldType.long) 1 := ⟨wl_1239, wl_121, by decide, by decide, by decide +kernel⟩
abbrev mi_Co_heaviest : zMi := (cX2_heaviest, 7, RX2, 3, 66, "heaviest", (Option.some Jvm.ClassFile.FieldType.int))
theorem cb_Co_heaviest : zCb yX2_heaviest cX2_heaviest 7 (Option.some Jvm.ClassFile.FieldType.int) 1 := ⟨wl_1215, wl_121, by decide, by decide, by decide +kernel⟩
abbrev mi_Co_removeSet : zMi := (cX2_removeSet, 3, RX2, 0, 0, "removeSet", (Option.none : Option Jvm.ClassFile.FieldType))
theorem cb_Co_removeSet : zCb yX2_removeSet cX2_removeSet 3 (Option.none : Option Jvm.ClassFile.FieldType) 1 := ⟨wl_1224, wl_121, by decide, by decide, by decide +kernel⟩
abbrev mi_Co_makePatch : zMi := (cX2_makePatch, 2, RX2, 1, 22, "makePatch", (Option.none : Option Jvm.ClassFile.FieldType))
theorem cb_Co_makePatch : zCb yX2_makePatch cX2_makePatch 2 (Option.none : Option Jvm.ClassFile.FieldType) 1 := ⟨wl_1220, wl_121, by decide, by decide, by decide +kernel⟩
abbrev mi_Co_divide : zMi := (cX2_divide, 8, RX2, 4, 92, "divide", (Option.none : Option Jvm.ClassFile.FieldType))
theorem cb_Co_divide : zCb yX2_divide cX2_divide 8 (Option.none : Option Jvm.ClassFile.FieldType) 3 := ⟨wl_1234, wl_121, by decide, by decide, by decide +kernel⟩
abbrev mi_Co_settle : zMi := (cX2_settle, 10, RX2, 5, 119, "settle", (Option.none : Option Jvm.ClassFile.FieldType))
theorem cb_Co_settle : zCb yX2_settle cX2_settle 10 (Option.none : Option Jvm.ClassFile.FieldType) 3 := ⟨wl_1228, wl_121, by decide, by decide, by decide +kernel⟩
abbrev mi_Co_shareOut : zMi := (cX2_shareOut, 5, RX2, 6, 148, "shareOut", (Option.none : Option Jvm.ClassFile.FieldType))
theorem cb_Co_shareOut : zCb yX2_shareOut cX2_shareOut 5 (Option.none : Option Jvm.ClassFile.FieldType) 1 := ⟨wl_1210, wl_121, by decide, by decide, by decide +kernel⟩
abbrev mi_JT_patch : zMi := (cX11_patch, 5, RX11, 7, 172, "patch", (Option.some Jvm.ClassFile.FieldType.long))
theorem cb_JT_patch : zCb yX11_patch cX11_patch 5 (Option.some Jvm.ClassFile.FieldType.long) 3 := ⟨wl_1206, wl_105, by decide, by decide, by decide +kernel⟩
abbrev mi_Ti_lessThan : zMi := (cX9_lessThan, 5, RX9, 0, 0, "lessThan", (Option.some Jvm.ClassFile.FieldType.int))
theorem cb_Ti_lessThan : zCb yX9_lessThan cX9_lessThan 5 (Option.some Jvm.ClassFile.FieldType.int) 1 := ⟨wl_1251, wl_120, by decide, by decide, by decide +kernel⟩
abbrev mi_Ti_middleWeight : zMi := (cX9_middleWeight, 6, RX9, 2, 43, "middleWeight", (Option.some Jvm.ClassFile.FieldType.int))
theorem cb_Ti_middleWeight : zCb yX9_middleWeight cX9_middleWeight 6 (Option.some Jvm.ClassFile.FieldType.int) 0 := ⟨wl_1247, wl_120, by decide, by decide, by decide +kernel⟩
abbrev mi_JT_pedestal : zMi := (cX11_pedestal, 2, RX11, 4, 90, "pedestal", (Option.some Jvm.ClassFile.FieldType.int))
theorem cb_JT_pedestal : zCb yX11_pedestal cX11_pedestal 2 (Option.some Jvm.ClassFile.FieldType.int) 1 := ⟨wl_1243, wl_105, by decide, by decide, by decide +kernel⟩
abbrev mi_Tr_tilesOf : zMi := (cX10_tilesOf, 5, RX10, 3, 67, "tilesOf", (Option.some Jvm.ClassFile.FieldType.int))
theorem cb_Tr_tilesOf : zCb yX10_tilesOf cX10_tilesOf 5 (Option.some Jvm.ClassFile.FieldType.int) 2 := ⟨wl_1259, wl_113, by decide, by decide, by decide +kernel⟩
abbrev mi_JT_clean : zMi := (cX11_clean, 7, RX11, 4, 91, "clean", (Option.some Jvm.ClassFile.FieldType.int))
theorem cb_JT_clean : zCb yX11_clean cX11_clean 7 (Option.some Jvm.ClassFile.FieldType.int) 3 := ⟨wl_1255, wl_105, by decide, by decide, by decide +kernel⟩
abbrev mi_Ev_balanceAbout : zMi := (cX3_balanceAbout, 5, RX3, 2, 43, "balanceAbout", (Option.some Jvm.ClassFile.FieldType.int))
theorem cb_Ev_balanceAbout : zCb yX3_balanceAbout cX3_balanceAbout 5 (Option.some Jvm.ClassFile.FieldType.int) 1 := ⟨wl_1270, wl_107, by decide, by decide, by decide +kernel⟩
abbrev mi_JT_balance : zMi := (cX11_balance, 2, RX11, 3, 67, "balance", (Option.some Jvm.ClassFile.FieldType.int))
theorem cb_JT_balance : zCb yX11_balance cX11_balance 2 (Option.some Jvm.ClassFile.FieldType.int) 1 := ⟨wl_1266, wl_105, by decide, by decide, by decide +kernel⟩
abbrev mi_JT_axis : zMi := (cX11_axis, 5, RX11, 3, 67, "axis", (Option.some Jvm.ClassFile.FieldType.int))
theorem cb_JT_axis : zCb yX11_axis cX11_axis 5 (Option.some Jvm.ClassFile.FieldType.int) 0 := ⟨wl_1275, wl_105, by decide, by decide, by decide +kernel⟩
abbrev mi_JT_image : zMi := (cX11_image, 1, RX11, 1, 40, "image", (Option.some Jvm.ClassFile.FieldType.int))
theorem cb_JT_image : zCb yX11_image cX11_image 1 (Option.some Jvm.ClassFile.FieldType.int) 0 := ⟨wl_1279, wl_105, by decide, by decide, by decide +kernel⟩
abbrev mi_JT_back : zMi := (cX11_back, 1, RX11, 1, 40, "back", (Option.some Jvm.ClassFile.FieldType.int))
theorem cb_JT_back : zCb yX11_back cX11_back 1 (Option.some Jvm.ClassFile.FieldType.int) 0 := ⟨wl_1283, wl_105, by decide, by decide, by decide +kernel⟩
abbrev mi_JT_steps : zMi := (cX11_steps, 1, RX11, 0, 0, "steps", (Option.some Jvm.ClassFile.FieldType.int))
theorem cb_JT_steps : zCb yX11_steps cX11_steps 1 (Option.some Jvm.ClassFile.FieldType.int) 0 := ⟨wl_1287, wl_105, by decide, by decide, by decide +kernel⟩
abbrev mi_Mo_copy : zMi := (cX12_copy, 3, RX12, 0, 0, "copy", (Option.none : Option Jvm.ClassFile.FieldType))
theorem cb_Mo_copy : zCb yX12_copy cX12_copy 3 (Option.none : Option Jvm.ClassFile.FieldType) 2 := ⟨wl_1297, wl_108, by decide, by decide, by decide +kernel⟩
abbrev mi_Mo_init : zMi := (cX12_init, 1, RX12, 1, 22, "<init>", (Option.none : Option Jvm.ClassFile.FieldType))
theorem cb_Mo_init : zCb yX12_init cX12_init 1 (Option.none : Option Jvm.ClassFile.FieldType) 0 := ⟨wl_1292, wl_108, by decide, by decide, by decide +kernel⟩
abbrev mi_Mo_isIn : zMi := (cX12_isIn, 3, RX12, 0, 0, "isIn", (Option.some Jvm.ClassFile.FieldType.boolean))
theorem cb_Mo_isIn : zCb yX12_isIn cX12_isIn 3 (Option.some Jvm.ClassFile.FieldType.boolean) 3 := ⟨wl_1396, wl_108, by decide, by decide, by decide +kernel⟩
abbrev mi_Mo_has : zMi := (cX12_has, 3, RX12, 0, 0, "has", (Option.some Jvm.ClassFile.FieldType.boolean))
theorem cb_Mo_has : zCb yX12_has cX12_has 3 (Option.some Jvm.ClassFile.FieldType.boolean) 2 := ⟨wl_1558, wl_108, by decide, by decide, by decide +kernel⟩
abbrev mi_Mo_many : zMi := (cX12_many, 5, RX12, 0, 0, "many", (Option.some Jvm.ClassFile.FieldType.int))
theorem cb_Mo_many : zCb yX12_many cX12_many 5 (Option.some Jvm.ClassFile.FieldType.int) 1 := ⟨wl_1962, wl_108, by decide, by decide, by decide +kernel⟩
abbrev mi_Mo_floor : zMi := (cX12_floor, 2, RX12, 0, 0, "floor", (Option.some Jvm.ClassFile.FieldType.int))
theorem cb_Mo_floor : zCb yX12_floor cX12_floor 2 (Option.some Jvm.ClassFile.FieldType.int) 2 := ⟨wl_1509, wl_108, by decide, by decide, by decide +kernel⟩
abbrev mi_Mo_wayOf : zMi := (cX12_wayOf, 3, RX12, 0, 0, "wayOf", (Option.some Jvm.ClassFile.FieldType.int))
theorem cb_Mo_wayOf : zCb yX12_wayOf cX12_wayOf 3 (Option.some Jvm.ClassFile.FieldType.int) 2 := ⟨wl_1492, wl_108, by decide, by decide, by decide +kernel⟩
abbrev mi_Mo_squareOf : zMi := (cX12_squareOf, 5, RX12, 1, 22, "squareOf", (Option.some Jvm.ClassFile.FieldType.int))
theorem cb_Mo_squareOf : zCb yX12_squareOf cX12_squareOf 5 (Option.some Jvm.ClassFile.FieldType.int) 4 := ⟨wl_1489, wl_108, by decide, by decide, by decide +kernel⟩
abbrev mi_Mo_isPlace : zMi := (cX12_isPlace, 2, RX12, 1, 22, "isPlace", (Option.some Jvm.ClassFile.FieldType.boolean))
theorem cb_Mo_isPlace : zCb yX12_isPlace cX12_isPlace 2 (Option.some Jvm.ClassFile.FieldType.boolean) 2 := ⟨wl_1393, wl_108, by decide, by decide, by decide +kernel⟩
abbrev mi_Mo_eventAt : zMi := (cX12_eventAt, 1, RX12, 0, 0, "eventAt", (Option.some Jvm.ClassFile.FieldType.int))
theorem cb_Mo_eventAt : zCb yX12_eventAt cX12_eventAt 1 (Option.some Jvm.ClassFile.FieldType.int) 1 := ⟨wl_1403, wl_108, by decide, by decide, by decide +kernel⟩
abbrev mi_Mo_tracks : zMi := (cX12_tracks, 1, RX12, 1, 20, "tracks", (Option.some Jvm.ClassFile.FieldType.int))
theorem cb_Mo_tracks : zCb yX12_tracks cX12_tracks 1 (Option.some Jvm.ClassFile.FieldType.int) 0 := ⟨wl_1400, wl_108, by decide, by decide, by decide +kernel⟩
abbrev mi_Mo_isTrack : zMi := (cX12_isTrack, 2, RX12, 2, 40, "isTrack", (Option.some Jvm.ClassFile.FieldType.boolean))
theorem cb_Mo_isTrack : zCb yX12_isTrack cX12_isTrack 2 (Option.some Jvm.ClassFile.FieldType.boolean) 1 := ⟨wl_1423, wl_108, by decide, by decide, by decide +kernel⟩
abbrev mi_Mo_ofTrack : zMi := (cX12_ofTrack, 3, RX12, 1, 20, "ofTrack", (Option.some Jvm.ClassFile.FieldType.int))
theorem cb_Mo_ofTrack : zCb yX12_ofTrack cX12_ofTrack 3 (Option.some Jvm.ClassFile.FieldType.int) 2 := ⟨wl_1427, wl_108, by decide, by decide, by decide +kernel⟩
abbrev mi_Mo_isTree : zMi := (cX12_isTree, 2, RX12, 1, 22, "isTree", (Option.some Jvm.ClassFile.FieldType.boolean))
theorem cb_Mo_isTree : zCb yX12_isTree cX12_isTree 2 (Option.some Jvm.ClassFile.FieldType.boolean) 1 := ⟨wl_1543, wl_108, by decide, by decide, by decide +kernel⟩
abbrev mi_Mo_treeAt : zMi := (cX12_treeAt, 1, RX12, 0, 0, "treeAt", (Option.some Jvm.ClassFile.FieldType.int))
theorem cb_Mo_treeAt : zCb yX12_treeAt cX12_treeAt 1 (Option.some Jvm.ClassFile.FieldType.int) 1 := ⟨wl_1523, wl_108, by decide, by decide, by decide +kernel⟩
abbrev mi_Mo_ofTree : zMi := (cX12_ofTree, 3, RX12, 1, 20, "ofTree", (Option.some Jvm.ClassFile.FieldType.int))
theorem cb_Mo_ofTree : zCb yX12_ofTree cX12_ofTree 3 (Option.some Jvm.ClassFile.FieldType.int) 2 := ⟨wl_1531, wl_108, by decide, by decide, by decide +kernel⟩
abbrev mi_Mo_isKnot : zMi := (cX12_isKnot, 3, RX12, 2, 43, "isKnot", (Option.some Jvm.ClassFile.FieldType.boolean))
theorem cb_Mo_isKnot : zCb yX12_isKnot cX12_isKnot 3 (Option.some Jvm.ClassFile.FieldType.boolean) 2 := ⟨wl_1539, wl_108, by decide, by decide, by decide +kernel⟩
abbrev mi_Mo_ofKnot : zMi := (cX12_ofKnot, 4, RX12, 1, 20, "ofKnot", (Option.some Jvm.ClassFile.FieldType.int))
theorem cb_Mo_ofKnot : zCb yX12_ofKnot cX12_ofKnot 4 (Option.some Jvm.ClassFile.FieldType.int) 3 := ⟨wl_1555, wl_108, by decide, by decide, by decide +kernel⟩
abbrev mi_Mo_weightOf : zMi := (cX12_weightOf, 3, RX12, 2, 43, "weightOf", (Option.some Jvm.ClassFile.FieldType.int))
theorem cb_Mo_weightOf : zCb yX12_weightOf cX12_weightOf 3 (Option.some Jvm.ClassFile.FieldType.int) 2 := ⟨wl_1566, wl_108, by decide, by decide, by decide +kernel⟩
abbrev mi_Mo_isJoined : zMi := (cX12_isJoined, 3, RX12, 2, 43, "isJoined", (Option.some Jvm.ClassFile.FieldType.boolean))
theorem cb_Mo_isJoined : zCb yX12_isJoined cX12_isJoined 3 (Option.some Jvm.ClassFile.FieldType.boolean) 2 := ⟨wl_1551, wl_108, by decide, by decide, by decide +kernel⟩
abbrev mi_Mo_stepsOf : zMi := (cX12_stepsOf, 2, RX12, 2, 42, "stepsOf", (Option.some Jvm.ClassFile.FieldType.int))
theorem cb_Mo_stepsOf : zCb yX12_stepsOf cX12_stepsOf 2 (Option.some Jvm.ClassFile.FieldType.int) 1 := ⟨wl_1653, wl_108, by decide, by decide, by decide +kernel⟩
abbrev mi_Mo_ofStep : zMi := (cX12_ofStep, 4, RX12, 1, 20, "ofStep", (Option.some Jvm.ClassFile.FieldType.int))
theorem cb_Mo_ofStep : zCb yX12_ofStep cX12_ofStep 4 (Option.some Jvm.ClassFile.FieldType.int) 3 := ⟨wl_1637, wl_108, by decide, by decide, by decide +kernel⟩
abbrev mi_Mo_order : zMi := (cX12_order, 21, RX12, 0, 0, "order", (Option.some Jvm.ClassFile.FieldType.int))
theorem cb_Mo_order : zCb yX12_order cX12_order 21 (Option.some Jvm.ClassFile.FieldType.int) 4 := ⟨wl_1499, wl_108, by decide, by decide, by decide +kernel⟩
abbrev mi_Mo_common : zMi := (cX12_common, 10, RX12, 0, 0, "common", (Option.some Jvm.ClassFile.FieldType.long))
theorem cb_Mo_common : zCb yX12_common cX12_common 10 (Option.some Jvm.ClassFile.FieldType.long) 2 := ⟨wl_1673, wl_108, by decide, by decide, by decide +kernel⟩
abbrev mi_Mo_come : zMi := (cX12_come, 6, RX12, 0, 0, "come", (Option.none : Option Jvm.ClassFile.FieldType))
theorem cb_Mo_come : zCb yX12_come cX12_come 6 (Option.none : Option Jvm.ClassFile.FieldType) 5 := ⟨wl_1470, wl_108, by decide, by decide, by decide +kernel⟩
abbrev mi_Mo_isAhead : zMi := (cX12_isAhead, 3, RX12, 0, 0, "isAhead", (Option.some Jvm.ClassFile.FieldType.boolean))
theorem cb_Mo_isAhead : zCb yX12_isAhead cX12_isAhead 3 (Option.some Jvm.ClassFile.FieldType.boolean) 2 := ⟨wl_1478, wl_108, by decide, by decide, by decide +kernel⟩
abbrev mi_Mo_upOf : zMi := (cX12_upOf, 7, RX12, 2, 46, "upOf", (Option.some Jvm.ClassFile.FieldType.long))
theorem cb_Mo_upOf : zCb yX12_upOf cX12_upOf 7 (Option.some Jvm.ClassFile.FieldType.long) 2 := ⟨wl_1486, wl_108, by decide, by decide, by decide +kernel⟩
abbrev mi_Mo_downOf : zMi := (cX12_downOf, 5, RX12, 0, 0, "downOf", (Option.some Jvm.ClassFile.FieldType.long))
theorem cb_Mo_downOf : zCb yX12_downOf cX12_downOf 5 (Option.some Jvm.ClassFile.FieldType.long) 2 := ⟨wl_1496, wl_108, by decide, by decide, by decide +kernel⟩
abbrev mi_Mo_isSooner : zMi := (cX12_isSooner, 6, RX12, 3, 72, "isSooner", (Option.some Jvm.ClassFile.FieldType.boolean))
theorem cb_Mo_isSooner : zCb yX12_isSooner cX12_isSooner 6 (Option.some Jvm.ClassFile.FieldType.boolean) 4 := ⟨wl_1482, wl_108, by decide, by decide, by decide +kernel⟩
abbrev mi_Mo_meanAcross : zMi := (cX12_meanAcross, 4, RX12, 1, 21, "meanAcross", (Option.some Jvm.ClassFile.FieldType.int))
theorem cb_Mo_meanAcross : zCb yX12_meanAcross cX12_meanAcross 4 (Option.some Jvm.ClassFile.FieldType.int) 4 := ⟨wl_1506, wl_108, by decide, by decide, by decide +kernel⟩
abbrev mi_Mo_meanRound : zMi := (cX12_meanRound, 4, RX12, 1, 22, "meanRound", (Option.some Jvm.ClassFile.FieldType.int))
theorem cb_Mo_meanRound : zCb yX12_meanRound cX12_meanRound 4 (Option.some Jvm.ClassFile.FieldType.int) 4 := ⟨wl_1512, wl_108, by decide, by decide, by decide +kernel⟩
abbrev mi_Mo_join : zMi := (cX12_join, 5, RX12, 2, 45, "join", (Option.none : Option Jvm.ClassFile.FieldType))
theorem cb_Mo_join : zCb yX12_join cX12_join 5 (Option.none : Option Jvm.ClassFile.FieldType) 2 := ⟨wl_1503, wl_108, by decide, by decide, by decide +kernel⟩
abbrev mi_Mo_gatherAll : zMi := (cX12_gatherAll, 10, RX12, 4, 97, "gatherAll", (Option.none : Option Jvm.ClassFile.FieldType))
theorem cb_Mo_gatherAll : zCb yX12_gatherAll cX12_gatherAll 10 (Option.none : Option Jvm.ClassFile.FieldType) 3 := ⟨wl_1474, wl_108, by decide, by decide, by decide +kernel⟩
abbrev mi_Mo_layTracks : zMi := (cX12_layTracks, 2, RX12, 2, 42, "layTracks", (Option.none : Option Jvm.ClassFile.FieldType))
theorem cb_Mo_layTracks : zCb yX12_layTracks cX12_layTracks 2 (Option.none : Option Jvm.ClassFile.FieldType) 0 := ⟨wl_1466, wl_108, by decide, by decide, by decide +kernel⟩
abbrev mi_Mo_layLeaves : zMi := (cX12_layLeaves, 5, RX12, 3, 65, "layLeaves", (Option.none : Option Jvm.ClassFile.FieldType))
theorem cb_Mo_layLeaves : zCb yX12_layLeaves cX12_layLeaves 5 (Option.none : Option Jvm.ClassFile.FieldType) 2 := ⟨wl_1562, wl_108, by decide, by decide, by decide +kernel⟩
abbrev mi_Mo_stepAt : zMi := (cX12_stepAt, 2, RX12, 0, 0, "stepAt", (Option.some Jvm.ClassFile.FieldType.int))
theorem cb_Mo_stepAt : zCb yX12_stepAt cX12_stepAt 2 (Option.some Jvm.ClassFile.FieldType.int) 2 := ⟨wl_1386, wl_108, by decide, by decide, by decide +kernel⟩
abbrev mi_Mo_keepNow : zMi := (cX12_keepNow, 3, RX12, 1, 21, "keepNow", (Option.none : Option Jvm.ClassFile.FieldType))
theorem cb_Mo_keepNow : zCb yX12_keepNow cX12_keepNow 3 (Option.none : Option Jvm.ClassFile.FieldType) 0 := ⟨wl_1407, wl_108, by decide, by decide, by decide +kernel⟩
abbrev mi_Mo_undo : zMi := (cX12_undo, 3, RX12, 1, 21, "undo", (Option.some Jvm.ClassFile.FieldType.int))
theorem cb_Mo_undo : zCb yX12_undo cX12_undo 3 (Option.some Jvm.ClassFile.FieldType.int) 0 := ⟨wl_1383, wl_108, by decide, by decide, by decide +kernel⟩
abbrev mi_Mo_layTrack : zMi := (cX12_layTrack, 6, RX12, 1, 20, "layTrack", (Option.none : Option Jvm.ClassFile.FieldType))
theorem cb_Mo_layTrack : zCb yX12_layTrack cX12_layTrack 6 (Option.none : Option Jvm.ClassFile.FieldType) 4 := ⟨wl_1411, wl_108, by decide, by decide, by decide +kernel⟩
abbrev mi_Mo_counted : zMi := (cX12_counted, 2, RX12, 2, 40, "counted", (Option.some Jvm.ClassFile.FieldType.int))
theorem cb_Mo_counted : zCb yX12_counted cX12_counted 2 (Option.some Jvm.ClassFile.FieldType.int) 1 := ⟨wl_1415, wl_108, by decide, by decide, by decide +kernel⟩
abbrev mi_Mo_track : zMi := (cX12_track, 4, RX12, 3, 61, "track", (Option.some Jvm.ClassFile.FieldType.int))
theorem cb_Mo_track : zCb yX12_track cX12_track 4 (Option.some Jvm.ClassFile.FieldType.int) 3 := ⟨wl_1390, wl_108, by decide, by decide, by decide +kernel⟩
abbrev mi_Mo_move : zMi := (cX12_move, 4, RX12, 3, 61, "move", (Option.some Jvm.ClassFile.FieldType.boolean))
theorem cb_Mo_move : zCb yX12_move cX12_move 4 (Option.some Jvm.ClassFile.FieldType.boolean) 3 := ⟨wl_1419, wl_108, by decide, by decide, by decide +kernel⟩
abbrev mi_Mo_weigh : zMi := (cX12_weigh, 3, RX12, 3, 61, "weigh", (Option.some Jvm.ClassFile.FieldType.boolean))
theorem cb_Mo_weigh : zCb yX12_weigh cX12_weigh 3 (Option.some Jvm.ClassFile.FieldType.boolean) 2 := ⟨wl_1431, wl_108, by decide, by decide, by decide +kernel⟩
abbrev mi_Mo_drop : zMi := (cX12_drop, 3, RX12, 3, 61, "drop", (Option.some Jvm.ClassFile.FieldType.int))
theorem cb_Mo_drop : zCb yX12_drop cX12_drop 3 (Option.some Jvm.ClassFile.FieldType.int) 1 := ⟨wl_1435, wl_108, by decide, by decide, by decide +kernel⟩
abbrev mi_Mo_draw : zMi := (cX12_draw, 2, RX12, 0, 0, "draw", (Option.some Jvm.ClassFile.FieldType.int))
theorem cb_Mo_draw : zCb yX12_draw cX12_draw 2 (Option.some Jvm.ClassFile.FieldType.int) 1 := ⟨wl_1443, wl_108, by decide, by decide, by decide +kernel⟩
abbrev mi_Mo_held : zMi := (cX12_held, 3, RX12, 0, 0, "held", (Option.some Jvm.ClassFile.FieldType.int))
theorem cb_Mo_held : zCb yX12_held cX12_held 3 (Option.some Jvm.ClassFile.FieldType.int) 3 := ⟨wl_1446, wl_108, by decide, by decide, by decide +kernel⟩
abbrev mi_Mo_drawn : zMi := (cX12_drawn, 8, RX12, 3, 61, "drawn", (Option.some Jvm.ClassFile.FieldType.int))
theorem cb_Mo_drawn : zCb yX12_drawn cX12_drawn 8 (Option.some Jvm.ClassFile.FieldType.int) 4 := ⟨wl_1439, wl_108, by decide, by decide, by decide +kernel⟩
abbrev mi_Mo_tell : zMi := (cX12_tell, 2, RX12, 1, 22, "tell", (Option.some Jvm.ClassFile.FieldType.boolean))
theorem cb_Mo_tell : zCb yX12_tell cX12_tell 2 (Option.some Jvm.ClassFile.FieldType.boolean) 1 := ⟨wl_1450, wl_108, by decide, by decide, by decide +kernel⟩
abbrev mi_Mo_set : zMi := (cX12_set, 3, RX12, 2, 43, "set", (Option.some Jvm.ClassFile.FieldType.boolean))
theorem cb_Mo_set : zCb yX12_set cX12_set 3 (Option.some Jvm.ClassFile.FieldType.boolean) 2 := ⟨wl_1454, wl_108, by decide, by decide, by decide +kernel⟩
abbrev mi_Mo_clearTree : zMi := (cX12_clearTree, 3, RX12, 1, 20, "clearTree", (Option.none : Option Jvm.ClassFile.FieldType))
theorem cb_Mo_clearTree : zCb yX12_clearTree cX12_clearTree 3 (Option.none : Option Jvm.ClassFile.FieldType) 1 := ⟨wl_1520, wl_108, by decide, by decide, by decide +kernel⟩
abbrev mi_Mo_jetsOf : zMi := (cX12_jetsOf, 2, RX12, 2, 42, "jetsOf", (Option.some Jvm.ClassFile.FieldType.int))
theorem cb_Mo_jetsOf : zCb yX12_jetsOf cX12_jetsOf 2 (Option.some Jvm.ClassFile.FieldType.int) 1 := ⟨wl_1527, wl_108, by decide, by decide, by decide +kernel⟩
abbrev mi_Mo_layTree : zMi := (cX12_layTree, 5, RX12, 2, 42, "layTree", (Option.none : Option Jvm.ClassFile.FieldType))
theorem cb_Mo_layTree : zCb yX12_layTree cX12_layTree 5 (Option.none : Option Jvm.ClassFile.FieldType) 1 := ⟨wl_1516, wl_108, by decide, by decide, by decide +kernel⟩
abbrev mi_Mo_gatherNow : zMi := (cX12_gatherNow, 1, RX12, 5, 126, "gatherNow", (Option.none : Option Jvm.ClassFile.FieldType))
theorem cb_Mo_gatherNow : zCb yX12_gatherNow cX12_gatherNow 1 (Option.none : Option Jvm.ClassFile.FieldType) 0 := ⟨wl_1462, wl_108, by decide, by decide, by decide +kernel⟩
abbrev mi_Mo_gather : zMi := (cX12_gather, 2, RX12, 6, 146, "gather", (Option.some Jvm.ClassFile.FieldType.int))
theorem cb_Mo_gather : zCb yX12_gather cX12_gather 2 (Option.some Jvm.ClassFile.FieldType.int) 1 := ⟨wl_1458, wl_108, by decide, by decide, by decide +kernel⟩
abbrev mi_Mo_leavesOf : zMi := (cX12_leavesOf, 6, RX12, 3, 65, "leavesOf", (Option.some Jvm.ClassFile.FieldType.long))
theorem cb_Mo_leavesOf : zCb yX12_leavesOf cX12_leavesOf 6 (Option.some Jvm.ClassFile.FieldType.long) 2 := ⟨wl_1547, wl_108, by decide, by decide, by decide +kernel⟩
abbrev mi_Mo_apart : zMi := (cX12_apart, 10, RX12, 5, 126, "apart", (Option.some Jvm.ClassFile.FieldType.int))
theorem cb_Mo_apart : zCb yX12_apart cX12_apart 10 (Option.some Jvm.ClassFile.FieldType.int) 5 := ⟨wl_1535, wl_108, by decide, by decide, by decide +kernel⟩
abbrev mi_Mo_origin : zMi := (cX12_origin, 3, RX12, 2, 43, "origin", (Option.some Jvm.ClassFile.FieldType.int))
theorem cb_Mo_origin : zCb yX12_origin cX12_origin 3 (Option.some Jvm.ClassFile.FieldType.int) 2 := ⟨wl_1570, wl_108, by decide, by decide, by decide +kernel⟩
abbrev mi_Mo_isEvent : zMi := (cX12_isEvent, 1, RX12, 1, 22, "isEvent", (Option.some Jvm.ClassFile.FieldType.boolean))
theorem cb_Mo_isEvent : zCb yX12_isEvent cX12_isEvent 1 (Option.some Jvm.ClassFile.FieldType.boolean) 1 := ⟨wl_1577, wl_108, by decide, by decide, by decide +kernel⟩
abbrev mi_Mo_hand : zMi := (cX12_hand, 2, RX12, 2, 43, "hand", (Option.some Jvm.ClassFile.FieldType.int))
theorem cb_Mo_hand : zCb yX12_hand cX12_hand 2 (Option.some Jvm.ClassFile.FieldType.int) 1 := ⟨wl_1574, wl_108, by decide, by decide, by decide +kernel⟩
abbrev mi_Mo_mix : zMi := (cX12_mix, 5, RX12, 3, 61, "mix", (Option.some Jvm.ClassFile.FieldType.int))
theorem cb_Mo_mix : zCb yX12_mix cX12_mix 5 (Option.some Jvm.ClassFile.FieldType.int) 2 := ⟨wl_1581, wl_108, by decide, by decide, by decide +kernel⟩
abbrev mi_Mo_free : zMi := (cX12_free, 2, RX12, 2, 43, "free", (Option.some Jvm.ClassFile.FieldType.boolean))
theorem cb_Mo_free : zCb yX12_free cX12_free 2 (Option.some Jvm.ClassFile.FieldType.boolean) 1 := ⟨wl_1585, wl_108, by decide, by decide, by decide +kernel⟩
abbrev mi_Mo_allTracks : zMi := (cX12_allTracks, 1, RX12, 2, 40, "allTracks", (Option.some Jvm.ClassFile.FieldType.long))
theorem cb_Mo_allTracks : zCb yX12_allTracks cX12_allTracks 1 (Option.some Jvm.ClassFile.FieldType.long) 0 := ⟨wl_1593, wl_108, by decide, by decide, by decide +kernel⟩
abbrev mi_Mo_weightsOf : zMi := (cX12_weightsOf, 5, RX12, 2, 42, "weightsOf", (Option.some Jvm.ClassFile.FieldType.int))
theorem cb_Mo_weightsOf : zCb yX12_weightsOf cX12_weightsOf 5 (Option.some Jvm.ClassFile.FieldType.int) 1 := ⟨wl_1597, wl_108, by decide, by decide, by decide +kernel⟩
abbrev mi_Mo_is : zMi := (cX12_is, 2, RX12, 3, 66, "is", (Option.some Jvm.ClassFile.FieldType.int))
theorem cb_Mo_is : zCb yX12_is cX12_is 2 (Option.some Jvm.ClassFile.FieldType.int) 1 := ⟨wl_1589, wl_108, by decide, by decide, by decide +kernel⟩
abbrev mi_Mo_of : zMi := (cX12_of, 3, RX12, 3, 61, "of", (Option.some Jvm.ClassFile.FieldType.int))
theorem cb_Mo_of : zCb yX12_of cX12_of 3 (Option.some Jvm.ClassFile.FieldType.int) 2 := ⟨wl_1601, wl_108, by decide, by decide, by decide +kernel⟩
abbrev mi_Mo_squareOfTracks : zMi := (cX12_squareOfTracks, 3, RX12, 2, 46, "squareOfTracks", (Option.some Jvm.ClassFile.FieldType.int))
theorem cb_Mo_squareOfTracks : zCb yX12_squareOfTracks cX12_squareOfTracks 3 (Option.some Jvm.ClassFile.FieldType.int) 2 := ⟨wl_1609, wl_108, by decide, by decide, by decide +kernel⟩
abbrev mi_Mo_square : zMi := (cX12_square, 3, RX12, 3, 68, "square", (Option.some Jvm.ClassFile.FieldType.int))
theorem cb_Mo_square : zCb yX12_square cX12_square 3 (Option.some Jvm.ClassFile.FieldType.int) 2 := ⟨wl_1605, wl_108, by decide, by decide, by decide +kernel⟩
abbrev mi_Mo_nearest : zMi := (cX12_nearest, 5, RX12, 3, 68, "nearest", (Option.some Jvm.ClassFile.FieldType.int))
theorem cb_Mo_nearest : zCb yX12_nearest cX12_nearest 5 (Option.some Jvm.ClassFile.FieldType.int) 1 := ⟨wl_1613, wl_108, by decide, by decide, by decide +kernel⟩
abbrev mi_Mo_tree : zMi := (cX12_tree, 3, RX12, 3, 63, "tree", (Option.some Jvm.ClassFile.FieldType.int))
theorem cb_Mo_tree : zCb yX12_tree cX12_tree 3 (Option.some Jvm.ClassFile.FieldType.int) 2 := ⟨wl_1617, wl_108, by decide, by decide, by decide +kernel⟩
abbrev mi_Mo_aboveOf : zMi := (cX12_aboveOf, 4, RX12, 2, 43, "aboveOf", (Option.some Jvm.ClassFile.FieldType.int))
theorem cb_Mo_aboveOf : zCb yX12_aboveOf cX12_aboveOf 4 (Option.some Jvm.ClassFile.FieldType.int) 2 := ⟨wl_1625, wl_108, by decide, by decide, by decide +kernel⟩
abbrev mi_Mo_wentBy : zMi := (cX12_wentBy, 4, RX12, 2, 43, "wentBy", (Option.some Jvm.ClassFile.FieldType.int))
theorem cb_Mo_wentBy : zCb yX12_wentBy cX12_wentBy 4 (Option.some Jvm.ClassFile.FieldType.int) 2 := ⟨wl_1641, wl_108, by decide, by decide, by decide +kernel⟩
abbrev mi_Mo_cameBy : zMi := (cX12_cameBy, 5, RX12, 2, 43, "cameBy", (Option.some Jvm.ClassFile.FieldType.int))
theorem cb_Mo_cameBy : zCb yX12_cameBy cX12_cameBy 5 (Option.some Jvm.ClassFile.FieldType.int) 2 := ⟨wl_1633, wl_108, by decide, by decide, by decide +kernel⟩
abbrev mi_Mo_joinedBy : zMi := (cX12_joinedBy, 4, RX12, 3, 67, "joinedBy", (Option.some Jvm.ClassFile.FieldType.int))
theorem cb_Mo_joinedBy : zCb yX12_joinedBy cX12_joinedBy 4 (Option.some Jvm.ClassFile.FieldType.int) 2 := ⟨wl_1629, wl_108, by decide, by decide, by decide +kernel⟩
abbrev mi_Mo_knot : zMi := (cX12_knot, 4, RX12, 4, 90, "knot", (Option.some Jvm.ClassFile.FieldType.int))
theorem cb_Mo_knot : zCb yX12_knot cX12_knot 4 (Option.some Jvm.ClassFile.FieldType.int) 3 := ⟨wl_1621, wl_108, by decide, by decide, by decide +kernel⟩
abbrev mi_Mo_isStep : zMi := (cX12_isStep, 3, RX12, 3, 63, "isStep", (Option.some Jvm.ClassFile.FieldType.boolean))
theorem cb_Mo_isStep : zCb yX12_isStep cX12_isStep 3 (Option.some Jvm.ClassFile.FieldType.boolean) 2 := ⟨wl_1649, wl_108, by decide, by decide, by decide +kernel⟩
abbrev mi_Mo_step : zMi := (cX12_step, 4, RX12, 4, 85, "step", (Option.some Jvm.ClassFile.FieldType.int))
theorem cb_Mo_step : zCb yX12_step cX12_step 4 (Option.some Jvm.ClassFile.FieldType.int) 3 := ⟨wl_1645, wl_108, by decide, by decide, by decide +kernel⟩
abbrev mi_Mo_layOf : zMi := (cX12_layOf, 3, RX12, 3, 65, "layOf", (Option.none : Option Jvm.ClassFile.FieldType))
theorem cb_Mo_layOf : zCb yX12_layOf cX12_layOf 3 (Option.none : Option Jvm.ClassFile.FieldType) 1 := ⟨wl_1662, wl_108, by decide, by decide, by decide +kernel⟩
abbrev mi_Mo_upOfStep : zMi := (cX12_upOfStep, 3, RX12, 3, 72, "upOfStep", (Option.some Jvm.ClassFile.FieldType.long))
theorem cb_Mo_upOfStep : zCb yX12_upOfStep cX12_upOfStep 3 (Option.some Jvm.ClassFile.FieldType.long) 2 := ⟨wl_1666, wl_108, by decide, by decide, by decide +kernel⟩
abbrev mi_Mo_downOfStep : zMi := (cX12_downOfStep, 3, RX12, 2, 43, "downOfStep", (Option.some Jvm.ClassFile.FieldType.long))
theorem cb_Mo_downOfStep : zCb yX12_downOfStep cX12_downOfStep 3 (Option.some Jvm.ClassFile.FieldType.long) 2 := ⟨wl_1670, wl_108, by decide, by decide, by decide +kernel⟩
abbrev mi_Mo_up : zMi := (cX12_up, 5, RX12, 4, 94, "up", (Option.some Jvm.ClassFile.FieldType.long))
theorem cb_Mo_up : zCb yX12_up cX12_up 5 (Option.some Jvm.ClassFile.FieldType.long) 2 := ⟨wl_1657, wl_108, by decide, by decide, by decide +kernel⟩
abbrev mi_Mo_down : zMi := (cX12_down, 5, RX12, 4, 94, "down", (Option.some Jvm.ClassFile.FieldType.long))
theorem cb_Mo_down : zCb yX12_down cX12_down 5 (Option.some Jvm.ClassFile.FieldType.long) 2 := ⟨wl_1677, wl_108, by decide, by decide, by decide +kernel⟩
abbrev mi_Mo_leaves : zMi := (cX12_leaves, 3, RX12, 4, 90, "leaves", (Option.some Jvm.ClassFile.FieldType.long))
theorem cb_Mo_leaves : zCb yX12_leaves cX12_leaves 3 (Option.some Jvm.ClassFile.FieldType.long) 2 := ⟨wl_1681, wl_108, by decide, by decide, by decide +kernel⟩
abbrev mi_Mo_isJet : zMi := (cX12_isJet, 3, RX12, 3, 66, "isJet", (Option.some Jvm.ClassFile.FieldType.boolean))
theorem cb_Mo_isJet : zCb yX12_isJet cX12_isJet 3 (Option.some Jvm.ClassFile.FieldType.boolean) 2 := ⟨wl_1693, wl_108, by decide, by decide, by decide +kernel⟩
abbrev mi_Mo_isAheadIn : zMi := (cX12_isAheadIn, 5, RX12, 2, 43, "isAheadIn", (Option.some Jvm.ClassFile.FieldType.boolean))
theorem cb_Mo_isAheadIn : zCb yX12_isAheadIn cX12_isAheadIn 5 (Option.some Jvm.ClassFile.FieldType.boolean) 3 := ⟨wl_1701, wl_108, by decide, by decide, by decide +kernel⟩
abbrev mi_Mo_isHeavier : zMi := (cX12_isHeavier, 4, RX12, 3, 67, "isHeavier", (Option.some Jvm.ClassFile.FieldType.boolean))
theorem cb_Mo_isHeavier : zCb yX12_isHeavier cX12_isHeavier 4 (Option.some Jvm.ClassFile.FieldType.boolean) 3 := ⟨wl_1697, wl_108, by decide, by decide, by decide +kernel⟩
abbrev mi_Mo_jetBy : zMi := (cX12_jetBy, 7, RX12, 4, 90, "jetBy", (Option.some Jvm.ClassFile.FieldType.int))
theorem cb_Mo_jetBy : zCb yX12_jetBy cX12_jetBy 7 (Option.some Jvm.ClassFile.FieldType.int) 2 := ⟨wl_1689, wl_108, by decide, by decide, by decide +kernel⟩
abbrev mi_Mo_jet : zMi := (cX12_jet, 3, RX12, 5, 116, "jet", (Option.some Jvm.ClassFile.FieldType.int))
theorem cb_Mo_jet : zCb yX12_jet cX12_jet 3 (Option.some Jvm.ClassFile.FieldType.int) 2 := ⟨wl_1685, wl_108, by decide, by decide, by decide +kernel⟩
abbrev mi_Mo_jetOf : zMi := (cX12_jetOf, 4, RX12, 3, 66, "jetOf", (Option.some Jvm.ClassFile.FieldType.int))
theorem cb_Mo_jetOf : zCb yX12_jetOf cX12_jetOf 4 (Option.some Jvm.ClassFile.FieldType.int) 2 := ⟨wl_1705, wl_108, by decide, by decide, by decide +kernel⟩
abbrev mi_Mo_layStanding : zMi := (cX12_layStanding, 8, RX12, 4, 90, "layStanding", (Option.none : Option Jvm.ClassFile.FieldType))
theorem cb_Mo_layStanding : zCb yX12_layStanding cX12_layStanding 8 (Option.none : Option Jvm.ClassFile.FieldType) 3 := ⟨wl_1713, wl_108, by decide, by decide, by decide +kernel⟩
abbrev mi_Mo_ofRow : zMi := (cX12_ofRow, 2, RX12, 1, 22, "ofRow", (Option.some Jvm.ClassFile.FieldType.int))
theorem cb_Mo_ofRow : zCb yX12_ofRow cX12_ofRow 2 (Option.some Jvm.ClassFile.FieldType.int) 1 := ⟨wl_1717, wl_108, by decide, by decide, by decide +kernel⟩
abbrev mi_Mo_left : zMi := (cX12_left, 4, RX12, 5, 117, "left", (Option.some Jvm.ClassFile.FieldType.int))
theorem cb_Mo_left : zCb yX12_left cX12_left 4 (Option.some Jvm.ClassFile.FieldType.int) 3 := ⟨wl_1709, wl_108, by decide, by decide, by decide +kernel⟩
abbrev mi_Mo_stepsTo : zMi := (cX12_stepsTo, 5, RX12, 3, 63, "stepsTo", (Option.some Jvm.ClassFile.FieldType.int))
theorem cb_Mo_stepsTo : zCb yX12_stepsTo cX12_stepsTo 5 (Option.some Jvm.ClassFile.FieldType.int) 2 := ⟨wl_1729, wl_108, by decide, by decide, by decide +kernel⟩
abbrev mi_Mo_isCut : zMi := (cX12_isCut, 3, RX12, 4, 87, "isCut", (Option.some Jvm.ClassFile.FieldType.boolean))
theorem cb_Mo_isCut : zCb yX12_isCut cX12_isCut 3 (Option.some Jvm.ClassFile.FieldType.boolean) 2 := ⟨wl_1725, wl_108, by decide, by decide, by decide +kernel⟩
abbrev mi_Mo_cut : zMi := (cX12_cut, 4, RX12, 5, 117, "cut", (Option.some Jvm.ClassFile.FieldType.int))
theorem cb_Mo_cut : zCb yX12_cut cX12_cut 4 (Option.some Jvm.ClassFile.FieldType.int) 3 := ⟨wl_1721, wl_108, by decide, by decide, by decide +kernel⟩
abbrev mi_Mo_cutBy : zMi := (cX12_cutBy, 6, RX12, 5, 117, "cutBy", (Option.some Jvm.ClassFile.FieldType.int))
theorem cb_Mo_cutBy : zCb yX12_cutBy cX12_cutBy 6 (Option.some Jvm.ClassFile.FieldType.int) 4 := ⟨wl_1733, wl_108, by decide, by decide, by decide +kernel⟩
abbrev mi_Mo_together : zMi := (cX12_together, 7, RX12, 4, 90, "together", (Option.some Jvm.ClassFile.FieldType.int))
theorem cb_Mo_together : zCb yX12_together cX12_together 7 (Option.some Jvm.ClassFile.FieldType.int) 3 := ⟨wl_1737, wl_108, by decide, by decide, by decide +kernel⟩
abbrev mi_Mo_cutAt : zMi := (cX12_cutAt, 1, RX12, 0, 0, "cutAt", (Option.some Jvm.ClassFile.FieldType.int))
theorem cb_Mo_cutAt : zCb yX12_cutAt cX12_cutAt 1 (Option.some Jvm.ClassFile.FieldType.int) 1 := ⟨wl_1748, wl_108, by decide, by decide, by decide +kernel⟩
abbrev mi_Mo_keptAt : zMi := (cX12_keptAt, 4, RX12, 1, 20, "keptAt", (Option.some Jvm.ClassFile.FieldType.long))
theorem cb_Mo_keptAt : zCb yX12_keptAt cX12_keptAt 4 (Option.some Jvm.ClassFile.FieldType.long) 2 := ⟨wl_1760, wl_108, by decide, by decide, by decide +kernel⟩
abbrev mi_Mo_isPlaceOfCut : zMi := (cX12_isPlaceOfCut, 1, RX12, 1, 22, "isPlaceOfCut", (Option.some Jvm.ClassFile.FieldType.boolean))
theorem cb_Mo_isPlaceOfCut : zCb yX12_isPlaceOfCut cX12_isPlaceOfCut 1 (Option.some Jvm.ClassFile.FieldType.boolean) 1 := ⟨wl_1744, wl_108, by decide, by decide, by decide +kernel⟩
abbrev mi_Mo_keep : zMi := (cX12_keep, 8, RX12, 6, 140, "keep", (Option.some Jvm.ClassFile.FieldType.int))
theorem cb_Mo_keep : zCb yX12_keep cX12_keep 8 (Option.some Jvm.ClassFile.FieldType.int) 3 := ⟨wl_1741, wl_108, by decide, by decide, by decide +kernel⟩
abbrev mi_Mo_isKept : zMi := (cX12_isKept, 2, RX12, 2, 42, "isKept", (Option.some Jvm.ClassFile.FieldType.boolean))
theorem cb_Mo_isKept : zCb yX12_isKept cX12_isKept 2 (Option.some Jvm.ClassFile.FieldType.boolean) 1 := ⟨wl_1756, wl_108, by decide, by decide, by decide +kernel⟩
abbrev mi_Mo_kept : zMi := (cX12_kept, 3, RX12, 3, 63, "kept", (Option.some Jvm.ClassFile.FieldType.long))
theorem cb_Mo_kept : zCb yX12_kept cX12_kept 3 (Option.some Jvm.ClassFile.FieldType.long) 2 := ⟨wl_1752, wl_108, by decide, by decide, by decide +kernel⟩
abbrev mi_Mo_isInOne : zMi := (cX12_isInOne, 5, RX12, 2, 43, "isInOne", (Option.some Jvm.ClassFile.FieldType.boolean))
theorem cb_Mo_isInOne : zCb yX12_isInOne cX12_isInOne 5 (Option.some Jvm.ClassFile.FieldType.boolean) 2 := ⟨wl_1769, wl_108, by decide, by decide, by decide +kernel⟩
abbrev mi_Mo_within : zMi := (cX12_within, 4, RX12, 3, 67, "within", (Option.some Jvm.ClassFile.FieldType.boolean))
theorem cb_Mo_within : zCb yX12_within cX12_within 4 (Option.some Jvm.ClassFile.FieldType.boolean) 2 := ⟨wl_1765, wl_108, by decide, by decide, by decide +kernel⟩
abbrev mi_Mo_partOf : zMi := (cX12_partOf, 7, RX12, 3, 65, "partOf", (Option.some Jvm.ClassFile.FieldType.int))
theorem cb_Mo_partOf : zCb yX12_partOf cX12_partOf 7 (Option.some Jvm.ClassFile.FieldType.int) 3 := ⟨wl_1784, wl_108, by decide, by decide, by decide +kernel⟩
abbrev mi_Mo_squareOfParts : zMi := (cX12_squareOfParts, 5, RX12, 2, 46, "squareOfParts", (Option.some Jvm.ClassFile.FieldType.long))
theorem cb_Mo_squareOfParts : zCb yX12_squareOfParts cX12_squareOfParts 5 (Option.some Jvm.ClassFile.FieldType.long) 2 := ⟨wl_1788, wl_108, by decide, by decide, by decide +kernel⟩
abbrev mi_Mo_isWeak : zMi := (cX12_isWeak, 11, RX12, 4, 91, "isWeak", (Option.some Jvm.ClassFile.FieldType.boolean))
theorem cb_Mo_isWeak : zCb yX12_isWeak cX12_isWeak 11 (Option.some Jvm.ClassFile.FieldType.boolean) 4 := ⟨wl_1780, wl_108, by decide, by decide, by decide +kernel⟩
abbrev mi_Mo_isMille : zMi := (cX12_isMille, 1, RX12, 1, 22, "isMille", (Option.some Jvm.ClassFile.FieldType.boolean))
theorem cb_Mo_isMille : zCb yX12_isMille cX12_isMille 1 (Option.some Jvm.ClassFile.FieldType.boolean) 1 := ⟨wl_1776, wl_108, by decide, by decide, by decide +kernel⟩
abbrev mi_Mo_isRadius : zMi := (cX12_isRadius, 1, RX12, 1, 22, "isRadius", (Option.some Jvm.ClassFile.FieldType.boolean))
theorem cb_Mo_isRadius : zCb yX12_isRadius cX12_isRadius 1 (Option.some Jvm.ClassFile.FieldType.boolean) 1 := ⟨wl_1795, wl_108, by decide, by decide, by decide +kernel⟩
abbrev mi_Mo_groom : zMi := (cX12_groom, 6, RX12, 5, 121, "groom", (Option.some Jvm.ClassFile.FieldType.int))
theorem cb_Mo_groom : zCb yX12_groom cX12_groom 6 (Option.some Jvm.ClassFile.FieldType.int) 4 := ⟨wl_1773, wl_108, by decide, by decide, by decide +kernel⟩
abbrev mi_Mo_nthOf : zMi := (cX12_nthOf, 6, RX12, 1, 22, "nthOf", (Option.some Jvm.ClassFile.FieldType.int))
theorem cb_Mo_nthOf : zCb yX12_nthOf cX12_nthOf 6 (Option.some Jvm.ClassFile.FieldType.int) 2 := ⟨wl_1802, wl_108, by decide, by decide, by decide +kernel⟩
abbrev mi_Mo_leavesOfLent : zMi := (cX12_leavesOfLent, 7, RX12, 2, 47, "leavesOfLent", (Option.some Jvm.ClassFile.FieldType.long))
theorem cb_Mo_leavesOfLent : zCb yX12_leavesOfLent cX12_leavesOfLent 7 (Option.some Jvm.ClassFile.FieldType.long) 2 := ⟨wl_1799, wl_108, by decide, by decide, by decide +kernel⟩
abbrev mi_Mo_trim : zMi := (cX12_trim, 11, RX12, 5, 126, "trim", (Option.some Jvm.ClassFile.FieldType.long))
theorem cb_Mo_trim : zCb yX12_trim cX12_trim 11 (Option.some Jvm.ClassFile.FieldType.long) 4 := ⟨wl_1792, wl_108, by decide, by decide, by decide +kernel⟩
abbrev mi_Mo_prune : zMi := (cX12_prune, 10, RX12, 5, 121, "prune", (Option.some Jvm.ClassFile.FieldType.long))
theorem cb_Mo_prune : zCb yX12_prune cX12_prune 10 (Option.some Jvm.ClassFile.FieldType.long) 4 := ⟨wl_1806, wl_108, by decide, by decide, by decide +kernel⟩
abbrev mi_Mo_split : zMi := (cX12_split, 7, RX12, 4, 91, "split", (Option.some Jvm.ClassFile.FieldType.int))
theorem cb_Mo_split : zCb yX12_split cX12_split 7 (Option.some Jvm.ClassFile.FieldType.int) 4 := ⟨wl_1810, wl_108, by decide, by decide, by decide +kernel⟩
abbrev mi_Mo_squareIn : zMi := (cX12_squareIn, 4, RX12, 2, 46, "squareIn", (Option.some Jvm.ClassFile.FieldType.long))
theorem cb_Mo_squareIn : zCb yX12_squareIn cX12_squareIn 4 (Option.some Jvm.ClassFile.FieldType.long) 3 := ⟨wl_1818, wl_108, by decide, by decide, by decide +kernel⟩
abbrev mi_Do_isNaN_b9ae7 : zMi := (cJxe99ae_isNaN_b9ae7, 2, RJxe99ae, 0, 0, "isNaN", (Option.some Jvm.ClassFile.FieldType.boolean))
theorem cb_Do_isNaN_b9ae7 : zCb yJxe99ae_isNaN_b9ae7 cJxe99ae_isNaN_b9ae7 2 (Option.some Jvm.ClassFile.FieldType.boolean) 1 := ⟨wl_1824, wl_119, by decide, by decide, by decide +kernel⟩
abbrev mi_Do_doubleToLongBits_ccdee : zMi := (cJxe99ae_doubleToLongBits_ccdee, 2, RJxe99ae, 1, 24, "doubleToLongBits", (Option.some Jvm.ClassFile.FieldType.long))
theorem cb_Do_doubleToLongBits_ccdee : zCb yJxe99ae_doubleToLongBits_ccdee cJxe99ae_doubleToLongBits_ccdee 2 (Option.some Jvm.ClassFile.FieldType.long) 1 := ⟨wl_1821, wl_119, by decide, by decide, by decide +kernel⟩
abbrev mi_Mo_width : zMi := (cX12_width, 8, RX12, 4, 90, "width", (Option.some Jvm.ClassFile.FieldType.long))
theorem cb_Mo_width : zCb yX12_width cX12_width 8 (Option.some Jvm.ClassFile.FieldType.long) 2 := ⟨wl_1814, wl_108, by decide, by decide, by decide +kernel⟩
abbrev mi_Mo_closeness : zMi := (cX12_closeness, 9, RX12, 4, 90, "closeness", (Option.some Jvm.ClassFile.FieldType.long))
theorem cb_Mo_closeness : zCb yX12_closeness cX12_closeness 9 (Option.some Jvm.ClassFile.FieldType.long) 2 := ⟨wl_1832, wl_108, by decide, by decide, by decide +kernel⟩
abbrev mi_Mo_layApart : zMi := (cX12_layApart, 7, RX12, 3, 65, "layApart", (Option.none : Option Jvm.ClassFile.FieldType))
theorem cb_Mo_layApart : zCb yX12_layApart cX12_layApart 7 (Option.none : Option Jvm.ClassFile.FieldType) 3 := ⟨wl_1840, wl_108, by decide, by decide, by decide +kernel⟩
abbrev mi_Mo_tau : zMi := (cX12_tau, 12, RX12, 4, 91, "tau", (Option.some Jvm.ClassFile.FieldType.long))
theorem cb_Mo_tau : zCb yX12_tau cX12_tau 12 (Option.some Jvm.ClassFile.FieldType.long) 3 := ⟨wl_1836, wl_108, by decide, by decide, by decide +kernel⟩
abbrev mi_Mo_weightsIn : zMi := (cX12_weightsIn, 6, RX12, 3, 65, "weightsIn", (Option.some Jvm.ClassFile.FieldType.int))
theorem cb_Mo_weightsIn : zCb yX12_weightsIn cX12_weightsIn 6 (Option.some Jvm.ClassFile.FieldType.int) 2 := ⟨wl_1848, wl_108, by decide, by decide, by decide +kernel⟩
abbrev mi_Mo_matched : zMi := (cX12_matched, 11, RX12, 5, 116, "matched", (Option.some Jvm.ClassFile.FieldType.int))
theorem cb_Mo_matched : zCb yX12_matched cX12_matched 11 (Option.some Jvm.ClassFile.FieldType.int) 3 := ⟨wl_1844, wl_108, by decide, by decide, by decide +kernel⟩
abbrev mi_Mo_hasJet : zMi := (cX12_hasJet, 5, RX12, 4, 90, "hasJet", (Option.some Jvm.ClassFile.FieldType.boolean))
theorem cb_Mo_hasJet : zCb yX12_hasJet cX12_hasJet 5 (Option.some Jvm.ClassFile.FieldType.boolean) 2 := ⟨wl_1860, wl_108, by decide, by decide, by decide +kernel⟩
abbrev mi_Mo_unlikeOf : zMi := (cX12_unlikeOf, 5, RX12, 5, 114, "unlikeOf", (Option.some Jvm.ClassFile.FieldType.int))
theorem cb_Mo_unlikeOf : zCb yX12_unlikeOf cX12_unlikeOf 5 (Option.some Jvm.ClassFile.FieldType.int) 2 := ⟨wl_1856, wl_108, by decide, by decide, by decide +kernel⟩
abbrev mi_Mo_unlike : zMi := (cX12_unlike, 3, RX12, 6, 138, "unlike", (Option.some Jvm.ClassFile.FieldType.int))
theorem cb_Mo_unlike : zCb yX12_unlike cX12_unlike 3 (Option.some Jvm.ClassFile.FieldType.int) 2 := ⟨wl_1852, wl_108, by decide, by decide, by decide +kernel⟩
abbrev mi_Mo_alike : zMi := (cX12_alike, 3, RX12, 6, 138, "alike", (Option.some Jvm.ClassFile.FieldType.boolean))
theorem cb_Mo_alike : zCb yX12_alike cX12_alike 3 (Option.some Jvm.ClassFile.FieldType.boolean) 2 := ⟨wl_1864, wl_108, by decide, by decide, by decide +kernel⟩
abbrev mi_Mo_common_ : zMi := (cX12_common_, 7, RX12, 4, 90, "common", (Option.some Jvm.ClassFile.FieldType.int))
theorem cb_Mo_common_ : zCb yX12_common_ cX12_common_ 7 (Option.some Jvm.ClassFile.FieldType.int) 2 := ⟨wl_1868, wl_108, by decide, by decide, by decide +kernel⟩
abbrev mi_Mo_backToBack : zMi := (cX12_backToBack, 3, RX12, 5, 116, "backToBack", (Option.some Jvm.ClassFile.FieldType.int))
theorem cb_Mo_backToBack : zCb yX12_backToBack cX12_backToBack 3 (Option.some Jvm.ClassFile.FieldType.int) 1 := ⟨wl_1872, wl_108, by decide, by decide, by decide +kernel⟩
abbrev mi_Mo_fresh : zMi := (cX12_fresh, 7, RX12, 6, 146, "fresh", (Option.some Jvm.ClassFile.FieldType.boolean))
theorem cb_Mo_fresh : zCb yX12_fresh cX12_fresh 7 (Option.some Jvm.ClassFile.FieldType.boolean) 1 := ⟨wl_1876, wl_108, by decide, by decide, by decide +kernel⟩
abbrev mi_Mo_pairOf : zMi := (cX12_pairOf, 6, RX12, 5, 116, "pairOf", (Option.some Jvm.ClassFile.FieldType.long))
theorem cb_Mo_pairOf : zCb yX12_pairOf cX12_pairOf 6 (Option.some Jvm.ClassFile.FieldType.long) 3 := ⟨wl_1884, wl_108, by decide, by decide, by decide +kernel⟩
abbrev mi_Mo_pair : zMi := (cX12_pair, 4, RX12, 6, 141, "pair", (Option.some Jvm.ClassFile.FieldType.long))
theorem cb_Mo_pair : zCb yX12_pair cX12_pair 4 (Option.some Jvm.ClassFile.FieldType.long) 3 := ⟨wl_1880, wl_108, by decide, by decide, by decide +kernel⟩
abbrev mi_Mo_nearestPair : zMi := (cX12_nearestPair, 11, RX12, 6, 141, "nearestPair", (Option.some Jvm.ClassFile.FieldType.int))
theorem cb_Mo_nearestPair : zCb yX12_nearestPair cX12_nearestPair 11 (Option.some Jvm.ClassFile.FieldType.int) 2 := ⟨wl_1888, wl_108, by decide, by decide, by decide +kernel⟩
abbrev mi_Mo_count : zMi := (cX12_count, 6, RX12, 4, 88, "count", (Option.some Jvm.ClassFile.FieldType.int))
theorem cb_Mo_count : zCb yX12_count cX12_count 6 (Option.some Jvm.ClassFile.FieldType.int) 3 := ⟨wl_1892, wl_108, by decide, by decide, by decide +kernel⟩
abbrev mi_Mo_findTwo : zMi := (cX12_findTwo, 4, RX12, 3, 68, "findTwo", (Option.some Jvm.ClassFile.FieldType.boolean))
theorem cb_Mo_findTwo : zCb yX12_findTwo cX12_findTwo 4 (Option.some Jvm.ClassFile.FieldType.boolean) 0 := ⟨wl_1900, wl_108, by decide, by decide, by decide +kernel⟩
abbrev mi_Mo_span : zMi := (cX12_span, 6, RX12, 4, 91, "span", (Option.some Jvm.ClassFile.FieldType.int))
theorem cb_Mo_span : zCb yX12_span cX12_span 6 (Option.some Jvm.ClassFile.FieldType.int) 2 := ⟨wl_1896, wl_108, by decide, by decide, by decide +kernel⟩
abbrev mi_Mo_isRoundOf : zMi := (cX12_isRoundOf, 3, RX12, 2, 42, "isRoundOf", (Option.some Jvm.ClassFile.FieldType.boolean))
theorem cb_Mo_isRoundOf : zCb yX12_isRoundOf cX12_isRoundOf 3 (Option.some Jvm.ClassFile.FieldType.boolean) 1 := ⟨wl_1908, wl_108, by decide, by decide, by decide +kernel⟩
abbrev mi_Mo_gap : zMi := (cX12_gap, 6, RX12, 3, 64, "gap", (Option.some Jvm.ClassFile.FieldType.int))
theorem cb_Mo_gap : zCb yX12_gap cX12_gap 6 (Option.some Jvm.ClassFile.FieldType.int) 1 := ⟨wl_1904, wl_108, by decide, by decide, by decide +kernel⟩
abbrev mi_Mo_tileOf : zMi := (cX12_tileOf, 4, RX12, 1, 21, "tileOf", (Option.some Jvm.ClassFile.FieldType.int))
theorem cb_Mo_tileOf : zCb yX12_tileOf cX12_tileOf 4 (Option.some Jvm.ClassFile.FieldType.int) 3 := ⟨wl_1919, wl_108, by decide, by decide, by decide +kernel⟩
abbrev mi_Mo_tracksIn : zMi := (cX12_tracksIn, 5, RX12, 2, 44, "tracksIn", (Option.some Jvm.ClassFile.FieldType.int))
theorem cb_Mo_tracksIn : zCb yX12_tracksIn cX12_tracksIn 5 (Option.some Jvm.ClassFile.FieldType.int) 2 := ⟨wl_1923, wl_108, by decide, by decide, by decide +kernel⟩
abbrev mi_Mo_isFirstIn : zMi := (cX12_isFirstIn, 4, RX12, 2, 44, "isFirstIn", (Option.some Jvm.ClassFile.FieldType.boolean))
theorem cb_Mo_isFirstIn : zCb yX12_isFirstIn cX12_isFirstIn 4 (Option.some Jvm.ClassFile.FieldType.boolean) 2 := ⟨wl_1927, wl_108, by decide, by decide, by decide +kernel⟩
abbrev mi_Mo_isSize : zMi := (cX12_isSize, 1, RX12, 1, 22, "isSize", (Option.some Jvm.ClassFile.FieldType.boolean))
theorem cb_Mo_isSize : zCb yX12_isSize cX12_isSize 1 (Option.some Jvm.ClassFile.FieldType.boolean) 1 := ⟨wl_1915, wl_108, by decide, by decide, by decide +kernel⟩
abbrev mi_Mo_tiles : zMi := (cX12_tiles, 7, RX12, 3, 68, "tiles", (Option.some Jvm.ClassFile.FieldType.int))
theorem cb_Mo_tiles : zCb yX12_tiles cX12_tiles 7 (Option.some Jvm.ClassFile.FieldType.int) 2 := ⟨wl_1912, wl_108, by decide, by decide, by decide +kernel⟩
abbrev mi_Mo_pedestalOf : zMi := (cX12_pedestalOf, 6, RX12, 3, 67, "pedestalOf", (Option.some Jvm.ClassFile.FieldType.int))
theorem cb_Mo_pedestalOf : zCb yX12_pedestalOf cX12_pedestalOf 6 (Option.some Jvm.ClassFile.FieldType.int) 1 := ⟨wl_1935, wl_108, by decide, by decide, by decide +kernel⟩
abbrev mi_Mo_pedestal : zMi := (cX12_pedestal, 2, RX12, 4, 92, "pedestal", (Option.some Jvm.ClassFile.FieldType.int))
theorem cb_Mo_pedestal : zCb yX12_pedestal cX12_pedestal 2 (Option.some Jvm.ClassFile.FieldType.int) 1 := ⟨wl_1931, wl_108, by decide, by decide, by decide +kernel⟩
abbrev mi_Mo_clean : zMi := (cX12_clean, 10, RX12, 4, 92, "clean", (Option.some Jvm.ClassFile.FieldType.int))
theorem cb_Mo_clean : zCb yX12_clean cX12_clean 10 (Option.some Jvm.ClassFile.FieldType.int) 3 := ⟨wl_1939, wl_108, by decide, by decide, by decide +kernel⟩
abbrev mi_Mo_balanceOf : zMi := (cX12_balanceOf, 5, RX12, 2, 42, "balanceOf", (Option.some Jvm.ClassFile.FieldType.int))
theorem cb_Mo_balanceOf : zCb yX12_balanceOf cX12_balanceOf 5 (Option.some Jvm.ClassFile.FieldType.int) 1 := ⟨wl_1947, wl_108, by decide, by decide, by decide +kernel⟩
abbrev mi_Mo_balance : zMi := (cX12_balance, 2, RX12, 3, 66, "balance", (Option.some Jvm.ClassFile.FieldType.int))
theorem cb_Mo_balance : zCb yX12_balance cX12_balance 2 (Option.some Jvm.ClassFile.FieldType.int) 1 := ⟨wl_1943, wl_108, by decide, by decide, by decide +kernel⟩
abbrev mi_Mo_axis : zMi := (cX12_axis, 5, RX12, 3, 66, "axis", (Option.some Jvm.ClassFile.FieldType.int))
theorem cb_Mo_axis : zCb yX12_axis cX12_axis 5 (Option.some Jvm.ClassFile.FieldType.int) 0 := ⟨wl_1951, wl_108, by decide, by decide, by decide +kernel⟩
abbrev mi_Mo_coneOf : zMi := (cX12_coneOf, 7, RX12, 2, 46, "coneOf", (Option.some Jvm.ClassFile.FieldType.long))
theorem cb_Mo_coneOf : zCb yX12_coneOf cX12_coneOf 7 (Option.some Jvm.ClassFile.FieldType.long) 3 := ⟨wl_1959, wl_108, by decide, by decide, by decide +kernel⟩
abbrev mi_Mo_layMean : zMi := (cX12_layMean, 5, RX12, 2, 45, "layMean", (Option.none : Option Jvm.ClassFile.FieldType))
theorem cb_Mo_layMean : zCb yX12_layMean cX12_layMean 5 (Option.none : Option Jvm.ClassFile.FieldType) 1 := ⟨wl_1970, wl_108, by decide, by decide, by decide +kernel⟩
abbrev mi_Mo_isSteady : zMi := (cX12_isSteady, 5, RX12, 3, 69, "isSteady", (Option.some Jvm.ClassFile.FieldType.boolean))
theorem cb_Mo_isSteady : zCb yX12_isSteady cX12_isSteady 5 (Option.some Jvm.ClassFile.FieldType.boolean) 3 := ⟨wl_1966, wl_108, by decide, by decide, by decide +kernel⟩
abbrev mi_Mo_cone : zMi := (cX12_cone, 7, RX12, 4, 93, "cone", (Option.some Jvm.ClassFile.FieldType.int))
theorem cb_Mo_cone : zCb yX12_cone cX12_cone 7 (Option.some Jvm.ClassFile.FieldType.int) 4 := ⟨wl_1955, wl_108, by decide, by decide, by decide +kernel⟩
abbrev mi_Mo_stillFrom : zMi := (cX12_stillFrom, 8, RX12, 4, 93, "stillFrom", (Option.some Jvm.ClassFile.FieldType.long))
theorem cb_Mo_stillFrom : zCb yX12_stillFrom cX12_stillFrom 8 (Option.some Jvm.ClassFile.FieldType.long) 2 := ⟨wl_1982, wl_108, by decide, by decide, by decide +kernel⟩
abbrev mi_Mo_layStill : zMi := (cX12_layStill, 7, RX12, 5, 120, "layStill", (Option.none : Option Jvm.ClassFile.FieldType))
theorem cb_Mo_layStill : zCb yX12_layStill cX12_layStill 7 (Option.none : Option Jvm.ClassFile.FieldType) 1 := ⟨wl_1978, wl_108, by decide, by decide, by decide +kernel⟩
abbrev mi_Mo_still : zMi := (cX12_still, 3, RX12, 6, 146, "still", (Option.some Jvm.ClassFile.FieldType.long))
theorem cb_Mo_still : zCb yX12_still cX12_still 3 (Option.some Jvm.ClassFile.FieldType.long) 2 := ⟨wl_1974, wl_108, by decide, by decide, by decide +kernel⟩
abbrev mi_Mo_heaviest : zMi := (cX12_heaviest, 4, RX12, 3, 66, "heaviest", (Option.some Jvm.ClassFile.FieldType.int))
theorem cb_Mo_heaviest : zCb yX12_heaviest cX12_heaviest 4 (Option.some Jvm.ClassFile.FieldType.int) 1 := ⟨wl_1990, wl_108, by decide, by decide, by decide +kernel⟩
abbrev mi_Mo_part : zMi := (cX12_part, 9, RX12, 3, 69, "part", (Option.none : Option Jvm.ClassFile.FieldType))
theorem cb_Mo_part : zCb yX12_part cX12_part 9 (Option.none : Option Jvm.ClassFile.FieldType) 2 := ⟨wl_1999, wl_108, by decide, by decide, by decide +kernel⟩
abbrev mi_Mo_isMerged : zMi := (cX12_isMerged, 6, RX12, 3, 66, "isMerged", (Option.some Jvm.ClassFile.FieldType.boolean))
theorem cb_Mo_isMerged : zCb yX12_isMerged cX12_isMerged 6 (Option.some Jvm.ClassFile.FieldType.boolean) 3 := ⟨wl_1994, wl_108, by decide, by decide, by decide +kernel⟩
abbrev mi_Mo_patch : zMi := (cX12_patch, 7, RX12, 6, 146, "patch", (Option.some Jvm.ClassFile.FieldType.long))
theorem cb_Mo_patch : zCb yX12_patch cX12_patch 7 (Option.some Jvm.ClassFile.FieldType.long) 3 := ⟨wl_1986, wl_108, by decide, by decide, by decide +kernel⟩
abbrev mi_Mo_image : zMi := (cX12_image, 1, RX12, 2, 40, "image", (Option.some Jvm.ClassFile.FieldType.int))
theorem cb_Mo_image : zCb yX12_image cX12_image 1 (Option.some Jvm.ClassFile.FieldType.int) 0 := ⟨wl_2003, wl_108, by decide, by decide, by decide +kernel⟩
abbrev mi_Mo_back : zMi := (cX12_back, 1, RX12, 2, 40, "back", (Option.some Jvm.ClassFile.FieldType.int))
theorem cb_Mo_back : zCb yX12_back cX12_back 1 (Option.some Jvm.ClassFile.FieldType.int) 0 := ⟨wl_2007, wl_108, by decide, by decide, by decide +kernel⟩
abbrev mi_Mo_steps : zMi := (cX12_steps, 1, RX12, 0, 0, "steps", (Option.some Jvm.ClassFile.FieldType.int))
theorem cb_Mo_steps : zCb yX12_steps cX12_steps 1 (Option.some Jvm.ClassFile.FieldType.int) 0 := ⟨wl_2011, wl_108, by decide, by decide, by decide +kernel⟩
abbrev mi_La_law : zMi := (cL_law, 4, RL, 11, 432, "law", (Option.some Jvm.ClassFile.FieldType.boolean))
