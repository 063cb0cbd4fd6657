-- JetTreesModel.isIn(III)Z
def S_Mo_isIn : zSt := (zRet (zBx (zAnd (zC2 3 (zL 0 0) (zL 0 1)) (zC2 5 (zL 0 0) (zL 0 2)))))
def F_Mo_isIn : zMt := zMeth [0, 0, 0] 3 4 S_Mo_isIn
-- JetTreesModel.has(JI)Z
def S_Mo_has : zSt := (zRet (zBx (zC1 0 (z2 oLcmp (z2 (oL2 fun x y => x &&& y) (z2 (oLsh fun x y => x >>> (y.toInt64 &&& 63)) (zL 1 0) (zL 0 2)) (zK (.long 1))) (zK (.long 1))))))
def F_Mo_has : zMt := zMeth [1, 0] 3 4 S_Mo_has
-- JetTreesModel.many(J)I
def C_Mo_many_0 : zCx := (zC1 1 (z2 oLcmp (zL 1 3) (zK (.long 0))))
def B_Mo_many_0 : zSt := (zAsg 2 (z2 (oI2 fun x y => x + y) (zL 0 2) (zK (.int 1))))
def T_Mo_many_0 : zSt := (zAsg 3 (z2 (oL2 fun x y => x &&& y) (zL 1 3) (z2 (oL2 fun x y => x - y) (zL 1 3) (zK (.long 1)))))
def L_Mo_many_0 : zSt := zLp C_Mo_many_0 B_Mo_many_0 T_Mo_many_0
def S_Mo_many : zSt := (zSeq (zAsg 2 (zK (.int 0)))
  (zSeq (zBl 3 (zSeq (zAsg 3 (zL 1 0))
  L_Mo_many_0))
  (zRet (zL 0 2))))
def F_Mo_many : zMt := zMeth [1] 5 0 S_Mo_many
-- JetTreesModel.floor(II)I
def S_Mo_floor : zSt := (zRet (zIte (zC1 3 (zL 0 0)) (z2 oIdiv (zL 0 0) (zL 0 1)) (z1 (oI1 fun x => -x) (z2 oIdiv (z2 (oI2 fun x y => x - y) (z2 (oI2 fun x y => x - y) (zL 0 1) (zK (.int 1))) (zL 0 0)) (zL 0 1)))))
def F_Mo_floor : zMt := zMeth [0, 0] 2 0 S_Mo_floor
-- JetTreesModel.wayOf(II)I
def S_Mo_wayOf : zSt := (zSeq (zAsg 2 (z2 oIrem (z2 (oI2 fun x y => x + y) (z2 (oI2 fun x y => x - y) (zL 0 1) (zL 0 0)) (zK (.int 360))) (zK (.int 360))))
  (zRet (zIte (zC2 4 (zL 0 2) (zK (.int 180))) (z2 (oI2 fun x y => x - y) (zL 0 2) (zK (.int 360))) (zL 0 2))))
def F_Mo_wayOf : zMt := zMeth [0, 0] 3 0 S_Mo_wayOf
-- JetTreesModel.squareOf(IIII)I
def S_Mo_squareOf : zSt := (zSeq (zAsg 4 (zAn 0 (zCs F_Mo_wayOf [(zL 0 1), (zL 0 3)])))
  (zRet (z2 (oI2 fun x y => x + y) (z2 (oI2 fun x y => x * y) (z2 (oI2 fun x y => x - y) (zL 0 0) (zL 0 2)) (z2 (oI2 fun x y => x - y) (zL 0 0) (zL 0 2))) (z2 (oI2 fun x y => x * y) (zL 0 4) (zL 0 4)))))
def F_Mo_squareOf : zMt := zMeth [0, 0, 0, 0] 5 0 S_Mo_squareOf
-- JetTreesModel.isPlace(II)Z
def S_Mo_isPlace : zSt := (zRet (zBx (zAnd (zC1 1 (zAn 0 (zCs F_Mo_isIn [(zL 0 0), (zK (.int (-200))), (zK (.int 200))]))) (zC1 1 (zAn 0 (zCs F_Mo_isIn [(zL 0 1), (zK (.int 0)), (zK (.int 359))]))))))
def F_Mo_isPlace : zMt := zMeth [0, 0] 2 4 S_Mo_isPlace
-- JetTreesModel.eventAt(I)I
def S_Mo_eventAt : zSt := (zRet (z2 (oI2 fun x y => x + y) (zK (.int 8)) (z2 (oI2 fun x y => x * y) (zK (.int 121)) (zL 0 0))))
def F_Mo_eventAt : zMt := zMeth [0] 1 0 S_Mo_eventAt
-- JetTreesModel.tracks()I
def S_Mo_tracks : zSt := (zRet (zAx 0 64 (zGf 3 11 0 (zL 3 0)) (zAn 0 (zCs F_Mo_eventAt [(zAx 0 64 (zGf 3 11 0 (zL 3 0)) (zK (.int 5)))]))))
def F_Mo_tracks : zMt := zMeth [3] 1 0 S_Mo_tracks
-- JetTreesModel.isTrack(I)Z
def S_Mo_isTrack : zSt := (zRet (zAn 0 (zCs F_Mo_isIn [(zL 0 1), (zK (.int 0)), (z2 (oI2 fun x y => x - y) (zAn 0 (zCv 11 F_Mo_tracks [(zL 3 0)])) (zK (.int 1)))])))
def F_Mo_isTrack : zMt := zMeth [3, 0] 2 4 S_Mo_isTrack
-- JetTreesModel.ofTrack(II)I
def S_Mo_ofTrack : zSt := (zRet (zAx 0 64 (zGf 3 11 0 (zL 3 0)) (z2 (oI2 fun x y => x + y) (z2 (oI2 fun x y => x + y) (z2 (oI2 fun x y => x + y) (zAn 0 (zCs F_Mo_eventAt [(zAx 0 64 (zGf 3 11 0 (zL 3 0)) (zK (.int 5)))])) (zK (.int 1))) (z2 (oI2 fun x y => x * y) (zK (.int 3)) (zL 0 1))) (zL 0 2))))
def F_Mo_ofTrack : zMt := zMeth [3, 0, 0] 3 0 S_Mo_ofTrack
-- JetTreesModel.isTree(I)Z
def S_Mo_isTree : zSt := (zRet (zBx (zAnd (zC1 1 (zAn 0 (zCs F_Mo_isIn [(zL 0 1), (zK (.int 0)), (zK (.int 3))]))) (zC2 0 (z2 (oI2 fun x y => x &&& y) (z2 (oI2 fun x y => x >>> (y &&& 31)) (zAx 0 64 (zGf 3 11 0 (zL 3 0)) (zK (.int 7))) (zL 0 1)) (zK (.int 1))) (zK (.int 1))))))
def F_Mo_isTree : zMt := zMeth [3, 0] 2 4 S_Mo_isTree
-- JetTreesModel.treeAt(I)I
def S_Mo_treeAt : zSt := (zRet (z2 (oI2 fun x y => x + y) (zK (.int 371)) (z2 (oI2 fun x y => x * y) (zK (.int 521)) (zL 0 0))))
def F_Mo_treeAt : zMt := zMeth [0] 1 0 S_Mo_treeAt
-- JetTreesModel.ofTree(II)I
def S_Mo_ofTree : zSt := (zRet (zAx 0 64 (zGf 3 11 0 (zL 3 0)) (z2 (oI2 fun x y => x + y) (zAn 0 (zCs F_Mo_treeAt [(zL 0 1)])) (zL 0 2))))
def F_Mo_ofTree : zMt := zMeth [3, 0, 0] 3 0 S_Mo_ofTree
-- JetTreesModel.isKnot(II)Z
def S_Mo_isKnot : zSt := (zRet (zBx (zAnd (zC1 1 (zAn 0 (zCv 11 F_Mo_isTree [(zL 3 0), (zL 0 1)]))) (zC1 1 (zAn 0 (zCs F_Mo_isIn [(zL 0 2), (zK (.int 0)), (z2 (oI2 fun x y => x - y) (zAn 0 (zCv 11 F_Mo_ofTree [(zL 3 0), (zL 0 1), (zK (.int 0))])) (zK (.int 1)))]))))))
def F_Mo_isKnot : zMt := zMeth [3, 0, 0] 3 4 S_Mo_isKnot
-- JetTreesModel.ofKnot(III)I
def S_Mo_ofKnot : zSt := (zRet (zAx 0 64 (zGf 3 11 0 (zL 3 0)) (z2 (oI2 fun x y => x + y) (z2 (oI2 fun x y => x + y) (z2 (oI2 fun x y => x + y) (zAn 0 (zCs F_Mo_treeAt [(zL 0 1)])) (zK (.int 6))) (z2 (oI2 fun x y => x * y) (zK (.int 5)) (zL 0 2))) (zL 0 3))))
def F_Mo_ofKnot : zMt := zMeth [3, 0, 0, 0] 4 0 S_Mo_ofKnot
-- JetTreesModel.weightOf(II)I
def S_Mo_weightOf : zSt := (zRet (zAn 0 (zCv 11 F_Mo_ofKnot [(zL 3 0), (zL 0 1), (zL 0 2), (zK (.int 2))])))
def F_Mo_weightOf : zMt := zMeth [3, 0, 0] 3 0 S_Mo_weightOf
-- JetTreesModel.isJoined(II)Z
def S_Mo_isJoined : zSt := (zRet (zBx (zC2 1 (zAn 0 (zCv 11 F_Mo_ofKnot [(zL 3 0), (zL 0 1), (zL 0 2), (zK (.int 3))])) (zK (.int (-1))))))
def F_Mo_isJoined : zMt := zMeth [3, 0, 0] 3 4 S_Mo_isJoined
-- JetTreesModel.stepsOf(I)I
def S_Mo_stepsOf : zSt := (zRet (zAn 0 (zCv 11 F_Mo_ofTree [(zL 3 0), (zL 0 1), (zK (.int 1))])))
def F_Mo_stepsOf : zMt := zMeth [3, 0] 2 0 S_Mo_stepsOf
-- JetTreesModel.ofStep(III)I
def S_Mo_ofStep : zSt := (zRet (zAx 0 64 (zGf 3 11 0 (zL 3 0)) (z2 (oI2 fun x y => x + y) (z2 (oI2 fun x y => x + y) (z2 (oI2 fun x y => x + y) (zAn 0 (zCs F_Mo_treeAt [(zL 0 1)])) (zK (.int 401))) (z2 (oI2 fun x y => x * y) (zK (.int 2)) (zL 0 2))) (zL 0 3))))
def F_Mo_ofStep : zMt := zMeth [3, 0, 0, 0] 4 0 S_Mo_ofStep
-- JetTreesModel.order(JJJJ)I
def C_Mo_order_0 : zCx := zTrue
def B_Mo_order_0 : zSt := (zBl 17 (zSeq (zIf (zC1 1 (z2 oLcmp (z2 oLdiv (zL 1 8) (zL 1 10)) (z2 oLdiv (zL 1 12) (zL 1 14)))) (zRet (zIte (zC1 2 (z2 oLcmp (z2 oLdiv (zL 1 8) (zL 1 10)) (z2 oLdiv (zL 1 12) (zL 1 14)))) (z1 (oI1 fun x => -x) (zL 0 16)) (zL 0 16))) zSkip)
  (zSeq (zAsg 17 (z2 oLrem (zL 1 8) (zL 1 10)))
  (zSeq (zAsg 19 (z2 oLrem (zL 1 12) (zL 1 14)))
  (zSeq (zIf (zOr (zC1 0 (z2 oLcmp (zL 1 17) (zK (.long 0)))) (zC1 0 (z2 oLcmp (zL 1 19) (zK (.long 0))))) (zRet (zIte (zC1 0 (z2 oLcmp (zL 1 17) (zL 1 19))) (zK (.int 0)) (zIte (zC1 0 (z2 oLcmp (zL 1 17) (zK (.long 0)))) (z1 (oI1 fun x => -x) (zL 0 16)) (zL 0 16)))) zSkip)
  (zSeq (zAsg 8 (zL 1 10))
  (zSeq (zAsg 10 (zL 1 17))
  (zSeq (zAsg 12 (zL 1 14))
  (zSeq (zAsg 14 (zL 1 19))
  (zAsg 16 (z1 (oI1 fun x => -x) (zL 0 16))))))))))))
def T_Mo_order_0 : zSt := zSkip
def L_Mo_order_0 : zSt := zLp C_Mo_order_0 B_Mo_order_0 T_Mo_order_0
def S_Mo_order : zSt := (zSeq (zAsg 8 (zL 1 0))
  (zSeq (zAsg 10 (zL 1 2))
  (zSeq (zAsg 12 (zL 1 4))
  (zSeq (zAsg 14 (zL 1 6))
  (zSeq (zAsg 16 (zK (.int 1)))
  L_Mo_order_0)))))
def F_Mo_order : zMt := zMeth [1, 1, 1, 1] 21 0 S_Mo_order
-- JetTreesModel.common(JJ)J
def C_Mo_common_0 : zCx := (zC1 1 (z2 oLcmp (zL 1 6) (zK (.long 0))))
def B_Mo_common_0 : zSt := (zBl 8 (zSeq (zAsg 8 (z2 oLrem (zL 1 4) (zL 1 6)))
  (zSeq (zAsg 4 (zL 1 6))
  (zAsg 6 (zL 1 8)))))
def T_Mo_common_0 : zSt := zSkip
def L_Mo_common_0 : zSt := zLp C_Mo_common_0 B_Mo_common_0 T_Mo_common_0
def S_Mo_common : zSt := (zSeq (zAsg 4 (zL 1 0))
  (zSeq (zAsg 6 (zL 1 2))
  (zSeq L_Mo_common_0
  (zRet (zL 1 4)))))
def F_Mo_common : zMt := zMeth [1, 1] 10 1 S_Mo_common
-- JetTreesModel.come(IIIII)V
def S_Mo_come : zSt := (zSeq (zAs (zStK 64).1 64 (zStK 64).2 (zGf 3 11 2 (zL 3 0)) (zGf 0 11 10 (zL 3 0)) (zL 0 1))
  (zSeq (zAs (zStK 64).1 64 (zStK 64).2 (zGf 3 11 3 (zL 3 0)) (zGf 0 11 10 (zL 3 0)) (zL 0 2))
  (zSeq (zAs (zStK 64).1 64 (zStK 64).2 (zGf 3 11 4 (zL 3 0)) (zGf 0 11 10 (zL 3 0)) (zL 0 3))
  (zSeq (zAs (zStK 64).1 64 (zStK 64).2 (zGf 3 11 5 (zL 3 0)) (zGf 0 11 10 (zL 3 0)) (zL 0 4))
  (zSeq (zAs (zStK 64).1 64 (zStK 64).2 (zGf 3 11 6 (zL 3 0)) (zGf 0 11 10 (zL 3 0)) (zL 0 5))
  (zSeq (zAs (zStK 66).1 66 (zStK 66).2 (zGf 3 11 7 (zL 3 0)) (zGf 0 11 10 (zL 3 0)) (zK (.int 1)))
  (zSeq (zPfo 0 11 10 (oI2 fun x y => x + y) (zL 3 0) (zK (.int 1)))
  zRetV)))))))
def F_Mo_come : zMt := zMeth [3, 0, 0, 0, 0, 0] 6 9 S_Mo_come
-- JetTreesModel.isAhead(II)Z
def S_Mo_isAhead : zSt := (zSeq (zIf (zC2 1 (zAx 0 64 (zGf 3 11 2 (zL 3 0)) (zL 0 1)) (zAx 0 64 (zGf 3 11 2 (zL 3 0)) (zL 0 2))) (zRet (zBx (zC2 2 (zAx 0 64 (zGf 3 11 2 (zL 3 0)) (zL 0 1)) (zAx 0 64 (zGf 3 11 2 (zL 3 0)) (zL 0 2))))) zSkip)
  (zSeq (zIf (zC2 1 (zAx 0 64 (zGf 3 11 3 (zL 3 0)) (zL 0 1)) (zAx 0 64 (zGf 3 11 3 (zL 3 0)) (zL 0 2))) (zRet (zBx (zC2 2 (zAx 0 64 (zGf 3 11 3 (zL 3 0)) (zL 0 1)) (zAx 0 64 (zGf 3 11 3 (zL 3 0)) (zL 0 2))))) zSkip)
  (zSeq (zIf (zC2 1 (zAx 0 64 (zGf 3 11 4 (zL 3 0)) (zL 0 1)) (zAx 0 64 (zGf 3 11 4 (zL 3 0)) (zL 0 2))) (zRet (zBx (zC2 2 (zAx 0 64 (zGf 3 11 4 (zL 3 0)) (zL 0 1)) (zAx 0 64 (zGf 3 11 4 (zL 3 0)) (zL 0 2))))) zSkip)
  (zRet (zBx (zC2 2 (zL 0 1) (zL 0 2)))))))
def F_Mo_isAhead : zMt := zMeth [3, 0, 0] 3 4 S_Mo_isAhead
-- JetTreesModel.upOf(II)J
def S_Mo_upOf : zSt := (zSeq (zAsg 3 (zIte (zC2 0 (zL 0 2) (zK (.int (-1)))) (z1 oI2l (z2 (oI2 fun x y => x * y) (zGf 0 11 12 (zL 3 0)) (zGf 0 11 12 (zL 3 0)))) (z1 oI2l (zAn 0 (zCs F_Mo_squareOf [(zAx 0 64 (zGf 3 11 2 (zL 3 0)) (zL 0 1)), (zAx 0 64 (zGf 3 11 3 (zL 3 0)) (zL 0 1)), (zAx 0 64 (zGf 3 11 2 (zL 3 0)) (zL 0 2)), (zAx 0 64 (zGf 3 11 3 (zL 3 0)) (zL 0 2))])))))
  (zSeq (zIf (zC2 2 (zGf 0 11 13 (zL 3 0)) (zK (.int 1))) (zRet (zL 1 3)) zSkip)
  (zSeq (zAsg 5 (zIte (zOr (zC2 0 (zL 0 2) (zK (.int (-1)))) (zC2 2 (zAx 0 64 (zGf 3 11 4 (zL 3 0)) (zL 0 1)) (zAx 0 64 (zGf 3 11 4 (zL 3 0)) (zL 0 2)))) (z1 oI2l (zAx 0 64 (zGf 3 11 4 (zL 3 0)) (zL 0 1))) (z1 oI2l (zAx 0 64 (zGf 3 11 4 (zL 3 0)) (zL 0 2)))))
  (zRet (z2 (oL2 fun x y => x * y) (z2 (oL2 fun x y => x * y) (zL 1 3) (zL 1 5)) (zL 1 5))))))
def F_Mo_upOf : zMt := zMeth [3, 0, 0] 7 1 S_Mo_upOf
-- JetTreesModel.downOf(II)J
def S_Mo_downOf : zSt := (zSeq (zIf (zC2 4 (zGf 0 11 13 (zL 3 0)) (zK (.int (-1)))) (zRet (zK (.long 1))) zSkip)
  (zSeq (zAsg 3 (zIte (zOr (zC2 0 (zL 0 2) (zK (.int (-1)))) (zC2 4 (zAx 0 64 (zGf 3 11 4 (zL 3 0)) (zL 0 1)) (zAx 0 64 (zGf 3 11 4 (zL 3 0)) (zL 0 2)))) (z1 oI2l (zAx 0 64 (zGf 3 11 4 (zL 3 0)) (zL 0 1))) (z1 oI2l (zAx 0 64 (zGf 3 11 4 (zL 3 0)) (zL 0 2)))))
  (zRet (z2 (oL2 fun x y => x * y) (zL 1 3) (zL 1 3)))))
def F_Mo_downOf : zMt := zMeth [3, 0, 0] 5 1 S_Mo_downOf
-- JetTreesModel.isSooner(IIII)Z
def S_Mo_isSooner : zSt := (zSeq (zAsg 5 (zAn 0 (zCs F_Mo_order [(zAn 1 (zCv 11 F_Mo_upOf [(zL 3 0), (zL 0 1), (zL 0 2)])), (zAn 1 (zCv 11 F_Mo_downOf [(zL 3 0), (zL 0 1), (zL 0 2)])), (zAn 1 (zCv 11 F_Mo_upOf [(zL 3 0), (zL 0 3), (zL 0 4)])), (zAn 1 (zCv 11 F_Mo_downOf [(zL 3 0), (zL 0 3), (zL 0 4)]))])))
  (zSeq (zIf (zC1 1 (zL 0 5)) (zRet (zBx (zC1 2 (zL 0 5)))) zSkip)
  (zSeq (zIf (zC2 1 (zBx (zC2 0 (zL 0 2) (zK (.int (-1))))) (zBx (zC2 0 (zL 0 4) (zK (.int (-1)))))) (zRet (zBx (zC2 0 (zL 0 2) (zK (.int (-1)))))) zSkip)
  (zSeq (zIf (zC2 1 (zL 0 1) (zL 0 3)) (zRet (zAn 0 (zCv 11 F_Mo_isAhead [(zL 3 0), (zL 0 1), (zL 0 3)]))) zSkip)
  (zRet (zBx (zAnd (zC2 1 (zL 0 2) (zK (.int (-1)))) (zC1 1 (zAn 0 (zCv 11 F_Mo_isAhead [(zL 3 0), (zL 0 2), (zL 0 4)]))))))))))
def F_Mo_isSooner : zMt := zMeth [3, 0, 0, 0, 0] 6 4 S_Mo_isSooner
-- JetTreesModel.meanAcross(IIII)I
def S_Mo_meanAcross : zSt := (zRet (zAn 0 (zCs F_Mo_floor [(z2 (oI2 fun x y => x + y) (z2 (oI2 fun x y => x * y) (zL 0 1) (zL 0 0)) (z2 (oI2 fun x y => x * y) (zL 0 3) (zL 0 2))), (z2 (oI2 fun x y => x + y) (zL 0 1) (zL 0 3))])))
def F_Mo_meanAcross : zMt := zMeth [0, 0, 0, 0] 4 0 S_Mo_meanAcross
-- JetTreesModel.meanRound(IIII)I
def S_Mo_meanRound : zSt := (zRet (z2 oIrem (z2 (oI2 fun x y => x + y) (z2 (oI2 fun x y => x + y) (zL 0 0) (zAn 0 (zCs F_Mo_floor [(z2 (oI2 fun x y => x * y) (zL 0 3) (zAn 0 (zCs F_Mo_wayOf [(zL 0 0), (zL 0 2)]))), (z2 (oI2 fun x y => x + y) (zL 0 1) (zL 0 3))]))) (zK (.int 360))) (zK (.int 360))))
def F_Mo_meanRound : zMt := zMeth [0, 0, 0, 0] 4 0 S_Mo_meanRound
-- JetTreesModel.join(II)V
def S_Mo_join : zSt := (zSeq (zAsg 3 (z2 (oI2 fun x y => x + y) (zAx 0 64 (zGf 3 11 4 (zL 3 0)) (zL 0 1)) (zAx 0 64 (zGf 3 11 4 (zL 3 0)) (zL 0 2))))
  (zSeq (zAs (zStK 66).1 66 (zStK 66).2 (zGf 3 11 7 (zL 3 0)) (zL 0 1) (zK (.int 0)))
  (zSeq (zAs (zStK 66).1 66 (zStK 66).2 (zGf 3 11 7 (zL 3 0)) (zL 0 2) (zK (.int 0)))
  (zSeq (zIf (zC2 0 (zGf 0 11 14 (zL 3 0)) (zK (.int 1))) (zBl 4 (zSeq (zAsg 4 (zIte (zC2 4 (zAx 0 64 (zGf 3 11 4 (zL 3 0)) (zL 0 2)) (zAx 0 64 (zGf 3 11 4 (zL 3 0)) (zL 0 1))) (zL 0 2) (zL 0 1)))
  (zSeq (zDo (zCv 11 F_Mo_come [(zL 3 0), (zAx 0 64 (zGf 3 11 2 (zL 3 0)) (zL 0 4)), (zAx 0 64 (zGf 3 11 3 (zL 3 0)) (zL 0 4)), (zL 0 3), (zL 0 1), (zL 0 2)]))
  zRetV))) zSkip)
  (zSeq (zDo (zCv 11 F_Mo_come [(zL 3 0), (zAn 0 (zCs F_Mo_meanAcross [(zAx 0 64 (zGf 3 11 2 (zL 3 0)) (zL 0 1)), (zAx 0 64 (zGf 3 11 4 (zL 3 0)) (zL 0 1)), (zAx 0 64 (zGf 3 11 2 (zL 3 0)) (zL 0 2)), (zAx 0 64 (zGf 3 11 4 (zL 3 0)) (zL 0 2))])), (zAn 0 (zCs F_Mo_meanRound [(zAx 0 64 (zGf 3 11 3 (zL 3 0)) (zL 0 1)), (zAx 0 64 (zGf 3 11 4 (zL 3 0)) (zL 0 1)), (zAx 0 64 (zGf 3 11 3 (zL 3 0)) (zL 0 2)), (zAx 0 64 (zGf 3 11 4 (zL 3 0)) (zL 0 2))])), (zL 0 3), (zL 0 1), (zL 0 2)]))
  zRetV)))))
def F_Mo_join : zMt := zMeth [3, 0, 0] 5 9 S_Mo_join
-- JetTreesModel.gatherAll(III)V
def C_Mo_gatherAll_2 : zCx := (zAnd (zC2 2 (zL 0 9) (zGf 0 11 10 (zL 3 0))) (zC1 1 (zAx 0 66 (zGf 3 11 7 (zL 3 0)) (zL 0 8))))
def B_Mo_gatherAll_2 : zSt := (zSeq (zIf (zAnd (zC2 1 (zL 0 9) (zK (.int (-1)))) (zOr (zOr (zNot (zC1 1 (zAx 0 66 (zGf 3 11 7 (zL 3 0)) (zL 0 9)))) (zC2 0 (zL 0 9) (zL 0 8))) (zNot (zC1 1 (zAn 0 (zCv 11 F_Mo_isAhead [(zL 3 0), (zL 0 8), (zL 0 9)])))))) zCnt zSkip)
  (zSeq (zIf (zAnd (zC2 1 (zL 0 6) (zK (.int (-1)))) (zNot (zC1 1 (zAn 0 (zCv 11 F_Mo_isSooner [(zL 3 0), (zL 0 8), (zL 0 9), (zL 0 6), (zL 0 7)]))))) zCnt zSkip)
  (zSeq (zAsg 6 (zL 0 8))
  (zAsg 7 (zL 0 9)))))
def T_Mo_gatherAll_2 : zSt := (zAsg 9 (z2 (oI2 fun x y => x + y) (zL 0 9) (zK (.int 1))))
def L_Mo_gatherAll_2 : zSt := zLp C_Mo_gatherAll_2 B_Mo_gatherAll_2 T_Mo_gatherAll_2
def C_Mo_gatherAll_1 : zCx := (zC2 2 (zL 0 8) (zGf 0 11 10 (zL 3 0)))
def B_Mo_gatherAll_1 : zSt := (zBl 9 (zSeq (zAsg 9 (zK (.int (-1))))
  L_Mo_gatherAll_2))
def T_Mo_gatherAll_1 : zSt := (zAsg 8 (z2 (oI2 fun x y => x + y) (zL 0 8) (zK (.int 1))))
def L_Mo_gatherAll_1 : zSt := zLp C_Mo_gatherAll_1 B_Mo_gatherAll_1 T_Mo_gatherAll_1
def C_Mo_gatherAll_0 : zCx := (zC2 2 (zL 0 5) (zL 0 4))
def B_Mo_gatherAll_0 : zSt := (zBl 6 (zSeq (zAsg 6 (zK (.int (-1))))
  (zSeq (zAsg 7 (zK (.int (-1))))
  (zSeq (zBl 8 (zSeq (zAsg 8 (zK (.int 0)))
  L_Mo_gatherAll_1))
  (zSeq (zAs (zStK 64).1 64 (zStK 64).2 (zGf 3 11 8 (zL 3 0)) (zGf 0 11 11 (zL 3 0)) (zL 0 6))
  (zSeq (zAs (zStK 64).1 64 (zStK 64).2 (zGf 3 11 9 (zL 3 0)) (zGf 0 11 11 (zL 3 0)) (zL 0 7))
  (zSeq (zPfo 0 11 11 (oI2 fun x y => x + y) (zL 3 0) (zK (.int 1)))
  (zIf (zC2 0 (zL 0 7) (zK (.int (-1)))) (zAs (zStK 66).1 66 (zStK 66).2 (zGf 3 11 7 (zL 3 0)) (zL 0 6) (zK (.int 0))) (zDo (zCv 11 F_Mo_join [(zL 3 0), (zL 0 6), (zL 0 7)]))))))))))
def T_Mo_gatherAll_0 : zSt := (zAsg 5 (z2 (oI2 fun x y => x + y) (zL 0 5) (zK (.int 1))))
def L_Mo_gatherAll_0 : zSt := zLp C_Mo_gatherAll_0 B_Mo_gatherAll_0 T_Mo_gatherAll_0
def S_Mo_gatherAll : zSt := (zSeq (zPf 0 11 12 (zL 3 0) (zL 0 1))
  (zSeq (zPf 0 11 13 (zL 3 0) (zL 0 2))
  (zSeq (zPf 0 11 14 (zL 3 0) (zL 0 3))
  (zSeq (zPf 0 11 11 (zL 3 0) (zK (.int 0)))
  (zSeq (zAsg 4 (zGf 0 11 10 (zL 3 0)))
  (zSeq (zBl 5 (zSeq (zAsg 5 (zK (.int 0)))
  L_Mo_gatherAll_0))
  zRetV))))))
def F_Mo_gatherAll : zMt := zMeth [3, 0, 0, 0] 10 9 S_Mo_gatherAll
-- JetTreesModel.layTracks()V
def C_Mo_layTracks_0 : zCx := (zC2 2 (zL 0 1) (zAn 0 (zCv 11 F_Mo_tracks [(zL 3 0)])))
def B_Mo_layTracks_0 : zSt := (zDo (zCv 11 F_Mo_come [(zL 3 0), (zAn 0 (zCv 11 F_Mo_ofTrack [(zL 3 0), (zL 0 1), (zK (.int 0))])), (zAn 0 (zCv 11 F_Mo_ofTrack [(zL 3 0), (zL 0 1), (zK (.int 1))])), (zAn 0 (zCv 11 F_Mo_ofTrack [(zL 3 0), (zL 0 1), (zK (.int 2))])), (zK (.int (-1))), (zK (.int (-1)))]))
def T_Mo_layTracks_0 : zSt := (zAsg 1 (z2 (oI2 fun x y => x + y) (zL 0 1) (zK (.int 1))))
def L_Mo_layTracks_0 : zSt := zLp C_Mo_layTracks_0 B_Mo_layTracks_0 T_Mo_layTracks_0
def S_Mo_layTracks : zSt := (zSeq (zPf 0 11 10 (zL 3 0) (zK (.int 0)))
  (zSeq (zBl 1 (zSeq (zAsg 1 (zK (.int 0)))
  L_Mo_layTracks_0))
  zRetV))
def F_Mo_layTracks : zMt := zMeth [3] 2 9 S_Mo_layTracks
-- JetTreesModel.layLeaves(IJ)V
def C_Mo_layLeaves_0 : zCx := (zC2 2 (zL 0 4) (zAn 0 (zCv 11 F_Mo_ofTree [(zL 3 0), (zL 0 1), (zK (.int 1))])))
def B_Mo_layLeaves_0 : zSt := (zIf (zC1 1 (zAn 0 (zCs F_Mo_has [(zL 1 2), (zL 0 4)]))) (zDo (zCv 11 F_Mo_come [(zL 3 0), (zAn 0 (zCv 11 F_Mo_ofKnot [(zL 3 0), (zL 0 1), (zL 0 4), (zK (.int 0))])), (zAn 0 (zCv 11 F_Mo_ofKnot [(zL 3 0), (zL 0 1), (zL 0 4), (zK (.int 1))])), (zAn 0 (zCv 11 F_Mo_weightOf [(zL 3 0), (zL 0 1), (zL 0 4)])), (zK (.int (-1))), (zK (.int (-1)))])) zSkip)
def T_Mo_layLeaves_0 : zSt := (zAsg 4 (z2 (oI2 fun x y => x + y) (zL 0 4) (zK (.int 1))))
def L_Mo_layLeaves_0 : zSt := zLp C_Mo_layLeaves_0 B_Mo_layLeaves_0 T_Mo_layLeaves_0
def S_Mo_layLeaves : zSt := (zSeq (zPf 0 11 10 (zL 3 0) (zK (.int 0)))
  (zSeq (zBl 4 (zSeq (zAsg 4 (zK (.int 0)))
  L_Mo_layLeaves_0))
  zRetV))
def F_Mo_layLeaves : zMt := zMeth [3, 0, 1] 5 9 S_Mo_layLeaves
-- JetTreesModel.stepAt(II)I
def S_Mo_stepAt : zSt := (zRet (z2 (oI2 fun x y => x + y) (zK (.int 2779)) (z2 (oI2 fun x y => x * y) (zK (.int 2777)) (z2 oIrem (z2 (oI2 fun x y => x + y) (zL 0 0) (zL 0 1)) (zK (.int 20))))))
def F_Mo_stepAt : zMt := zMeth [0, 0] 2 0 S_Mo_stepAt
-- JetTreesModel.keepNow()V
def C_Mo_keepNow_0 : zCx := (zC2 2 (zL 0 2) (zK (.int 2777)))
def B_Mo_keepNow_0 : zSt := (zAs (zStK 64).1 64 (zStK 64).2 (zGf 3 11 0 (zL 3 0)) (z2 (oI2 fun x y => x + y) (zL 0 1) (zL 0 2)) (zAx 0 64 (zGf 3 11 0 (zL 3 0)) (z2 (oI2 fun x y => x + y) (zK (.int 2)) (zL 0 2))))
def T_Mo_keepNow_0 : zSt := (zAsg 2 (z2 (oI2 fun x y => x + y) (zL 0 2) (zK (.int 1))))
def L_Mo_keepNow_0 : zSt := zLp C_Mo_keepNow_0 B_Mo_keepNow_0 T_Mo_keepNow_0
def S_Mo_keepNow : zSt := (zSeq (zIf (zC2 0 (zAx 0 64 (zGf 3 11 0 (zL 3 0)) (zK (.int 0))) (zK (.int 20))) (zSeq (zAs (zStK 64).1 64 (zStK 64).2 (zGf 3 11 0 (zL 3 0)) (zK (.int 1)) (z2 oIrem (z2 (oI2 fun x y => x + y) (zAx 0 64 (zGf 3 11 0 (zL 3 0)) (zK (.int 1))) (zK (.int 1))) (zK (.int 20))))
  (zAso (zStK 64).1 64 (oI2 fun x y => x - y) (zGf 3 11 0 (zL 3 0)) (zK (.int 0)) (zK (.int 1)))) zSkip)
  (zSeq (zAsg 1 (zAn 0 (zCs F_Mo_stepAt [(zAx 0 64 (zGf 3 11 0 (zL 3 0)) (zK (.int 1))), (zAx 0 64 (zGf 3 11 0 (zL 3 0)) (zK (.int 0)))])))
  (zSeq (zBl 2 (zSeq (zAsg 2 (zK (.int 0)))
  L_Mo_keepNow_0))
  (zSeq (zAso (zStK 64).1 64 (oI2 fun x y => x + y) (zGf 3 11 0 (zL 3 0)) (zK (.int 0)) (zK (.int 1)))
  zRetV))))
def F_Mo_keepNow : zMt := zMeth [3] 3 9 S_Mo_keepNow
-- JetTreesModel.undo()I
def C_Mo_undo_0 : zCx := (zC2 2 (zL 0 2) (zK (.int 2777)))
def B_Mo_undo_0 : zSt := (zAs (zStK 64).1 64 (zStK 64).2 (zGf 3 11 0 (zL 3 0)) (z2 (oI2 fun x y => x + y) (zK (.int 2)) (zL 0 2)) (zAx 0 64 (zGf 3 11 0 (zL 3 0)) (z2 (oI2 fun x y => x + y) (zL 0 1) (zL 0 2))))
def T_Mo_undo_0 : zSt := (zAsg 2 (z2 (oI2 fun x y => x + y) (zL 0 2) (zK (.int 1))))
def L_Mo_undo_0 : zSt := zLp C_Mo_undo_0 B_Mo_undo_0 T_Mo_undo_0
def S_Mo_undo : zSt := (zSeq (zIf (zC1 0 (zAx 0 64 (zGf 3 11 0 (zL 3 0)) (zK (.int 0)))) (zRet (zK (.int (-1)))) zSkip)
  (zSeq (zAso (zStK 64).1 64 (oI2 fun x y => x - y) (zGf 3 11 0 (zL 3 0)) (zK (.int 0)) (zK (.int 1)))
  (zSeq (zAsg 1 (zAn 0 (zCs F_Mo_stepAt [(zAx 0 64 (zGf 3 11 0 (zL 3 0)) (zK (.int 1))), (zAx 0 64 (zGf 3 11 0 (zL 3 0)) (zK (.int 0)))])))
  (zSeq (zBl 2 (zSeq (zAsg 2 (zK (.int 0)))
  L_Mo_undo_0))
  (zRet (zAx 0 64 (zGf 3 11 0 (zL 3 0)) (zK (.int 0))))))))
def F_Mo_undo : zMt := zMeth [3] 3 0 S_Mo_undo
-- JetTreesModel.layTrack(IIII)V
def S_Mo_layTrack : zSt := (zSeq (zAsg 5 (z2 (oI2 fun x y => x + y) (z2 (oI2 fun x y => x + y) (zAn 0 (zCs F_Mo_eventAt [(zAx 0 64 (zGf 3 11 0 (zL 3 0)) (zK (.int 5)))])) (zK (.int 1))) (z2 (oI2 fun x y => x * y) (zK (.int 3)) (zL 0 1))))
  (zSeq (zAs (zStK 64).1 64 (zStK 64).2 (zGf 3 11 0 (zL 3 0)) (zL 0 5) (zL 0 2))
  (zSeq (zAs (zStK 64).1 64 (zStK 64).2 (zGf 3 11 0 (zL 3 0)) (z2 (oI2 fun x y => x + y) (zL 0 5) (zK (.int 1))) (zL 0 3))
  (zSeq (zAs (zStK 64).1 64 (zStK 64).2 (zGf 3 11 0 (zL 3 0)) (z2 (oI2 fun x y => x + y) (zL 0 5) (zK (.int 2))) (zL 0 4))
  zRetV))))
def F_Mo_layTrack : zMt := zMeth [3, 0, 0, 0, 0] 6 9 S_Mo_layTrack
-- JetTreesModel.counted(I)I
def S_Mo_counted : zSt := (zSeq (zAso (zStK 64).1 64 (oI2 fun x y => x + y) (zGf 3 11 0 (zL 3 0)) (zAn 0 (zCs F_Mo_eventAt [(zAx 0 64 (zGf 3 11 0 (zL 3 0)) (zK (.int 5)))])) (zL 0 1))
  (zRet (zAn 0 (zCv 11 F_Mo_tracks [(zL 3 0)]))))
def F_Mo_counted : zMt := zMeth [3, 0] 2 0 S_Mo_counted
-- JetTreesModel.track(III)I
def S_Mo_track : zSt := (zSeq (zIf (zOr (zOr (zNot (zC1 1 (zAn 0 (zCs F_Mo_isPlace [(zL 0 1), (zL 0 2)])))) (zNot (zC1 1 (zAn 0 (zCs F_Mo_isIn [(zL 0 3), (zK (.int 1)), (zK (.int 9999))]))))) (zC2 0 (zAn 0 (zCv 11 F_Mo_tracks [(zL 3 0)])) (zK (.int 40)))) (zRet (zK (.int (-1)))) zSkip)
  (zSeq (zDo (zCv 11 F_Mo_keepNow [(zL 3 0)]))
  (zSeq (zDo (zCv 11 F_Mo_layTrack [(zL 3 0), (zAn 0 (zCv 11 F_Mo_tracks [(zL 3 0)])), (zL 0 1), (zL 0 2), (zL 0 3)]))
  (zRet (z2 (oI2 fun x y => x - y) (zAn 0 (zCv 11 F_Mo_counted [(zL 3 0), (zK (.int 1))])) (zK (.int 1)))))))
def F_Mo_track : zMt := zMeth [3, 0, 0, 0] 4 0 S_Mo_track
-- JetTreesModel.move(III)Z
def S_Mo_move : zSt := (zSeq (zIf (zOr (zNot (zC1 1 (zAn 0 (zCv 11 F_Mo_isTrack [(zL 3 0), (zL 0 1)])))) (zNot (zC1 1 (zAn 0 (zCs F_Mo_isPlace [(zL 0 2), (zL 0 3)]))))) (zRet (zK (.int 0))) zSkip)
  (zSeq (zDo (zCv 11 F_Mo_keepNow [(zL 3 0)]))
  (zSeq (zDo (zCv 11 F_Mo_layTrack [(zL 3 0), (zL 0 1), (zL 0 2), (zL 0 3), (zAn 0 (zCv 11 F_Mo_ofTrack [(zL 3 0), (zL 0 1), (zK (.int 2))]))]))
  (zRet (zK (.int 1))))))
def F_Mo_move : zMt := zMeth [3, 0, 0, 0] 4 4 S_Mo_move
-- JetTreesModel.weigh(II)Z
def S_Mo_weigh : zSt := (zSeq (zIf (zOr (zNot (zC1 1 (zAn 0 (zCv 11 F_Mo_isTrack [(zL 3 0), (zL 0 1)])))) (zNot (zC1 1 (zAn 0 (zCs F_Mo_isIn [(zL 0 2), (zK (.int 1)), (zK (.int 9999))]))))) (zRet (zK (.int 0))) zSkip)
  (zSeq (zDo (zCv 11 F_Mo_keepNow [(zL 3 0)]))
  (zSeq (zDo (zCv 11 F_Mo_layTrack [(zL 3 0), (zL 0 1), (zAn 0 (zCv 11 F_Mo_ofTrack [(zL 3 0), (zL 0 1), (zK (.int 0))])), (zAn 0 (zCv 11 F_Mo_ofTrack [(zL 3 0), (zL 0 1), (zK (.int 1))])), (zL 0 2)]))
  (zRet (zK (.int 1))))))
def F_Mo_weigh : zMt := zMeth [3, 0, 0] 3 4 S_Mo_weigh
-- JetTreesModel.drop(I)I
def C_Mo_drop_0 : zCx := (zC2 2 (zL 0 2) (z2 (oI2 fun x y => x - y) (zAn 0 (zCv 11 F_Mo_tracks [(zL 3 0)])) (zK (.int 1))))
def B_Mo_drop_0 : zSt := (zDo (zCv 11 F_Mo_layTrack [(zL 3 0), (zL 0 2), (zAn 0 (zCv 11 F_Mo_ofTrack [(zL 3 0), (z2 (oI2 fun x y => x + y) (zL 0 2) (zK (.int 1))), (zK (.int 0))])), (zAn 0 (zCv 11 F_Mo_ofTrack [(zL 3 0), (z2 (oI2 fun x y => x + y) (zL 0 2) (zK (.int 1))), (zK (.int 1))])), (zAn 0 (zCv 11 F_Mo_ofTrack [(zL 3 0), (z2 (oI2 fun x y => x + y) (zL 0 2) (zK (.int 1))), (zK (.int 2))]))]))
def T_Mo_drop_0 : zSt := (zAsg 2 (z2 (oI2 fun x y => x + y) (zL 0 2) (zK (.int 1))))
def L_Mo_drop_0 : zSt := zLp C_Mo_drop_0 B_Mo_drop_0 T_Mo_drop_0
def S_Mo_drop : zSt := (zSeq (zIf (zNot (zC1 1 (zAn 0 (zCv 11 F_Mo_isTrack [(zL 3 0), (zL 0 1)])))) (zRet (zK (.int (-1)))) zSkip)
  (zSeq (zDo (zCv 11 F_Mo_keepNow [(zL 3 0)]))
  (zSeq (zBl 2 (zSeq (zAsg 2 (zL 0 1))
  L_Mo_drop_0))
  (zSeq (zDo (zCv 11 F_Mo_layTrack [(zL 3 0), (z2 (oI2 fun x y => x - y) (zAn 0 (zCv 11 F_Mo_tracks [(zL 3 0)])) (zK (.int 1))), (zK (.int 0)), (zK (.int 0)), (zK (.int 0))]))
  (zRet (zAn 0 (zCv 11 F_Mo_counted [(zL 3 0), (zK (.int (-1)))])))))))
def F_Mo_drop : zMt := zMeth [3, 0] 3 0 S_Mo_drop
-- JetTreesModel.draw(I)I
def S_Mo_draw : zSt := (zSeq (zAs (zStK 64).1 64 (zStK 64).2 (zGf 3 11 0 (zL 3 0)) (zK (.int 6)) (z2 oIrem (z2 (oI2 fun x y => x + y) (z2 (oI2 fun x y => x * y) (zAx 0 64 (zGf 3 11 0 (zL 3 0)) (zK (.int 6))) (zK (.int 821))) (zK (.int 631))) (zK (.int 30091))))
  (zRet (z2 oIrem (zAx 0 64 (zGf 3 11 0 (zL 3 0)) (zK (.int 6))) (zL 0 1))))
def F_Mo_draw : zMt := zMeth [3, 0] 2 0 S_Mo_draw
-- JetTreesModel.held(III)I
def S_Mo_held : zSt := (zRet (zIte (zC2 2 (zL 0 0) (zL 0 1)) (zL 0 1) (zIte (zC2 4 (zL 0 0) (zL 0 2)) (zL 0 2) (zL 0 0))))
def F_Mo_held : zMt := zMeth [0, 0, 0] 3 0 S_Mo_held
-- JetTreesModel.drawn(IIII)I
def C_Mo_drawn_0 : zCx := (zC2 2 (zL 0 5) (zL 0 4))
def B_Mo_drawn_0 : zSt := (zBl 6 (zSeq (zAsg 6 (zAn 0 (zCs F_Mo_held [(z2 (oI2 fun x y => x - y) (z2 (oI2 fun x y => x + y) (zL 0 1) (zAn 0 (zCv 11 F_Mo_draw [(zL 3 0), (z2 (oI2 fun x y => x + y) (z2 (oI2 fun x y => x * y) (zK (.int 2)) (zL 0 3)) (zK (.int 1)))]))) (zL 0 3)), (zK (.int (-200))), (zK (.int 200))])))
  (zSeq (zAsg 7 (z2 oIrem (z2 (oI2 fun x y => x + y) (z2 (oI2 fun x y => x - y) (z2 (oI2 fun x y => x + y) (zL 0 2) (zAn 0 (zCv 11 F_Mo_draw [(zL 3 0), (z2 (oI2 fun x y => x + y) (z2 (oI2 fun x y => x * y) (zK (.int 2)) (zL 0 3)) (zK (.int 1)))]))) (zL 0 3)) (zK (.int 360))) (zK (.int 360))))
  (zSeq (zDo (zCv 11 F_Mo_layTrack [(zL 3 0), (zAn 0 (zCv 11 F_Mo_tracks [(zL 3 0)])), (zL 0 6), (zL 0 7), (z2 (oI2 fun x y => x + y) (zAn 0 (zCv 11 F_Mo_draw [(zL 3 0), (zK (.int 500))])) (zK (.int 1)))]))
  (zDo (zCv 11 F_Mo_counted [(zL 3 0), (zK (.int 1))]))))))
def T_Mo_drawn_0 : zSt := (zAsg 5 (z2 (oI2 fun x y => x + y) (zL 0 5) (zK (.int 1))))
def L_Mo_drawn_0 : zSt := zLp C_Mo_drawn_0 B_Mo_drawn_0 T_Mo_drawn_0
def S_Mo_drawn : zSt := (zSeq (zIf (zOr (zOr (zOr (zNot (zC1 1 (zAn 0 (zCs F_Mo_isPlace [(zL 0 1), (zL 0 2)])))) (zNot (zC1 1 (zAn 0 (zCs F_Mo_isIn [(zL 0 3), (zK (.int 0)), (zK (.int 60))]))))) (zNot (zC1 1 (zAn 0 (zCs F_Mo_isIn [(zL 0 4), (zK (.int 1)), (zK (.int 20))]))))) (zC2 4 (z2 (oI2 fun x y => x + y) (zAn 0 (zCv 11 F_Mo_tracks [(zL 3 0)])) (zL 0 4)) (zK (.int 40)))) (zRet (zK (.int (-1)))) zSkip)
  (zSeq (zDo (zCv 11 F_Mo_keepNow [(zL 3 0)]))
  (zSeq (zBl 5 (zSeq (zAsg 5 (zK (.int 0)))
  L_Mo_drawn_0))
  (zRet (zAn 0 (zCv 11 F_Mo_tracks [(zL 3 0)]))))))
def F_Mo_drawn : zMt := zMeth [3, 0, 0, 0, 0] 8 0 S_Mo_drawn
-- JetTreesModel.tell(I)Z
def S_Mo_tell : zSt := (zSeq (zIf (zNot (zC1 1 (zAn 0 (zCs F_Mo_isIn [(zL 0 1), (zK (.int 0)), (zK (.int 30090))])))) (zRet (zK (.int 0))) zSkip)
  (zSeq (zAs (zStK 64).1 64 (zStK 64).2 (zGf 3 11 0 (zL 3 0)) (zK (.int 6)) (zL 0 1))
  (zRet (zK (.int 1)))))
def F_Mo_tell : zMt := zMeth [3, 0] 2 4 S_Mo_tell
-- JetTreesModel.set(II)Z
def S_Mo_set : zSt := (zSeq (zIf (zOr (zNot (zC1 1 (zAn 0 (zCs F_Mo_isIn [(zL 0 1), (zK (.int 0)), (zK (.int 2))])))) (zNot (zC1 1 (zAn 0 (zCs F_Mo_isIn [(zL 0 2), (zIte (zC1 0 (zL 0 1)) (zK (.int 1)) (zIte (zC2 0 (zL 0 1) (zK (.int 1))) (zK (.int (-1))) (zK (.int 0)))), (zIte (zC1 0 (zL 0 1)) (zK (.int 200)) (zK (.int 1)))]))))) (zRet (zK (.int 0))) zSkip)
  (zSeq (zDo (zCv 11 F_Mo_keepNow [(zL 3 0)]))
  (zSeq (zAs (zStK 64).1 64 (zStK 64).2 (zGf 3 11 0 (zL 3 0)) (z2 (oI2 fun x y => x + y) (zK (.int 2)) (zL 0 1)) (zL 0 2))
  (zRet (zK (.int 1))))))
def F_Mo_set : zMt := zMeth [3, 0, 0] 3 4 S_Mo_set
-- JetTreesModel.clearTree(I)V
def C_Mo_clearTree_0 : zCx := (zC2 2 (zL 0 2) (zK (.int 521)))
def B_Mo_clearTree_0 : zSt := (zAs (zStK 64).1 64 (zStK 64).2 (zGf 3 11 0 (zL 3 0)) (z2 (oI2 fun x y => x + y) (zAn 0 (zCs F_Mo_treeAt [(zL 0 1)])) (zL 0 2)) (zK (.int 0)))
def T_Mo_clearTree_0 : zSt := (zAsg 2 (z2 (oI2 fun x y => x + y) (zL 0 2) (zK (.int 1))))
def L_Mo_clearTree_0 : zSt := zLp C_Mo_clearTree_0 B_Mo_clearTree_0 T_Mo_clearTree_0
def S_Mo_clearTree : zSt := (zSeq (zBl 2 (zSeq (zAsg 2 (zK (.int 0)))
  L_Mo_clearTree_0))
  zRetV)
def F_Mo_clearTree : zMt := zMeth [3, 0] 3 9 S_Mo_clearTree
-- JetTreesModel.jetsOf(I)I
def S_Mo_jetsOf : zSt := (zRet (z2 (oI2 fun x y => x - y) (z2 (oI2 fun x y => x * y) (zK (.int 2)) (zAn 0 (zCv 11 F_Mo_ofTree [(zL 3 0), (zL 0 1), (zK (.int 1))]))) (zAn 0 (zCv 11 F_Mo_ofTree [(zL 3 0), (zL 0 1), (zK (.int 0))]))))
def F_Mo_jetsOf : zMt := zMeth [3, 0] 2 0 S_Mo_jetsOf
-- JetTreesModel.layTree(I)V
def C_Mo_layTree_0 : zCx := (zC2 2 (zL 0 3) (zGf 0 11 10 (zL 3 0)))
def B_Mo_layTree_0 : zSt := (zBl 4 (zSeq (zAsg 4 (z2 (oI2 fun x y => x + y) (z2 (oI2 fun x y => x + y) (zL 0 2) (zK (.int 6))) (z2 (oI2 fun x y => x * y) (zK (.int 5)) (zL 0 3))))
  (zSeq (zAs (zStK 64).1 64 (zStK 64).2 (zGf 3 11 0 (zL 3 0)) (zL 0 4) (zAx 0 64 (zGf 3 11 2 (zL 3 0)) (zL 0 3)))
  (zSeq (zAs (zStK 64).1 64 (zStK 64).2 (zGf 3 11 0 (zL 3 0)) (z2 (oI2 fun x y => x + y) (zL 0 4) (zK (.int 1))) (zAx 0 64 (zGf 3 11 3 (zL 3 0)) (zL 0 3)))
  (zSeq (zAs (zStK 64).1 64 (zStK 64).2 (zGf 3 11 0 (zL 3 0)) (z2 (oI2 fun x y => x + y) (zL 0 4) (zK (.int 2))) (zAx 0 64 (zGf 3 11 4 (zL 3 0)) (zL 0 3)))
  (zSeq (zAs (zStK 64).1 64 (zStK 64).2 (zGf 3 11 0 (zL 3 0)) (z2 (oI2 fun x y => x + y) (zL 0 4) (zK (.int 3))) (zAx 0 64 (zGf 3 11 5 (zL 3 0)) (zL 0 3)))
  (zAs (zStK 64).1 64 (zStK 64).2 (zGf 3 11 0 (zL 3 0)) (z2 (oI2 fun x y => x + y) (zL 0 4) (zK (.int 4))) (zAx 0 64 (zGf 3 11 6 (zL 3 0)) (zL 0 3)))))))))
def T_Mo_layTree_0 : zSt := (zAsg 3 (z2 (oI2 fun x y => x + y) (zL 0 3) (zK (.int 1))))
def L_Mo_layTree_0 : zSt := zLp C_Mo_layTree_0 B_Mo_layTree_0 T_Mo_layTree_0
def C_Mo_layTree_1 : zCx := (zC2 2 (zL 0 3) (zGf 0 11 11 (zL 3 0)))
def B_Mo_layTree_1 : zSt := (zSeq (zAs (zStK 64).1 64 (zStK 64).2 (zGf 3 11 0 (zL 3 0)) (z2 (oI2 fun x y => x + y) (z2 (oI2 fun x y => x + y) (zL 0 2) (zK (.int 401))) (z2 (oI2 fun x y => x * y) (zK (.int 2)) (zL 0 3))) (zAx 0 64 (zGf 3 11 8 (zL 3 0)) (zL 0 3)))
  (zAs (zStK 64).1 64 (zStK 64).2 (zGf 3 11 0 (zL 3 0)) (z2 (oI2 fun x y => x + y) (z2 (oI2 fun x y => x + y) (z2 (oI2 fun x y => x + y) (zL 0 2) (zK (.int 401))) (z2 (oI2 fun x y => x * y) (zK (.int 2)) (zL 0 3))) (zK (.int 1))) (zAx 0 64 (zGf 3 11 9 (zL 3 0)) (zL 0 3))))
def T_Mo_layTree_1 : zSt := (zAsg 3 (z2 (oI2 fun x y => x + y) (zL 0 3) (zK (.int 1))))
def L_Mo_layTree_1 : zSt := zLp C_Mo_layTree_1 B_Mo_layTree_1 T_Mo_layTree_1
def S_Mo_layTree : zSt := (zSeq (zDo (zCv 11 F_Mo_clearTree [(zL 3 0), (zL 0 1)]))
  (zSeq (zAsg 2 (zAn 0 (zCs F_Mo_treeAt [(zL 0 1)])))
  (zSeq (zAs (zStK 64).1 64 (zStK 64).2 (zGf 3 11 0 (zL 3 0)) (z2 (oI2 fun x y => x + y) (zL 0 2) (zK (.int 0))) (zGf 0 11 10 (zL 3 0)))
  (zSeq (zAs (zStK 64).1 64 (zStK 64).2 (zGf 3 11 0 (zL 3 0)) (z2 (oI2 fun x y => x + y) (zL 0 2) (zK (.int 1))) (zGf 0 11 11 (zL 3 0)))
  (zSeq (zAs (zStK 64).1 64 (zStK 64).2 (zGf 3 11 0 (zL 3 0)) (z2 (oI2 fun x y => x + y) (zL 0 2) (zK (.int 2))) (zGf 0 11 12 (zL 3 0)))
  (zSeq (zAs (zStK 64).1 64 (zStK 64).2 (zGf 3 11 0 (zL 3 0)) (z2 (oI2 fun x y => x + y) (zL 0 2) (zK (.int 3))) (zGf 0 11 13 (zL 3 0)))
  (zSeq (zAs (zStK 64).1 64 (zStK 64).2 (zGf 3 11 0 (zL 3 0)) (z2 (oI2 fun x y => x + y) (zL 0 2) (zK (.int 4))) (zGf 0 11 14 (zL 3 0)))
  (zSeq (zBl 3 (zSeq (zAsg 3 (zK (.int 0)))
  L_Mo_layTree_0))
  (zSeq (zBl 3 (zSeq (zAsg 3 (zK (.int 0)))
  L_Mo_layTree_1))
  (zSeq (zAso (zStK 64).1 64 (oI2 fun x y => x ||| y) (zGf 3 11 0 (zL 3 0)) (zK (.int 7)) (z2 (oI2 fun x y => x <<< (y &&& 31)) (zK (.int 1)) (zL 0 1)))
  zRetV))))))))))
def F_Mo_layTree : zMt := zMeth [3, 0] 5 9 S_Mo_layTree
-- JetTreesModel.gatherNow()V
def S_Mo_gatherNow : zSt := (zSeq (zDo (zCv 11 F_Mo_layTracks [(zL 3 0)]))
  (zSeq (zDo (zCv 11 F_Mo_gatherAll [(zL 3 0), (zAx 0 64 (zGf 3 11 0 (zL 3 0)) (zK (.int 2))), (zAx 0 64 (zGf 3 11 0 (zL 3 0)) (zK (.int 3))), (zAx 0 64 (zGf 3 11 0 (zL 3 0)) (zK (.int 4)))]))
  zRetV))
def F_Mo_gatherNow : zMt := zMeth [3] 1 9 S_Mo_gatherNow
-- JetTreesModel.gather(I)I
def S_Mo_gather : zSt := (zSeq (zIf (zOr (zNot (zC1 1 (zAn 0 (zCs F_Mo_isIn [(zL 0 1), (zK (.int 0)), (zK (.int 3))])))) (zC1 0 (zAn 0 (zCv 11 F_Mo_tracks [(zL 3 0)])))) (zRet (zK (.int (-1)))) zSkip)
  (zSeq (zDo (zCv 11 F_Mo_keepNow [(zL 3 0)]))
  (zSeq (zDo (zCv 11 F_Mo_gatherNow [(zL 3 0)]))
  (zSeq (zDo (zCv 11 F_Mo_layTree [(zL 3 0), (zL 0 1)]))
  (zRet (zAn 0 (zCv 11 F_Mo_jetsOf [(zL 3 0), (zL 0 1)])))))))
def F_Mo_gather : zMt := zMeth [3, 0] 2 0 S_Mo_gather
-- JetTreesModel.leavesOf(II)J
def C_Mo_leavesOf_0 : zCx := (zC1 4 (zGf 0 11 17 (zL 3 0)))
def B_Mo_leavesOf_0 : zSt := (zBl 5 (zSeq (zPfo 0 11 17 (oI2 fun x y => x - y) (zL 3 0) (zK (.int 1)))
  (zSeq (zAsg 5 (zAx 0 64 (zGf 3 11 16 (zL 3 0)) (zGf 0 11 17 (zL 3 0))))
  (zSeq (zIf (zNot (zC1 1 (zAn 0 (zCv 11 F_Mo_isJoined [(zL 3 0), (zL 0 1), (zL 0 5)])))) (zSeq (zAsg 3 (z2 (oL2 fun x y => x ||| y) (zL 1 3) (z2 (oLsh fun x y => x <<< (y.toInt64 &&& 63)) (zK (.long 1)) (zL 0 5))))
  zCnt) zSkip)
  (zSeq (zAs (zStK 64).1 64 (zStK 64).2 (zGf 3 11 16 (zL 3 0)) (zGf 0 11 17 (zL 3 0)) (zAn 0 (zCv 11 F_Mo_ofKnot [(zL 3 0), (zL 0 1), (zL 0 5), (zK (.int 3))])))
  (zSeq (zAs (zStK 64).1 64 (zStK 64).2 (zGf 3 11 16 (zL 3 0)) (z2 (oI2 fun x y => x + y) (zGf 0 11 17 (zL 3 0)) (zK (.int 1))) (zAn 0 (zCv 11 F_Mo_ofKnot [(zL 3 0), (zL 0 1), (zL 0 5), (zK (.int 4))])))
  (zPfo 0 11 17 (oI2 fun x y => x + y) (zL 3 0) (zK (.int 2)))))))))
def T_Mo_leavesOf_0 : zSt := zSkip
def L_Mo_leavesOf_0 : zSt := zLp C_Mo_leavesOf_0 B_Mo_leavesOf_0 T_Mo_leavesOf_0
def S_Mo_leavesOf : zSt := (zSeq (zAsg 3 (zK (.long 0)))
  (zSeq (zPf 0 11 17 (zL 3 0) (zK (.int 1)))
  (zSeq (zAs (zStK 64).1 64 (zStK 64).2 (zGf 3 11 16 (zL 3 0)) (zK (.int 0)) (zL 0 2))
  (zSeq L_Mo_leavesOf_0
  (zRet (zL 1 3))))))
def F_Mo_leavesOf : zMt := zMeth [3, 0, 0] 6 1 S_Mo_leavesOf
-- JetTreesModel.apart(IIIII)I
def C_Mo_apart_0 : zCx := (zC2 2 (zL 0 9) (zK (.int 40)))
def B_Mo_apart_0 : zSt := (zSeq (zIf (zNot (zC1 1 (zAn 0 (zCs F_Mo_has [(zL 1 6), (zL 0 9)])))) zCnt zSkip)
  (zSeq (zAs (zStK 64).1 64 (zStK 64).2 (zGf 3 11 15 (zL 3 0)) (zL 0 8) (zL 0 9))
  (zAsg 8 (z2 (oI2 fun x y => x + y) (zL 0 8) (zK (.int 1))))))
def T_Mo_apart_0 : zSt := (zAsg 9 (z2 (oI2 fun x y => x + y) (zL 0 9) (zK (.int 1))))
def L_Mo_apart_0 : zSt := zLp C_Mo_apart_0 B_Mo_apart_0 T_Mo_apart_0
def C_Mo_apart_1 : zCx := (zC2 2 (zL 0 9) (zL 0 8))
def B_Mo_apart_1 : zSt := (zAs (zStK 64).1 64 (zStK 64).2 (zGf 3 11 0 (zL 3 0)) (z2 (oI2 fun x y => x + y) (z2 (oI2 fun x y => x + y) (zAn 0 (zCs F_Mo_treeAt [(zL 0 5)])) (zK (.int 481))) (zL 0 9)) (zAx 0 64 (zGf 3 11 15 (zL 3 0)) (zL 0 9)))
def T_Mo_apart_1 : zSt := (zAsg 9 (z2 (oI2 fun x y => x + y) (zL 0 9) (zK (.int 1))))
def L_Mo_apart_1 : zSt := zLp C_Mo_apart_1 B_Mo_apart_1 T_Mo_apart_1
def S_Mo_apart : zSt := (zSeq (zIf (zOr (zOr (zOr (zNot (zC1 1 (zAn 0 (zCv 11 F_Mo_isKnot [(zL 3 0), (zL 0 1), (zL 0 2)])))) (zNot (zC1 1 (zAn 0 (zCs F_Mo_isIn [(zL 0 3), (zK (.int (-1))), (zK (.int 1))]))))) (zNot (zC1 1 (zAn 0 (zCs F_Mo_isIn [(zL 0 4), (zK (.int 1)), (zK (.int 200))]))))) (zNot (zC1 1 (zAn 0 (zCs F_Mo_isIn [(zL 0 5), (zK (.int 0)), (zK (.int 3))]))))) (zRet (zK (.int (-1)))) zSkip)
  (zSeq (zDo (zCv 11 F_Mo_keepNow [(zL 3 0)]))
  (zSeq (zAsg 6 (zAn 1 (zCv 11 F_Mo_leavesOf [(zL 3 0), (zL 0 1), (zL 0 2)])))
  (zSeq (zAsg 8 (zK (.int 0)))
  (zSeq (zBl 9 (zSeq (zAsg 9 (zK (.int 0)))
  L_Mo_apart_0))
  (zSeq (zDo (zCv 11 F_Mo_layLeaves [(zL 3 0), (zL 0 1), (zL 1 6)]))
  (zSeq (zDo (zCv 11 F_Mo_gatherAll [(zL 3 0), (zL 0 4), (zL 0 3), (zAn 0 (zCv 11 F_Mo_ofTree [(zL 3 0), (zL 0 1), (zK (.int 4))]))]))
  (zSeq (zDo (zCv 11 F_Mo_layTree [(zL 3 0), (zL 0 5)]))
  (zSeq (zAs (zStK 64).1 64 (zStK 64).2 (zGf 3 11 0 (zL 3 0)) (z2 (oI2 fun x y => x + y) (zAn 0 (zCs F_Mo_treeAt [(zL 0 5)])) (zK (.int 5))) (zK (.int 1)))
  (zSeq (zBl 9 (zSeq (zAsg 9 (zK (.int 0)))
  L_Mo_apart_1))
  (zRet (zAn 0 (zCv 11 F_Mo_jetsOf [(zL 3 0), (zL 0 5)])))))))))))))
def F_Mo_apart : zMt := zMeth [3, 0, 0, 0, 0, 0] 10 0 S_Mo_apart
-- JetTreesModel.origin(II)I
def S_Mo_origin : zSt := (zRet (zIte (zAnd (zAnd (zC1 1 (zAn 0 (zCv 11 F_Mo_isTree [(zL 3 0), (zL 0 1)]))) (zC2 0 (zAn 0 (zCv 11 F_Mo_ofTree [(zL 3 0), (zL 0 1), (zK (.int 5))])) (zK (.int 1)))) (zC1 1 (zAn 0 (zCs F_Mo_isIn [(zL 0 2), (zK (.int 0)), (z2 (oI2 fun x y => x - y) (zAn 0 (zCv 11 F_Mo_ofTree [(zL 3 0), (zL 0 1), (zK (.int 1))])) (zK (.int 1)))])))) (zAx 0 64 (zGf 3 11 0 (zL 3 0)) (z2 (oI2 fun x y => x + y) (z2 (oI2 fun x y => x + y) (zAn 0 (zCs F_Mo_treeAt [(zL 0 1)])) (zK (.int 481))) (zL 0 2))) (zK (.int (-1)))))
def F_Mo_origin : zMt := zMeth [3, 0, 0] 3 0 S_Mo_origin
-- JetTreesModel.isEvent(I)Z
def S_Mo_isEvent : zSt := (zRet (zAn 0 (zCs F_Mo_isIn [(zL 0 0), (zK (.int 0)), (zK (.int 2))])))
def F_Mo_isEvent : zMt := zMeth [0] 1 4 S_Mo_isEvent
-- JetTreesModel.hand(I)I
def S_Mo_hand : zSt := (zSeq (zIf (zOr (zNot (zC1 1 (zAn 0 (zCs F_Mo_isEvent [(zL 0 1)])))) (zC2 0 (zL 0 1) (zAx 0 64 (zGf 3 11 0 (zL 3 0)) (zK (.int 5))))) (zRet (zK (.int (-1)))) zSkip)
  (zSeq (zDo (zCv 11 F_Mo_keepNow [(zL 3 0)]))
  (zSeq (zAs (zStK 64).1 64 (zStK 64).2 (zGf 3 11 0 (zL 3 0)) (zK (.int 5)) (zL 0 1))
  (zRet (zAn 0 (zCv 11 F_Mo_tracks [(zL 3 0)]))))))
def F_Mo_hand : zMt := zMeth [3, 0] 2 0 S_Mo_hand
-- JetTreesModel.mix(II)I
def C_Mo_mix_0 : zCx := (zC2 2 (zL 0 3) (zAx 0 64 (zGf 3 11 0 (zL 3 0)) (zAn 0 (zCs F_Mo_eventAt [(zL 0 1)]))))
def B_Mo_mix_0 : zSt := (zBl 4 (zSeq (zAsg 4 (z2 (oI2 fun x y => x + y) (z2 (oI2 fun x y => x + y) (zAn 0 (zCs F_Mo_eventAt [(zL 0 1)])) (zK (.int 1))) (z2 (oI2 fun x y => x * y) (zK (.int 3)) (zL 0 3))))
  (zSeq (zDo (zCv 11 F_Mo_layTrack [(zL 3 0), (zAn 0 (zCv 11 F_Mo_tracks [(zL 3 0)])), (zAx 0 64 (zGf 3 11 0 (zL 3 0)) (zL 0 4)), (z2 oIrem (z2 (oI2 fun x y => x + y) (zAx 0 64 (zGf 3 11 0 (zL 3 0)) (z2 (oI2 fun x y => x + y) (zL 0 4) (zK (.int 1)))) (zL 0 2)) (zK (.int 360))), (zAx 0 64 (zGf 3 11 0 (zL 3 0)) (z2 (oI2 fun x y => x + y) (zL 0 4) (zK (.int 2))))]))
  (zDo (zCv 11 F_Mo_counted [(zL 3 0), (zK (.int 1))])))))
def T_Mo_mix_0 : zSt := (zAsg 3 (z2 (oI2 fun x y => x + y) (zL 0 3) (zK (.int 1))))
def L_Mo_mix_0 : zSt := zLp C_Mo_mix_0 B_Mo_mix_0 T_Mo_mix_0
def S_Mo_mix : zSt := (zSeq (zIf (zOr (zOr (zOr (zNot (zC1 1 (zAn 0 (zCs F_Mo_isEvent [(zL 0 1)])))) (zC2 0 (zL 0 1) (zAx 0 64 (zGf 3 11 0 (zL 3 0)) (zK (.int 5))))) (zNot (zC1 1 (zAn 0 (zCs F_Mo_isIn [(zL 0 2), (zK (.int 0)), (zK (.int 359))]))))) (zC2 4 (z2 (oI2 fun x y => x + y) (zAn 0 (zCv 11 F_Mo_tracks [(zL 3 0)])) (zAx 0 64 (zGf 3 11 0 (zL 3 0)) (zAn 0 (zCs F_Mo_eventAt [(zL 0 1)])))) (zK (.int 40)))) (zRet (zK (.int (-1)))) zSkip)
  (zSeq (zDo (zCv 11 F_Mo_keepNow [(zL 3 0)]))
  (zSeq (zBl 3 (zSeq (zAsg 3 (zK (.int 0)))
  L_Mo_mix_0))
  (zRet (zAn 0 (zCv 11 F_Mo_tracks [(zL 3 0)]))))))
def F_Mo_mix : zMt := zMeth [3, 0, 0] 5 0 S_Mo_mix
-- JetTreesModel.free(I)Z
def S_Mo_free : zSt := (zSeq (zIf (zNot (zC1 1 (zAn 0 (zCv 11 F_Mo_isTree [(zL 3 0), (zL 0 1)])))) (zRet (zK (.int 0))) zSkip)
  (zSeq (zDo (zCv 11 F_Mo_keepNow [(zL 3 0)]))
  (zSeq (zDo (zCv 11 F_Mo_clearTree [(zL 3 0), (zL 0 1)]))
  (zSeq (zAso (zStK 64).1 64 (oI2 fun x y => x &&& y) (zGf 3 11 0 (zL 3 0)) (zK (.int 7)) (z2 (oI2 fun x y => x ^^^ y) (z2 (oI2 fun x y => x <<< (y &&& 31)) (zK (.int 1)) (zL 0 1)) (zK (.int (-1)))))
  (zRet (zK (.int 1)))))))
def F_Mo_free : zMt := zMeth [3, 0] 2 4 S_Mo_free
-- JetTreesModel.allTracks()J
def S_Mo_allTracks : zSt := (zRet (z2 (oL2 fun x y => x - y) (z2 (oLsh fun x y => x <<< (y.toInt64 &&& 63)) (zK (.long 1)) (zAn 0 (zCv 11 F_Mo_tracks [(zL 3 0)]))) (zK (.long 1))))
def F_Mo_allTracks : zMt := zMeth [3] 1 1 S_Mo_allTracks
-- JetTreesModel.weightsOf(J)I
def C_Mo_weightsOf_0 : zCx := (zC2 2 (zL 0 4) (zAn 0 (zCv 11 F_Mo_tracks [(zL 3 0)])))
def B_Mo_weightsOf_0 : zSt := (zAsg 3 (z2 (oI2 fun x y => x + y) (zL 0 3) (zIte (zC1 1 (zAn 0 (zCs F_Mo_has [(zL 1 1), (zL 0 4)]))) (zAn 0 (zCv 11 F_Mo_ofTrack [(zL 3 0), (zL 0 4), (zK (.int 2))])) (zK (.int 0)))))
def T_Mo_weightsOf_0 : zSt := (zAsg 4 (z2 (oI2 fun x y => x + y) (zL 0 4) (zK (.int 1))))
def L_Mo_weightsOf_0 : zSt := zLp C_Mo_weightsOf_0 B_Mo_weightsOf_0 T_Mo_weightsOf_0
def S_Mo_weightsOf : zSt := (zSeq (zAsg 3 (zK (.int 0)))
  (zSeq (zBl 4 (zSeq (zAsg 4 (zK (.int 0)))
  L_Mo_weightsOf_0))
  (zRet (zL 0 3))))
def F_Mo_weightsOf : zMt := zMeth [3, 1] 5 0 S_Mo_weightsOf
-- JetTreesModel.is(I)I
def W_Mo_is_0_0 : zSt := (zRet (zAx 0 64 (zGf 3 11 0 (zL 3 0)) (z2 (oI2 fun x y => x + y) (zK (.int 2)) (zL 0 1))))
def W_Mo_is_0_1 : zSt := (zRet (zAn 0 (zCv 11 F_Mo_tracks [(zL 3 0)])))
def W_Mo_is_0_2 : zSt := (zRet (zAx 0 64 (zGf 3 11 0 (zL 3 0)) (zK (.int 6))))
def W_Mo_is_0_3 : zSt := (zRet (zAx 0 64 (zGf 3 11 0 (zL 3 0)) (zK (.int 7))))
def W_Mo_is_0_4 : zSt := (zRet (zAn 0 (zCv 11 F_Mo_weightsOf [(zL 3 0), (zAn 1 (zCv 11 F_Mo_allTracks [(zL 3 0)]))])))
def W_Mo_is_0_5 : zSt := (zRet (zAx 0 64 (zGf 3 11 0 (zL 3 0)) (zK (.int 5))))
def W_Mo_is_0_6 : zSt := (zRet (zK (.int (-2))))
def S_Mo_is : zSt := (zSw (zL 0 1) (zSwF 0 [0, 0, 0, 1, 2, 3, 4, 5] 6) [W_Mo_is_0_0, W_Mo_is_0_1, W_Mo_is_0_2, W_Mo_is_0_3, W_Mo_is_0_4, W_Mo_is_0_5, W_Mo_is_0_6])
def F_Mo_is : zMt := zMeth [3, 0] 2 0 S_Mo_is
-- JetTreesModel.of(II)I
def S_Mo_of : zSt := (zRet (zIte (zAnd (zC1 1 (zAn 0 (zCv 11 F_Mo_isTrack [(zL 3 0), (zL 0 1)]))) (zC1 1 (zAn 0 (zCs F_Mo_isIn [(zL 0 2), (zK (.int 0)), (zK (.int 2))])))) (zAn 0 (zCv 11 F_Mo_ofTrack [(zL 3 0), (zL 0 1), (zL 0 2)])) (zK (.int (-1000)))))
def F_Mo_of : zMt := zMeth [3, 0, 0] 3 0 S_Mo_of
-- JetTreesModel.squareOfTracks(II)I
def S_Mo_squareOfTracks : zSt := (zRet (zAn 0 (zCs F_Mo_squareOf [(zAn 0 (zCv 11 F_Mo_ofTrack [(zL 3 0), (zL 0 1), (zK (.int 0))])), (zAn 0 (zCv 11 F_Mo_ofTrack [(zL 3 0), (zL 0 1), (zK (.int 1))])), (zAn 0 (zCv 11 F_Mo_ofTrack [(zL 3 0), (zL 0 2), (zK (.int 0))])), (zAn 0 (zCv 11 F_Mo_ofTrack [(zL 3 0), (zL 0 2), (zK (.int 1))]))])))
def F_Mo_squareOfTracks : zMt := zMeth [3, 0, 0] 3 0 S_Mo_squareOfTracks
-- JetTreesModel.square(II)I
def S_Mo_square : zSt := (zRet (zIte (zAnd (zC1 1 (zAn 0 (zCv 11 F_Mo_isTrack [(zL 3 0), (zL 0 1)]))) (zC1 1 (zAn 0 (zCv 11 F_Mo_isTrack [(zL 3 0), (zL 0 2)])))) (zAn 0 (zCv 11 F_Mo_squareOfTracks [(zL 3 0), (zL 0 1), (zL 0 2)])) (zK (.int (-1)))))
def F_Mo_square : zMt := zMeth [3, 0, 0] 3 0 S_Mo_square
-- JetTreesModel.nearest(I)I
def C_Mo_nearest_0 : zCx := (zC2 2 (zL 0 3) (zAn 0 (zCv 11 F_Mo_tracks [(zL 3 0)])))
def B_Mo_nearest_0 : zSt := (zBl 4 (zSeq (zIf (zC2 0 (zL 0 3) (zL 0 1)) zCnt zSkip)
  (zSeq (zAsg 4 (zIte (zC2 0 (zL 0 2) (zK (.int (-1)))) (zK (.int (-1))) (z2 (oI2 fun x y => x - y) (zAn 0 (zCv 11 F_Mo_squareOfTracks [(zL 3 0), (zL 0 1), (zL 0 3)])) (zAn 0 (zCv 11 F_Mo_squareOfTracks [(zL 3 0), (zL 0 1), (zL 0 2)])))))
  (zIf (zOr (zC1 2 (zL 0 4)) (zAnd (zC1 0 (zL 0 4)) (zC1 1 (zAn 0 (zCv 11 F_Mo_isAhead [(zL 3 0), (zL 0 3), (zL 0 2)]))))) (zAsg 2 (zL 0 3)) zSkip))))
def T_Mo_nearest_0 : zSt := (zAsg 3 (z2 (oI2 fun x y => x + y) (zL 0 3) (zK (.int 1))))
def L_Mo_nearest_0 : zSt := zLp C_Mo_nearest_0 B_Mo_nearest_0 T_Mo_nearest_0
def S_Mo_nearest : zSt := (zSeq (zIf (zNot (zC1 1 (zAn 0 (zCv 11 F_Mo_isTrack [(zL 3 0), (zL 0 1)])))) (zRet (zK (.int (-1)))) zSkip)
  (zSeq (zDo (zCv 11 F_Mo_layTracks [(zL 3 0)]))
  (zSeq (zAsg 2 (zK (.int (-1))))
  (zSeq (zBl 3 (zSeq (zAsg 3 (zK (.int 0)))
  L_Mo_nearest_0))
  (zRet (zL 0 2))))))
def F_Mo_nearest : zMt := zMeth [3, 0] 5 0 S_Mo_nearest
-- JetTreesModel.tree(II)I
def W_Mo_tree_0_0 : zSt := (zRet (zAn 0 (zCv 11 F_Mo_ofTree [(zL 3 0), (zL 0 1), (zK (.int 0))])))
def W_Mo_tree_0_1 : zSt := (zRet (zAn 0 (zCv 11 F_Mo_ofTree [(zL 3 0), (zL 0 1), (zK (.int 1))])))
def W_Mo_tree_0_2 : zSt := (zRet (zAn 0 (zCv 11 F_Mo_jetsOf [(zL 3 0), (zL 0 1)])))
def W_Mo_tree_0_3 : zSt := (zRet (zAn 0 (zCv 11 F_Mo_ofTree [(zL 3 0), (zL 0 1), (zK (.int 2))])))
def W_Mo_tree_0_4 : zSt := (zRet (zAn 0 (zCv 11 F_Mo_ofTree [(zL 3 0), (zL 0 1), (zK (.int 3))])))
def W_Mo_tree_0_5 : zSt := (zRet (zAn 0 (zCv 11 F_Mo_ofTree [(zL 3 0), (zL 0 1), (zK (.int 4))])))
def W_Mo_tree_0_6 : zSt := (zRet (zK (.int (-2))))
def S_Mo_tree : zSt := (zSeq (zIf (zNot (zC1 1 (zAn 0 (zCv 11 F_Mo_isTree [(zL 3 0), (zL 0 1)])))) (zRet (zK (.int (-2)))) zSkip)
  (zSw (zL 0 2) (zSwF 0 [0, 1, 2, 1, 3, 4, 5] 6) [W_Mo_tree_0_0, W_Mo_tree_0_1, W_Mo_tree_0_2, W_Mo_tree_0_3, W_Mo_tree_0_4, W_Mo_tree_0_5, W_Mo_tree_0_6]))
def F_Mo_tree : zMt := zMeth [3, 0, 0] 3 0 S_Mo_tree
-- JetTreesModel.aboveOf(II)I
def C_Mo_aboveOf_0 : zCx := (zC2 2 (zL 0 3) (zAn 0 (zCv 11 F_Mo_ofTree [(zL 3 0), (zL 0 1), (zK (.int 0))])))
def B_Mo_aboveOf_0 : zSt := (zIf (zOr (zC2 0 (zAn 0 (zCv 11 F_Mo_ofKnot [(zL 3 0), (zL 0 1), (zL 0 3), (zK (.int 3))])) (zL 0 2)) (zC2 0 (zAn 0 (zCv 11 F_Mo_ofKnot [(zL 3 0), (zL 0 1), (zL 0 3), (zK (.int 4))])) (zL 0 2))) (zRet (zL 0 3)) zSkip)
def T_Mo_aboveOf_0 : zSt := (zAsg 3 (z2 (oI2 fun x y => x + y) (zL 0 3) (zK (.int 1))))
def L_Mo_aboveOf_0 : zSt := zLp C_Mo_aboveOf_0 B_Mo_aboveOf_0 T_Mo_aboveOf_0
def S_Mo_aboveOf : zSt := (zSeq (zBl 3 (zSeq (zAsg 3 (z2 (oI2 fun x y => x + y) (zL 0 2) (zK (.int 1))))
  L_Mo_aboveOf_0))
  (zRet (zK (.int (-1)))))
def F_Mo_aboveOf : zMt := zMeth [3, 0, 0] 4 0 S_Mo_aboveOf
-- JetTreesModel.wentBy(II)I
def C_Mo_wentBy_0 : zCx := (zAnd (zC2 1 (zAn 0 (zCv 11 F_Mo_ofStep [(zL 3 0), (zL 0 1), (zL 0 3), (zK (.int 0))])) (zL 0 2)) (zC2 1 (zAn 0 (zCv 11 F_Mo_ofStep [(zL 3 0), (zL 0 1), (zL 0 3), (zK (.int 1))])) (zL 0 2)))
def B_Mo_wentBy_0 : zSt := (zAsg 3 (z2 (oI2 fun x y => x + y) (zL 0 3) (zK (.int 1))))
def T_Mo_wentBy_0 : zSt := zSkip
def L_Mo_wentBy_0 : zSt := zLp C_Mo_wentBy_0 B_Mo_wentBy_0 T_Mo_wentBy_0
def S_Mo_wentBy : zSt := (zSeq (zAsg 3 (zK (.int 0)))
  (zSeq L_Mo_wentBy_0
  (zRet (zL 0 3))))
def F_Mo_wentBy : zMt := zMeth [3, 0, 0] 4 0 S_Mo_wentBy
-- JetTreesModel.cameBy(II)I
def C_Mo_cameBy_0 : zCx := (zC2 2 (zL 0 4) (zL 0 2))
def B_Mo_cameBy_0 : zSt := (zAsg 3 (z2 (oI2 fun x y => x + y) (zL 0 3) (zIte (zC2 0 (zAn 0 (zCv 11 F_Mo_ofStep [(zL 3 0), (zL 0 1), (zL 0 4), (zK (.int 1))])) (zK (.int (-1)))) (zK (.int 0)) (zK (.int 1)))))
def T_Mo_cameBy_0 : zSt := (zAsg 4 (z2 (oI2 fun x y => x + y) (zL 0 4) (zK (.int 1))))
def L_Mo_cameBy_0 : zSt := zLp C_Mo_cameBy_0 B_Mo_cameBy_0 T_Mo_cameBy_0
def S_Mo_cameBy : zSt := (zSeq (zIf (zC2 0 (zAn 0 (zCv 11 F_Mo_ofStep [(zL 3 0), (zL 0 1), (zL 0 2), (zK (.int 1))])) (zK (.int (-1)))) (zRet (zK (.int (-1)))) zSkip)
  (zSeq (zAsg 3 (zAn 0 (zCv 11 F_Mo_ofTree [(zL 3 0), (zL 0 1), (zK (.int 1))])))
  (zSeq (zBl 4 (zSeq (zAsg 4 (zK (.int 0)))
  L_Mo_cameBy_0))
  (zRet (zL 0 3)))))
def F_Mo_cameBy : zMt := zMeth [3, 0, 0] 5 0 S_Mo_cameBy
-- JetTreesModel.joinedBy(II)I
def C_Mo_joinedBy_0 : zCx := (zC2 1 (zAn 0 (zCv 11 F_Mo_cameBy [(zL 3 0), (zL 0 1), (zL 0 3)])) (zL 0 2))
def B_Mo_joinedBy_0 : zSt := (zAsg 3 (z2 (oI2 fun x y => x + y) (zL 0 3) (zK (.int 1))))
def T_Mo_joinedBy_0 : zSt := zSkip
def L_Mo_joinedBy_0 : zSt := zLp C_Mo_joinedBy_0 B_Mo_joinedBy_0 T_Mo_joinedBy_0
def S_Mo_joinedBy : zSt := (zSeq (zIf (zNot (zC1 1 (zAn 0 (zCv 11 F_Mo_isJoined [(zL 3 0), (zL 0 1), (zL 0 2)])))) (zRet (zK (.int (-1)))) zSkip)
  (zSeq (zAsg 3 (zK (.int 0)))
  (zSeq L_Mo_joinedBy_0
  (zRet (zL 0 3)))))
def F_Mo_joinedBy : zMt := zMeth [3, 0, 0] 4 0 S_Mo_joinedBy
-- JetTreesModel.knot(III)I
def W_Mo_knot_0_0 : zSt := (zRet (zAn 0 (zCv 11 F_Mo_aboveOf [(zL 3 0), (zL 0 1), (zL 0 2)])))
def W_Mo_knot_0_1 : zSt := (zRet (zAn 0 (zCv 11 F_Mo_joinedBy [(zL 3 0), (zL 0 1), (zL 0 2)])))
def W_Mo_knot_0_2 : zSt := (zRet (zAn 0 (zCv 11 F_Mo_wentBy [(zL 3 0), (zL 0 1), (zL 0 2)])))
def W_Mo_knot_0_3 : zSt := (zRet (zIte (zC1 1 (zAn 0 (zCs F_Mo_isIn [(zL 0 3), (zK (.int 0)), (zK (.int 4))]))) (zAn 0 (zCv 11 F_Mo_ofKnot [(zL 3 0), (zL 0 1), (zL 0 2), (zL 0 3)])) (zK (.int (-1000)))))
def S_Mo_knot : zSt := (zSeq (zIf (zNot (zC1 1 (zAn 0 (zCv 11 F_Mo_isKnot [(zL 3 0), (zL 0 1), (zL 0 2)])))) (zRet (zK (.int (-1000)))) zSkip)
  (zSw (zL 0 3) (zSwF 5 [0, 1, 2] 3) [W_Mo_knot_0_0, W_Mo_knot_0_1, W_Mo_knot_0_2, W_Mo_knot_0_3]))
def F_Mo_knot : zMt := zMeth [3, 0, 0, 0] 4 0 S_Mo_knot
-- JetTreesModel.isStep(II)Z
def S_Mo_isStep : zSt := (zRet (zBx (zAnd (zC1 1 (zAn 0 (zCv 11 F_Mo_isTree [(zL 3 0), (zL 0 1)]))) (zC1 1 (zAn 0 (zCs F_Mo_isIn [(zL 0 2), (zK (.int 0)), (z2 (oI2 fun x y => x - y) (zAn 0 (zCv 11 F_Mo_stepsOf [(zL 3 0), (zL 0 1)])) (zK (.int 1)))]))))))
def F_Mo_isStep : zMt := zMeth [3, 0, 0] 3 4 S_Mo_isStep
-- JetTreesModel.step(III)I
def S_Mo_step : zSt := (zSeq (zIf (zOr (zNot (zC1 1 (zAn 0 (zCv 11 F_Mo_isStep [(zL 3 0), (zL 0 1), (zL 0 2)])))) (zNot (zC1 1 (zAn 0 (zCs F_Mo_isIn [(zL 0 3), (zK (.int 0)), (zK (.int 2))]))))) (zRet (zK (.int (-2)))) zSkip)
  (zRet (zIte (zC2 0 (zL 0 3) (zK (.int 2))) (zAn 0 (zCv 11 F_Mo_cameBy [(zL 3 0), (zL 0 1), (zL 0 2)])) (zAn 0 (zCv 11 F_Mo_ofStep [(zL 3 0), (zL 0 1), (zL 0 2), (zL 0 3)])))))
def F_Mo_step : zMt := zMeth [3, 0, 0, 0] 4 0 S_Mo_step
-- JetTreesModel.layOf(I)V
def C_Mo_layOf_0 : zCx := (zC2 2 (zL 0 2) (zAn 0 (zCv 11 F_Mo_ofTree [(zL 3 0), (zL 0 1), (zK (.int 0))])))
def B_Mo_layOf_0 : zSt := (zDo (zCv 11 F_Mo_come [(zL 3 0), (zAn 0 (zCv 11 F_Mo_ofKnot [(zL 3 0), (zL 0 1), (zL 0 2), (zK (.int 0))])), (zAn 0 (zCv 11 F_Mo_ofKnot [(zL 3 0), (zL 0 1), (zL 0 2), (zK (.int 1))])), (zAn 0 (zCv 11 F_Mo_weightOf [(zL 3 0), (zL 0 1), (zL 0 2)])), (zAn 0 (zCv 11 F_Mo_ofKnot [(zL 3 0), (zL 0 1), (zL 0 2), (zK (.int 3))])), (zAn 0 (zCv 11 F_Mo_ofKnot [(zL 3 0), (zL 0 1), (zL 0 2), (zK (.int 4))]))]))
def T_Mo_layOf_0 : zSt := (zAsg 2 (z2 (oI2 fun x y => x + y) (zL 0 2) (zK (.int 1))))
def L_Mo_layOf_0 : zSt := zLp C_Mo_layOf_0 B_Mo_layOf_0 T_Mo_layOf_0
def S_Mo_layOf : zSt := (zSeq (zPf 0 11 10 (zL 3 0) (zK (.int 0)))
  (zSeq (zBl 2 (zSeq (zAsg 2 (zK (.int 0)))
  L_Mo_layOf_0))
  (zSeq (zPf 0 11 12 (zL 3 0) (zAn 0 (zCv 11 F_Mo_ofTree [(zL 3 0), (zL 0 1), (zK (.int 2))])))
  (zSeq (zPf 0 11 13 (zL 3 0) (zAn 0 (zCv 11 F_Mo_ofTree [(zL 3 0), (zL 0 1), (zK (.int 3))])))
  (zSeq (zPf 0 11 14 (zL 3 0) (zAn 0 (zCv 11 F_Mo_ofTree [(zL 3 0), (zL 0 1), (zK (.int 4))])))
  zRetV)))))
def F_Mo_layOf : zMt := zMeth [3, 0] 3 9 S_Mo_layOf
-- JetTreesModel.upOfStep(II)J
def S_Mo_upOfStep : zSt := (zRet (zAn 1 (zCv 11 F_Mo_upOf [(zL 3 0), (zAn 0 (zCv 11 F_Mo_ofStep [(zL 3 0), (zL 0 1), (zL 0 2), (zK (.int 0))])), (zAn 0 (zCv 11 F_Mo_ofStep [(zL 3 0), (zL 0 1), (zL 0 2), (zK (.int 1))]))])))
def F_Mo_upOfStep : zMt := zMeth [3, 0, 0] 3 1 S_Mo_upOfStep
-- JetTreesModel.downOfStep(II)J
def S_Mo_downOfStep : zSt := (zRet (zAn 1 (zCv 11 F_Mo_downOf [(zL 3 0), (zAn 0 (zCv 11 F_Mo_ofStep [(zL 3 0), (zL 0 1), (zL 0 2), (zK (.int 0))])), (zAn 0 (zCv 11 F_Mo_ofStep [(zL 3 0), (zL 0 1), (zL 0 2), (zK (.int 1))]))])))
def F_Mo_downOfStep : zMt := zMeth [3, 0, 0] 3 1 S_Mo_downOfStep
-- JetTreesModel.up(II)J
def S_Mo_up : zSt := (zSeq (zIf (zNot (zC1 1 (zAn 0 (zCv 11 F_Mo_isStep [(zL 3 0), (zL 0 1), (zL 0 2)])))) (zRet (zK (.long (-1)))) zSkip)
  (zSeq (zDo (zCv 11 F_Mo_layOf [(zL 3 0), (zL 0 1)]))
  (zSeq (zAsg 3 (zAn 1 (zCv 11 F_Mo_upOfStep [(zL 3 0), (zL 0 1), (zL 0 2)])))
  (zRet (z2 oLdiv (zL 1 3) (zAn 1 (zCs F_Mo_common [(zL 1 3), (zAn 1 (zCv 11 F_Mo_downOfStep [(zL 3 0), (zL 0 1), (zL 0 2)]))])))))))
def F_Mo_up : zMt := zMeth [3, 0, 0] 5 1 S_Mo_up
-- JetTreesModel.down(II)J
def S_Mo_down : zSt := (zSeq (zIf (zNot (zC1 1 (zAn 0 (zCv 11 F_Mo_isStep [(zL 3 0), (zL 0 1), (zL 0 2)])))) (zRet (zK (.long (-1)))) zSkip)
  (zSeq (zDo (zCv 11 F_Mo_layOf [(zL 3 0), (zL 0 1)]))
  (zSeq (zAsg 3 (zAn 1 (zCv 11 F_Mo_downOfStep [(zL 3 0), (zL 0 1), (zL 0 2)])))
  (zRet (z2 oLdiv (zL 1 3) (zAn 1 (zCs F_Mo_common [(zAn 1 (zCv 11 F_Mo_upOfStep [(zL 3 0), (zL 0 1), (zL 0 2)])), (zL 1 3)])))))))
def F_Mo_down : zMt := zMeth [3, 0, 0] 5 1 S_Mo_down
-- JetTreesModel.leaves(II)J
def S_Mo_leaves : zSt := (zRet (zIte (zC1 1 (zAn 0 (zCv 11 F_Mo_isKnot [(zL 3 0), (zL 0 1), (zL 0 2)]))) (zAn 1 (zCv 11 F_Mo_leavesOf [(zL 3 0), (zL 0 1), (zL 0 2)])) (zK (.long 0))))
def F_Mo_leaves : zMt := zMeth [3, 0, 0] 3 1 S_Mo_leaves
-- JetTreesModel.isJet(II)Z
def S_Mo_isJet : zSt := (zRet (zBx (zC2 0 (zAn 0 (zCv 11 F_Mo_aboveOf [(zL 3 0), (zL 0 1), (zL 0 2)])) (zK (.int (-1))))))
def F_Mo_isJet : zMt := zMeth [3, 0, 0] 3 4 S_Mo_isJet
-- JetTreesModel.isAheadIn(III)Z
def C_Mo_isAheadIn_0 : zCx := (zC2 2 (zL 0 4) (zK (.int 3)))
def B_Mo_isAheadIn_0 : zSt := (zIf (zC2 1 (zAn 0 (zCv 11 F_Mo_ofKnot [(zL 3 0), (zL 0 1), (zL 0 2), (zL 0 4)])) (zAn 0 (zCv 11 F_Mo_ofKnot [(zL 3 0), (zL 0 1), (zL 0 3), (zL 0 4)]))) (zRet (zBx (zC2 2 (zAn 0 (zCv 11 F_Mo_ofKnot [(zL 3 0), (zL 0 1), (zL 0 2), (zL 0 4)])) (zAn 0 (zCv 11 F_Mo_ofKnot [(zL 3 0), (zL 0 1), (zL 0 3), (zL 0 4)]))))) zSkip)
def T_Mo_isAheadIn_0 : zSt := (zAsg 4 (z2 (oI2 fun x y => x + y) (zL 0 4) (zK (.int 1))))
def L_Mo_isAheadIn_0 : zSt := zLp C_Mo_isAheadIn_0 B_Mo_isAheadIn_0 T_Mo_isAheadIn_0
def S_Mo_isAheadIn : zSt := (zSeq (zBl 4 (zSeq (zAsg 4 (zK (.int 0)))
  L_Mo_isAheadIn_0))
  (zRet (zBx (zC2 2 (zL 0 2) (zL 0 3)))))
def F_Mo_isAheadIn : zMt := zMeth [3, 0, 0, 0] 5 4 S_Mo_isAheadIn
-- JetTreesModel.isHeavier(III)Z
def S_Mo_isHeavier : zSt := (zRet (zIte (zC2 1 (zAn 0 (zCv 11 F_Mo_weightOf [(zL 3 0), (zL 0 1), (zL 0 2)])) (zAn 0 (zCv 11 F_Mo_weightOf [(zL 3 0), (zL 0 1), (zL 0 3)]))) (zBx (zC2 4 (zAn 0 (zCv 11 F_Mo_weightOf [(zL 3 0), (zL 0 1), (zL 0 2)])) (zAn 0 (zCv 11 F_Mo_weightOf [(zL 3 0), (zL 0 1), (zL 0 3)])))) (zAn 0 (zCv 11 F_Mo_isAheadIn [(zL 3 0), (zL 0 1), (zL 0 2), (zL 0 3)]))))
def F_Mo_isHeavier : zMt := zMeth [3, 0, 0, 0] 4 4 S_Mo_isHeavier
-- JetTreesModel.jetBy(II)I
def C_Mo_jetBy_1 : zCx := (zC2 2 (zL 0 6) (zAn 0 (zCv 11 F_Mo_ofTree [(zL 3 0), (zL 0 1), (zK (.int 0))])))
def B_Mo_jetBy_1 : zSt := (zSeq (zIf (zOr (zNot (zC1 1 (zAn 0 (zCv 11 F_Mo_isJet [(zL 3 0), (zL 0 1), (zL 0 6)])))) (zAnd (zC2 1 (zL 0 3) (zK (.int (-1)))) (zNot (zC1 1 (zAn 0 (zCv 11 F_Mo_isHeavier [(zL 3 0), (zL 0 1), (zL 0 3), (zL 0 6)])))))) zCnt zSkip)
  (zIf (zOr (zC2 0 (zL 0 5) (zK (.int (-1)))) (zC1 1 (zAn 0 (zCv 11 F_Mo_isHeavier [(zL 3 0), (zL 0 1), (zL 0 6), (zL 0 5)])))) (zAsg 5 (zL 0 6)) zSkip))
def T_Mo_jetBy_1 : zSt := (zAsg 6 (z2 (oI2 fun x y => x + y) (zL 0 6) (zK (.int 1))))
def L_Mo_jetBy_1 : zSt := zLp C_Mo_jetBy_1 B_Mo_jetBy_1 T_Mo_jetBy_1
def C_Mo_jetBy_0 : zCx := (zC2 5 (zL 0 4) (zL 0 2))
def B_Mo_jetBy_0 : zSt := (zBl 5 (zSeq (zAsg 5 (zK (.int (-1))))
  (zSeq (zBl 6 (zSeq (zAsg 6 (zK (.int 0)))
  L_Mo_jetBy_1))
  (zSeq (zIf (zC2 0 (zL 0 5) (zK (.int (-1)))) (zRet (zK (.int (-1)))) zSkip)
  (zAsg 3 (zL 0 5))))))
def T_Mo_jetBy_0 : zSt := (zAsg 4 (z2 (oI2 fun x y => x + y) (zL 0 4) (zK (.int 1))))
def L_Mo_jetBy_0 : zSt := zLp C_Mo_jetBy_0 B_Mo_jetBy_0 T_Mo_jetBy_0
def S_Mo_jetBy : zSt := (zSeq (zAsg 3 (zK (.int (-1))))
  (zSeq (zBl 4 (zSeq (zAsg 4 (zK (.int 0)))
  L_Mo_jetBy_0))
  (zRet (zL 0 3))))
def F_Mo_jetBy : zMt := zMeth [3, 0, 0] 7 0 S_Mo_jetBy
-- JetTreesModel.jet(II)I
def S_Mo_jet : zSt := (zRet (zIte (zAnd (zC1 1 (zAn 0 (zCv 11 F_Mo_isTree [(zL 3 0), (zL 0 1)]))) (zC1 3 (zL 0 2))) (zAn 0 (zCv 11 F_Mo_jetBy [(zL 3 0), (zL 0 1), (zL 0 2)])) (zK (.int (-1)))))
def F_Mo_jet : zMt := zMeth [3, 0, 0] 3 0 S_Mo_jet
-- JetTreesModel.jetOf(II)I
def C_Mo_jetOf_0 : zCx := (zC2 1 (zAn 0 (zCv 11 F_Mo_aboveOf [(zL 3 0), (zL 0 1), (zL 0 3)])) (zK (.int (-1))))
def B_Mo_jetOf_0 : zSt := (zAsg 3 (zAn 0 (zCv 11 F_Mo_aboveOf [(zL 3 0), (zL 0 1), (zL 0 3)])))
def T_Mo_jetOf_0 : zSt := zSkip
def L_Mo_jetOf_0 : zSt := zLp C_Mo_jetOf_0 B_Mo_jetOf_0 T_Mo_jetOf_0
def S_Mo_jetOf : zSt := (zSeq (zIf (zOr (zNot (zC1 1 (zAn 0 (zCv 11 F_Mo_isTree [(zL 3 0), (zL 0 1)])))) (zNot (zC1 1 (zAn 0 (zCs F_Mo_isIn [(zL 0 2), (zK (.int 0)), (z2 (oI2 fun x y => x - y) (zAn 0 (zCv 11 F_Mo_ofTree [(zL 3 0), (zL 0 1), (zK (.int 1))])) (zK (.int 1)))]))))) (zRet (zK (.int (-1)))) zSkip)
  (zSeq (zAsg 3 (zL 0 2))
  (zSeq L_Mo_jetOf_0
  (zRet (zL 0 3)))))
def F_Mo_jetOf : zMt := zMeth [3, 0, 0] 4 0 S_Mo_jetOf
-- JetTreesModel.layStanding(IIZ)V
def C_Mo_layStanding_0 : zCx := (zC2 2 (zL 0 4) (zAn 0 (zCv 11 F_Mo_ofTree [(zL 3 0), (zL 0 1), (zK (.int 0))])))
def B_Mo_layStanding_0 : zSt := (zBl 5 (zSeq (zAsg 5 (zBx (zOr (zNot (zC1 1 (zAn 0 (zCv 11 F_Mo_isJoined [(zL 3 0), (zL 0 1), (zL 0 4)])))) (zC2 2 (zAn 0 (zCv 11 F_Mo_joinedBy [(zL 3 0), (zL 0 1), (zL 0 4)])) (zL 0 2)))))
  (zSeq (zAsg 6 (zAn 0 (zCv 11 F_Mo_wentBy [(zL 3 0), (zL 0 1), (zL 0 4)])))
  (zSeq (zAsg 7 (zBx (zOr (zC2 3 (zL 0 6) (zL 0 2)) (zAnd (zC1 1 (zL 0 3)) (zC2 0 (zAn 0 (zCv 11 F_Mo_ofStep [(zL 3 0), (zL 0 1), (zL 0 6), (zK (.int 1))])) (zK (.int (-1))))))))
  (zSeq (zIf (zOr (zNot (zC1 1 (zL 0 5))) (zNot (zC1 1 (zL 0 7)))) zCnt zSkip)
  (zSeq (zAs (zStK 64).1 64 (zStK 64).2 (zGf 3 11 16 (zL 3 0)) (zGf 0 11 17 (zL 3 0)) (zL 0 4))
  (zPfo 0 11 17 (oI2 fun x y => x + y) (zL 3 0) (zK (.int 1)))))))))
def T_Mo_layStanding_0 : zSt := (zAsg 4 (z2 (oI2 fun x y => x + y) (zL 0 4) (zK (.int 1))))
def L_Mo_layStanding_0 : zSt := zLp C_Mo_layStanding_0 B_Mo_layStanding_0 T_Mo_layStanding_0
def S_Mo_layStanding : zSt := (zSeq (zPf 0 11 17 (zL 3 0) (zK (.int 0)))
  (zSeq (zBl 4 (zSeq (zAsg 4 (zK (.int 0)))
  L_Mo_layStanding_0))
  zRetV))
def F_Mo_layStanding : zMt := zMeth [3, 0, 0, 0] 8 9 S_Mo_layStanding
-- JetTreesModel.ofRow(I)I
def S_Mo_ofRow : zSt := (zRet (zIte (zC2 0 (zL 0 1) (zK (.int (-1)))) (zGf 0 11 17 (zL 3 0)) (zIte (zC1 1 (zAn 0 (zCs F_Mo_isIn [(zL 0 1), (zK (.int 0)), (z2 (oI2 fun x y => x - y) (zGf 0 11 17 (zL 3 0)) (zK (.int 1)))]))) (zAx 0 64 (zGf 3 11 16 (zL 3 0)) (zL 0 1)) (zK (.int (-1))))))
def F_Mo_ofRow : zMt := zMeth [3, 0] 2 0 S_Mo_ofRow
-- JetTreesModel.left(III)I
def S_Mo_left : zSt := (zSeq (zIf (zOr (zNot (zC1 1 (zAn 0 (zCv 11 F_Mo_isTree [(zL 3 0), (zL 0 1)])))) (zNot (zC1 1 (zAn 0 (zCs F_Mo_isIn [(zL 0 2), (zK (.int 0)), (zAn 0 (zCv 11 F_Mo_stepsOf [(zL 3 0), (zL 0 1)]))]))))) (zRet (zK (.int (-1)))) zSkip)
  (zSeq (zDo (zCv 11 F_Mo_layStanding [(zL 3 0), (zL 0 1), (zL 0 2), (zK (.int 0))]))
  (zRet (zAn 0 (zCv 11 F_Mo_ofRow [(zL 3 0), (zL 0 3)])))))
def F_Mo_left : zMt := zMeth [3, 0, 0, 0] 4 0 S_Mo_left
-- JetTreesModel.stepsTo(II)I
def C_Mo_stepsTo_0 : zCx := (zC2 5 (zL 0 4) (zAn 0 (zCv 11 F_Mo_stepsOf [(zL 3 0), (zL 0 1)])))
def B_Mo_stepsTo_0 : zSt := (zSeq (zIf (zC2 5 (zL 0 3) (zL 0 2)) (zRet (zL 0 4)) zSkip)
  (zIf (zAnd (zC2 2 (zL 0 4) (zAn 0 (zCv 11 F_Mo_stepsOf [(zL 3 0), (zL 0 1)]))) (zC2 1 (zAn 0 (zCv 11 F_Mo_ofStep [(zL 3 0), (zL 0 1), (zL 0 4), (zK (.int 1))])) (zK (.int (-1))))) (zAsg 3 (z2 (oI2 fun x y => x + y) (zL 0 3) (zK (.int (-1))))) zSkip))
def T_Mo_stepsTo_0 : zSt := (zAsg 4 (z2 (oI2 fun x y => x + y) (zL 0 4) (zK (.int 1))))
def L_Mo_stepsTo_0 : zSt := zLp C_Mo_stepsTo_0 B_Mo_stepsTo_0 T_Mo_stepsTo_0
def S_Mo_stepsTo : zSt := (zSeq (zAsg 3 (zAn 0 (zCv 11 F_Mo_ofTree [(zL 3 0), (zL 0 1), (zK (.int 1))])))
  (zSeq (zBl 4 (zSeq (zAsg 4 (zK (.int 0)))
  L_Mo_stepsTo_0))
  (zRet (zK (.int (-1))))))
def F_Mo_stepsTo : zMt := zMeth [3, 0, 0] 5 0 S_Mo_stepsTo
-- JetTreesModel.isCut(II)Z
def S_Mo_isCut : zSt := (zRet (zBx (zAnd (zAnd (zC1 1 (zAn 0 (zCv 11 F_Mo_isTree [(zL 3 0), (zL 0 1)]))) (zC1 1 (zAn 0 (zCs F_Mo_isIn [(zL 0 2), (zK (.int 1)), (zK (.int 40))])))) (zC2 1 (zAn 0 (zCv 11 F_Mo_stepsTo [(zL 3 0), (zL 0 1), (zL 0 2)])) (zK (.int (-1)))))))
def F_Mo_isCut : zMt := zMeth [3, 0, 0] 3 4 S_Mo_isCut
-- JetTreesModel.cut(III)I
def S_Mo_cut : zSt := (zSeq (zIf (zNot (zC1 1 (zAn 0 (zCv 11 F_Mo_isCut [(zL 3 0), (zL 0 1), (zL 0 2)])))) (zRet (zK (.int (-1)))) zSkip)
  (zSeq (zDo (zCv 11 F_Mo_layStanding [(zL 3 0), (zL 0 1), (zAn 0 (zCv 11 F_Mo_stepsTo [(zL 3 0), (zL 0 1), (zL 0 2)])), (zK (.int 1))]))
  (zRet (zAn 0 (zCv 11 F_Mo_ofRow [(zL 3 0), (zL 0 3)])))))
def F_Mo_cut : zMt := zMeth [3, 0, 0, 0] 4 0 S_Mo_cut
-- JetTreesModel.cutBy(IIII)I
def C_Mo_cutBy_0 : zCx := (zAnd (zC2 2 (zL 0 5) (zAn 0 (zCv 11 F_Mo_stepsOf [(zL 3 0), (zL 0 1)]))) (zC1 5 (zAn 0 (zCs F_Mo_order [(zAn 1 (zCv 11 F_Mo_upOfStep [(zL 3 0), (zL 0 1), (zL 0 5)])), (zAn 1 (zCv 11 F_Mo_downOfStep [(zL 3 0), (zL 0 1), (zL 0 5)])), (z1 oI2l (zL 0 2)), (z1 oI2l (zL 0 3))]))))
def B_Mo_cutBy_0 : zSt := (zAsg 5 (z2 (oI2 fun x y => x + y) (zL 0 5) (zK (.int 1))))
def T_Mo_cutBy_0 : zSt := zSkip
def L_Mo_cutBy_0 : zSt := zLp C_Mo_cutBy_0 B_Mo_cutBy_0 T_Mo_cutBy_0
def S_Mo_cutBy : zSt := (zSeq (zIf (zOr (zOr (zNot (zC1 1 (zAn 0 (zCv 11 F_Mo_isTree [(zL 3 0), (zL 0 1)])))) (zC1 2 (zL 0 2))) (zC2 2 (zL 0 3) (zK (.int 1)))) (zRet (zK (.int (-1)))) zSkip)
  (zSeq (zDo (zCv 11 F_Mo_layOf [(zL 3 0), (zL 0 1)]))
  (zSeq (zAsg 5 (zK (.int 0)))
  (zSeq L_Mo_cutBy_0
  (zSeq (zDo (zCv 11 F_Mo_layStanding [(zL 3 0), (zL 0 1), (zL 0 5), (zK (.int 1))]))
  (zRet (zAn 0 (zCv 11 F_Mo_ofRow [(zL 3 0), (zL 0 4)]))))))))
def F_Mo_cutBy : zMt := zMeth [3, 0, 0, 0, 0] 6 0 S_Mo_cutBy
-- JetTreesModel.together(III)I
def C_Mo_together_0 : zCx := (zC2 2 (zL 0 4) (zAn 0 (zCv 11 F_Mo_ofTree [(zL 3 0), (zL 0 1), (zK (.int 0))])))
def B_Mo_together_0 : zSt := (zBl 5 (zSeq (zAsg 5 (zAn 1 (zCv 11 F_Mo_leavesOf [(zL 3 0), (zL 0 1), (zL 0 4)])))
  (zIf (zAnd (zC1 1 (zAn 0 (zCs F_Mo_has [(zL 1 5), (zL 0 2)]))) (zC1 1 (zAn 0 (zCs F_Mo_has [(zL 1 5), (zL 0 3)])))) (zRet (zAn 0 (zCv 11 F_Mo_joinedBy [(zL 3 0), (zL 0 1), (zL 0 4)]))) zSkip)))
def T_Mo_together_0 : zSt := (zAsg 4 (z2 (oI2 fun x y => x + y) (zL 0 4) (zK (.int 1))))
def L_Mo_together_0 : zSt := zLp C_Mo_together_0 B_Mo_together_0 T_Mo_together_0
def S_Mo_together : zSt := (zSeq (zIf (zOr (zOr (zOr (zNot (zC1 1 (zAn 0 (zCv 11 F_Mo_isTree [(zL 3 0), (zL 0 1)])))) (zNot (zC1 1 (zAn 0 (zCs F_Mo_isIn [(zL 0 2), (zK (.int 0)), (z2 (oI2 fun x y => x - y) (zAn 0 (zCv 11 F_Mo_ofTree [(zL 3 0), (zL 0 1), (zK (.int 1))])) (zK (.int 1)))]))))) (zNot (zC1 1 (zAn 0 (zCs F_Mo_isIn [(zL 0 3), (zK (.int 0)), (z2 (oI2 fun x y => x - y) (zAn 0 (zCv 11 F_Mo_ofTree [(zL 3 0), (zL 0 1), (zK (.int 1))])) (zK (.int 1)))]))))) (zC2 0 (zL 0 2) (zL 0 3))) (zRet (zK (.int (-1)))) zSkip)
  (zSeq (zBl 4 (zSeq (zAsg 4 (zAn 0 (zCv 11 F_Mo_ofTree [(zL 3 0), (zL 0 1), (zK (.int 1))])))
  L_Mo_together_0))
  (zRet (zK (.int (-1))))))
def F_Mo_together : zMt := zMeth [3, 0, 0, 0] 7 0 S_Mo_together
-- JetTreesModel.cutAt(I)I
def S_Mo_cutAt : zSt := (zRet (z2 (oI2 fun x y => x + y) (zK (.int 2455)) (z2 (oI2 fun x y => x * y) (zK (.int 81)) (zL 0 0))))
def F_Mo_cutAt : zMt := zMeth [0] 1 0 S_Mo_cutAt
-- JetTreesModel.keptAt(II)J
def S_Mo_keptAt : zSt := (zSeq (zAsg 3 (z2 (oI2 fun x y => x + y) (z2 (oI2 fun x y => x + y) (zAn 0 (zCs F_Mo_cutAt [(zL 0 1)])) (zK (.int 1))) (z2 (oI2 fun x y => x * y) (zK (.int 2)) (zL 0 2))))
  (zRet (z2 (oL2 fun x y => x ||| y) (z2 (oLsh fun x y => x <<< (y.toInt64 &&& 63)) (z1 oI2l (zAx 0 64 (zGf 3 11 0 (zL 3 0)) (z2 (oI2 fun x y => x + y) (zL 0 3) (zK (.int 1))))) (zK (.int 32))) (z2 (oL2 fun x y => x &&& y) (z1 oI2l (zAx 0 64 (zGf 3 11 0 (zL 3 0)) (zL 0 3))) (zK (.long 4294967295))))))
def F_Mo_keptAt : zMt := zMeth [3, 0, 0] 4 1 S_Mo_keptAt
-- JetTreesModel.isPlaceOfCut(I)Z
def S_Mo_isPlaceOfCut : zSt := (zRet (zAn 0 (zCs F_Mo_isIn [(zL 0 0), (zK (.int 0)), (zK (.int 3))])))
def F_Mo_isPlaceOfCut : zMt := zMeth [0] 1 4 S_Mo_isPlaceOfCut
-- JetTreesModel.keep(III)I
def C_Mo_keep_0 : zCx := (zC2 2 (zL 0 5) (zK (.int 81)))
def B_Mo_keep_0 : zSt := (zAs (zStK 64).1 64 (zStK 64).2 (zGf 3 11 0 (zL 3 0)) (z2 (oI2 fun x y => x + y) (zAn 0 (zCs F_Mo_cutAt [(zL 0 1)])) (zL 0 5)) (zK (.int 0)))
def T_Mo_keep_0 : zSt := (zAsg 5 (z2 (oI2 fun x y => x + y) (zL 0 5) (zK (.int 1))))
def L_Mo_keep_0 : zSt := zLp C_Mo_keep_0 B_Mo_keep_0 T_Mo_keep_0
def C_Mo_keep_1 : zCx := (zC2 2 (zL 0 5) (zL 0 4))
def B_Mo_keep_1 : zSt := (zBl 6 (zSeq (zAsg 6 (zAn 1 (zCv 11 F_Mo_leavesOf [(zL 3 0), (zL 0 2), (zAn 0 (zCv 11 F_Mo_cut [(zL 3 0), (zL 0 2), (zL 0 3), (zL 0 5)]))])))
  (zSeq (zAs (zStK 64).1 64 (zStK 64).2 (zGf 3 11 0 (zL 3 0)) (z2 (oI2 fun x y => x + y) (z2 (oI2 fun x y => x + y) (zAn 0 (zCs F_Mo_cutAt [(zL 0 1)])) (zK (.int 1))) (z2 (oI2 fun x y => x * y) (zK (.int 2)) (zL 0 5))) (z1 oL2i (zL 1 6)))
  (zAs (zStK 64).1 64 (zStK 64).2 (zGf 3 11 0 (zL 3 0)) (z2 (oI2 fun x y => x + y) (z2 (oI2 fun x y => x + y) (zAn 0 (zCs F_Mo_cutAt [(zL 0 1)])) (zK (.int 2))) (z2 (oI2 fun x y => x * y) (zK (.int 2)) (zL 0 5))) (z1 oL2i (z2 (oLsh fun x y => x >>> (y.toInt64 &&& 63)) (zL 1 6) (zK (.int 32))))))))
def T_Mo_keep_1 : zSt := (zAsg 5 (z2 (oI2 fun x y => x + y) (zL 0 5) (zK (.int 1))))
def L_Mo_keep_1 : zSt := zLp C_Mo_keep_1 B_Mo_keep_1 T_Mo_keep_1
def S_Mo_keep : zSt := (zSeq (zIf (zOr (zNot (zC1 1 (zAn 0 (zCs F_Mo_isPlaceOfCut [(zL 0 1)])))) (zNot (zC1 1 (zAn 0 (zCv 11 F_Mo_isCut [(zL 3 0), (zL 0 2), (zL 0 3)]))))) (zRet (zK (.int (-1)))) zSkip)
  (zSeq (zDo (zCv 11 F_Mo_keepNow [(zL 3 0)]))
  (zSeq (zAsg 4 (zAn 0 (zCv 11 F_Mo_cut [(zL 3 0), (zL 0 2), (zL 0 3), (zK (.int (-1)))])))
  (zSeq (zBl 5 (zSeq (zAsg 5 (zK (.int 0)))
  L_Mo_keep_0))
  (zSeq (zBl 5 (zSeq (zAsg 5 (zK (.int 0)))
  L_Mo_keep_1))
  (zSeq (zAs (zStK 64).1 64 (zStK 64).2 (zGf 3 11 0 (zL 3 0)) (zAn 0 (zCs F_Mo_cutAt [(zL 0 1)])) (zL 0 4))
  (zRet (zL 0 4))))))))
def F_Mo_keep : zMt := zMeth [3, 0, 0, 0] 8 0 S_Mo_keep
-- JetTreesModel.isKept(I)Z
def S_Mo_isKept : zSt := (zRet (zBx (zAnd (zC1 1 (zAn 0 (zCs F_Mo_isPlaceOfCut [(zL 0 1)]))) (zC1 4 (zAx 0 64 (zGf 3 11 0 (zL 3 0)) (zAn 0 (zCs F_Mo_cutAt [(zL 0 1)])))))))
def F_Mo_isKept : zMt := zMeth [3, 0] 2 4 S_Mo_isKept
-- JetTreesModel.kept(II)J
def S_Mo_kept : zSt := (zSeq (zIf (zNot (zC1 1 (zAn 0 (zCv 11 F_Mo_isKept [(zL 3 0), (zL 0 1)])))) (zRet (zK (.long (-1)))) zSkip)
  (zRet (zIte (zC2 0 (zL 0 2) (zK (.int (-1)))) (z1 oI2l (zAx 0 64 (zGf 3 11 0 (zL 3 0)) (zAn 0 (zCs F_Mo_cutAt [(zL 0 1)])))) (zIte (zC1 1 (zAn 0 (zCs F_Mo_isIn [(zL 0 2), (zK (.int 0)), (z2 (oI2 fun x y => x - y) (zAx 0 64 (zGf 3 11 0 (zL 3 0)) (zAn 0 (zCs F_Mo_cutAt [(zL 0 1)]))) (zK (.int 1)))]))) (zAn 1 (zCv 11 F_Mo_keptAt [(zL 3 0), (zL 0 1), (zL 0 2)])) (zK (.long (-1)))))))
def F_Mo_kept : zMt := zMeth [3, 0, 0] 3 1 S_Mo_kept
-- JetTreesModel.isInOne(IJ)Z
def C_Mo_isInOne_0 : zCx := (zC2 2 (zL 0 4) (zAx 0 64 (zGf 3 11 0 (zL 3 0)) (zAn 0 (zCs F_Mo_cutAt [(zL 0 1)]))))
def B_Mo_isInOne_0 : zSt := (zIf (zC1 0 (z2 oLcmp (z2 (oL2 fun x y => x &&& y) (zL 1 2) (z2 (oL2 fun x y => x ^^^ y) (zAn 1 (zCv 11 F_Mo_keptAt [(zL 3 0), (zL 0 1), (zL 0 4)])) (zK (.long (-1))))) (zK (.long 0)))) (zRet (zK (.int 1))) zSkip)
def T_Mo_isInOne_0 : zSt := (zAsg 4 (z2 (oI2 fun x y => x + y) (zL 0 4) (zK (.int 1))))
def L_Mo_isInOne_0 : zSt := zLp C_Mo_isInOne_0 B_Mo_isInOne_0 T_Mo_isInOne_0
def S_Mo_isInOne : zSt := (zSeq (zBl 4 (zSeq (zAsg 4 (zK (.int 0)))
  L_Mo_isInOne_0))
  (zRet (zK (.int 0))))
def F_Mo_isInOne : zMt := zMeth [3, 0, 1] 5 4 S_Mo_isInOne
-- JetTreesModel.within(II)Z
def C_Mo_within_0 : zCx := (zC2 2 (zL 0 3) (zAx 0 64 (zGf 3 11 0 (zL 3 0)) (zAn 0 (zCs F_Mo_cutAt [(zL 0 1)]))))
def B_Mo_within_0 : zSt := (zIf (zNot (zC1 1 (zAn 0 (zCv 11 F_Mo_isInOne [(zL 3 0), (zL 0 2), (zAn 1 (zCv 11 F_Mo_keptAt [(zL 3 0), (zL 0 1), (zL 0 3)]))])))) (zRet (zK (.int 0))) zSkip)
def T_Mo_within_0 : zSt := (zAsg 3 (z2 (oI2 fun x y => x + y) (zL 0 3) (zK (.int 1))))
def L_Mo_within_0 : zSt := zLp C_Mo_within_0 B_Mo_within_0 T_Mo_within_0
def S_Mo_within : zSt := (zSeq (zIf (zOr (zNot (zC1 1 (zAn 0 (zCv 11 F_Mo_isKept [(zL 3 0), (zL 0 1)])))) (zNot (zC1 1 (zAn 0 (zCv 11 F_Mo_isKept [(zL 3 0), (zL 0 2)]))))) (zRet (zK (.int 0))) zSkip)
  (zSeq (zBl 3 (zSeq (zAsg 3 (zK (.int 0)))
  L_Mo_within_0))
  (zRet (zK (.int 1)))))
def F_Mo_within : zMt := zMeth [3, 0, 0] 4 4 S_Mo_within
-- JetTreesModel.partOf(III)I
def S_Mo_partOf : zSt := (zSeq (zAsg 4 (zAn 0 (zCv 11 F_Mo_ofKnot [(zL 3 0), (zL 0 1), (zL 0 2), (zK (.int 3))])))
  (zSeq (zAsg 5 (zAn 0 (zCv 11 F_Mo_ofKnot [(zL 3 0), (zL 0 1), (zL 0 2), (zK (.int 4))])))
  (zSeq (zAsg 6 (zBx (zC2 2 (zAn 0 (zCv 11 F_Mo_weightOf [(zL 3 0), (zL 0 1), (zL 0 4)])) (zAn 0 (zCv 11 F_Mo_weightOf [(zL 3 0), (zL 0 1), (zL 0 5)])))))
  (zRet (zIte (zC2 0 (zL 0 6) (zBx (zC1 0 (zL 0 3)))) (zL 0 4) (zL 0 5))))))
def F_Mo_partOf : zMt := zMeth [3, 0, 0, 0] 7 0 S_Mo_partOf
-- JetTreesModel.squareOfParts(II)J
def S_Mo_squareOfParts : zSt := (zSeq (zAsg 3 (zAn 0 (zCv 11 F_Mo_ofKnot [(zL 3 0), (zL 0 1), (zL 0 2), (zK (.int 3))])))
  (zSeq (zAsg 4 (zAn 0 (zCv 11 F_Mo_ofKnot [(zL 3 0), (zL 0 1), (zL 0 2), (zK (.int 4))])))
  (zRet (z1 oI2l (zAn 0 (zCs F_Mo_squareOf [(zAn 0 (zCv 11 F_Mo_ofKnot [(zL 3 0), (zL 0 1), (zL 0 3), (zK (.int 0))])), (zAn 0 (zCv 11 F_Mo_ofKnot [(zL 3 0), (zL 0 1), (zL 0 3), (zK (.int 1))])), (zAn 0 (zCv 11 F_Mo_ofKnot [(zL 3 0), (zL 0 1), (zL 0 4), (zK (.int 0))])), (zAn 0 (zCv 11 F_Mo_ofKnot [(zL 3 0), (zL 0 1), (zL 0 4), (zK (.int 1))]))]))))))
def F_Mo_squareOfParts : zMt := zMeth [3, 0, 0] 5 1 S_Mo_squareOfParts
-- JetTreesModel.isWeak(IIII)Z
def S_Mo_isWeak : zSt := (zSeq (zAsg 5 (z1 oI2l (z2 (oI2 fun x y => x * y) (zK (.int 1000)) (zAn 0 (zCv 11 F_Mo_weightOf [(zL 3 0), (zL 0 1), (zAn 0 (zCv 11 F_Mo_partOf [(zL 3 0), (zL 0 1), (zL 0 2), (zK (.int 0))]))])))))
  (zSeq (zAsg 7 (z2 (oL2 fun x y => x * y) (z1 oI2l (zL 0 3)) (z1 oI2l (zAn 0 (zCv 11 F_Mo_weightOf [(zL 3 0), (zL 0 1), (zL 0 2)])))))
  (zSeq (zAsg 9 (z1 oI2l (zAn 0 (zCv 11 F_Mo_ofTree [(zL 3 0), (zL 0 1), (zK (.int 2))]))))
  (zRet (zIte (zC1 0 (zL 0 4)) (zBx (zC1 2 (z2 oLcmp (zL 1 5) (zL 1 7)))) (zBx (zC1 2 (z2 oLcmp (z2 (oL2 fun x y => x * y) (z2 (oL2 fun x y => x * y) (zL 1 5) (zL 1 9)) (zL 1 9)) (z2 (oL2 fun x y => x * y) (zL 1 7) (zAn 1 (zCv 11 F_Mo_squareOfParts [(zL 3 0), (zL 0 1), (zL 0 2)])))))))))))
def F_Mo_isWeak : zMt := zMeth [3, 0, 0, 0, 0] 11 4 S_Mo_isWeak
-- JetTreesModel.isMille(I)Z
def S_Mo_isMille : zSt := (zRet (zAn 0 (zCs F_Mo_isIn [(zL 0 0), (zK (.int 0)), (zK (.int 1000))])))
def F_Mo_isMille : zMt := zMeth [0] 1 4 S_Mo_isMille
-- JetTreesModel.isRadius(I)Z
def S_Mo_isRadius : zSt := (zRet (zAn 0 (zCs F_Mo_isIn [(zL 0 0), (zK (.int 1)), (zK (.int 200))])))
def F_Mo_isRadius : zMt := zMeth [0] 1 4 S_Mo_isRadius
-- JetTreesModel.groom(IIII)I
def C_Mo_groom_0 : zCx := (zAnd (zC1 1 (zAn 0 (zCv 11 F_Mo_isJoined [(zL 3 0), (zL 0 1), (zL 0 5)]))) (zC1 1 (zAn 0 (zCv 11 F_Mo_isWeak [(zL 3 0), (zL 0 1), (zL 0 5), (zL 0 3), (zL 0 4)]))))
def B_Mo_groom_0 : zSt := (zAsg 5 (zAn 0 (zCv 11 F_Mo_partOf [(zL 3 0), (zL 0 1), (zL 0 5), (zK (.int 1))])))
def T_Mo_groom_0 : zSt := zSkip
def L_Mo_groom_0 : zSt := zLp C_Mo_groom_0 B_Mo_groom_0 T_Mo_groom_0
def S_Mo_groom : zSt := (zSeq (zIf (zOr (zOr (zNot (zC1 1 (zAn 0 (zCv 11 F_Mo_isKnot [(zL 3 0), (zL 0 1), (zL 0 2)])))) (zNot (zC1 1 (zAn 0 (zCs F_Mo_isMille [(zL 0 3)]))))) (zNot (zC1 1 (zAn 0 (zCs F_Mo_isIn [(zL 0 4), (zK (.int 0)), (zK (.int 1))]))))) (zRet (zK (.int (-1)))) zSkip)
  (zSeq (zAsg 5 (zL 0 2))
  (zSeq L_Mo_groom_0
  (zRet (zL 0 5)))))
def F_Mo_groom : zMt := zMeth [3, 0, 0, 0, 0] 6 0 S_Mo_groom
-- JetTreesModel.nthOf(JI)I
def C_Mo_nthOf_0 : zCx := (zC2 2 (zL 0 5) (zL 0 2))
def B_Mo_nthOf_0 : zSt := (zAsg 3 (z2 (oL2 fun x y => x &&& y) (zL 1 3) (z2 (oL2 fun x y => x - y) (zL 1 3) (zK (.long 1)))))
def T_Mo_nthOf_0 : zSt := (zAsg 5 (z2 (oI2 fun x y => x + y) (zL 0 5) (zK (.int 1))))
def L_Mo_nthOf_0 : zSt := zLp C_Mo_nthOf_0 B_Mo_nthOf_0 T_Mo_nthOf_0
def C_Mo_nthOf_1 : zCx := (zNot (zC1 1 (zAn 0 (zCs F_Mo_has [(zL 1 3), (zL 0 5)]))))
def B_Mo_nthOf_1 : zSt := (zAsg 5 (z2 (oI2 fun x y => x + y) (zL 0 5) (zK (.int 1))))
def T_Mo_nthOf_1 : zSt := zSkip
def L_Mo_nthOf_1 : zSt := zLp C_Mo_nthOf_1 B_Mo_nthOf_1 T_Mo_nthOf_1
def S_Mo_nthOf : zSt := (zSeq (zAsg 3 (zL 1 0))
  (zSeq (zBl 5 (zSeq (zAsg 5 (zK (.int 0)))
  L_Mo_nthOf_0))
  (zSeq (zAsg 5 (zK (.int 0)))
  (zSeq L_Mo_nthOf_1
  (zRet (zL 0 5))))))
def F_Mo_nthOf : zMt := zMeth [1, 0] 6 0 S_Mo_nthOf
-- JetTreesModel.leavesOfLent(IJ)J
def C_Mo_leavesOfLent_0 : zCx := (zC1 4 (zGf 0 11 17 (zL 3 0)))
def B_Mo_leavesOfLent_0 : zSt := (zBl 6 (zSeq (zPfo 0 11 17 (oI2 fun x y => x - y) (zL 3 0) (zK (.int 1)))
  (zSeq (zAsg 6 (zAx 0 64 (zGf 3 11 16 (zL 3 0)) (zGf 0 11 17 (zL 3 0))))
  (zSeq (zIf (zC2 0 (zAx 0 64 (zGf 3 11 5 (zL 3 0)) (zL 0 6)) (zK (.int (-1)))) (zSeq (zAsg 4 (z2 (oL2 fun x y => x ||| y) (zL 1 4) (z2 (oLsh fun x y => x <<< (y.toInt64 &&& 63)) (zK (.long 1)) (zAn 0 (zCs F_Mo_nthOf [(zL 1 2), (zL 0 6)])))))
  zCnt) zSkip)
  (zSeq (zAs (zStK 64).1 64 (zStK 64).2 (zGf 3 11 16 (zL 3 0)) (zGf 0 11 17 (zL 3 0)) (zAx 0 64 (zGf 3 11 5 (zL 3 0)) (zL 0 6)))
  (zSeq (zAs (zStK 64).1 64 (zStK 64).2 (zGf 3 11 16 (zL 3 0)) (z2 (oI2 fun x y => x + y) (zGf 0 11 17 (zL 3 0)) (zK (.int 1))) (zAx 0 64 (zGf 3 11 6 (zL 3 0)) (zL 0 6)))
  (zPfo 0 11 17 (oI2 fun x y => x + y) (zL 3 0) (zK (.int 2)))))))))
def T_Mo_leavesOfLent_0 : zSt := zSkip
def L_Mo_leavesOfLent_0 : zSt := zLp C_Mo_leavesOfLent_0 B_Mo_leavesOfLent_0 T_Mo_leavesOfLent_0
def S_Mo_leavesOfLent : zSt := (zSeq (zAsg 4 (zK (.long 0)))
  (zSeq (zPf 0 11 17 (zL 3 0) (zK (.int 1)))
  (zSeq (zAs (zStK 64).1 64 (zStK 64).2 (zGf 3 11 16 (zL 3 0)) (zK (.int 0)) (zL 0 1))
  (zSeq L_Mo_leavesOfLent_0
  (zRet (zL 1 4))))))
def F_Mo_leavesOfLent : zMt := zMeth [3, 0, 1] 7 1 S_Mo_leavesOfLent
-- JetTreesModel.trim(IIII)J
def C_Mo_trim_0 : zCx := (zC2 2 (zL 0 9) (zGf 0 11 11 (zL 3 0)))
def B_Mo_trim_0 : zSt := (zBl 10 (zSeq (zAsg 10 (zAx 0 64 (zGf 3 11 8 (zL 3 0)) (zL 0 9)))
  (zIf (zAnd (zC2 0 (zAx 0 64 (zGf 3 11 9 (zL 3 0)) (zL 0 9)) (zK (.int (-1)))) (zC1 3 (z2 oLcmp (z1 oI2l (z2 (oI2 fun x y => x * y) (zK (.int 1000)) (zAx 0 64 (zGf 3 11 4 (zL 3 0)) (zL 0 10)))) (z2 (oL2 fun x y => x * y) (z1 oI2l (zL 0 4)) (z1 oI2l (zAn 0 (zCv 11 F_Mo_weightOf [(zL 3 0), (zL 0 1), (zL 0 2)]))))))) (zAsg 7 (z2 (oL2 fun x y => x ||| y) (zL 1 7) (zAn 1 (zCv 11 F_Mo_leavesOfLent [(zL 3 0), (zL 0 10), (zL 1 5)])))) zSkip)))
def T_Mo_trim_0 : zSt := (zAsg 9 (z2 (oI2 fun x y => x + y) (zL 0 9) (zK (.int 1))))
def L_Mo_trim_0 : zSt := zLp C_Mo_trim_0 B_Mo_trim_0 T_Mo_trim_0
def S_Mo_trim : zSt := (zSeq (zIf (zOr (zOr (zNot (zC1 1 (zAn 0 (zCv 11 F_Mo_isKnot [(zL 3 0), (zL 0 1), (zL 0 2)])))) (zNot (zC1 1 (zAn 0 (zCs F_Mo_isRadius [(zL 0 3)]))))) (zNot (zC1 1 (zAn 0 (zCs F_Mo_isMille [(zL 0 4)]))))) (zRet (zK (.long 0))) zSkip)
  (zSeq (zAsg 5 (zAn 1 (zCv 11 F_Mo_leavesOf [(zL 3 0), (zL 0 1), (zL 0 2)])))
  (zSeq (zDo (zCv 11 F_Mo_layLeaves [(zL 3 0), (zL 0 1), (zL 1 5)]))
  (zSeq (zDo (zCv 11 F_Mo_gatherAll [(zL 3 0), (zL 0 3), (zAn 0 (zCv 11 F_Mo_ofTree [(zL 3 0), (zL 0 1), (zK (.int 3))])), (zAn 0 (zCv 11 F_Mo_ofTree [(zL 3 0), (zL 0 1), (zK (.int 4))]))]))
  (zSeq (zAsg 7 (zK (.long 0)))
  (zSeq (zBl 9 (zSeq (zAsg 9 (zK (.int 0)))
  L_Mo_trim_0))
  (zRet (zL 1 7))))))))
def F_Mo_trim : zMt := zMeth [3, 0, 0, 0, 0] 11 1 S_Mo_trim
-- JetTreesModel.prune(IIII)J
def C_Mo_prune_0 : zCx := (zC1 4 (zL 0 7))
def B_Mo_prune_0 : zSt := (zBl 8 (zSeq (zAsg 7 (z2 (oI2 fun x y => x + y) (zL 0 7) (zK (.int (-1)))))
  (zSeq (zAsg 8 (zAx 0 64 (zGf 3 11 18 (zL 3 0)) (zL 0 7)))
  (zSeq (zIf (zNot (zC1 1 (zAn 0 (zCv 11 F_Mo_isJoined [(zL 3 0), (zL 0 1), (zL 0 8)])))) (zSeq (zAsg 5 (z2 (oL2 fun x y => x ||| y) (zL 1 5) (z2 (oLsh fun x y => x <<< (y.toInt64 &&& 63)) (zK (.long 1)) (zL 0 8))))
  zCnt) zSkip)
  (zSeq (zAsg 9 (zBx (zAnd (zC1 1 (zAn 0 (zCv 11 F_Mo_isWeak [(zL 3 0), (zL 0 1), (zL 0 8), (zL 0 3), (zK (.int 0))]))) (zC1 4 (z2 oLcmp (zAn 1 (zCv 11 F_Mo_squareOfParts [(zL 3 0), (zL 0 1), (zL 0 8)])) (z1 oI2l (z2 (oI2 fun x y => x * y) (zL 0 4) (zL 0 4))))))))
  (zSeq (zAs (zStK 64).1 64 (zStK 64).2 (zGf 3 11 18 (zL 3 0)) (zL 0 7) (zAn 0 (zCv 11 F_Mo_partOf [(zL 3 0), (zL 0 1), (zL 0 8), (zK (.int 1))])))
  (zSeq (zAsg 7 (z2 (oI2 fun x y => x + y) (zL 0 7) (zK (.int 1))))
  (zSeq (zIf (zC1 1 (zL 0 9)) zCnt zSkip)
  (zSeq (zAs (zStK 64).1 64 (zStK 64).2 (zGf 3 11 18 (zL 3 0)) (zL 0 7) (zAn 0 (zCv 11 F_Mo_partOf [(zL 3 0), (zL 0 1), (zL 0 8), (zK (.int 0))])))
  (zAsg 7 (z2 (oI2 fun x y => x + y) (zL 0 7) (zK (.int 1)))))))))))))
def T_Mo_prune_0 : zSt := zSkip
def L_Mo_prune_0 : zSt := zLp C_Mo_prune_0 B_Mo_prune_0 T_Mo_prune_0
def S_Mo_prune : zSt := (zSeq (zIf (zOr (zOr (zNot (zC1 1 (zAn 0 (zCv 11 F_Mo_isKnot [(zL 3 0), (zL 0 1), (zL 0 2)])))) (zNot (zC1 1 (zAn 0 (zCs F_Mo_isMille [(zL 0 3)]))))) (zNot (zC1 1 (zAn 0 (zCs F_Mo_isRadius [(zL 0 4)]))))) (zRet (zK (.long 0))) zSkip)
  (zSeq (zAsg 5 (zK (.long 0)))
  (zSeq (zAsg 7 (zK (.int 1)))
  (zSeq (zAs (zStK 64).1 64 (zStK 64).2 (zGf 3 11 18 (zL 3 0)) (zK (.int 0)) (zL 0 2))
  (zSeq L_Mo_prune_0
  (zRet (zL 1 5)))))))
def F_Mo_prune : zMt := zMeth [3, 0, 0, 0, 0] 10 1 S_Mo_prune
-- JetTreesModel.split(IIII)I
def C_Mo_split_0 : zCx := (zC1 1 (zAn 0 (zCv 11 F_Mo_isJoined [(zL 3 0), (zL 0 1), (zL 0 6)])))
def B_Mo_split_0 : zSt := (zSeq (zIf (zC2 0 (zL 0 5) (zL 0 3)) (zRet (zIte (zC1 0 (zL 0 4)) (zL 0 6) (zIte (zC2 0 (zL 0 4) (zK (.int 1))) (z2 oIdiv (z2 (oI2 fun x y => x * y) (zK (.int 1000)) (zAn 0 (zCv 11 F_Mo_weightOf [(zL 3 0), (zL 0 1), (zAn 0 (zCv 11 F_Mo_partOf [(zL 3 0), (zL 0 1), (zL 0 6), (zK (.int 0))]))]))) (zAn 0 (zCv 11 F_Mo_weightOf [(zL 3 0), (zL 0 1), (zL 0 6)]))) (zIte (zC2 0 (zL 0 4) (zK (.int 2))) (z1 oL2i (zAn 1 (zCv 11 F_Mo_squareOfParts [(zL 3 0), (zL 0 1), (zL 0 6)]))) (zK (.int (-1))))))) zSkip)
  (zAsg 5 (z2 (oI2 fun x y => x + y) (zL 0 5) (zK (.int 1)))))
def T_Mo_split_0 : zSt := (zAsg 6 (zAn 0 (zCv 11 F_Mo_partOf [(zL 3 0), (zL 0 1), (zL 0 6), (zK (.int 1))])))
def L_Mo_split_0 : zSt := zLp C_Mo_split_0 B_Mo_split_0 T_Mo_split_0
def S_Mo_split : zSt := (zSeq (zIf (zOr (zNot (zC1 1 (zAn 0 (zCv 11 F_Mo_isKnot [(zL 3 0), (zL 0 1), (zL 0 2)])))) (zC2 2 (zL 0 3) (zK (.int (-1))))) (zRet (zK (.int (-1)))) zSkip)
  (zSeq (zAsg 5 (zK (.int 0)))
  (zSeq (zBl 6 (zSeq (zAsg 6 (zL 0 2))
  L_Mo_split_0))
  (zRet (zIte (zC2 0 (zL 0 3) (zK (.int (-1)))) (zL 0 5) (zK (.int (-1))))))))
def F_Mo_split : zMt := zMeth [3, 0, 0, 0, 0] 7 0 S_Mo_split
-- JetTreesModel.squareIn(III)J
def S_Mo_squareIn : zSt := (zRet (z1 oI2l (zAn 0 (zCs F_Mo_squareOf [(zAn 0 (zCv 11 F_Mo_ofKnot [(zL 3 0), (zL 0 1), (zL 0 2), (zK (.int 0))])), (zAn 0 (zCv 11 F_Mo_ofKnot [(zL 3 0), (zL 0 1), (zL 0 2), (zK (.int 1))])), (zAn 0 (zCv 11 F_Mo_ofKnot [(zL 3 0), (zL 0 1), (zL 0 3), (zK (.int 0))])), (zAn 0 (zCv 11 F_Mo_ofKnot [(zL 3 0), (zL 0 1), (zL 0 3), (zK (.int 1))]))]))))
def F_Mo_squareIn : zMt := zMeth [3, 0, 0, 0] 4 1 S_Mo_squareIn
-- java/lang/Double.isNaN(D)Z
def S_Do_isNaN_b9ae7 : zSt := (zRet (zBx (zC1 1 (z2 (oDcmp .l) (zL 2 0) (zL 2 0)))))
def F_Do_isNaN_b9ae7 : zMt := zMeth [2] 2 4 S_Do_isNaN_b9ae7
-- java/lang/Double.doubleToLongBits(D)J
def S_Do_doubleToLongBits_ccdee : zSt := (zSeq (zIf (zNot (zC1 1 (zAn 0 (zCs F_Do_isNaN_b9ae7 [(zL 2 0)])))) (zRet (z1 oD2raw (zL 2 0))) zSkip)
  (zRet (zK (.long 9221120237041090560))))
def F_Do_doubleToLongBits_ccdee : zMt := zMeth [2] 2 1 S_Do_doubleToLongBits_ccdee
-- JetTreesModel.width(II)J
def C_Mo_width_0 : zCx := (zC2 2 (zL 0 7) (zK (.int 40)))
def B_Mo_width_0 : zSt := (zIf (zC1 1 (zAn 0 (zCs F_Mo_has [(zL 1 3), (zL 0 7)]))) (zAsg 5 (z2 (oL2 fun x y => x + y) (zL 1 5) (z2 (oL2 fun x y => x * y) (z1 oI2l (zAn 0 (zCv 11 F_Mo_weightOf [(zL 3 0), (zL 0 1), (zL 0 7)]))) (zAn 1 (zCv 11 F_Mo_squareIn [(zL 3 0), (zL 0 1), (zL 0 7), (zL 0 2)]))))) zSkip)
def T_Mo_width_0 : zSt := (zAsg 7 (z2 (oI2 fun x y => x + y) (zL 0 7) (zK (.int 1))))
def L_Mo_width_0 : zSt := zLp C_Mo_width_0 B_Mo_width_0 T_Mo_width_0
def S_Mo_width : zSt := (zSeq (zIf (zNot (zC1 1 (zAn 0 (zCv 11 F_Mo_isKnot [(zL 3 0), (zL 0 1), (zL 0 2)])))) (zRet (zK (.long 0))) zSkip)
  (zSeq (zAsg 3 (zAn 1 (zCv 11 F_Mo_leavesOf [(zL 3 0), (zL 0 1), (zL 0 2)])))
  (zSeq (zAsg 5 (zK (.long 0)))
  (zSeq (zBl 7 (zSeq (zAsg 7 (zK (.int 0)))
  L_Mo_width_0))
  (zRet (zAn 1 (zCs F_Do_doubleToLongBits_ccdee [(z2 (oD2 FP.ddiv) (z1 oL2d (zL 1 5)) (z1 oI2d (zAn 0 (zCv 11 F_Mo_weightOf [(zL 3 0), (zL 0 1), (zL 0 2)]))))])))))))
def F_Mo_width : zMt := zMeth [3, 0, 0] 8 1 S_Mo_width
-- JetTreesModel.closeness(II)J
def C_Mo_closeness_1 : zCx := (zC2 2 (zL 0 8) (zL 0 7))
def B_Mo_closeness_1 : zSt := (zIf (zAnd (zC1 1 (zAn 0 (zCs F_Mo_has [(zL 1 3), (zL 0 7)]))) (zC1 1 (zAn 0 (zCs F_Mo_has [(zL 1 3), (zL 0 8)])))) (zAsg 5 (z2 (oL2 fun x y => x + y) (zL 1 5) (z2 (oL2 fun x y => x * y) (z2 (oL2 fun x y => x * y) (z1 oI2l (zAn 0 (zCv 11 F_Mo_weightOf [(zL 3 0), (zL 0 1), (zL 0 7)]))) (z1 oI2l (zAn 0 (zCv 11 F_Mo_weightOf [(zL 3 0), (zL 0 1), (zL 0 8)])))) (zAn 1 (zCv 11 F_Mo_squareIn [(zL 3 0), (zL 0 1), (zL 0 7), (zL 0 8)]))))) zSkip)
def T_Mo_closeness_1 : zSt := (zAsg 8 (z2 (oI2 fun x y => x + y) (zL 0 8) (zK (.int 1))))
def L_Mo_closeness_1 : zSt := zLp C_Mo_closeness_1 B_Mo_closeness_1 T_Mo_closeness_1
def C_Mo_closeness_0 : zCx := (zC2 2 (zL 0 7) (zK (.int 40)))
def B_Mo_closeness_0 : zSt := (zBl 8 (zSeq (zAsg 8 (zK (.int 0)))
  L_Mo_closeness_1))
def T_Mo_closeness_0 : zSt := (zAsg 7 (z2 (oI2 fun x y => x + y) (zL 0 7) (zK (.int 1))))
def L_Mo_closeness_0 : zSt := zLp C_Mo_closeness_0 B_Mo_closeness_0 T_Mo_closeness_0
def S_Mo_closeness : zSt := (zSeq (zIf (zNot (zC1 1 (zAn 0 (zCv 11 F_Mo_isKnot [(zL 3 0), (zL 0 1), (zL 0 2)])))) (zRet (zK (.long 0))) zSkip)
  (zSeq (zAsg 3 (zAn 1 (zCv 11 F_Mo_leavesOf [(zL 3 0), (zL 0 1), (zL 0 2)])))
  (zSeq (zAsg 5 (zK (.long 0)))
  (zSeq (zBl 7 (zSeq (zAsg 7 (zK (.int 0)))
  L_Mo_closeness_0))
  (zSeq (zAsg 7 (z1 oI2l (zAn 0 (zCv 11 F_Mo_weightOf [(zL 3 0), (zL 0 1), (zL 0 2)]))))
  (zRet (zAn 1 (zCs F_Do_doubleToLongBits_ccdee [(z2 (oD2 FP.ddiv) (z1 oL2d (zL 1 5)) (z1 oL2d (z2 (oL2 fun x y => x * y) (zL 1 7) (zL 1 7))))]))))))))
def F_Mo_closeness : zMt := zMeth [3, 0, 0] 9 1 S_Mo_closeness
-- JetTreesModel.layApart(III)V
def C_Mo_layApart_1 : zCx := (zC2 2 (zL 0 6) (zGf 0 11 17 (zL 3 0)))
def B_Mo_layApart_1 : zSt := (zIf (zC2 4 (zAx 0 64 (zGf 3 11 16 (zL 3 0)) (zL 0 6)) (zAx 0 64 (zGf 3 11 16 (zL 3 0)) (zL 0 5))) (zAsg 5 (zL 0 6)) zSkip)
def T_Mo_layApart_1 : zSt := (zAsg 6 (z2 (oI2 fun x y => x + y) (zL 0 6) (zK (.int 1))))
def L_Mo_layApart_1 : zSt := zLp C_Mo_layApart_1 B_Mo_layApart_1 T_Mo_layApart_1
def C_Mo_layApart_0 : zCx := (zC2 2 (zL 0 4) (zL 0 3))
def B_Mo_layApart_0 : zSt := (zBl 5 (zSeq (zAsg 5 (zK (.int 0)))
  (zSeq (zBl 6 (zSeq (zAsg 6 (zK (.int 1)))
  L_Mo_layApart_1))
  (zSeq (zAsg 6 (zAx 0 64 (zGf 3 11 16 (zL 3 0)) (zL 0 5)))
  (zSeq (zIf (zNot (zC1 1 (zAn 0 (zCv 11 F_Mo_isJoined [(zL 3 0), (zL 0 1), (zL 0 6)])))) zRetV zSkip)
  (zSeq (zAs (zStK 64).1 64 (zStK 64).2 (zGf 3 11 16 (zL 3 0)) (zL 0 5) (zAn 0 (zCv 11 F_Mo_ofKnot [(zL 3 0), (zL 0 1), (zL 0 6), (zK (.int 3))])))
  (zSeq (zAs (zStK 64).1 64 (zStK 64).2 (zGf 3 11 16 (zL 3 0)) (zGf 0 11 17 (zL 3 0)) (zAn 0 (zCv 11 F_Mo_ofKnot [(zL 3 0), (zL 0 1), (zL 0 6), (zK (.int 4))])))
  (zPfo 0 11 17 (oI2 fun x y => x + y) (zL 3 0) (zK (.int 1))))))))))
def T_Mo_layApart_0 : zSt := (zAsg 4 (z2 (oI2 fun x y => x + y) (zL 0 4) (zK (.int 1))))
def L_Mo_layApart_0 : zSt := zLp C_Mo_layApart_0 B_Mo_layApart_0 T_Mo_layApart_0
def S_Mo_layApart : zSt := (zSeq (zPf 0 11 17 (zL 3 0) (zK (.int 1)))
  (zSeq (zAs (zStK 64).1 64 (zStK 64).2 (zGf 3 11 16 (zL 3 0)) (zK (.int 0)) (zL 0 2))
  (zSeq (zBl 4 (zSeq (zAsg 4 (zK (.int 1)))
  L_Mo_layApart_0))
  zRetV)))
def F_Mo_layApart : zMt := zMeth [3, 0, 0, 0] 7 9 S_Mo_layApart
-- JetTreesModel.tau(III)J
def C_Mo_tau_1 : zCx := (zC2 2 (zL 0 11) (zGf 0 11 17 (zL 3 0)))
def B_Mo_tau_1 : zSt := (zIf (zC1 2 (z2 oLcmp (zAn 1 (zCv 11 F_Mo_squareIn [(zL 3 0), (zL 0 1), (zL 0 8), (zAx 0 64 (zGf 3 11 16 (zL 3 0)) (zL 0 11))])) (zL 1 9))) (zAsg 9 (zAn 1 (zCv 11 F_Mo_squareIn [(zL 3 0), (zL 0 1), (zL 0 8), (zAx 0 64 (zGf 3 11 16 (zL 3 0)) (zL 0 11))]))) zSkip)
def T_Mo_tau_1 : zSt := (zAsg 11 (z2 (oI2 fun x y => x + y) (zL 0 11) (zK (.int 1))))
def L_Mo_tau_1 : zSt := zLp C_Mo_tau_1 B_Mo_tau_1 T_Mo_tau_1
def C_Mo_tau_0 : zCx := (zC2 2 (zL 0 8) (zK (.int 40)))
def B_Mo_tau_0 : zSt := (zBl 9 (zSeq (zIf (zNot (zC1 1 (zAn 0 (zCs F_Mo_has [(zL 1 4), (zL 0 8)])))) zCnt zSkip)
  (zSeq (zAsg 9 (zAn 1 (zCv 11 F_Mo_squareIn [(zL 3 0), (zL 0 1), (zL 0 8), (zAx 0 64 (zGf 3 11 16 (zL 3 0)) (zK (.int 0)))])))
  (zSeq (zBl 11 (zSeq (zAsg 11 (zK (.int 1)))
  L_Mo_tau_1))
  (zAsg 6 (z2 (oL2 fun x y => x + y) (zL 1 6) (z2 (oL2 fun x y => x * y) (z1 oI2l (zAn 0 (zCv 11 F_Mo_weightOf [(zL 3 0), (zL 0 1), (zL 0 8)]))) (zL 1 9))))))))
def T_Mo_tau_0 : zSt := (zAsg 8 (z2 (oI2 fun x y => x + y) (zL 0 8) (zK (.int 1))))
def L_Mo_tau_0 : zSt := zLp C_Mo_tau_0 B_Mo_tau_0 T_Mo_tau_0
def S_Mo_tau : zSt := (zSeq (zIf (zOr (zNot (zC1 1 (zAn 0 (zCv 11 F_Mo_isKnot [(zL 3 0), (zL 0 1), (zL 0 2)])))) (zNot (zC1 1 (zAn 0 (zCs F_Mo_isIn [(zL 0 3), (zK (.int 1)), (zK (.int 9))]))))) (zRet (zK (.long 0))) zSkip)
  (zSeq (zAsg 4 (zAn 1 (zCv 11 F_Mo_leavesOf [(zL 3 0), (zL 0 1), (zL 0 2)])))
  (zSeq (zDo (zCv 11 F_Mo_layApart [(zL 3 0), (zL 0 1), (zL 0 2), (zL 0 3)]))
  (zSeq (zAsg 6 (zK (.long 0)))
  (zSeq (zBl 8 (zSeq (zAsg 8 (zK (.int 0)))
  L_Mo_tau_0))
  (zRet (zAn 1 (zCs F_Do_doubleToLongBits_ccdee [(z2 (oD2 FP.ddiv) (z1 oL2d (zL 1 6)) (z1 oI2d (zAn 0 (zCv 11 F_Mo_weightOf [(zL 3 0), (zL 0 1), (zL 0 2)]))))]))))))))
def F_Mo_tau : zMt := zMeth [3, 0, 0, 0] 12 1 S_Mo_tau
-- JetTreesModel.weightsIn(IJ)I
def C_Mo_weightsIn_0 : zCx := (zC2 2 (zL 0 5) (zAn 0 (zCv 11 F_Mo_ofTree [(zL 3 0), (zL 0 1), (zK (.int 1))])))
def B_Mo_weightsIn_0 : zSt := (zAsg 4 (z2 (oI2 fun x y => x + y) (zL 0 4) (zIte (zC1 1 (zAn 0 (zCs F_Mo_has [(zL 1 2), (zL 0 5)]))) (zAn 0 (zCv 11 F_Mo_weightOf [(zL 3 0), (zL 0 1), (zL 0 5)])) (zK (.int 0)))))
def T_Mo_weightsIn_0 : zSt := (zAsg 5 (z2 (oI2 fun x y => x + y) (zL 0 5) (zK (.int 1))))
def L_Mo_weightsIn_0 : zSt := zLp C_Mo_weightsIn_0 B_Mo_weightsIn_0 T_Mo_weightsIn_0
def S_Mo_weightsIn : zSt := (zSeq (zAsg 4 (zK (.int 0)))
  (zSeq (zBl 5 (zSeq (zAsg 5 (zK (.int 0)))
  L_Mo_weightsIn_0))
  (zRet (zL 0 4))))
def F_Mo_weightsIn : zMt := zMeth [3, 0, 1] 6 0 S_Mo_weightsIn
-- JetTreesModel.matched(III)I
def C_Mo_matched_0 : zCx := (zC2 2 (zL 0 8) (zAn 0 (zCv 11 F_Mo_jetsOf [(zL 3 0), (zL 0 3)])))
def B_Mo_matched_0 : zSt := (zBl 9 (zSeq (zAsg 9 (zAn 0 (zCv 11 F_Mo_jetBy [(zL 3 0), (zL 0 3), (zL 0 8)])))
  (zSeq (zAsg 10 (zAn 0 (zCv 11 F_Mo_weightsIn [(zL 3 0), (zL 0 1), (z2 (oL2 fun x y => x &&& y) (zL 1 4) (zAn 1 (zCv 11 F_Mo_leavesOf [(zL 3 0), (zL 0 3), (zL 0 9)])))])))
  (zSeq (zIf (zC2 5 (zL 0 10) (zL 0 7)) zCnt zSkip)
  (zSeq (zAsg 6 (zL 0 9))
  (zAsg 7 (zL 0 10)))))))
def T_Mo_matched_0 : zSt := (zAsg 8 (z2 (oI2 fun x y => x + y) (zL 0 8) (zK (.int 1))))
def L_Mo_matched_0 : zSt := zLp C_Mo_matched_0 B_Mo_matched_0 T_Mo_matched_0
def S_Mo_matched : zSt := (zSeq (zIf (zOr (zOr (zNot (zC1 1 (zAn 0 (zCv 11 F_Mo_isKnot [(zL 3 0), (zL 0 1), (zL 0 2)])))) (zNot (zC1 1 (zAn 0 (zCv 11 F_Mo_isTree [(zL 3 0), (zL 0 3)]))))) (zNot (zC1 1 (zAn 0 (zCv 11 F_Mo_isJet [(zL 3 0), (zL 0 1), (zL 0 2)]))))) (zRet (zK (.int (-1)))) zSkip)
  (zSeq (zAsg 4 (zAn 1 (zCv 11 F_Mo_leavesOf [(zL 3 0), (zL 0 1), (zL 0 2)])))
  (zSeq (zAsg 6 (zK (.int (-1))))
  (zSeq (zAsg 7 (zK (.int 0)))
  (zSeq (zBl 8 (zSeq (zAsg 8 (zK (.int 0)))
  L_Mo_matched_0))
  (zRet (zL 0 6)))))))
def F_Mo_matched : zMt := zMeth [3, 0, 0, 0] 11 0 S_Mo_matched
-- JetTreesModel.hasJet(IJ)Z
def C_Mo_hasJet_0 : zCx := (zC2 2 (zL 0 4) (zAn 0 (zCv 11 F_Mo_ofTree [(zL 3 0), (zL 0 1), (zK (.int 0))])))
def B_Mo_hasJet_0 : zSt := (zIf (zAnd (zC1 1 (zAn 0 (zCv 11 F_Mo_isJet [(zL 3 0), (zL 0 1), (zL 0 4)]))) (zC1 0 (z2 oLcmp (zAn 1 (zCv 11 F_Mo_leavesOf [(zL 3 0), (zL 0 1), (zL 0 4)])) (zL 1 2)))) (zRet (zK (.int 1))) zSkip)
def T_Mo_hasJet_0 : zSt := (zAsg 4 (z2 (oI2 fun x y => x + y) (zL 0 4) (zK (.int 1))))
def L_Mo_hasJet_0 : zSt := zLp C_Mo_hasJet_0 B_Mo_hasJet_0 T_Mo_hasJet_0
def S_Mo_hasJet : zSt := (zSeq (zBl 4 (zSeq (zAsg 4 (zK (.int 0)))
  L_Mo_hasJet_0))
  (zRet (zK (.int 0))))
def F_Mo_hasJet : zMt := zMeth [3, 0, 1] 5 4 S_Mo_hasJet
-- JetTreesModel.unlikeOf(II)I
def C_Mo_unlikeOf_0 : zCx := (zC2 2 (zL 0 4) (zAn 0 (zCv 11 F_Mo_ofTree [(zL 3 0), (zL 0 1), (zK (.int 0))])))
def B_Mo_unlikeOf_0 : zSt := (zAsg 3 (z2 (oI2 fun x y => x + y) (zL 0 3) (zIte (zAnd (zC1 1 (zAn 0 (zCv 11 F_Mo_isJet [(zL 3 0), (zL 0 1), (zL 0 4)]))) (zNot (zC1 1 (zAn 0 (zCv 11 F_Mo_hasJet [(zL 3 0), (zL 0 2), (zAn 1 (zCv 11 F_Mo_leavesOf [(zL 3 0), (zL 0 1), (zL 0 4)]))]))))) (zK (.int 1)) (zK (.int 0)))))
def T_Mo_unlikeOf_0 : zSt := (zAsg 4 (z2 (oI2 fun x y => x + y) (zL 0 4) (zK (.int 1))))
def L_Mo_unlikeOf_0 : zSt := zLp C_Mo_unlikeOf_0 B_Mo_unlikeOf_0 T_Mo_unlikeOf_0
def S_Mo_unlikeOf : zSt := (zSeq (zAsg 3 (zK (.int 0)))
  (zSeq (zBl 4 (zSeq (zAsg 4 (zK (.int 0)))
  L_Mo_unlikeOf_0))
  (zRet (zL 0 3))))
def F_Mo_unlikeOf : zMt := zMeth [3, 0, 0] 5 0 S_Mo_unlikeOf
-- JetTreesModel.unlike(II)I
def S_Mo_unlike : zSt := (zRet (zIte (zAnd (zC1 1 (zAn 0 (zCv 11 F_Mo_isTree [(zL 3 0), (zL 0 1)]))) (zC1 1 (zAn 0 (zCv 11 F_Mo_isTree [(zL 3 0), (zL 0 2)])))) (zAn 0 (zCv 11 F_Mo_unlikeOf [(zL 3 0), (zL 0 1), (zL 0 2)])) (zK (.int (-1)))))
def F_Mo_unlike : zMt := zMeth [3, 0, 0] 3 0 S_Mo_unlike
-- JetTreesModel.alike(II)Z
def S_Mo_alike : zSt := (zRet (zBx (zAnd (zAnd (zC1 1 (zAn 0 (zCv 11 F_Mo_isTree [(zL 3 0), (zL 0 1)]))) (zC1 1 (zAn 0 (zCv 11 F_Mo_isTree [(zL 3 0), (zL 0 2)])))) (zC1 0 (z2 (oI2 fun x y => x + y) (zAn 0 (zCv 11 F_Mo_unlikeOf [(zL 3 0), (zL 0 1), (zL 0 2)])) (zAn 0 (zCv 11 F_Mo_unlikeOf [(zL 3 0), (zL 0 2), (zL 0 1)])))))))
def F_Mo_alike : zMt := zMeth [3, 0, 0] 3 4 S_Mo_alike
-- JetTreesModel.common(II)I
def C_Mo_common__1 : zCx := (zC2 2 (zL 0 6) (zAn 0 (zCv 11 F_Mo_ofTree [(zL 3 0), (zL 0 2), (zK (.int 0))])))
def B_Mo_common__1 : zSt := (zAsg 5 (zBx (zOr (zC1 1 (zL 0 5)) (zC1 0 (z2 oLcmp (zAn 1 (zCv 11 F_Mo_leavesOf [(zL 3 0), (zL 0 1), (zL 0 4)])) (zAn 1 (zCv 11 F_Mo_leavesOf [(zL 3 0), (zL 0 2), (zL 0 6)])))))))
def T_Mo_common__1 : zSt := (zAsg 6 (z2 (oI2 fun x y => x + y) (zL 0 6) (zK (.int 1))))
def L_Mo_common__1 : zSt := zLp C_Mo_common__1 B_Mo_common__1 T_Mo_common__1
def C_Mo_common__0 : zCx := (zC2 2 (zL 0 4) (zAn 0 (zCv 11 F_Mo_ofTree [(zL 3 0), (zL 0 1), (zK (.int 0))])))
def B_Mo_common__0 : zSt := (zBl 5 (zSeq (zAsg 5 (zK (.int 0)))
  (zSeq (zBl 6 (zSeq (zAsg 6 (zAn 0 (zCv 11 F_Mo_ofTree [(zL 3 0), (zL 0 2), (zK (.int 1))])))
  L_Mo_common__1))
  (zAsg 3 (z2 (oI2 fun x y => x + y) (zL 0 3) (zIte (zC1 1 (zL 0 5)) (zK (.int 1)) (zK (.int 0))))))))
def T_Mo_common__0 : zSt := (zAsg 4 (z2 (oI2 fun x y => x + y) (zL 0 4) (zK (.int 1))))
def L_Mo_common__0 : zSt := zLp C_Mo_common__0 B_Mo_common__0 T_Mo_common__0
def S_Mo_common_ : zSt := (zSeq (zIf (zOr (zNot (zC1 1 (zAn 0 (zCv 11 F_Mo_isTree [(zL 3 0), (zL 0 1)])))) (zNot (zC1 1 (zAn 0 (zCv 11 F_Mo_isTree [(zL 3 0), (zL 0 2)]))))) (zRet (zK (.int (-1)))) zSkip)
  (zSeq (zAsg 3 (zK (.int 0)))
  (zSeq (zBl 4 (zSeq (zAsg 4 (zAn 0 (zCv 11 F_Mo_ofTree [(zL 3 0), (zL 0 1), (zK (.int 1))])))
  L_Mo_common__0))
  (zRet (zL 0 3)))))
def F_Mo_common_ : zMt := zMeth [3, 0, 0] 7 0 S_Mo_common_
-- JetTreesModel.backToBack(I)I
def S_Mo_backToBack : zSt := (zSeq (zIf (zOr (zNot (zC1 1 (zAn 0 (zCv 11 F_Mo_isTree [(zL 3 0), (zL 0 1)])))) (zC2 2 (zAn 0 (zCv 11 F_Mo_jetsOf [(zL 3 0), (zL 0 1)])) (zK (.int 2)))) (zRet (zK (.int (-1)))) zSkip)
  (zSeq (zAsg 2 (zAn 0 (zCs F_Mo_wayOf [(zAn 0 (zCv 11 F_Mo_ofKnot [(zL 3 0), (zL 0 1), (zAn 0 (zCv 11 F_Mo_jetBy [(zL 3 0), (zL 0 1), (zK (.int 0))])), (zK (.int 1))])), (zAn 0 (zCv 11 F_Mo_ofKnot [(zL 3 0), (zL 0 1), (zAn 0 (zCv 11 F_Mo_jetBy [(zL 3 0), (zL 0 1), (zK (.int 1))])), (zK (.int 1))]))])))
  (zRet (zIte (zC1 2 (zL 0 2)) (z1 (oI1 fun x => -x) (zL 0 2)) (zL 0 2)))))
def F_Mo_backToBack : zMt := zMeth [3, 0] 3 0 S_Mo_backToBack
-- JetTreesModel.fresh(I)Z
def C_Mo_fresh_0 : zCx := (zC2 2 (zL 0 2) (zGf 0 11 11 (zL 3 0)))
def B_Mo_fresh_0 : zSt := (zIf (zOr (zC2 1 (zAx 0 64 (zGf 3 11 8 (zL 3 0)) (zL 0 2)) (zAn 0 (zCv 11 F_Mo_ofStep [(zL 3 0), (zL 0 1), (zL 0 2), (zK (.int 0))]))) (zC2 1 (zAx 0 64 (zGf 3 11 9 (zL 3 0)) (zL 0 2)) (zAn 0 (zCv 11 F_Mo_ofStep [(zL 3 0), (zL 0 1), (zL 0 2), (zK (.int 1))])))) (zRet (zK (.int 0))) zSkip)
def T_Mo_fresh_0 : zSt := (zAsg 2 (z2 (oI2 fun x y => x + y) (zL 0 2) (zK (.int 1))))
def L_Mo_fresh_0 : zSt := zLp C_Mo_fresh_0 B_Mo_fresh_0 T_Mo_fresh_0
def C_Mo_fresh_1 : zCx := (zC2 2 (zL 0 2) (zAn 0 (zCv 11 F_Mo_stepsOf [(zL 3 0), (zL 0 1)])))
def B_Mo_fresh_1 : zSt := (zBl 3 (zSeq (zDo (zCv 11 F_Mo_gatherNow [(zL 3 0)]))
  (zSeq (zAsg 3 (zAn 1 (zCv 11 F_Mo_upOf [(zL 3 0), (zAx 0 64 (zGf 3 11 8 (zL 3 0)) (zL 0 2)), (zAx 0 64 (zGf 3 11 9 (zL 3 0)) (zL 0 2))])))
  (zSeq (zAsg 5 (zAn 1 (zCv 11 F_Mo_downOf [(zL 3 0), (zAx 0 64 (zGf 3 11 8 (zL 3 0)) (zL 0 2)), (zAx 0 64 (zGf 3 11 9 (zL 3 0)) (zL 0 2))])))
  (zSeq (zDo (zCv 11 F_Mo_layOf [(zL 3 0), (zL 0 1)]))
  (zIf (zC1 1 (zAn 0 (zCs F_Mo_order [(zL 1 3), (zL 1 5), (zAn 1 (zCv 11 F_Mo_upOfStep [(zL 3 0), (zL 0 1), (zL 0 2)])), (zAn 1 (zCv 11 F_Mo_downOfStep [(zL 3 0), (zL 0 1), (zL 0 2)]))]))) (zRet (zK (.int 0))) zSkip))))))
def T_Mo_fresh_1 : zSt := (zAsg 2 (z2 (oI2 fun x y => x + y) (zL 0 2) (zK (.int 1))))
def L_Mo_fresh_1 : zSt := zLp C_Mo_fresh_1 B_Mo_fresh_1 T_Mo_fresh_1
def S_Mo_fresh : zSt := (zSeq (zIf (zOr (zNot (zC1 1 (zAn 0 (zCv 11 F_Mo_isTree [(zL 3 0), (zL 0 1)])))) (zC2 1 (zAn 0 (zCv 11 F_Mo_tracks [(zL 3 0)])) (zAn 0 (zCv 11 F_Mo_ofTree [(zL 3 0), (zL 0 1), (zK (.int 1))])))) (zRet (zK (.int 0))) zSkip)
  (zSeq (zDo (zCv 11 F_Mo_gatherNow [(zL 3 0)]))
  (zSeq (zBl 2 (zSeq (zAsg 2 (zK (.int 0)))
  L_Mo_fresh_0))
  (zSeq (zBl 2 (zSeq (zAsg 2 (zK (.int 0)))
  L_Mo_fresh_1))
  (zRet (zK (.int 1)))))))
def F_Mo_fresh : zMt := zMeth [3, 0] 7 4 S_Mo_fresh
-- JetTreesModel.pairOf(III)J
def S_Mo_pairOf : zSt := (zSeq (zAsg 4 (zAn 0 (zCv 11 F_Mo_jetBy [(zL 3 0), (zL 0 1), (zL 0 2)])))
  (zSeq (zAsg 5 (zAn 0 (zCv 11 F_Mo_jetBy [(zL 3 0), (zL 0 1), (zL 0 3)])))
  (zRet (z2 (oL2 fun x y => x * y) (z2 (oL2 fun x y => x * y) (z1 oI2l (zAn 0 (zCv 11 F_Mo_weightOf [(zL 3 0), (zL 0 1), (zL 0 4)]))) (z1 oI2l (zAn 0 (zCv 11 F_Mo_weightOf [(zL 3 0), (zL 0 1), (zL 0 5)])))) (zAn 1 (zCv 11 F_Mo_squareIn [(zL 3 0), (zL 0 1), (zL 0 4), (zL 0 5)]))))))
def F_Mo_pairOf : zMt := zMeth [3, 0, 0, 0] 6 1 S_Mo_pairOf
-- JetTreesModel.pair(III)J
def S_Mo_pair : zSt := (zRet (zIte (zAnd (zAnd (zAnd (zC1 1 (zAn 0 (zCv 11 F_Mo_isTree [(zL 3 0), (zL 0 1)]))) (zC1 3 (zL 0 2))) (zC2 2 (zL 0 2) (zL 0 3))) (zC2 2 (zL 0 3) (zAn 0 (zCv 11 F_Mo_jetsOf [(zL 3 0), (zL 0 1)])))) (zAn 1 (zCv 11 F_Mo_pairOf [(zL 3 0), (zL 0 1), (zL 0 2), (zL 0 3)])) (zK (.long (-1)))))
def F_Mo_pair : zMt := zMeth [3, 0, 0, 0] 4 1 S_Mo_pair
-- JetTreesModel.nearestPair(IJ)I
def C_Mo_nearestPair_1 : zCx := (zC2 2 (zL 0 8) (zAn 0 (zCv 11 F_Mo_jetsOf [(zL 3 0), (zL 0 1)])))
def B_Mo_nearestPair_1 : zSt := (zBl 9 (zSeq (zAsg 9 (z2 (oL2 fun x y => x - y) (zAn 1 (zCv 11 F_Mo_pairOf [(zL 3 0), (zL 0 1), (zL 0 7), (zL 0 8)])) (zL 1 2)))
  (zSeq (zIf (zC1 2 (z2 oLcmp (zL 1 9) (zK (.long 0)))) (zAsg 9 (z1 (oL1 fun x => -x) (zL 1 9))) zSkip)
  (zSeq (zIf (zAnd (zC2 1 (zL 0 4) (zK (.int (-1)))) (zC1 3 (z2 oLcmp (zL 1 9) (zL 1 5)))) zCnt zSkip)
  (zSeq (zAsg 4 (z2 (oI2 fun x y => x + y) (z2 (oI2 fun x y => x * y) (zK (.int 40)) (zL 0 7)) (zL 0 8)))
  (zAsg 5 (zL 1 9)))))))
def T_Mo_nearestPair_1 : zSt := (zAsg 8 (z2 (oI2 fun x y => x + y) (zL 0 8) (zK (.int 1))))
def L_Mo_nearestPair_1 : zSt := zLp C_Mo_nearestPair_1 B_Mo_nearestPair_1 T_Mo_nearestPair_1
def C_Mo_nearestPair_0 : zCx := (zC2 2 (zL 0 7) (zAn 0 (zCv 11 F_Mo_jetsOf [(zL 3 0), (zL 0 1)])))
def B_Mo_nearestPair_0 : zSt := (zBl 8 (zSeq (zAsg 8 (z2 (oI2 fun x y => x + y) (zL 0 7) (zK (.int 1))))
  L_Mo_nearestPair_1))
def T_Mo_nearestPair_0 : zSt := (zAsg 7 (z2 (oI2 fun x y => x + y) (zL 0 7) (zK (.int 1))))
def L_Mo_nearestPair_0 : zSt := zLp C_Mo_nearestPair_0 B_Mo_nearestPair_0 T_Mo_nearestPair_0
def S_Mo_nearestPair : zSt := (zSeq (zIf (zOr (zNot (zC1 1 (zAn 0 (zCv 11 F_Mo_isTree [(zL 3 0), (zL 0 1)])))) (zC1 2 (z2 oLcmp (zL 1 2) (zK (.long 0))))) (zRet (zK (.int (-1)))) zSkip)
  (zSeq (zAsg 4 (zK (.int (-1))))
  (zSeq (zAsg 5 (zK (.long 0)))
  (zSeq (zBl 7 (zSeq (zAsg 7 (zK (.int 0)))
  L_Mo_nearestPair_0))
  (zRet (zL 0 4))))))
def F_Mo_nearestPair : zMt := zMeth [3, 0, 1] 11 0 S_Mo_nearestPair
-- JetTreesModel.count(III)I
def C_Mo_count_0 : zCx := (zC2 2 (zL 0 5) (zAn 0 (zCv 11 F_Mo_ofTree [(zL 3 0), (zL 0 1), (zK (.int 0))])))
def B_Mo_count_0 : zSt := (zAsg 4 (z2 (oI2 fun x y => x + y) (zL 0 4) (zIte (zAnd (zAnd (zC1 1 (zAn 0 (zCv 11 F_Mo_isJet [(zL 3 0), (zL 0 1), (zL 0 5)]))) (zC2 3 (zAn 0 (zCv 11 F_Mo_weightOf [(zL 3 0), (zL 0 1), (zL 0 5)])) (zL 0 2))) (zC1 1 (zAn 0 (zCs F_Mo_isIn [(zAn 0 (zCv 11 F_Mo_ofKnot [(zL 3 0), (zL 0 1), (zL 0 5), (zK (.int 0))])), (z1 (oI1 fun x => -x) (zL 0 3)), (zL 0 3)])))) (zK (.int 1)) (zK (.int 0)))))
def T_Mo_count_0 : zSt := (zAsg 5 (z2 (oI2 fun x y => x + y) (zL 0 5) (zK (.int 1))))
def L_Mo_count_0 : zSt := zLp C_Mo_count_0 B_Mo_count_0 T_Mo_count_0
def S_Mo_count : zSt := (zSeq (zIf (zOr (zOr (zNot (zC1 1 (zAn 0 (zCv 11 F_Mo_isTree [(zL 3 0), (zL 0 1)])))) (zC1 2 (zL 0 2))) (zNot (zC1 1 (zAn 0 (zCs F_Mo_isIn [(zL 0 3), (zK (.int 0)), (zK (.int 200))]))))) (zRet (zK (.int (-1)))) zSkip)
  (zSeq (zAsg 4 (zK (.int 0)))
  (zSeq (zBl 5 (zSeq (zAsg 5 (zK (.int 0)))
  L_Mo_count_0))
  (zRet (zL 0 4)))))
def F_Mo_count : zMt := zMeth [3, 0, 0, 0] 6 0 S_Mo_count
-- JetTreesModel.findTwo()Z
def C_Mo_findTwo_1 : zCx := (zC2 2 (zL 0 2) (zAn 0 (zCv 11 F_Mo_tracks [(zL 3 0)])))
def B_Mo_findTwo_1 : zSt := (zBl 3 (zSeq (zIf (zOr (zOr (zC2 0 (zL 0 1) (zL 0 2)) (zC2 0 (zAx 0 64 (zGf 3 11 19 (zL 3 0)) (zL 0 1)) (zAx 0 64 (zGf 3 11 19 (zL 3 0)) (zL 0 2)))) (zNot (zC1 1 (zAn 0 (zCv 11 F_Mo_isAhead [(zL 3 0), (zL 0 1), (zL 0 2)]))))) zCnt zSkip)
  (zSeq (zAsg 3 (zIte (zC2 0 (zGf 0 11 20 (zL 3 0)) (zK (.int (-1)))) (zK (.int (-1))) (z2 (oI2 fun x y => x - y) (zAn 0 (zCv 11 F_Mo_squareOfTracks [(zL 3 0), (zL 0 1), (zL 0 2)])) (zAn 0 (zCv 11 F_Mo_squareOfTracks [(zL 3 0), (zGf 0 11 20 (zL 3 0)), (zGf 0 11 21 (zL 3 0))])))))
  (zSeq (zIf (zOr (zC1 4 (zL 0 3)) (zAnd (zC1 0 (zL 0 3)) (zNot (zCi (zC2 1 (zL 0 1) (zGf 0 11 20 (zL 3 0))) (zC1 1 (zAn 0 (zCv 11 F_Mo_isAhead [(zL 3 0), (zL 0 1), (zGf 0 11 20 (zL 3 0))]))) (zC1 1 (zAn 0 (zCv 11 F_Mo_isAhead [(zL 3 0), (zL 0 2), (zGf 0 11 21 (zL 3 0))]))))))) zCnt zSkip)
  (zSeq (zPf 0 11 20 (zL 3 0) (zL 0 1))
  (zPf 0 11 21 (zL 3 0) (zL 0 2)))))))
def T_Mo_findTwo_1 : zSt := (zAsg 2 (z2 (oI2 fun x y => x + y) (zL 0 2) (zK (.int 1))))
def L_Mo_findTwo_1 : zSt := zLp C_Mo_findTwo_1 B_Mo_findTwo_1 T_Mo_findTwo_1
def C_Mo_findTwo_0 : zCx := (zC2 2 (zL 0 1) (zAn 0 (zCv 11 F_Mo_tracks [(zL 3 0)])))
def B_Mo_findTwo_0 : zSt := (zBl 2 (zSeq (zAsg 2 (zK (.int 0)))
  L_Mo_findTwo_1))
def T_Mo_findTwo_0 : zSt := (zAsg 1 (z2 (oI2 fun x y => x + y) (zL 0 1) (zK (.int 1))))
def L_Mo_findTwo_0 : zSt := zLp C_Mo_findTwo_0 B_Mo_findTwo_0 T_Mo_findTwo_0
def S_Mo_findTwo : zSt := (zSeq (zPf 0 11 20 (zL 3 0) (zK (.int (-1))))
  (zSeq (zBl 1 (zSeq (zAsg 1 (zK (.int 0)))
  L_Mo_findTwo_0))
  (zRet (zBx (zC2 1 (zGf 0 11 20 (zL 3 0)) (zK (.int (-1))))))))
def F_Mo_findTwo : zMt := zMeth [3] 4 4 S_Mo_findTwo
-- JetTreesModel.span(II)I
def C_Mo_span_0 : zCx := (zC2 2 (zL 0 3) (zAn 0 (zCv 11 F_Mo_tracks [(zL 3 0)])))
def B_Mo_span_0 : zSt := (zAs (zStK 64).1 64 (zStK 64).2 (zGf 3 11 19 (zL 3 0)) (zL 0 3) (zL 0 3))
def T_Mo_span_0 : zSt := (zAsg 3 (z2 (oI2 fun x y => x + y) (zL 0 3) (zK (.int 1))))
def L_Mo_span_0 : zSt := zLp C_Mo_span_0 B_Mo_span_0 T_Mo_span_0
def C_Mo_span_2 : zCx := (zC2 2 (zL 0 5) (zAn 0 (zCv 11 F_Mo_tracks [(zL 3 0)])))
def B_Mo_span_2 : zSt := (zIf (zC2 0 (zAx 0 64 (zGf 3 11 19 (zL 3 0)) (zL 0 5)) (zL 0 4)) (zAs (zStK 64).1 64 (zStK 64).2 (zGf 3 11 19 (zL 3 0)) (zL 0 5) (zAx 0 64 (zGf 3 11 19 (zL 3 0)) (zGf 0 11 20 (zL 3 0)))) zSkip)
def T_Mo_span_2 : zSt := (zAsg 5 (z2 (oI2 fun x y => x + y) (zL 0 5) (zK (.int 1))))
def L_Mo_span_2 : zSt := zLp C_Mo_span_2 B_Mo_span_2 T_Mo_span_2
def C_Mo_span_1 : zCx := (zC1 1 (zAn 0 (zCv 11 F_Mo_findTwo [(zL 3 0)])))
def B_Mo_span_1 : zSt := (zBl 4 (zSeq (zIf (zC2 0 (zL 0 3) (zL 0 1)) (zRet (zIte (zC1 0 (zL 0 2)) (zGf 0 11 20 (zL 3 0)) (zIte (zC2 0 (zL 0 2) (zK (.int 1))) (zGf 0 11 21 (zL 3 0)) (zAn 0 (zCv 11 F_Mo_squareOfTracks [(zL 3 0), (zGf 0 11 20 (zL 3 0)), (zGf 0 11 21 (zL 3 0))]))))) zSkip)
  (zSeq (zAsg 4 (zAx 0 64 (zGf 3 11 19 (zL 3 0)) (zGf 0 11 21 (zL 3 0))))
  (zSeq (zBl 5 (zSeq (zAsg 5 (zK (.int 0)))
  L_Mo_span_2))
  (zAsg 3 (z2 (oI2 fun x y => x + y) (zL 0 3) (zK (.int 1))))))))
def T_Mo_span_1 : zSt := zSkip
def L_Mo_span_1 : zSt := zLp C_Mo_span_1 B_Mo_span_1 T_Mo_span_1
def S_Mo_span : zSt := (zSeq (zIf (zOr (zC2 2 (zL 0 1) (zK (.int (-1)))) (zNot (zC1 1 (zAn 0 (zCs F_Mo_isIn [(zL 0 2), (zK (.int 0)), (zIte (zC2 0 (zL 0 1) (zK (.int (-1)))) (zK (.int 0)) (zK (.int 2)))]))))) (zRet (zK (.int (-1)))) zSkip)
  (zSeq (zDo (zCv 11 F_Mo_layTracks [(zL 3 0)]))
  (zSeq (zBl 3 (zSeq (zAsg 3 (zK (.int 0)))
  L_Mo_span_0))
  (zSeq (zAsg 3 (zK (.int 0)))
  (zSeq L_Mo_span_1
  (zRet (zIte (zC2 0 (zL 0 1) (zK (.int (-1)))) (zL 0 3) (zK (.int (-1))))))))))
def F_Mo_span : zMt := zMeth [3, 0, 0] 6 0 S_Mo_span
-- JetTreesModel.isRoundOf(I)Z
def C_Mo_isRoundOf_0 : zCx := (zC2 2 (zL 0 2) (zAn 0 (zCv 11 F_Mo_tracks [(zL 3 0)])))
def B_Mo_isRoundOf_0 : zSt := (zIf (zC2 0 (zAn 0 (zCv 11 F_Mo_ofTrack [(zL 3 0), (zL 0 2), (zK (.int 1))])) (zL 0 1)) (zRet (zK (.int 1))) zSkip)
def T_Mo_isRoundOf_0 : zSt := (zAsg 2 (z2 (oI2 fun x y => x + y) (zL 0 2) (zK (.int 1))))
def L_Mo_isRoundOf_0 : zSt := zLp C_Mo_isRoundOf_0 B_Mo_isRoundOf_0 T_Mo_isRoundOf_0
def S_Mo_isRoundOf : zSt := (zSeq (zBl 2 (zSeq (zAsg 2 (zK (.int 0)))
  L_Mo_isRoundOf_0))
  (zRet (zK (.int 0))))
def F_Mo_isRoundOf : zMt := zMeth [3, 0] 3 4 S_Mo_isRoundOf
-- JetTreesModel.gap(I)I
def C_Mo_gap_1 : zCx := (zNot (zC1 1 (zAn 0 (zCv 11 F_Mo_isRoundOf [(zL 3 0), (z2 oIrem (z2 (oI2 fun x y => x + y) (zL 0 4) (zL 0 5)) (zK (.int 360)))]))))
def B_Mo_gap_1 : zSt := (zAsg 5 (z2 (oI2 fun x y => x + y) (zL 0 5) (zK (.int 1))))
def T_Mo_gap_1 : zSt := zSkip
def L_Mo_gap_1 : zSt := zLp C_Mo_gap_1 B_Mo_gap_1 T_Mo_gap_1
def C_Mo_gap_0 : zCx := (zC2 2 (zL 0 4) (zK (.int 360)))
def B_Mo_gap_0 : zSt := (zBl 5 (zSeq (zIf (zNot (zC1 1 (zAn 0 (zCv 11 F_Mo_isRoundOf [(zL 3 0), (zL 0 4)])))) zCnt zSkip)
  (zSeq (zAsg 5 (zK (.int 1)))
  (zSeq L_Mo_gap_1
  (zSeq (zIf (zC2 5 (zL 0 5) (zL 0 3)) zCnt zSkip)
  (zSeq (zAsg 2 (zL 0 4))
  (zAsg 3 (zL 0 5))))))))
def T_Mo_gap_0 : zSt := (zAsg 4 (z2 (oI2 fun x y => x + y) (zL 0 4) (zK (.int 1))))
def L_Mo_gap_0 : zSt := zLp C_Mo_gap_0 B_Mo_gap_0 T_Mo_gap_0
def S_Mo_gap : zSt := (zSeq (zIf (zOr (zC1 0 (zAn 0 (zCv 11 F_Mo_tracks [(zL 3 0)]))) (zNot (zC1 1 (zAn 0 (zCs F_Mo_isIn [(zL 0 1), (zK (.int 0)), (zK (.int 1))]))))) (zRet (zK (.int (-1)))) zSkip)
  (zSeq (zAsg 2 (zK (.int (-1))))
  (zSeq (zAsg 3 (zK (.int 0)))
  (zSeq (zBl 4 (zSeq (zAsg 4 (zK (.int 0)))
  L_Mo_gap_0))
  (zRet (zIte (zC1 0 (zL 0 1)) (zL 0 3) (zL 0 2)))))))
def F_Mo_gap : zMt := zMeth [3, 0] 6 0 S_Mo_gap
-- JetTreesModel.tileOf(III)I
def S_Mo_tileOf : zSt := (zRet (z2 (oI2 fun x y => x + y) (z2 (oI2 fun x y => x * y) (zK (.int 1000)) (zAn 0 (zCs F_Mo_floor [(zL 0 1), (zL 0 3)]))) (z2 oIdiv (zL 0 2) (zL 0 3))))
def F_Mo_tileOf : zMt := zMeth [3, 0, 0, 0] 4 0 S_Mo_tileOf
-- JetTreesModel.tracksIn(II)I
def C_Mo_tracksIn_0 : zCx := (zC2 2 (zL 0 4) (zAn 0 (zCv 11 F_Mo_tracks [(zL 3 0)])))
def B_Mo_tracksIn_0 : zSt := (zAsg 3 (z2 (oI2 fun x y => x + y) (zL 0 3) (zIte (zC2 0 (zAn 0 (zCv 11 F_Mo_tileOf [(zL 3 0), (zAn 0 (zCv 11 F_Mo_ofTrack [(zL 3 0), (zL 0 4), (zK (.int 0))])), (zAn 0 (zCv 11 F_Mo_ofTrack [(zL 3 0), (zL 0 4), (zK (.int 1))])), (zL 0 2)])) (zL 0 1)) (zK (.int 1)) (zK (.int 0)))))
def T_Mo_tracksIn_0 : zSt := (zAsg 4 (z2 (oI2 fun x y => x + y) (zL 0 4) (zK (.int 1))))
def L_Mo_tracksIn_0 : zSt := zLp C_Mo_tracksIn_0 B_Mo_tracksIn_0 T_Mo_tracksIn_0
def S_Mo_tracksIn : zSt := (zSeq (zAsg 3 (zK (.int 0)))
  (zSeq (zBl 4 (zSeq (zAsg 4 (zK (.int 0)))
  L_Mo_tracksIn_0))
  (zRet (zL 0 3))))
def F_Mo_tracksIn : zMt := zMeth [3, 0, 0] 5 0 S_Mo_tracksIn
-- JetTreesModel.isFirstIn(II)Z
def C_Mo_isFirstIn_0 : zCx := (zC2 2 (zL 0 3) (zL 0 1))
def B_Mo_isFirstIn_0 : zSt := (zIf (zC2 0 (zAn 0 (zCv 11 F_Mo_tileOf [(zL 3 0), (zAn 0 (zCv 11 F_Mo_ofTrack [(zL 3 0), (zL 0 3), (zK (.int 0))])), (zAn 0 (zCv 11 F_Mo_ofTrack [(zL 3 0), (zL 0 3), (zK (.int 1))])), (zL 0 2)])) (zAn 0 (zCv 11 F_Mo_tileOf [(zL 3 0), (zAn 0 (zCv 11 F_Mo_ofTrack [(zL 3 0), (zL 0 1), (zK (.int 0))])), (zAn 0 (zCv 11 F_Mo_ofTrack [(zL 3 0), (zL 0 1), (zK (.int 1))])), (zL 0 2)]))) (zRet (zK (.int 0))) zSkip)
def T_Mo_isFirstIn_0 : zSt := (zAsg 3 (z2 (oI2 fun x y => x + y) (zL 0 3) (zK (.int 1))))
def L_Mo_isFirstIn_0 : zSt := zLp C_Mo_isFirstIn_0 B_Mo_isFirstIn_0 T_Mo_isFirstIn_0
def S_Mo_isFirstIn : zSt := (zSeq (zBl 3 (zSeq (zAsg 3 (zK (.int 0)))
  L_Mo_isFirstIn_0))
  (zRet (zK (.int 1))))
def F_Mo_isFirstIn : zMt := zMeth [3, 0, 0] 4 4 S_Mo_isFirstIn
-- JetTreesModel.isSize(I)Z
def S_Mo_isSize : zSt := (zRet (zAn 0 (zCs F_Mo_isIn [(zL 0 0), (zK (.int 1)), (zK (.int 100))])))
def F_Mo_isSize : zMt := zMeth [0] 1 4 S_Mo_isSize
-- JetTreesModel.tiles(II)I
def C_Mo_tiles_0 : zCx := (zC2 2 (zL 0 5) (zAn 0 (zCv 11 F_Mo_tracks [(zL 3 0)])))
def B_Mo_tiles_0 : zSt := (zBl 6 (zSeq (zAsg 6 (zAn 0 (zCv 11 F_Mo_tracksIn [(zL 3 0), (zAn 0 (zCv 11 F_Mo_tileOf [(zL 3 0), (zAn 0 (zCv 11 F_Mo_ofTrack [(zL 3 0), (zL 0 5), (zK (.int 0))])), (zAn 0 (zCv 11 F_Mo_ofTrack [(zL 3 0), (zL 0 5), (zK (.int 1))])), (zL 0 1)])), (zL 0 1)])))
  (zSeq (zAsg 3 (z2 (oI2 fun x y => x + y) (zL 0 3) (zIte (zC1 1 (zAn 0 (zCv 11 F_Mo_isFirstIn [(zL 3 0), (zL 0 5), (zL 0 1)]))) (zK (.int 1)) (zK (.int 0)))))
  (zAsg 4 (zIte (zC2 4 (zL 0 6) (zL 0 4)) (zL 0 6) (zL 0 4))))))
def T_Mo_tiles_0 : zSt := (zAsg 5 (z2 (oI2 fun x y => x + y) (zL 0 5) (zK (.int 1))))
def L_Mo_tiles_0 : zSt := zLp C_Mo_tiles_0 B_Mo_tiles_0 T_Mo_tiles_0
def S_Mo_tiles : zSt := (zSeq (zIf (zOr (zNot (zC1 1 (zAn 0 (zCs F_Mo_isSize [(zL 0 1)])))) (zNot (zC1 1 (zAn 0 (zCs F_Mo_isIn [(zL 0 2), (zK (.int 0)), (zK (.int 1))]))))) (zRet (zK (.int (-1)))) zSkip)
  (zSeq (zAsg 3 (zK (.int 0)))
  (zSeq (zAsg 4 (zK (.int 0)))
  (zSeq (zBl 5 (zSeq (zAsg 5 (zK (.int 0)))
  L_Mo_tiles_0))
  (zRet (zIte (zC1 0 (zL 0 2)) (zL 0 3) (zL 0 4)))))))
def F_Mo_tiles : zMt := zMeth [3, 0, 0] 7 0 S_Mo_tiles
-- JetTreesModel.pedestalOf(I)I
def C_Mo_pedestalOf_1 : zCx := (zC2 2 (zL 0 5) (zAn 0 (zCv 11 F_Mo_tracks [(zL 3 0)])))
def B_Mo_pedestalOf_1 : zSt := (zAsg 4 (z2 (oI2 fun x y => x + y) (zL 0 4) (zIte (zC2 0 (zAn 0 (zCv 11 F_Mo_tileOf [(zL 3 0), (zAn 0 (zCv 11 F_Mo_ofTrack [(zL 3 0), (zL 0 5), (zK (.int 0))])), (zAn 0 (zCv 11 F_Mo_ofTrack [(zL 3 0), (zL 0 5), (zK (.int 1))])), (zL 0 1)])) (zAn 0 (zCv 11 F_Mo_tileOf [(zL 3 0), (zAn 0 (zCv 11 F_Mo_ofTrack [(zL 3 0), (zL 0 3), (zK (.int 0))])), (zAn 0 (zCv 11 F_Mo_ofTrack [(zL 3 0), (zL 0 3), (zK (.int 1))])), (zL 0 1)]))) (zAn 0 (zCv 11 F_Mo_ofTrack [(zL 3 0), (zL 0 5), (zK (.int 2))])) (zK (.int 0)))))
def T_Mo_pedestalOf_1 : zSt := (zAsg 5 (z2 (oI2 fun x y => x + y) (zL 0 5) (zK (.int 1))))
def L_Mo_pedestalOf_1 : zSt := zLp C_Mo_pedestalOf_1 B_Mo_pedestalOf_1 T_Mo_pedestalOf_1
def C_Mo_pedestalOf_2 : zCx := (zAnd (zC1 4 (zL 0 5)) (zC2 4 (zAx 0 64 (zGf 3 11 22 (zL 3 0)) (z2 (oI2 fun x y => x - y) (zL 0 5) (zK (.int 1)))) (zL 0 4)))
def B_Mo_pedestalOf_2 : zSt := (zSeq (zAs (zStK 64).1 64 (zStK 64).2 (zGf 3 11 22 (zL 3 0)) (zL 0 5) (zAx 0 64 (zGf 3 11 22 (zL 3 0)) (z2 (oI2 fun x y => x - y) (zL 0 5) (zK (.int 1)))))
  (zAsg 5 (z2 (oI2 fun x y => x + y) (zL 0 5) (zK (.int (-1))))))
def T_Mo_pedestalOf_2 : zSt := zSkip
def L_Mo_pedestalOf_2 : zSt := zLp C_Mo_pedestalOf_2 B_Mo_pedestalOf_2 T_Mo_pedestalOf_2
def C_Mo_pedestalOf_0 : zCx := (zC2 2 (zL 0 3) (zAn 0 (zCv 11 F_Mo_tracks [(zL 3 0)])))
def B_Mo_pedestalOf_0 : zSt := (zBl 4 (zSeq (zIf (zNot (zC1 1 (zAn 0 (zCv 11 F_Mo_isFirstIn [(zL 3 0), (zL 0 3), (zL 0 1)])))) zCnt zSkip)
  (zSeq (zAsg 4 (zK (.int 0)))
  (zSeq (zBl 5 (zSeq (zAsg 5 (zK (.int 0)))
  L_Mo_pedestalOf_1))
  (zSeq (zAsg 5 (zL 0 2))
  (zSeq L_Mo_pedestalOf_2
  (zSeq (zAs (zStK 64).1 64 (zStK 64).2 (zGf 3 11 22 (zL 3 0)) (zL 0 5) (zL 0 4))
  (zAsg 2 (z2 (oI2 fun x y => x + y) (zL 0 2) (zK (.int 1)))))))))))
def T_Mo_pedestalOf_0 : zSt := (zAsg 3 (z2 (oI2 fun x y => x + y) (zL 0 3) (zK (.int 1))))
def L_Mo_pedestalOf_0 : zSt := zLp C_Mo_pedestalOf_0 B_Mo_pedestalOf_0 T_Mo_pedestalOf_0
def S_Mo_pedestalOf : zSt := (zSeq (zAsg 2 (zK (.int 0)))
  (zSeq (zBl 3 (zSeq (zAsg 3 (zK (.int 0)))
  L_Mo_pedestalOf_0))
  (zSeq (zAsg 3 (z2 (oI2 fun x y => x * y) (z2 (oI2 fun x y => x + y) (z2 (oI2 fun x y => x - y) (zAn 0 (zCs F_Mo_floor [(zK (.int 200)), (zL 0 1)])) (zAn 0 (zCs F_Mo_floor [(zK (.int (-200))), (zL 0 1)]))) (zK (.int 1))) (z2 (oI2 fun x y => x + y) (z2 oIdiv (zK (.int 359)) (zL 0 1)) (zK (.int 1)))))
  (zSeq (zAsg 4 (z2 (oI2 fun x y => x - y) (z2 oIdiv (z2 (oI2 fun x y => x - y) (zL 0 3) (zK (.int 1))) (zK (.int 2))) (z2 (oI2 fun x y => x - y) (zL 0 3) (zL 0 2))))
  (zRet (zIte (zC1 2 (zL 0 4)) (zK (.int 0)) (zAx 0 64 (zGf 3 11 22 (zL 3 0)) (zL 0 4))))))))
def F_Mo_pedestalOf : zMt := zMeth [3, 0] 6 0 S_Mo_pedestalOf
-- JetTreesModel.pedestal(I)I
def S_Mo_pedestal : zSt := (zRet (zIte (zC1 1 (zAn 0 (zCs F_Mo_isSize [(zL 0 1)]))) (zAn 0 (zCv 11 F_Mo_pedestalOf [(zL 3 0), (zL 0 1)])) (zK (.int (-1)))))
def F_Mo_pedestal : zMt := zMeth [3, 0] 2 0 S_Mo_pedestal
-- JetTreesModel.clean(III)I
def C_Mo_clean_1 : zCx := (zAnd (zC2 2 (zL 0 9) (zL 0 7)) (zC1 1 (zL 0 8)))
def B_Mo_clean_1 : zSt := (zAsg 8 (zBx (zOr (zNot (zC1 1 (zAn 0 (zCs F_Mo_has [(zL 1 4), (zL 0 9)])))) (zC2 1 (zAn 0 (zCv 11 F_Mo_tileOf [(zL 3 0), (zAn 0 (zCv 11 F_Mo_ofKnot [(zL 3 0), (zL 0 1), (zL 0 9), (zK (.int 0))])), (zAn 0 (zCv 11 F_Mo_ofKnot [(zL 3 0), (zL 0 1), (zL 0 9), (zK (.int 1))])), (zL 0 3)])) (zAn 0 (zCv 11 F_Mo_tileOf [(zL 3 0), (zAn 0 (zCv 11 F_Mo_ofKnot [(zL 3 0), (zL 0 1), (zL 0 7), (zK (.int 0))])), (zAn 0 (zCv 11 F_Mo_ofKnot [(zL 3 0), (zL 0 1), (zL 0 7), (zK (.int 1))])), (zL 0 3)]))))))
def T_Mo_clean_1 : zSt := (zAsg 9 (z2 (oI2 fun x y => x + y) (zL 0 9) (zK (.int 1))))
def L_Mo_clean_1 : zSt := zLp C_Mo_clean_1 B_Mo_clean_1 T_Mo_clean_1
def C_Mo_clean_0 : zCx := (zC2 2 (zL 0 7) (zK (.int 40)))
def B_Mo_clean_0 : zSt := (zBl 8 (zSeq (zAsg 8 (zAn 0 (zCs F_Mo_has [(zL 1 4), (zL 0 7)])))
  (zSeq (zBl 9 (zSeq (zAsg 9 (zK (.int 0)))
  L_Mo_clean_1))
  (zAsg 6 (z2 (oI2 fun x y => x + y) (zL 0 6) (zIte (zC1 1 (zL 0 8)) (zK (.int 1)) (zK (.int 0))))))))
def T_Mo_clean_0 : zSt := (zAsg 7 (z2 (oI2 fun x y => x + y) (zL 0 7) (zK (.int 1))))
def L_Mo_clean_0 : zSt := zLp C_Mo_clean_0 B_Mo_clean_0 T_Mo_clean_0
def S_Mo_clean : zSt := (zSeq (zIf (zOr (zOr (zNot (zC1 1 (zAn 0 (zCv 11 F_Mo_isKnot [(zL 3 0), (zL 0 1), (zL 0 2)])))) (zNot (zC1 1 (zAn 0 (zCv 11 F_Mo_isJet [(zL 3 0), (zL 0 1), (zL 0 2)]))))) (zNot (zC1 1 (zAn 0 (zCs F_Mo_isSize [(zL 0 3)]))))) (zRet (zK (.int (-1)))) zSkip)
  (zSeq (zAsg 4 (zAn 1 (zCv 11 F_Mo_leavesOf [(zL 3 0), (zL 0 1), (zL 0 2)])))
  (zSeq (zAsg 6 (zK (.int 0)))
  (zSeq (zBl 7 (zSeq (zAsg 7 (zK (.int 0)))
  L_Mo_clean_0))
  (zSeq (zAsg 7 (z2 (oI2 fun x y => x - y) (zAn 0 (zCv 11 F_Mo_weightOf [(zL 3 0), (zL 0 1), (zL 0 2)])) (z2 (oI2 fun x y => x * y) (zAn 0 (zCv 11 F_Mo_pedestalOf [(zL 3 0), (zL 0 3)])) (zL 0 6))))
  (zRet (zIte (zC1 2 (zL 0 7)) (zK (.int 0)) (zL 0 7))))))))
def F_Mo_clean : zMt := zMeth [3, 0, 0, 0] 10 0 S_Mo_clean
-- JetTreesModel.balanceOf(I)I
def C_Mo_balanceOf_0 : zCx := (zC2 2 (zL 0 3) (zAn 0 (zCv 11 F_Mo_tracks [(zL 3 0)])))
def B_Mo_balanceOf_0 : zSt := (zBl 4 (zSeq (zAsg 4 (zAn 0 (zCs F_Mo_wayOf [(zL 0 1), (zAn 0 (zCv 11 F_Mo_ofTrack [(zL 3 0), (zL 0 3), (zK (.int 1))]))])))
  (zAsg 2 (z2 (oI2 fun x y => x + y) (zL 0 2) (zIte (zAnd (zC2 2 (zL 0 4) (zK (.int 90))) (zC2 4 (zL 0 4) (zK (.int (-90))))) (zAn 0 (zCv 11 F_Mo_ofTrack [(zL 3 0), (zL 0 3), (zK (.int 2))])) (z1 (oI1 fun x => -x) (zAn 0 (zCv 11 F_Mo_ofTrack [(zL 3 0), (zL 0 3), (zK (.int 2))]))))))))
def T_Mo_balanceOf_0 : zSt := (zAsg 3 (z2 (oI2 fun x y => x + y) (zL 0 3) (zK (.int 1))))
def L_Mo_balanceOf_0 : zSt := zLp C_Mo_balanceOf_0 B_Mo_balanceOf_0 T_Mo_balanceOf_0
def S_Mo_balanceOf : zSt := (zSeq (zAsg 2 (zK (.int 0)))
  (zSeq (zBl 3 (zSeq (zAsg 3 (zK (.int 0)))
  L_Mo_balanceOf_0))
  (zRet (zL 0 2))))
def F_Mo_balanceOf : zMt := zMeth [3, 0] 5 0 S_Mo_balanceOf
-- JetTreesModel.balance(I)I
def S_Mo_balance : zSt := (zRet (zIte (zC1 1 (zAn 0 (zCs F_Mo_isIn [(zL 0 1), (zK (.int 0)), (zK (.int 359))]))) (zAn 0 (zCv 11 F_Mo_balanceOf [(zL 3 0), (zL 0 1)])) (zK (.int 0))))
def F_Mo_balance : zMt := zMeth [3, 0] 2 0 S_Mo_balance
-- JetTreesModel.axis()I
def C_Mo_axis_0 : zCx := (zC2 2 (zL 0 3) (zK (.int 360)))
def B_Mo_axis_0 : zSt := (zBl 4 (zSeq (zAsg 4 (zAn 0 (zCv 11 F_Mo_balanceOf [(zL 3 0), (zL 0 3)])))
  (zSeq (zIf (zC2 5 (zL 0 4) (zL 0 2)) zCnt zSkip)
  (zSeq (zAsg 1 (zL 0 3))
  (zAsg 2 (zL 0 4))))))
def T_Mo_axis_0 : zSt := (zAsg 3 (z2 (oI2 fun x y => x + y) (zL 0 3) (zK (.int 1))))
def L_Mo_axis_0 : zSt := zLp C_Mo_axis_0 B_Mo_axis_0 T_Mo_axis_0
def S_Mo_axis : zSt := (zSeq (zAsg 1 (zK (.int 0)))
  (zSeq (zAsg 2 (zAn 0 (zCv 11 F_Mo_balanceOf [(zL 3 0), (zK (.int 0))])))
  (zSeq (zBl 3 (zSeq (zAsg 3 (zK (.int 1)))
  L_Mo_axis_0))
  (zRet (zL 0 1)))))
def F_Mo_axis : zMt := zMeth [3] 5 0 S_Mo_axis
-- JetTreesModel.coneOf(III)J
def C_Mo_coneOf_0 : zCx := (zC2 2 (zL 0 6) (zAn 0 (zCv 11 F_Mo_tracks [(zL 3 0)])))
def B_Mo_coneOf_0 : zSt := (zIf (zC2 5 (zAn 0 (zCs F_Mo_squareOf [(zAn 0 (zCv 11 F_Mo_ofTrack [(zL 3 0), (zL 0 6), (zK (.int 0))])), (zAn 0 (zCv 11 F_Mo_ofTrack [(zL 3 0), (zL 0 6), (zK (.int 1))])), (zL 0 1), (zL 0 2)])) (z2 (oI2 fun x y => x * y) (zL 0 3) (zL 0 3))) (zAsg 4 (z2 (oL2 fun x y => x ||| y) (zL 1 4) (z2 (oLsh fun x y => x <<< (y.toInt64 &&& 63)) (zK (.long 1)) (zL 0 6)))) zSkip)
def T_Mo_coneOf_0 : zSt := (zAsg 6 (z2 (oI2 fun x y => x + y) (zL 0 6) (zK (.int 1))))
def L_Mo_coneOf_0 : zSt := zLp C_Mo_coneOf_0 B_Mo_coneOf_0 T_Mo_coneOf_0
def S_Mo_coneOf : zSt := (zSeq (zAsg 4 (zK (.long 0)))
  (zSeq (zBl 6 (zSeq (zAsg 6 (zK (.int 0)))
  L_Mo_coneOf_0))
  (zRet (zL 1 4))))
def F_Mo_coneOf : zMt := zMeth [3, 0, 0, 0] 7 1 S_Mo_coneOf
-- JetTreesModel.layMean(J)V
def C_Mo_layMean_0 : zCx := (zC2 2 (zL 0 4) (zAn 0 (zCv 11 F_Mo_tracks [(zL 3 0)])))
def B_Mo_layMean_0 : zSt := (zSeq (zIf (zNot (zC1 1 (zAn 0 (zCs F_Mo_has [(zL 1 1), (zL 0 4)])))) zCnt zSkip)
  (zSeq (zPf 0 11 23 (zL 3 0) (zIte (zC1 0 (zL 0 3)) (zAn 0 (zCv 11 F_Mo_ofTrack [(zL 3 0), (zL 0 4), (zK (.int 0))])) (zAn 0 (zCs F_Mo_meanAcross [(zGf 0 11 23 (zL 3 0)), (zL 0 3), (zAn 0 (zCv 11 F_Mo_ofTrack [(zL 3 0), (zL 0 4), (zK (.int 0))])), (zAn 0 (zCv 11 F_Mo_ofTrack [(zL 3 0), (zL 0 4), (zK (.int 2))]))]))))
  (zSeq (zPf 0 11 24 (zL 3 0) (zIte (zC1 0 (zL 0 3)) (zAn 0 (zCv 11 F_Mo_ofTrack [(zL 3 0), (zL 0 4), (zK (.int 1))])) (zAn 0 (zCs F_Mo_meanRound [(zGf 0 11 24 (zL 3 0)), (zL 0 3), (zAn 0 (zCv 11 F_Mo_ofTrack [(zL 3 0), (zL 0 4), (zK (.int 1))])), (zAn 0 (zCv 11 F_Mo_ofTrack [(zL 3 0), (zL 0 4), (zK (.int 2))]))]))))
  (zAsg 3 (z2 (oI2 fun x y => x + y) (zL 0 3) (zAn 0 (zCv 11 F_Mo_ofTrack [(zL 3 0), (zL 0 4), (zK (.int 2))])))))))
def T_Mo_layMean_0 : zSt := (zAsg 4 (z2 (oI2 fun x y => x + y) (zL 0 4) (zK (.int 1))))
def L_Mo_layMean_0 : zSt := zLp C_Mo_layMean_0 B_Mo_layMean_0 T_Mo_layMean_0
def S_Mo_layMean : zSt := (zSeq (zAsg 3 (zK (.int 0)))
  (zSeq (zBl 4 (zSeq (zAsg 4 (zK (.int 0)))
  L_Mo_layMean_0))
  zRetV))
def F_Mo_layMean : zMt := zMeth [3, 1] 5 9 S_Mo_layMean
-- JetTreesModel.isSteady(IIJ)Z
def S_Mo_isSteady : zSt := (zSeq (zIf (zC1 0 (z2 oLcmp (zL 1 3) (zK (.long 0)))) (zRet (zK (.int 0))) zSkip)
  (zSeq (zDo (zCv 11 F_Mo_layMean [(zL 3 0), (zL 1 3)]))
  (zRet (zBx (zAnd (zC2 0 (zGf 0 11 23 (zL 3 0)) (zL 0 1)) (zC2 0 (zGf 0 11 24 (zL 3 0)) (zL 0 2)))))))
def F_Mo_isSteady : zMt := zMeth [3, 0, 0, 1] 5 4 S_Mo_isSteady
-- JetTreesModel.cone(IIII)I
def S_Mo_cone : zSt := (zSeq (zIf (zOr (zOr (zNot (zC1 1 (zAn 0 (zCs F_Mo_isPlace [(zL 0 1), (zL 0 2)])))) (zNot (zC1 1 (zAn 0 (zCs F_Mo_isRadius [(zL 0 3)]))))) (zNot (zC1 1 (zAn 0 (zCs F_Mo_isIn [(zL 0 4), (zK (.int 0)), (zK (.int 2))]))))) (zRet (zK (.int (-1)))) zSkip)
  (zSeq (zAsg 5 (zAn 1 (zCv 11 F_Mo_coneOf [(zL 3 0), (zL 0 1), (zL 0 2), (zL 0 3)])))
  (zSeq (zIf (zC1 0 (zL 0 4)) (zRet (zAn 0 (zCs F_Mo_many [(zL 1 5)]))) zSkip)
  (zRet (zIte (zC2 0 (zL 0 4) (zK (.int 1))) (zAn 0 (zCv 11 F_Mo_weightsOf [(zL 3 0), (zL 1 5)])) (zIte (zC1 1 (zAn 0 (zCv 11 F_Mo_isSteady [(zL 3 0), (zL 0 1), (zL 0 2), (zL 1 5)]))) (zK (.int 1)) (zK (.int 0))))))))
def F_Mo_cone : zMt := zMeth [3, 0, 0, 0, 0] 7 0 S_Mo_cone
-- JetTreesModel.stillFrom(II)J
def C_Mo_stillFrom_0 : zCx := (zC2 5 (zL 0 5) (zK (.int 20)))
def B_Mo_stillFrom_0 : zSt := (zBl 6 (zSeq (zAsg 6 (zAn 1 (zCv 11 F_Mo_coneOf [(zL 3 0), (zL 0 3), (zL 0 4), (zL 0 2)])))
  (zSeq (zIf (zC1 0 (z2 oLcmp (zL 1 6) (zK (.long 0)))) (zRet (zK (.long 0))) zSkip)
  (zSeq (zIf (zC1 1 (zAn 0 (zCv 11 F_Mo_isSteady [(zL 3 0), (zL 0 3), (zL 0 4), (zL 1 6)]))) (zRet (zL 1 6)) zSkip)
  (zSeq (zAsg 3 (zGf 0 11 23 (zL 3 0)))
  (zAsg 4 (zGf 0 11 24 (zL 3 0))))))))
def T_Mo_stillFrom_0 : zSt := (zAsg 5 (z2 (oI2 fun x y => x + y) (zL 0 5) (zK (.int 1))))
def L_Mo_stillFrom_0 : zSt := zLp C_Mo_stillFrom_0 B_Mo_stillFrom_0 T_Mo_stillFrom_0
def S_Mo_stillFrom : zSt := (zSeq (zAsg 3 (zAn 0 (zCv 11 F_Mo_ofTrack [(zL 3 0), (zL 0 1), (zK (.int 0))])))
  (zSeq (zAsg 4 (zAn 0 (zCv 11 F_Mo_ofTrack [(zL 3 0), (zL 0 1), (zK (.int 1))])))
  (zSeq (zBl 5 (zSeq (zAsg 5 (zK (.int 0)))
  L_Mo_stillFrom_0))
  (zRet (zK (.long 0))))))
def F_Mo_stillFrom : zMt := zMeth [3, 0, 0] 8 1 S_Mo_stillFrom
-- JetTreesModel.layStill(I)V
def C_Mo_layStill_1 : zCx := (zC2 2 (zL 0 6) (zGf 0 11 26 (zL 3 0)))
def B_Mo_layStill_1 : zSt := (zAsg 5 (zBx (zAnd (zC1 1 (zL 0 5)) (zC1 1 (z2 oLcmp (zAx 1 65 (zGf 3 11 25 (zL 3 0)) (zL 0 6)) (zL 1 3))))))
def T_Mo_layStill_1 : zSt := (zAsg 6 (z2 (oI2 fun x y => x + y) (zL 0 6) (zK (.int 1))))
def L_Mo_layStill_1 : zSt := zLp C_Mo_layStill_1 B_Mo_layStill_1 T_Mo_layStill_1
def C_Mo_layStill_0 : zCx := (zC2 2 (zL 0 2) (zAn 0 (zCv 11 F_Mo_tracks [(zL 3 0)])))
def B_Mo_layStill_0 : zSt := (zBl 3 (zSeq (zAsg 3 (zAn 1 (zCv 11 F_Mo_stillFrom [(zL 3 0), (zL 0 2), (zL 0 1)])))
  (zSeq (zAsg 5 (zBx (zC1 1 (z2 oLcmp (zL 1 3) (zK (.long 0))))))
  (zSeq (zBl 6 (zSeq (zAsg 6 (zK (.int 0)))
  L_Mo_layStill_1))
  (zSeq (zIf (zNot (zC1 1 (zL 0 5))) zCnt zSkip)
  (zSeq (zAs (zStK 65).1 65 (zStK 65).2 (zGf 3 11 25 (zL 3 0)) (zGf 0 11 26 (zL 3 0)) (zL 1 3))
  (zPfo 0 11 26 (oI2 fun x y => x + y) (zL 3 0) (zK (.int 1)))))))))
def T_Mo_layStill_0 : zSt := (zAsg 2 (z2 (oI2 fun x y => x + y) (zL 0 2) (zK (.int 1))))
def L_Mo_layStill_0 : zSt := zLp C_Mo_layStill_0 B_Mo_layStill_0 T_Mo_layStill_0
def S_Mo_layStill : zSt := (zSeq (zPf 0 11 26 (zL 3 0) (zK (.int 0)))
  (zSeq (zBl 2 (zSeq (zAsg 2 (zK (.int 0)))
  L_Mo_layStill_0))
  zRetV))
def F_Mo_layStill : zMt := zMeth [3, 0] 7 9 S_Mo_layStill
-- JetTreesModel.still(II)J
def S_Mo_still : zSt := (zSeq (zIf (zNot (zC1 1 (zAn 0 (zCs F_Mo_isRadius [(zL 0 1)])))) (zRet (zK (.long (-1)))) zSkip)
  (zSeq (zDo (zCv 11 F_Mo_layStill [(zL 3 0), (zL 0 1)]))
  (zRet (zIte (zC2 0 (zL 0 2) (zK (.int (-1)))) (z1 oI2l (zGf 0 11 26 (zL 3 0))) (zIte (zC1 1 (zAn 0 (zCs F_Mo_isIn [(zL 0 2), (zK (.int 0)), (z2 (oI2 fun x y => x - y) (zGf 0 11 26 (zL 3 0)) (zK (.int 1)))]))) (zAx 1 65 (zGf 3 11 25 (zL 3 0)) (zL 0 2)) (zK (.long (-1))))))))
def F_Mo_still : zMt := zMeth [3, 0, 0] 3 1 S_Mo_still
-- JetTreesModel.heaviest(I)I
def C_Mo_heaviest_0 : zCx := (zC2 2 (zL 0 3) (zGf 0 11 26 (zL 3 0)))
def B_Mo_heaviest_0 : zSt := (zSeq (zIf (zOr (zOr (zC1 0 (z2 oLcmp (zAx 1 65 (zGf 3 11 25 (zL 3 0)) (zL 0 3)) (zK (.long 0)))) (zC2 0 (zL 0 3) (zL 0 1))) (zAnd (zC2 1 (zL 0 1) (zK (.int (-1)))) (zC1 0 (z2 oLcmp (z2 (oL2 fun x y => x &&& y) (zAx 1 65 (zGf 3 11 25 (zL 3 0)) (zL 0 3)) (zAx 1 65 (zGf 3 11 25 (zL 3 0)) (zL 0 1))) (zK (.long 0)))))) zCnt zSkip)
  (zIf (zOr (zC2 0 (zL 0 2) (zK (.int (-1)))) (zC2 4 (zAn 0 (zCv 11 F_Mo_weightsOf [(zL 3 0), (zAx 1 65 (zGf 3 11 25 (zL 3 0)) (zL 0 3))])) (zAn 0 (zCv 11 F_Mo_weightsOf [(zL 3 0), (zAx 1 65 (zGf 3 11 25 (zL 3 0)) (zL 0 2))])))) (zAsg 2 (zL 0 3)) zSkip))
def T_Mo_heaviest_0 : zSt := (zAsg 3 (z2 (oI2 fun x y => x + y) (zL 0 3) (zK (.int 1))))
def L_Mo_heaviest_0 : zSt := zLp C_Mo_heaviest_0 B_Mo_heaviest_0 T_Mo_heaviest_0
def S_Mo_heaviest : zSt := (zSeq (zAsg 2 (zK (.int (-1))))
  (zSeq (zBl 3 (zSeq (zAsg 3 (zK (.int 0)))
  L_Mo_heaviest_0))
  (zRet (zL 0 2))))
def F_Mo_heaviest : zMt := zMeth [3, 0] 4 0 S_Mo_heaviest
-- JetTreesModel.part(II)V
def C_Mo_part_0 : zCx := (zC2 2 (zL 0 7) (zAn 0 (zCv 11 F_Mo_tracks [(zL 3 0)])))
def B_Mo_part_0 : zSt := (zBl 8 (zSeq (zIf (zNot (zC1 1 (zAn 0 (zCs F_Mo_has [(zL 1 3), (zL 0 7)])))) zCnt zSkip)
  (zSeq (zAsg 8 (zBx (zC2 2 (zAn 0 (zCs F_Mo_squareOf [(zAn 0 (zCv 11 F_Mo_ofTrack [(zL 3 0), (zL 0 7), (zK (.int 0))])), (zAn 0 (zCv 11 F_Mo_ofTrack [(zL 3 0), (zL 0 7), (zK (.int 1))])), (zGf 0 11 23 (zL 3 0)), (zGf 0 11 24 (zL 3 0))])) (zAn 0 (zCs F_Mo_squareOf [(zAn 0 (zCv 11 F_Mo_ofTrack [(zL 3 0), (zL 0 7), (zK (.int 0))])), (zAn 0 (zCv 11 F_Mo_ofTrack [(zL 3 0), (zL 0 7), (zK (.int 1))])), (zL 0 5), (zL 0 6)])))))
  (zAso (zStK 65).1 65 (oL2 fun x y => x &&& y) (zGf 3 11 25 (zL 3 0)) (zIte (zC1 1 (zL 0 8)) (zL 0 1) (zL 0 2)) (z2 (oL2 fun x y => x ^^^ y) (z2 (oLsh fun x y => x <<< (y.toInt64 &&& 63)) (zK (.long 1)) (zL 0 7)) (zK (.long (-1))))))))
def T_Mo_part_0 : zSt := (zAsg 7 (z2 (oI2 fun x y => x + y) (zL 0 7) (zK (.int 1))))
def L_Mo_part_0 : zSt := zLp C_Mo_part_0 B_Mo_part_0 T_Mo_part_0
def S_Mo_part : zSt := (zSeq (zAsg 3 (z2 (oL2 fun x y => x &&& y) (zAx 1 65 (zGf 3 11 25 (zL 3 0)) (zL 0 1)) (zAx 1 65 (zGf 3 11 25 (zL 3 0)) (zL 0 2))))
  (zSeq (zDo (zCv 11 F_Mo_layMean [(zL 3 0), (zAx 1 65 (zGf 3 11 25 (zL 3 0)) (zL 0 1))]))
  (zSeq (zAsg 5 (zGf 0 11 23 (zL 3 0)))
  (zSeq (zAsg 6 (zGf 0 11 24 (zL 3 0)))
  (zSeq (zDo (zCv 11 F_Mo_layMean [(zL 3 0), (zAx 1 65 (zGf 3 11 25 (zL 3 0)) (zL 0 2))]))
  (zSeq (zBl 7 (zSeq (zAsg 7 (zK (.int 0)))
  L_Mo_part_0))
  zRetV))))))
def F_Mo_part : zMt := zMeth [3, 0, 0] 9 9 S_Mo_part
-- JetTreesModel.isMerged(III)Z
def S_Mo_isMerged : zSt := (zSeq (zAsg 4 (zAn 0 (zCv 11 F_Mo_weightsOf [(zL 3 0), (zAx 1 65 (zGf 3 11 25 (zL 3 0)) (zL 0 1))])))
  (zSeq (zAsg 5 (zAn 0 (zCv 11 F_Mo_weightsOf [(zL 3 0), (zAx 1 65 (zGf 3 11 25 (zL 3 0)) (zL 0 2))])))
  (zRet (zBx (zC1 3 (z2 oLcmp (z2 (oL2 fun x y => x * y) (zK (.long 1000)) (z1 oI2l (zAn 0 (zCv 11 F_Mo_weightsOf [(zL 3 0), (z2 (oL2 fun x y => x &&& y) (zAx 1 65 (zGf 3 11 25 (zL 3 0)) (zL 0 1)) (zAx 1 65 (zGf 3 11 25 (zL 3 0)) (zL 0 2)))])))) (z2 (oL2 fun x y => x * y) (z1 oI2l (zL 0 3)) (z1 oI2l (zIte (zC2 2 (zL 0 4) (zL 0 5)) (zL 0 4) (zL 0 5))))))))))
def F_Mo_isMerged : zMt := zMeth [3, 0, 0, 0] 6 4 S_Mo_isMerged
-- JetTreesModel.patch(III)J
def C_Mo_patch_0 : zCx := (zC2 1 (zL 0 5) (zK (.int (-1))))
def B_Mo_patch_0 : zSt := (zBl 6 (zSeq (zAsg 6 (zAn 0 (zCv 11 F_Mo_heaviest [(zL 3 0), (zL 0 5)])))
  (zIf (zC2 0 (zL 0 6) (zK (.int (-1)))) (zSeq (zIf (zC2 0 (zL 0 4) (zL 0 3)) (zRet (zAx 1 65 (zGf 3 11 25 (zL 3 0)) (zL 0 5))) zSkip)
  (zSeq (zAs (zStK 65).1 65 (zStK 65).2 (zGf 3 11 25 (zL 3 0)) (zL 0 5) (zK (.long 0)))
  (zAsg 4 (z2 (oI2 fun x y => x + y) (zL 0 4) (zK (.int 1)))))) (zIf (zC1 1 (zAn 0 (zCv 11 F_Mo_isMerged [(zL 3 0), (zL 0 5), (zL 0 6), (zL 0 2)]))) (zSeq (zAso (zStK 65).1 65 (oL2 fun x y => x ||| y) (zGf 3 11 25 (zL 3 0)) (zL 0 5) (zAx 1 65 (zGf 3 11 25 (zL 3 0)) (zL 0 6)))
  (zAs (zStK 65).1 65 (zStK 65).2 (zGf 3 11 25 (zL 3 0)) (zL 0 6) (zK (.long 0)))) (zDo (zCv 11 F_Mo_part [(zL 3 0), (zL 0 5), (zL 0 6)]))))))
def T_Mo_patch_0 : zSt := (zAsg 5 (zAn 0 (zCv 11 F_Mo_heaviest [(zL 3 0), (zK (.int (-1)))])))
def L_Mo_patch_0 : zSt := zLp C_Mo_patch_0 B_Mo_patch_0 T_Mo_patch_0
def S_Mo_patch : zSt := (zSeq (zIf (zOr (zOr (zNot (zC1 1 (zAn 0 (zCs F_Mo_isRadius [(zL 0 1)])))) (zNot (zC1 1 (zAn 0 (zCs F_Mo_isMille [(zL 0 2)]))))) (zC2 2 (zL 0 3) (zK (.int (-1))))) (zRet (zK (.long (-1)))) zSkip)
  (zSeq (zDo (zCv 11 F_Mo_layStill [(zL 3 0), (zL 0 1)]))
  (zSeq (zAsg 4 (zK (.int 0)))
  (zSeq (zBl 5 (zSeq (zAsg 5 (zAn 0 (zCv 11 F_Mo_heaviest [(zL 3 0), (zK (.int (-1)))])))
  L_Mo_patch_0))
  (zRet (zIte (zC2 0 (zL 0 3) (zK (.int (-1)))) (z1 oI2l (zL 0 4)) (zK (.long (-1)))))))))
def F_Mo_patch : zMt := zMeth [3, 0, 0, 0] 7 1 S_Mo_patch
-- JetTreesModel.image()I
def S_Mo_image : zSt := (zSeq (zDo (zCs F_Mo_copy [(zGf 3 11 0 (zL 3 0)), (zGf 3 11 1 (zL 3 0))]))
  (zRet (zAn 0 (zCv 11 F_Mo_tracks [(zL 3 0)]))))
def F_Mo_image : zMt := zMeth [3] 1 0 S_Mo_image
-- JetTreesModel.back()I
def S_Mo_back : zSt := (zSeq (zDo (zCs F_Mo_copy [(zGf 3 11 1 (zL 3 0)), (zGf 3 11 0 (zL 3 0))]))
  (zRet (zAn 0 (zCv 11 F_Mo_tracks [(zL 3 0)]))))
def F_Mo_back : zMt := zMeth [3] 1 0 S_Mo_back
-- JetTreesModel.steps()I
def S_Mo_steps : zSt := (zRet (zAx 0 64 (zGf 3 11 0 (zL 3 0)) (zK (.int 0))))
def F_Mo_steps : zMt := zMeth [3] 1 0 S_Mo_steps
-- JetTreesLaw.law([I)Z
def W_La_law_0_0 : zSt := (zSeq (zIf (zC2 1 (zAn 0 (zCv 10 F_JT_track [(zL 3 1), (zAx 0 99 (zL 3 0) (z2 (oI2 fun x y => x + y) (zL 0 3) (zK (.int 1)))), (zAx 0 99 (zL 3 0) (z2 (oI2 fun x y => x + y) (zL 0 3) (zK (.int 2)))), (zAx 0 99 (zL 3 0) (z2 (oI2 fun x y => x + y) (zL 0 3) (zK (.int 3))))])) (zAn 0 (zCv 11 F_Mo_track [(zL 3 2), (zAx 0 99 (zL 3 0) (z2 (oI2 fun x y => x + y) (zL 0 3) (zK (.int 1)))), (zAx 0 99 (zL 3 0) (z2 (oI2 fun x y => x + y) (zL 0 3) (zK (.int 2)))), (zAx 0 99 (zL 3 0) (z2 (oI2 fun x y => x + y) (zL 0 3) (zK (.int 3))))]))) (zRet (zK (.int 0))) zSkip)
  zBrk)
def W_La_law_0_1 : zSt := (zSeq (zIf (zC2 1 (zAn 0 (zCv 10 F_JT_move [(zL 3 1), (zAx 0 99 (zL 3 0) (z2 (oI2 fun x y => x + y) (zL 0 3) (zK (.int 1)))), (zAx 0 99 (zL 3 0) (z2 (oI2 fun x y => x + y) (zL 0 3) (zK (.int 2)))), (zAx 0 99 (zL 3 0) (z2 (oI2 fun x y => x + y) (zL 0 3) (zK (.int 3))))])) (zAn 0 (zCv 11 F_Mo_move [(zL 3 2), (zAx 0 99 (zL 3 0) (z2 (oI2 fun x y => x + y) (zL 0 3) (zK (.int 1)))), (zAx 0 99 (zL 3 0) (z2 (oI2 fun x y => x + y) (zL 0 3) (zK (.int 2)))), (zAx 0 99 (zL 3 0) (z2 (oI2 fun x y => x + y) (zL 0 3) (zK (.int 3))))]))) (zRet (zK (.int 0))) zSkip)
  zBrk)
def W_La_law_0_2 : zSt := (zSeq (zIf (zC2 1 (zAn 0 (zCv 10 F_JT_weigh [(zL 3 1), (zAx 0 99 (zL 3 0) (z2 (oI2 fun x y => x + y) (zL 0 3) (zK (.int 1)))), (zAx 0 99 (zL 3 0) (z2 (oI2 fun x y => x + y) (zL 0 3) (zK (.int 2))))])) (zAn 0 (zCv 11 F_Mo_weigh [(zL 3 2), (zAx 0 99 (zL 3 0) (z2 (oI2 fun x y => x + y) (zL 0 3) (zK (.int 1)))), (zAx 0 99 (zL 3 0) (z2 (oI2 fun x y => x + y) (zL 0 3) (zK (.int 2))))]))) (zRet (zK (.int 0))) zSkip)
  zBrk)
def W_La_law_0_3 : zSt := (zSeq (zIf (zC2 1 (zAn 0 (zCv 10 F_JT_drop [(zL 3 1), (zAx 0 99 (zL 3 0) (z2 (oI2 fun x y => x + y) (zL 0 3) (zK (.int 1))))])) (zAn 0 (zCv 11 F_Mo_drop [(zL 3 2), (zAx 0 99 (zL 3 0) (z2 (oI2 fun x y => x + y) (zL 0 3) (zK (.int 1))))]))) (zRet (zK (.int 0))) zSkip)
  zBrk)
def W_La_law_0_4 : zSt := (zSeq (zIf (zC2 1 (zAn 0 (zCv 10 F_JT_drawn [(zL 3 1), (zAx 0 99 (zL 3 0) (z2 (oI2 fun x y => x + y) (zL 0 3) (zK (.int 1)))), (zAx 0 99 (zL 3 0) (z2 (oI2 fun x y => x + y) (zL 0 3) (zK (.int 2)))), (zAx 0 99 (zL 3 0) (z2 (oI2 fun x y => x + y) (zL 0 3) (zK (.int 3)))), (zAx 0 99 (zL 3 0) (z2 (oI2 fun x y => x + y) (zL 0 3) (zK (.int 4))))])) (zAn 0 (zCv 11 F_Mo_drawn [(zL 3 2), (zAx 0 99 (zL 3 0) (z2 (oI2 fun x y => x + y) (zL 0 3) (zK (.int 1)))), (zAx 0 99 (zL 3 0) (z2 (oI2 fun x y => x + y) (zL 0 3) (zK (.int 2)))), (zAx 0 99 (zL 3 0) (z2 (oI2 fun x y => x + y) (zL 0 3) (zK (.int 3)))), (zAx 0 99 (zL 3 0) (z2 (oI2 fun x y => x + y) (zL 0 3) (zK (.int 4))))]))) (zRet (zK (.int 0))) zSkip)
  zBrk)
def W_La_law_0_5 : zSt := (zSeq (zIf (zC2 1 (zAn 0 (zCv 10 F_JT_tell [(zL 3 1), (zAx 0 99 (zL 3 0) (z2 (oI2 fun x y => x + y) (zL 0 3) (zK (.int 1))))])) (zAn 0 (zCv 11 F_Mo_tell [(zL 3 2), (zAx 0 99 (zL 3 0) (z2 (oI2 fun x y => x + y) (zL 0 3) (zK (.int 1))))]))) (zRet (zK (.int 0))) zSkip)
  zBrk)
def W_La_law_0_6 : zSt := (zSeq (zIf (zC2 1 (zAn 0 (zCv 10 F_JT_set [(zL 3 1), (zAx 0 99 (zL 3 0) (z2 (oI2 fun x y => x + y) (zL 0 3) (zK (.int 1)))), (zAx 0 99 (zL 3 0) (z2 (oI2 fun x y => x + y) (zL 0 3) (zK (.int 2))))])) (zAn 0 (zCv 11 F_Mo_set [(zL 3 2), (zAx 0 99 (zL 3 0) (z2 (oI2 fun x y => x + y) (zL 0 3) (zK (.int 1)))), (zAx 0 99 (zL 3 0) (z2 (oI2 fun x y => x + y) (zL 0 3) (zK (.int 2))))]))) (zRet (zK (.int 0))) zSkip)
  zBrk)
def W_La_law_0_7 : zSt := (zSeq (zIf (zC2 1 (zAn 0 (zCv 10 F_JT_gather [(zL 3 1), (zAx 0 99 (zL 3 0) (z2 (oI2 fun x y => x + y) (zL 0 3) (zK (.int 1))))])) (zAn 0 (zCv 11 F_Mo_gather [(zL 3 2), (zAx 0 99 (zL 3 0) (z2 (oI2 fun x y => x + y) (zL 0 3) (zK (.int 1))))]))) (zRet (zK (.int 0))) zSkip)
  zBrk)
def W_La_law_0_8 : zSt := (zSeq (zIf (zC2 1 (zAn 0 (zCv 10 F_JT_keep [(zL 3 1), (zAx 0 99 (zL 3 0) (z2 (oI2 fun x y => x + y) (zL 0 3) (zK (.int 1)))), (zAx 0 99 (zL 3 0) (z2 (oI2 fun x y => x + y) (zL 0 3) (zK (.int 2)))), (zAx 0 99 (zL 3 0) (z2 (oI2 fun x y => x + y) (zL 0 3) (zK (.int 3))))])) (zAn 0 (zCv 11 F_Mo_keep [(zL 3 2), (zAx 0 99 (zL 3 0) (z2 (oI2 fun x y => x + y) (zL 0 3) (zK (.int 1)))), (zAx 0 99 (zL 3 0) (z2 (oI2 fun x y => x + y) (zL 0 3) (zK (.int 2)))), (zAx 0 99 (zL 3 0) (z2 (oI2 fun x y => x + y) (zL 0 3) (zK (.int 3))))]))) (zRet (zK (.int 0))) zSkip)
  zBrk)
def W_La_law_0_9 : zSt := (zSeq (zIf (zC2 1 (zAn 0 (zCv 10 F_JT_apart [(zL 3 1), (zAx 0 99 (zL 3 0) (z2 (oI2 fun x y => x + y) (zL 0 3) (zK (.int 1)))), (zAx 0 99 (zL 3 0) (z2 (oI2 fun x y => x + y) (zL 0 3) (zK (.int 2)))), (zAx 0 99 (zL 3 0) (z2 (oI2 fun x y => x + y) (zL 0 3) (zK (.int 3)))), (zAx 0 99 (zL 3 0) (z2 (oI2 fun x y => x + y) (zL 0 3) (zK (.int 4)))), (zAx 0 99 (zL 3 0) (z2 (oI2 fun x y => x + y) (zL 0 3) (zK (.int 5))))])) (zAn 0 (zCv 11 F_Mo_apart [(zL 3 2), (zAx 0 99 (zL 3 0) (z2 (oI2 fun x y => x + y) (zL 0 3) (zK (.int 1)))), (zAx 0 99 (zL 3 0) (z2 (oI2 fun x y => x + y) (zL 0 3) (zK (.int 2)))), (zAx 0 99 (zL 3 0) (z2 (oI2 fun x y => x + y) (zL 0 3) (zK (.int 3)))), (zAx 0 99 (zL 3 0) (z2 (oI2 fun x y => x + y) (zL 0 3) (zK (.int 4)))), (zAx 0 99 (zL 3 0) (z2 (oI2 fun x y => x + y) (zL 0 3) (zK (.int 5))))]))) (zRet (zK (.int 0))) zSkip)
  zBrk)
def W_La_law_0_10 : zSt := (zSeq (zIf (zC2 1 (zAn 0 (zCv 10 F_JT_hand [(zL 3 1), (zAx 0 99 (zL 3 0) (z2 (oI2 fun x y => x + y) (zL 0 3) (zK (.int 1))))])) (zAn 0 (zCv 11 F_Mo_hand [(zL 3 2), (zAx 0 99 (zL 3 0) (z2 (oI2 fun x y => x + y) (zL 0 3) (zK (.int 1))))]))) (zRet (zK (.int 0))) zSkip)
  zBrk)
def W_La_law_0_11 : zSt := (zSeq (zIf (zC2 1 (zAn 0 (zCv 10 F_JT_mix [(zL 3 1), (zAx 0 99 (zL 3 0) (z2 (oI2 fun x y => x + y) (zL 0 3) (zK (.int 1)))), (zAx 0 99 (zL 3 0) (z2 (oI2 fun x y => x + y) (zL 0 3) (zK (.int 2))))])) (zAn 0 (zCv 11 F_Mo_mix [(zL 3 2), (zAx 0 99 (zL 3 0) (z2 (oI2 fun x y => x + y) (zL 0 3) (zK (.int 1)))), (zAx 0 99 (zL 3 0) (z2 (oI2 fun x y => x + y) (zL 0 3) (zK (.int 2))))]))) (zRet (zK (.int 0))) zSkip)
  zBrk)
def W_La_law_0_12 : zSt := (zSeq (zIf (zC2 1 (zAn 0 (zCv 10 F_JT_free [(zL 3 1), (zAx 0 99 (zL 3 0) (z2 (oI2 fun x y => x + y) (zL 0 3) (zK (.int 1))))])) (zAn 0 (zCv 11 F_Mo_free [(zL 3 2), (zAx 0 99 (zL 3 0) (z2 (oI2 fun x y => x + y) (zL 0 3) (zK (.int 1))))]))) (zRet (zK (.int 0))) zSkip)
  zBrk)
def W_La_law_0_13 : zSt := (zSeq (zIf (zC2 1 (zAn 0 (zCv 10 F_JT_undo [(zL 3 1)])) (zAn 0 (zCv 11 F_Mo_undo [(zL 3 2)]))) (zRet (zK (.int 0))) zSkip)
  zBrk)
def W_La_law_0_14 : zSt := (zSeq (zIf (zC2 1 (zAn 0 (zCv 10 F_JT_is [(zL 3 1), (zAx 0 99 (zL 3 0) (z2 (oI2 fun x y => x + y) (zL 0 3) (zK (.int 1))))])) (zAn 0 (zCv 11 F_Mo_is [(zL 3 2), (zAx 0 99 (zL 3 0) (z2 (oI2 fun x y => x + y) (zL 0 3) (zK (.int 1))))]))) (zRet (zK (.int 0))) zSkip)
  zBrk)
def W_La_law_0_15 : zSt := (zSeq (zIf (zC2 1 (zAn 0 (zCv 10 F_JT_of [(zL 3 1), (zAx 0 99 (zL 3 0) (z2 (oI2 fun x y => x + y) (zL 0 3) (zK (.int 1)))), (zAx 0 99 (zL 3 0) (z2 (oI2 fun x y => x + y) (zL 0 3) (zK (.int 2))))])) (zAn 0 (zCv 11 F_Mo_of [(zL 3 2), (zAx 0 99 (zL 3 0) (z2 (oI2 fun x y => x + y) (zL 0 3) (zK (.int 1)))), (zAx 0 99 (zL 3 0) (z2 (oI2 fun x y => x + y) (zL 0 3) (zK (.int 2))))]))) (zRet (zK (.int 0))) zSkip)
  zBrk)
def W_La_law_0_16 : zSt := (zSeq (zIf (zC2 1 (zAn 0 (zCv 10 F_JT_square [(zL 3 1), (zAx 0 99 (zL 3 0) (z2 (oI2 fun x y => x + y) (zL 0 3) (zK (.int 1)))), (zAx 0 99 (zL 3 0) (z2 (oI2 fun x y => x + y) (zL 0 3) (zK (.int 2))))])) (zAn 0 (zCv 11 F_Mo_square [(zL 3 2), (zAx 0 99 (zL 3 0) (z2 (oI2 fun x y => x + y) (zL 0 3) (zK (.int 1)))), (zAx 0 99 (zL 3 0) (z2 (oI2 fun x y => x + y) (zL 0 3) (zK (.int 2))))]))) (zRet (zK (.int 0))) zSkip)
  zBrk)
def W_La_law_0_17 : zSt := (zSeq (zIf (zC2 1 (zAn 0 (zCv 10 F_JT_nearest [(zL 3 1), (zAx 0 99 (zL 3 0) (z2 (oI2 fun x y => x + y) (zL 0 3) (zK (.int 1))))])) (zAn 0 (zCv 11 F_Mo_nearest [(zL 3 2), (zAx 0 99 (zL 3 0) (z2 (oI2 fun x y => x + y) (zL 0 3) (zK (.int 1))))]))) (zRet (zK (.int 0))) zSkip)
  zBrk)
def W_La_law_0_18 : zSt := (zSeq (zIf (zC2 1 (zAn 0 (zCv 10 F_JT_tree [(zL 3 1), (zAx 0 99 (zL 3 0) (z2 (oI2 fun x y => x + y) (zL 0 3) (zK (.int 1)))), (zAx 0 99 (zL 3 0) (z2 (oI2 fun x y => x + y) (zL 0 3) (zK (.int 2))))])) (zAn 0 (zCv 11 F_Mo_tree [(zL 3 2), (zAx 0 99 (zL 3 0) (z2 (oI2 fun x y => x + y) (zL 0 3) (zK (.int 1)))), (zAx 0 99 (zL 3 0) (z2 (oI2 fun x y => x + y) (zL 0 3) (zK (.int 2))))]))) (zRet (zK (.int 0))) zSkip)
  zBrk)
def W_La_law_0_19 : zSt := (zSeq (zIf (zC2 1 (zAn 0 (zCv 10 F_JT_knot [(zL 3 1), (zAx 0 99 (zL 3 0) (z2 (oI2 fun x y => x + y) (zL 0 3) (zK (.int 1)))), (zAx 0 99 (zL 3 0) (z2 (oI2 fun x y => x + y) (zL 0 3) (zK (.int 2)))), (zAx 0 99 (zL 3 0) (z2 (oI2 fun x y => x + y) (zL 0 3) (zK (.int 3))))])) (zAn 0 (zCv 11 F_Mo_knot [(zL 3 2), (zAx 0 99 (zL 3 0) (z2 (oI2 fun x y => x + y) (zL 0 3) (zK (.int 1)))), (zAx 0 99 (zL 3 0) (z2 (oI2 fun x y => x + y) (zL 0 3) (zK (.int 2)))), (zAx 0 99 (zL 3 0) (z2 (oI2 fun x y => x + y) (zL 0 3) (zK (.int 3))))]))) (zRet (zK (.int 0))) zSkip)
  zBrk)
def W_La_law_0_20 : zSt := (zSeq (zIf (zC2 1 (zAn 0 (zCv 10 F_JT_origin [(zL 3 1), (zAx 0 99 (zL 3 0) (z2 (oI2 fun x y => x + y) (zL 0 3) (zK (.int 1)))), (zAx 0 99 (zL 3 0) (z2 (oI2 fun x y => x + y) (zL 0 3) (zK (.int 2))))])) (zAn 0 (zCv 11 F_Mo_origin [(zL 3 2), (zAx 0 99 (zL 3 0) (z2 (oI2 fun x y => x + y) (zL 0 3) (zK (.int 1)))), (zAx 0 99 (zL 3 0) (z2 (oI2 fun x y => x + y) (zL 0 3) (zK (.int 2))))]))) (zRet (zK (.int 0))) zSkip)
  zBrk)
def W_La_law_0_21 : zSt := (zSeq (zIf (zC2 1 (zAn 0 (zCv 10 F_JT_step [(zL 3 1), (zAx 0 99 (zL 3 0) (z2 (oI2 fun x y => x + y) (zL 0 3) (zK (.int 1)))), (zAx 0 99 (zL 3 0) (z2 (oI2 fun x y => x + y) (zL 0 3) (zK (.int 2)))), (zAx 0 99 (zL 3 0) (z2 (oI2 fun x y => x + y) (zL 0 3) (zK (.int 3))))])) (zAn 0 (zCv 11 F_Mo_step [(zL 3 2), (zAx 0 99 (zL 3 0) (z2 (oI2 fun x y => x + y) (zL 0 3) (zK (.int 1)))), (zAx 0 99 (zL 3 0) (z2 (oI2 fun x y => x + y) (zL 0 3) (zK (.int 2)))), (zAx 0 99 (zL 3 0) (z2 (oI2 fun x y => x + y) (zL 0 3) (zK (.int 3))))]))) (zRet (zK (.int 0))) zSkip)
  zBrk)
def W_La_law_0_22 : zSt := (zSeq (zIf (zC1 1 (z2 oLcmp (zAn 1 (zCv 10 F_JT_up [(zL 3 1), (zAx 0 99 (zL 3 0) (z2 (oI2 fun x y => x + y) (zL 0 3) (zK (.int 1)))), (zAx 0 99 (zL 3 0) (z2 (oI2 fun x y => x + y) (zL 0 3) (zK (.int 2))))])) (zAn 1 (zCv 11 F_Mo_up [(zL 3 2), (zAx 0 99 (zL 3 0) (z2 (oI2 fun x y => x + y) (zL 0 3) (zK (.int 1)))), (zAx 0 99 (zL 3 0) (z2 (oI2 fun x y => x + y) (zL 0 3) (zK (.int 2))))])))) (zRet (zK (.int 0))) zSkip)
  zBrk)
def W_La_law_0_23 : zSt := (zSeq (zIf (zC1 1 (z2 oLcmp (zAn 1 (zCv 10 F_JT_down [(zL 3 1), (zAx 0 99 (zL 3 0) (z2 (oI2 fun x y => x + y) (zL 0 3) (zK (.int 1)))), (zAx 0 99 (zL 3 0) (z2 (oI2 fun x y => x + y) (zL 0 3) (zK (.int 2))))])) (zAn 1 (zCv 11 F_Mo_down [(zL 3 2), (zAx 0 99 (zL 3 0) (z2 (oI2 fun x y => x + y) (zL 0 3) (zK (.int 1)))), (zAx 0 99 (zL 3 0) (z2 (oI2 fun x y => x + y) (zL 0 3) (zK (.int 2))))])))) (zRet (zK (.int 0))) zSkip)
  zBrk)
def W_La_law_0_24 : zSt := (zSeq (zIf (zC1 1 (z2 oLcmp (zAn 1 (zCv 10 F_JT_leaves [(zL 3 1), (zAx 0 99 (zL 3 0) (z2 (oI2 fun x y => x + y) (zL 0 3) (zK (.int 1)))), (zAx 0 99 (zL 3 0) (z2 (oI2 fun x y => x + y) (zL 0 3) (zK (.int 2))))])) (zAn 1 (zCv 11 F_Mo_leaves [(zL 3 2), (zAx 0 99 (zL 3 0) (z2 (oI2 fun x y => x + y) (zL 0 3) (zK (.int 1)))), (zAx 0 99 (zL 3 0) (z2 (oI2 fun x y => x + y) (zL 0 3) (zK (.int 2))))])))) (zRet (zK (.int 0))) zSkip)
  zBrk)
def W_La_law_0_25 : zSt := (zSeq (zIf (zC2 1 (zAn 0 (zCv 10 F_JT_jet [(zL 3 1), (zAx 0 99 (zL 3 0) (z2 (oI2 fun x y => x + y) (zL 0 3) (zK (.int 1)))), (zAx 0 99 (zL 3 0) (z2 (oI2 fun x y => x + y) (zL 0 3) (zK (.int 2))))])) (zAn 0 (zCv 11 F_Mo_jet [(zL 3 2), (zAx 0 99 (zL 3 0) (z2 (oI2 fun x y => x + y) (zL 0 3) (zK (.int 1)))), (zAx 0 99 (zL 3 0) (z2 (oI2 fun x y => x + y) (zL 0 3) (zK (.int 2))))]))) (zRet (zK (.int 0))) zSkip)
  zBrk)
def W_La_law_0_26 : zSt := (zSeq (zIf (zC2 1 (zAn 0 (zCv 10 F_JT_jetOf [(zL 3 1), (zAx 0 99 (zL 3 0) (z2 (oI2 fun x y => x + y) (zL 0 3) (zK (.int 1)))), (zAx 0 99 (zL 3 0) (z2 (oI2 fun x y => x + y) (zL 0 3) (zK (.int 2))))])) (zAn 0 (zCv 11 F_Mo_jetOf [(zL 3 2), (zAx 0 99 (zL 3 0) (z2 (oI2 fun x y => x + y) (zL 0 3) (zK (.int 1)))), (zAx 0 99 (zL 3 0) (z2 (oI2 fun x y => x + y) (zL 0 3) (zK (.int 2))))]))) (zRet (zK (.int 0))) zSkip)
  zBrk)
def W_La_law_0_27 : zSt := (zSeq (zIf (zC2 1 (zAn 0 (zCv 10 F_JT_left [(zL 3 1), (zAx 0 99 (zL 3 0) (z2 (oI2 fun x y => x + y) (zL 0 3) (zK (.int 1)))), (zAx 0 99 (zL 3 0) (z2 (oI2 fun x y => x + y) (zL 0 3) (zK (.int 2)))), (zAx 0 99 (zL 3 0) (z2 (oI2 fun x y => x + y) (zL 0 3) (zK (.int 3))))])) (zAn 0 (zCv 11 F_Mo_left [(zL 3 2), (zAx 0 99 (zL 3 0) (z2 (oI2 fun x y => x + y) (zL 0 3) (zK (.int 1)))), (zAx 0 99 (zL 3 0) (z2 (oI2 fun x y => x + y) (zL 0 3) (zK (.int 2)))), (zAx 0 99 (zL 3 0) (z2 (oI2 fun x y => x + y) (zL 0 3) (zK (.int 3))))]))) (zRet (zK (.int 0))) zSkip)
  zBrk)
def W_La_law_0_28 : zSt := (zSeq (zIf (zC2 1 (zAn 0 (zCv 10 F_JT_cut [(zL 3 1), (zAx 0 99 (zL 3 0) (z2 (oI2 fun x y => x + y) (zL 0 3) (zK (.int 1)))), (zAx 0 99 (zL 3 0) (z2 (oI2 fun x y => x + y) (zL 0 3) (zK (.int 2)))), (zAx 0 99 (zL 3 0) (z2 (oI2 fun x y => x + y) (zL 0 3) (zK (.int 3))))])) (zAn 0 (zCv 11 F_Mo_cut [(zL 3 2), (zAx 0 99 (zL 3 0) (z2 (oI2 fun x y => x + y) (zL 0 3) (zK (.int 1)))), (zAx 0 99 (zL 3 0) (z2 (oI2 fun x y => x + y) (zL 0 3) (zK (.int 2)))), (zAx 0 99 (zL 3 0) (z2 (oI2 fun x y => x + y) (zL 0 3) (zK (.int 3))))]))) (zRet (zK (.int 0))) zSkip)
  zBrk)
def W_La_law_0_29 : zSt := (zSeq (zIf (zC2 1 (zAn 0 (zCv 10 F_JT_cutBy [(zL 3 1), (zAx 0 99 (zL 3 0) (z2 (oI2 fun x y => x + y) (zL 0 3) (zK (.int 1)))), (zAx 0 99 (zL 3 0) (z2 (oI2 fun x y => x + y) (zL 0 3) (zK (.int 2)))), (zAx 0 99 (zL 3 0) (z2 (oI2 fun x y => x + y) (zL 0 3) (zK (.int 3)))), (zAx 0 99 (zL 3 0) (z2 (oI2 fun x y => x + y) (zL 0 3) (zK (.int 4))))])) (zAn 0 (zCv 11 F_Mo_cutBy [(zL 3 2), (zAx 0 99 (zL 3 0) (z2 (oI2 fun x y => x + y) (zL 0 3) (zK (.int 1)))), (zAx 0 99 (zL 3 0) (z2 (oI2 fun x y => x + y) (zL 0 3) (zK (.int 2)))), (zAx 0 99 (zL 3 0) (z2 (oI2 fun x y => x + y) (zL 0 3) (zK (.int 3)))), (zAx 0 99 (zL 3 0) (z2 (oI2 fun x y => x + y) (zL 0 3) (zK (.int 4))))]))) (zRet (zK (.int 0))) zSkip)
  zBrk)
def W_La_law_0_30 : zSt := (zSeq (zIf (zC2 1 (zAn 0 (zCv 10 F_JT_together [(zL 3 1), (zAx 0 99 (zL 3 0) (z2 (oI2 fun x y => x + y) (zL 0 3) (zK (.int 1)))), (zAx 0 99 (zL 3 0) (z2 (oI2 fun x y => x + y) (zL 0 3) (zK (.int 2)))), (zAx 0 99 (zL 3 0) (z2 (oI2 fun x y => x + y) (zL 0 3) (zK (.int 3))))])) (zAn 0 (zCv 11 F_Mo_together [(zL 3 2), (zAx 0 99 (zL 3 0) (z2 (oI2 fun x y => x + y) (zL 0 3) (zK (.int 1)))), (zAx 0 99 (zL 3 0) (z2 (oI2 fun x y => x + y) (zL 0 3) (zK (.int 2)))), (zAx 0 99 (zL 3 0) (z2 (oI2 fun x y => x + y) (zL 0 3) (zK (.int 3))))]))) (zRet (zK (.int 0))) zSkip)
  zBrk)
def W_La_law_0_31 : zSt := (zSeq (zIf (zC2 1 (zAn 0 (zCv 10 F_JT_groom [(zL 3 1), (zAx 0 99 (zL 3 0) (z2 (oI2 fun x y => x + y) (zL 0 3) (zK (.int 1)))), (zAx 0 99 (zL 3 0) (z2 (oI2 fun x y => x + y) (zL 0 3) (zK (.int 2)))), (zAx 0 99 (zL 3 0) (z2 (oI2 fun x y => x + y) (zL 0 3) (zK (.int 3)))), (zAx 0 99 (zL 3 0) (z2 (oI2 fun x y => x + y) (zL 0 3) (zK (.int 4))))])) (zAn 0 (zCv 11 F_Mo_groom [(zL 3 2), (zAx 0 99 (zL 3 0) (z2 (oI2 fun x y => x + y) (zL 0 3) (zK (.int 1)))), (zAx 0 99 (zL 3 0) (z2 (oI2 fun x y => x + y) (zL 0 3) (zK (.int 2)))), (zAx 0 99 (zL 3 0) (z2 (oI2 fun x y => x + y) (zL 0 3) (zK (.int 3)))), (zAx 0 99 (zL 3 0) (z2 (oI2 fun x y => x + y) (zL 0 3) (zK (.int 4))))]))) (zRet (zK (.int 0))) zSkip)
  zBrk)
def W_La_law_0_32 : zSt := (zSeq (zIf (zC1 1 (z2 oLcmp (zAn 1 (zCv 10 F_JT_trim [(zL 3 1), (zAx 0 99 (zL 3 0) (z2 (oI2 fun x y => x + y) (zL 0 3) (zK (.int 1)))), (zAx 0 99 (zL 3 0) (z2 (oI2 fun x y => x + y) (zL 0 3) (zK (.int 2)))), (zAx 0 99 (zL 3 0) (z2 (oI2 fun x y => x + y) (zL 0 3) (zK (.int 3)))), (zAx 0 99 (zL 3 0) (z2 (oI2 fun x y => x + y) (zL 0 3) (zK (.int 4))))])) (zAn 1 (zCv 11 F_Mo_trim [(zL 3 2), (zAx 0 99 (zL 3 0) (z2 (oI2 fun x y => x + y) (zL 0 3) (zK (.int 1)))), (zAx 0 99 (zL 3 0) (z2 (oI2 fun x y => x + y) (zL 0 3) (zK (.int 2)))), (zAx 0 99 (zL 3 0) (z2 (oI2 fun x y => x + y) (zL 0 3) (zK (.int 3)))), (zAx 0 99 (zL 3 0) (z2 (oI2 fun x y => x + y) (zL 0 3) (zK (.int 4))))])))) (zRet (zK (.int 0))) zSkip)
  zBrk)
def W_La_law_0_33 : zSt := (zSeq (zIf (zC1 1 (z2 oLcmp (zAn 1 (zCv 10 F_JT_prune [(zL 3 1), (zAx 0 99 (zL 3 0) (z2 (oI2 fun x y => x + y) (zL 0 3) (zK (.int 1)))), (zAx 0 99 (zL 3 0) (z2 (oI2 fun x y => x + y) (zL 0 3) (zK (.int 2)))), (zAx 0 99 (zL 3 0) (z2 (oI2 fun x y => x + y) (zL 0 3) (zK (.int 3)))), (zAx 0 99 (zL 3 0) (z2 (oI2 fun x y => x + y) (zL 0 3) (zK (.int 4))))])) (zAn 1 (zCv 11 F_Mo_prune [(zL 3 2), (zAx 0 99 (zL 3 0) (z2 (oI2 fun x y => x + y) (zL 0 3) (zK (.int 1)))), (zAx 0 99 (zL 3 0) (z2 (oI2 fun x y => x + y) (zL 0 3) (zK (.int 2)))), (zAx 0 99 (zL 3 0) (z2 (oI2 fun x y => x + y) (zL 0 3) (zK (.int 3)))), (zAx 0 99 (zL 3 0) (z2 (oI2 fun x y => x + y) (zL 0 3) (zK (.int 4))))])))) (zRet (zK (.int 0))) zSkip)
  zBrk)
def W_La_law_0_34 : zSt := (zSeq (zIf (zC2 1 (zAn 0 (zCv 10 F_JT_split [(zL 3 1), (zAx 0 99 (zL 3 0) (z2 (oI2 fun x y => x + y) (zL 0 3) (zK (.int 1)))), (zAx 0 99 (zL 3 0) (z2 (oI2 fun x y => x + y) (zL 0 3) (zK (.int 2)))), (zAx 0 99 (zL 3 0) (z2 (oI2 fun x y => x + y) (zL 0 3) (zK (.int 3)))), (zAx 0 99 (zL 3 0) (z2 (oI2 fun x y => x + y) (zL 0 3) (zK (.int 4))))])) (zAn 0 (zCv 11 F_Mo_split [(zL 3 2), (zAx 0 99 (zL 3 0) (z2 (oI2 fun x y => x + y) (zL 0 3) (zK (.int 1)))), (zAx 0 99 (zL 3 0) (z2 (oI2 fun x y => x + y) (zL 0 3) (zK (.int 2)))), (zAx 0 99 (zL 3 0) (z2 (oI2 fun x y => x + y) (zL 0 3) (zK (.int 3)))), (zAx 0 99 (zL 3 0) (z2 (oI2 fun x y => x + y) (zL 0 3) (zK (.int 4))))]))) (zRet (zK (.int 0))) zSkip)
  zBrk)
def W_La_law_0_35 : zSt := (zSeq (zIf (zC1 1 (z2 oLcmp (zAn 1 (zCv 10 F_JT_width [(zL 3 1), (zAx 0 99 (zL 3 0) (z2 (oI2 fun x y => x + y) (zL 0 3) (zK (.int 1)))), (zAx 0 99 (zL 3 0) (z2 (oI2 fun x y => x + y) (zL 0 3) (zK (.int 2))))])) (zAn 1 (zCv 11 F_Mo_width [(zL 3 2), (zAx 0 99 (zL 3 0) (z2 (oI2 fun x y => x + y) (zL 0 3) (zK (.int 1)))), (zAx 0 99 (zL 3 0) (z2 (oI2 fun x y => x + y) (zL 0 3) (zK (.int 2))))])))) (zRet (zK (.int 0))) zSkip)
  zBrk)
def W_La_law_0_36 : zSt := (zSeq (zIf (zC1 1 (z2 oLcmp (zAn 1 (zCv 10 F_JT_closeness [(zL 3 1), (zAx 0 99 (zL 3 0) (z2 (oI2 fun x y => x + y) (zL 0 3) (zK (.int 1)))), (zAx 0 99 (zL 3 0) (z2 (oI2 fun x y => x + y) (zL 0 3) (zK (.int 2))))])) (zAn 1 (zCv 11 F_Mo_closeness [(zL 3 2), (zAx 0 99 (zL 3 0) (z2 (oI2 fun x y => x + y) (zL 0 3) (zK (.int 1)))), (zAx 0 99 (zL 3 0) (z2 (oI2 fun x y => x + y) (zL 0 3) (zK (.int 2))))])))) (zRet (zK (.int 0))) zSkip)
  zBrk)
def W_La_law_0_37 : zSt := (zSeq (zIf (zC1 1 (z2 oLcmp (zAn 1 (zCv 10 F_JT_kept [(zL 3 1), (zAx 0 99 (zL 3 0) (z2 (oI2 fun x y => x + y) (zL 0 3) (zK (.int 1)))), (zAx 0 99 (zL 3 0) (z2 (oI2 fun x y => x + y) (zL 0 3) (zK (.int 2))))])) (zAn 1 (zCv 11 F_Mo_kept [(zL 3 2), (zAx 0 99 (zL 3 0) (z2 (oI2 fun x y => x + y) (zL 0 3) (zK (.int 1)))), (zAx 0 99 (zL 3 0) (z2 (oI2 fun x y => x + y) (zL 0 3) (zK (.int 2))))])))) (zRet (zK (.int 0))) zSkip)
  zBrk)
def W_La_law_0_38 : zSt := (zSeq (zIf (zC2 1 (zAn 0 (zCv 10 F_JT_within [(zL 3 1), (zAx 0 99 (zL 3 0) (z2 (oI2 fun x y => x + y) (zL 0 3) (zK (.int 1)))), (zAx 0 99 (zL 3 0) (z2 (oI2 fun x y => x + y) (zL 0 3) (zK (.int 2))))])) (zAn 0 (zCv 11 F_Mo_within [(zL 3 2), (zAx 0 99 (zL 3 0) (z2 (oI2 fun x y => x + y) (zL 0 3) (zK (.int 1)))), (zAx 0 99 (zL 3 0) (z2 (oI2 fun x y => x + y) (zL 0 3) (zK (.int 2))))]))) (zRet (zK (.int 0))) zSkip)
  zBrk)
def W_La_law_0_39 : zSt := (zSeq (zIf (zC1 1 (z2 oLcmp (zAn 1 (zCv 10 F_JT_tau [(zL 3 1), (zAx 0 99 (zL 3 0) (z2 (oI2 fun x y => x + y) (zL 0 3) (zK (.int 1)))), (zAx 0 99 (zL 3 0) (z2 (oI2 fun x y => x + y) (zL 0 3) (zK (.int 2)))), (zAx 0 99 (zL 3 0) (z2 (oI2 fun x y => x + y) (zL 0 3) (zK (.int 3))))])) (zAn 1 (zCv 11 F_Mo_tau [(zL 3 2), (zAx 0 99 (zL 3 0) (z2 (oI2 fun x y => x + y) (zL 0 3) (zK (.int 1)))), (zAx 0 99 (zL 3 0) (z2 (oI2 fun x y => x + y) (zL 0 3) (zK (.int 2)))), (zAx 0 99 (zL 3 0) (z2 (oI2 fun x y => x + y) (zL 0 3) (zK (.int 3))))])))) (zRet (zK (.int 0))) zSkip)
  zBrk)
def W_La_law_0_40 : zSt := (zSeq (zIf (zC2 1 (zAn 0 (zCv 10 F_JT_matched [(zL 3 1), (zAx 0 99 (zL 3 0) (z2 (oI2 fun x y => x + y) (zL 0 3) (zK (.int 1)))), (zAx 0 99 (zL 3 0) (z2 (oI2 fun x y => x + y) (zL 0 3) (zK (.int 2)))), (zAx 0 99 (zL 3 0) (z2 (oI2 fun x y => x + y) (zL 0 3) (zK (.int 3))))])) (zAn 0 (zCv 11 F_Mo_matched [(zL 3 2), (zAx 0 99 (zL 3 0) (z2 (oI2 fun x y => x + y) (zL 0 3) (zK (.int 1)))), (zAx 0 99 (zL 3 0) (z2 (oI2 fun x y => x + y) (zL 0 3) (zK (.int 2)))), (zAx 0 99 (zL 3 0) (z2 (oI2 fun x y => x + y) (zL 0 3) (zK (.int 3))))]))) (zRet (zK (.int 0))) zSkip)
  zBrk)
def W_La_law_0_41 : zSt := (zSeq (zIf (zC2 1 (zAn 0 (zCv 10 F_JT_alike [(zL 3 1), (zAx 0 99 (zL 3 0) (z2 (oI2 fun x y => x + y) (zL 0 3) (zK (.int 1)))), (zAx 0 99 (zL 3 0) (z2 (oI2 fun x y => x + y) (zL 0 3) (zK (.int 2))))])) (zAn 0 (zCv 11 F_Mo_alike [(zL 3 2), (zAx 0 99 (zL 3 0) (z2 (oI2 fun x y => x + y) (zL 0 3) (zK (.int 1)))), (zAx 0 99 (zL 3 0) (z2 (oI2 fun x y => x + y) (zL 0 3) (zK (.int 2))))]))) (zRet (zK (.int 0))) zSkip)
  zBrk)
def W_La_law_0_42 : zSt := (zSeq (zIf (zC2 1 (zAn 0 (zCv 10 F_JT_unlike [(zL 3 1), (zAx 0 99 (zL 3 0) (z2 (oI2 fun x y => x + y) (zL 0 3) (zK (.int 1)))), (zAx 0 99 (zL 3 0) (z2 (oI2 fun x y => x + y) (zL 0 3) (zK (.int 2))))])) (zAn 0 (zCv 11 F_Mo_unlike [(zL 3 2), (zAx 0 99 (zL 3 0) (z2 (oI2 fun x y => x + y) (zL 0 3) (zK (.int 1)))), (zAx 0 99 (zL 3 0) (z2 (oI2 fun x y => x + y) (zL 0 3) (zK (.int 2))))]))) (zRet (zK (.int 0))) zSkip)
  zBrk)
def W_La_law_0_43 : zSt := (zSeq (zIf (zC2 1 (zAn 0 (zCv 10 F_JT_backToBack [(zL 3 1), (zAx 0 99 (zL 3 0) (z2 (oI2 fun x y => x + y) (zL 0 3) (zK (.int 1))))])) (zAn 0 (zCv 11 F_Mo_backToBack [(zL 3 2), (zAx 0 99 (zL 3 0) (z2 (oI2 fun x y => x + y) (zL 0 3) (zK (.int 1))))]))) (zRet (zK (.int 0))) zSkip)
  zBrk)
def W_La_law_0_44 : zSt := (zSeq (zIf (zC2 1 (zAn 0 (zCv 10 F_JT_fresh [(zL 3 1), (zAx 0 99 (zL 3 0) (z2 (oI2 fun x y => x + y) (zL 0 3) (zK (.int 1))))])) (zAn 0 (zCv 11 F_Mo_fresh [(zL 3 2), (zAx 0 99 (zL 3 0) (z2 (oI2 fun x y => x + y) (zL 0 3) (zK (.int 1))))]))) (zRet (zK (.int 0))) zSkip)
  zBrk)
def W_La_law_0_45 : zSt := (zSeq (zIf (zC1 1 (z2 oLcmp (zAn 1 (zCv 10 F_JT_pair [(zL 3 1), (zAx 0 99 (zL 3 0) (z2 (oI2 fun x y => x + y) (zL 0 3) (zK (.int 1)))), (zAx 0 99 (zL 3 0) (z2 (oI2 fun x y => x + y) (zL 0 3) (zK (.int 2)))), (zAx 0 99 (zL 3 0) (z2 (oI2 fun x y => x + y) (zL 0 3) (zK (.int 3))))])) (zAn 1 (zCv 11 F_Mo_pair [(zL 3 2), (zAx 0 99 (zL 3 0) (z2 (oI2 fun x y => x + y) (zL 0 3) (zK (.int 1)))), (zAx 0 99 (zL 3 0) (z2 (oI2 fun x y => x + y) (zL 0 3) (zK (.int 2)))), (zAx 0 99 (zL 3 0) (z2 (oI2 fun x y => x + y) (zL 0 3) (zK (.int 3))))])))) (zRet (zK (.int 0))) zSkip)
  zBrk)
def W_La_law_0_46 : zSt := (zSeq (zIf (zC2 1 (zAn 0 (zCv 10 F_JT_nearestPair [(zL 3 1), (zAx 0 99 (zL 3 0) (z2 (oI2 fun x y => x + y) (zL 0 3) (zK (.int 1)))), (z2 (oL2 fun x y => x ||| y) (z2 (oLsh fun x y => x <<< (y.toInt64 &&& 63)) (z1 oI2l (zAx 0 99 (zL 3 0) (z2 (oI2 fun x y => x + y) (zL 0 3) (zK (.int 2))))) (zK (.int 32))) (z2 (oL2 fun x y => x &&& y) (z1 oI2l (zAx 0 99 (zL 3 0) (z2 (oI2 fun x y => x + y) (zL 0 3) (zK (.int 3))))) (zK (.long 4294967295))))])) (zAn 0 (zCv 11 F_Mo_nearestPair [(zL 3 2), (zAx 0 99 (zL 3 0) (z2 (oI2 fun x y => x + y) (zL 0 3) (zK (.int 1)))), (z2 (oL2 fun x y => x ||| y) (z2 (oLsh fun x y => x <<< (y.toInt64 &&& 63)) (z1 oI2l (zAx 0 99 (zL 3 0) (z2 (oI2 fun x y => x + y) (zL 0 3) (zK (.int 2))))) (zK (.int 32))) (z2 (oL2 fun x y => x &&& y) (z1 oI2l (zAx 0 99 (zL 3 0) (z2 (oI2 fun x y => x + y) (zL 0 3) (zK (.int 3))))) (zK (.long 4294967295))))]))) (zRet (zK (.int 0))) zSkip)
  zBrk)
def W_La_law_0_47 : zSt := (zSeq (zIf (zC2 1 (zAn 0 (zCv 10 F_JT_count [(zL 3 1), (zAx 0 99 (zL 3 0) (z2 (oI2 fun x y => x + y) (zL 0 3) (zK (.int 1)))), (zAx 0 99 (zL 3 0) (z2 (oI2 fun x y => x + y) (zL 0 3) (zK (.int 2)))), (zAx 0 99 (zL 3 0) (z2 (oI2 fun x y => x + y) (zL 0 3) (zK (.int 3))))])) (zAn 0 (zCv 11 F_Mo_count [(zL 3 2), (zAx 0 99 (zL 3 0) (z2 (oI2 fun x y => x + y) (zL 0 3) (zK (.int 1)))), (zAx 0 99 (zL 3 0) (z2 (oI2 fun x y => x + y) (zL 0 3) (zK (.int 2)))), (zAx 0 99 (zL 3 0) (z2 (oI2 fun x y => x + y) (zL 0 3) (zK (.int 3))))]))) (zRet (zK (.int 0))) zSkip)
  zBrk)
def W_La_law_0_48 : zSt := (zSeq (zIf (zC2 1 (zAn 0 (zCv 10 F_JT_common [(zL 3 1), (zAx 0 99 (zL 3 0) (z2 (oI2 fun x y => x + y) (zL 0 3) (zK (.int 1)))), (zAx 0 99 (zL 3 0) (z2 (oI2 fun x y => x + y) (zL 0 3) (zK (.int 2))))])) (zAn 0 (zCv 11 F_Mo_common_ [(zL 3 2), (zAx 0 99 (zL 3 0) (z2 (oI2 fun x y => x + y) (zL 0 3) (zK (.int 1)))), (zAx 0 99 (zL 3 0) (z2 (oI2 fun x y => x + y) (zL 0 3) (zK (.int 2))))]))) (zRet (zK (.int 0))) zSkip)
  zBrk)
def W_La_law_0_49 : zSt := (zSeq (zIf (zC2 1 (zAn 0 (zCv 10 F_JT_span [(zL 3 1), (zAx 0 99 (zL 3 0) (z2 (oI2 fun x y => x + y) (zL 0 3) (zK (.int 1)))), (zAx 0 99 (zL 3 0) (z2 (oI2 fun x y => x + y) (zL 0 3) (zK (.int 2))))])) (zAn 0 (zCv 11 F_Mo_span [(zL 3 2), (zAx 0 99 (zL 3 0) (z2 (oI2 fun x y => x + y) (zL 0 3) (zK (.int 1)))), (zAx 0 99 (zL 3 0) (z2 (oI2 fun x y => x + y) (zL 0 3) (zK (.int 2))))]))) (zRet (zK (.int 0))) zSkip)
  zBrk)
def W_La_law_0_50 : zSt := (zSeq (zIf (zC2 1 (zAn 0 (zCv 10 F_JT_gap [(zL 3 1), (zAx 0 99 (zL 3 0) (z2 (oI2 fun x y => x + y) (zL 0 3) (zK (.int 1))))])) (zAn 0 (zCv 11 F_Mo_gap [(zL 3 2), (zAx 0 99 (zL 3 0) (z2 (oI2 fun x y => x + y) (zL 0 3) (zK (.int 1))))]))) (zRet (zK (.int 0))) zSkip)
  zBrk)
def W_La_law_0_51 : zSt := (zSeq (zIf (zC2 1 (zAn 0 (zCv 10 F_JT_tiles [(zL 3 1), (zAx 0 99 (zL 3 0) (z2 (oI2 fun x y => x + y) (zL 0 3) (zK (.int 1)))), (zAx 0 99 (zL 3 0) (z2 (oI2 fun x y => x + y) (zL 0 3) (zK (.int 2))))])) (zAn 0 (zCv 11 F_Mo_tiles [(zL 3 2), (zAx 0 99 (zL 3 0) (z2 (oI2 fun x y => x + y) (zL 0 3) (zK (.int 1)))), (zAx 0 99 (zL 3 0) (z2 (oI2 fun x y => x + y) (zL 0 3) (zK (.int 2))))]))) (zRet (zK (.int 0))) zSkip)
  zBrk)
def W_La_law_0_52 : zSt := (zSeq (zIf (zC2 1 (zAn 0 (zCv 10 F_JT_cone [(zL 3 1), (zAx 0 99 (zL 3 0) (z2 (oI2 fun x y => x + y) (zL 0 3) (zK (.int 1)))), (zAx 0 99 (zL 3 0) (z2 (oI2 fun x y => x + y) (zL 0 3) (zK (.int 2)))), (zAx 0 99 (zL 3 0) (z2 (oI2 fun x y => x + y) (zL 0 3) (zK (.int 3)))), (zAx 0 99 (zL 3 0) (z2 (oI2 fun x y => x + y) (zL 0 3) (zK (.int 4))))])) (zAn 0 (zCv 11 F_Mo_cone [(zL 3 2), (zAx 0 99 (zL 3 0) (z2 (oI2 fun x y => x + y) (zL 0 3) (zK (.int 1)))), (zAx 0 99 (zL 3 0) (z2 (oI2 fun x y => x + y) (zL 0 3) (zK (.int 2)))), (zAx 0 99 (zL 3 0) (z2 (oI2 fun x y => x + y) (zL 0 3) (zK (.int 3)))), (zAx 0 99 (zL 3 0) (z2 (oI2 fun x y => x + y) (zL 0 3) (zK (.int 4))))]))) (zRet (zK (.int 0))) zSkip)
  zBrk)
def W_La_law_0_53 : zSt := (zSeq (zIf (zC1 1 (z2 oLcmp (zAn 1 (zCv 10 F_JT_still [(zL 3 1), (zAx 0 99 (zL 3 0) (z2 (oI2 fun x y => x + y) (zL 0 3) (zK (.int 1)))), (zAx 0 99 (zL 3 0) (z2 (oI2 fun x y => x + y) (zL 0 3) (zK (.int 2))))])) (zAn 1 (zCv 11 F_Mo_still [(zL 3 2), (zAx 0 99 (zL 3 0) (z2 (oI2 fun x y => x + y) (zL 0 3) (zK (.int 1)))), (zAx 0 99 (zL 3 0) (z2 (oI2 fun x y => x + y) (zL 0 3) (zK (.int 2))))])))) (zRet (zK (.int 0))) zSkip)
  zBrk)
def W_La_law_0_54 : zSt := (zSeq (zIf (zC1 1 (z2 oLcmp (zAn 1 (zCv 10 F_JT_patch [(zL 3 1), (zAx 0 99 (zL 3 0) (z2 (oI2 fun x y => x + y) (zL 0 3) (zK (.int 1)))), (zAx 0 99 (zL 3 0) (z2 (oI2 fun x y => x + y) (zL 0 3) (zK (.int 2)))), (zAx 0 99 (zL 3 0) (z2 (oI2 fun x y => x + y) (zL 0 3) (zK (.int 3))))])) (zAn 1 (zCv 11 F_Mo_patch [(zL 3 2), (zAx 0 99 (zL 3 0) (z2 (oI2 fun x y => x + y) (zL 0 3) (zK (.int 1)))), (zAx 0 99 (zL 3 0) (z2 (oI2 fun x y => x + y) (zL 0 3) (zK (.int 2)))), (zAx 0 99 (zL 3 0) (z2 (oI2 fun x y => x + y) (zL 0 3) (zK (.int 3))))])))) (zRet (zK (.int 0))) zSkip)
  zBrk)
def W_La_law_0_55 : zSt := (zSeq (zIf (zC2 1 (zAn 0 (zCv 10 F_JT_pedestal [(zL 3 1), (zAx 0 99 (zL 3 0) (z2 (oI2 fun x y => x + y) (zL 0 3) (zK (.int 1))))])) (zAn 0 (zCv 11 F_Mo_pedestal [(zL 3 2), (zAx 0 99 (zL 3 0) (z2 (oI2 fun x y => x + y) (zL 0 3) (zK (.int 1))))]))) (zRet (zK (.int 0))) zSkip)
  zBrk)
def W_La_law_0_56 : zSt := (zSeq (zIf (zC2 1 (zAn 0 (zCv 10 F_JT_clean [(zL 3 1), (zAx 0 99 (zL 3 0) (z2 (oI2 fun x y => x + y) (zL 0 3) (zK (.int 1)))), (zAx 0 99 (zL 3 0) (z2 (oI2 fun x y => x + y) (zL 0 3) (zK (.int 2)))), (zAx 0 99 (zL 3 0) (z2 (oI2 fun x y => x + y) (zL 0 3) (zK (.int 3))))])) (zAn 0 (zCv 11 F_Mo_clean [(zL 3 2), (zAx 0 99 (zL 3 0) (z2 (oI2 fun x y => x + y) (zL 0 3) (zK (.int 1)))), (zAx 0 99 (zL 3 0) (z2 (oI2 fun x y => x + y) (zL 0 3) (zK (.int 2)))), (zAx 0 99 (zL 3 0) (z2 (oI2 fun x y => x + y) (zL 0 3) (zK (.int 3))))]))) (zRet (zK (.int 0))) zSkip)
  zBrk)
def W_La_law_0_57 : zSt := (zSeq (zIf (zC2 1 (zAn 0 (zCv 10 F_JT_balance [(zL 3 1), (zAx 0 99 (zL 3 0) (z2 (oI2 fun x y => x + y) (zL 0 3) (zK (.int 1))))])) (zAn 0 (zCv 11 F_Mo_balance [(zL 3 2), (zAx 0 99 (zL 3 0) (z2 (oI2 fun x y => x + y) (zL 0 3) (zK (.int 1))))]))) (zRet (zK (.int 0))) zSkip)
  zBrk)
def W_La_law_0_58 : zSt := (zSeq (zIf (zC2 1 (zAn 0 (zCv 10 F_JT_axis [(zL 3 1)])) (zAn 0 (zCv 11 F_Mo_axis [(zL 3 2)]))) (zRet (zK (.int 0))) zSkip)
  zBrk)
def W_La_law_0_59 : zSt := (zSeq (zIf (zC2 1 (zAn 0 (zCv 10 F_JT_image [(zL 3 1)])) (zAn 0 (zCv 11 F_Mo_image [(zL 3 2)]))) (zRet (zK (.int 0))) zSkip)
  zBrk)
def W_La_law_0_60 : zSt := (zSeq (zIf (zC2 1 (zAn 0 (zCv 10 F_JT_back [(zL 3 1)])) (zAn 0 (zCv 11 F_Mo_back [(zL 3 2)]))) (zRet (zK (.int 0))) zSkip)
  zBrk)
def W_La_law_0_61 : zSt := (zSeq (zIf (zC2 1 (zAn 0 (zCv 10 F_JT_steps [(zL 3 1)])) (zAn 0 (zCv 11 F_Mo_steps [(zL 3 2)]))) (zRet (zK (.int 0))) zSkip)
  zBrk)
def W_La_law_0_62 : zSt := zBrk
def C_La_law_0 : zCx := (zC2 5 (zL 0 3) (z2 (oI2 fun x y => x - y) (zLen 99 (zL 3 0)) (zK (.int 6))))
def B_La_law_0 : zSt := (zSw (z2 (oI2 fun x y => x &&& y) (zAx 0 99 (zL 3 0) (zL 0 3)) (zK (.int 63))) (zSwF 0 [0, 1, 2, 3, 4, 5, 6, 7, 8, 9, 10, 11, 12, 13, 14, 15, 16, 17, 18, 19, 20, 21, 22, 23, 24, 25, 26, 27, 28, 29, 30, 31, 32, 33, 34, 35, 36, 37, 38, 39, 40, 41, 42, 43, 44, 45, 46, 47, 48, 49, 50, 51, 52, 53, 54, 55, 56, 57, 58, 59, 60, 61] 62) [W_La_law_0_0, W_La_law_0_1, W_La_law_0_2, W_La_law_0_3, W_La_law_0_4, W_La_law_0_5, W_La_law_0_6, W_La_law_0_7, W_La_law_0_8, W_La_law_0_9, W_La_law_0_10, W_La_law_0_11, W_La_law_0_12, W_La_law_0_13, W_La_law_0_14, W_La_law_0_15, W_La_law_0_16, W_La_law_0_17, W_La_law_0_18, W_La_law_0_19, W_La_law_0_20, W_La_law_0_21, W_La_law_0_22, W_La_law_0_23, W_La_law_0_24, W_La_law_0_25, W_La_law_0_26, W_La_law_0_27, W_La_law_0_28, W_La_law_0_29, W_La_law_0_30, W_La_law_0_31, W_La_law_0_32, W_La_law_0_33, W_La_law_0_34, W_La_law_0_35, W_La_law_0_36, W_La_law_0_37, W_La_law_0_38, W_La_law_0_39, W_La_law_0_40, W_La_law_0_41, W_La_law_0_42, W_La_law_0_43, W_La_law_0_44, W_La_law_0_45, W_La_law_0_46, W_La_law_0_47, W_La_law_0_48, W_La_law_0_49, W_La_law_0_50, W_La_law_0_51, W_La_law_0_52, W_La_law_0_53, W_La_law_0_54, W_La_law_0_55, W_La_law_0_56, W_La_law_0_57, W_La_law_0_58, W_La_law_0_59, W_La_law_0_60, W_La_law_0_61, W_La_law_0_62])
def T_La_law_0 : zSt := (zAsg 3 (z2 (oI2 fun x y => x + y) (zL 0 3) (zK (.int 6))))
def L_La_law_0 : zSt := zLp C_La_law_0 B_La_law_0 T_La_law_0
def S_La_law : zSt := (zSeq (zAsg 1 (zNew 10 6 [.null, .null, .int 0, .null, .null, .int 0] F_JT_init []))
  (zSeq (zAsg 2 (zNew 11 27 [.null, .null, .null, .null, .null, .null, .null, .null, .null, .null, .int 0, .int 0, .int 0, .int 0, .int 0, .null, .null, .int 0, .null, .null, .int 0, .int 0, .null, .int 0, .int 0, .null, .int 0] F_Mo_init []))
  (zSeq (zBl 3 (zSeq (zAsg 3 (zK (.int 0)))
  L_La_law_0))
  (zRet (zK (.int 1))))))
