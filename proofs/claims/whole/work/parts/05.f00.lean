-- JetTrees$Event.<init>([LJetTrees$Body;)V
def S_Ev_init : zSt := (zSeq zObj
  (zSeq (zPf 3 2 0 (zL 3 0) (zL 3 1))
  zRetV))
def F_Ev_init : zMt := zMeth [3, 3] 2 9 S_Ev_init
-- JetTrees$State.<init>()V
def C_St_init_0 : zCx := (zC2 2 (zL 0 1) (zK (.int 3)))
def B_St_init_0 : zSt := (zAs (zStK 68).1 68 (zStK 68).2 (zGf 3 5 5 (zL 3 0)) (zL 0 1) (zNew 2 1 [.null] F_Ev_init [(zNa 67 .null (zK (.int 0)))]))
def T_St_init_0 : zSt := (zAsg 1 (z2 (oI2 fun x y => x + y) (zL 0 1) (zK (.int 1))))
def L_St_init_0 : zSt := zLp C_St_init_0 B_St_init_0 T_St_init_0
def S_St_init : zSt := (zSeq zObj
  (zSeq (zPf 0 5 0 (zL 3 0) (zK (.int 40)))
  (zSeq (zPf 0 5 1 (zL 3 0) (zK (.int (-1))))
  (zSeq (zPf 0 5 2 (zL 3 0) (zK (.int 0)))
  (zSeq (zPf 0 5 3 (zL 3 0) (zK (.int 701)))
  (zSeq (zPf 0 5 4 (zL 3 0) (zK (.int 0)))
  (zSeq (zPf 3 5 5 (zL 3 0) (zNa 68 .null (zK (.int 3))))
  (zSeq (zBl 1 (zSeq (zAsg 1 (zK (.int 0)))
  L_St_init_0))
  (zSeq (zPf 3 5 6 (zL 3 0) (zNa 69 .null (zK (.int 4))))
  (zSeq (zPf 3 5 7 (zL 3 0) (zNa 73 .null (zK (.int 4))))
  zRetV))))))))))
def F_St_init : zMt := zMeth [3] 2 9 S_St_init
-- JetTrees.<init>()V
def S_JT_init : zSt := (zSeq zObj
  (zSeq (zPf 3 10 0 (zL 3 0) (zNew 5 8 [.int 0, .int 0, .int 0, .int 0, .int 0, .null, .null, .null] F_St_init []))
  (zSeq (zPf 3 10 1 (zL 3 0) (zNa 70 .null (zK (.int 20))))
  (zSeq (zPf 0 10 2 (zL 3 0) (zK (.int 0)))
  (zSeq (zPf 3 10 3 (zL 3 0) (zGf 3 10 0 (zL 3 0)))
  (zSeq (zPf 3 10 4 (zL 3 0) (zNa 70 .null (zK (.int 20))))
  (zSeq (zPf 0 10 5 (zL 3 0) (zK (.int 0)))
  zRetV)))))))
def F_JT_init : zMt := zMeth [3] 1 9 S_JT_init
-- JetTrees$Body.<init>(IIII)V
def S_Bo_init : zSt := (zSeq zObj
  (zSeq (zPf 0 0 0 (zL 3 0) (zL 0 1))
  (zSeq (zPf 0 0 1 (zL 3 0) (zL 0 2))
  (zSeq (zPf 0 0 2 (zL 3 0) (zL 0 3))
  (zSeq (zPf 0 0 3 (zL 3 0) (zL 0 4))
  zRetV)))))
def F_Bo_init : zMt := zMeth [3, 0, 0, 0, 0] 5 9 S_Bo_init
-- JetTrees.isRound(I)Z
def S_JT_isRound : zSt := (zRet (zBx (zAnd (zC1 3 (zL 0 0)) (zC2 2 (zL 0 0) (zK (.int 360))))))
def F_JT_isRound : zMt := zMeth [0] 1 4 S_JT_isRound
-- JetTrees.isPlace(II)Z
def S_JT_isPlace : zSt := (zRet (zBx (zAnd (zAnd (zC2 3 (zL 0 0) (zK (.int (-200)))) (zC2 5 (zL 0 0) (zK (.int 200)))) (zC1 1 (zAn 0 (zCs F_JT_isRound [(zL 0 1)]))))))
def F_JT_isPlace : zMt := zMeth [0, 0] 2 4 S_JT_isPlace
-- JetTrees.isWeight(I)Z
def S_JT_isWeight : zSt := (zRet (zBx (zAnd (zC2 3 (zL 0 0) (zK (.int 1))) (zC2 5 (zL 0 0) (zK (.int 9999))))))
def F_JT_isWeight : zMt := zMeth [0] 1 4 S_JT_isWeight
-- JetTrees.takeStep(LJetTrees$State;)V
def S_JT_takeStep : zSt := (zSeq (zIf (zC2 3 (zGf 0 10 2 (zL 3 0)) (zK (.int 20))) (zSeq (zCopy 70 (zStK 70).2 (zGf 3 10 1 (zL 3 0)) (zK (.int 1)) (zGf 3 10 1 (zL 3 0)) (zK (.int 0)) (zK (.int 19)))
  (zPf 0 10 2 (zL 3 0) (zK (.int 19)))) zSkip)
  (zSeq (zAs (zStK 70).1 70 (zStK 70).2 (zGf 3 10 1 (zL 3 0)) (zGf 0 10 2 (zL 3 0)) (zGf 3 10 0 (zL 3 0)))
  (zSeq (zPfo 0 10 2 (oI2 fun x y => x + y) (zL 3 0) (zK (.int 1)))
  (zSeq (zPf 3 10 0 (zL 3 0) (zL 3 1))
  zRetV))))
def F_JT_takeStep : zMt := zMeth [3, 3] 2 9 S_JT_takeStep
-- java/lang/Math.max(II)I
def S_Ma_max_7cf53 : zSt := (zRet (zIte (zC2 3 (zL 0 0) (zL 0 1)) (zL 0 0) (zL 0 1)))
def F_Ma_max_7cf53 : zMt := zMeth [0, 0] 2 0 S_Ma_max_7cf53
-- java/lang/Math.min(II)I
def S_Ma_min_7cf53 : zSt := (zRet (zIte (zC2 5 (zL 0 0) (zL 0 1)) (zL 0 0) (zL 0 1)))
def F_Ma_min_7cf53 : zMt := zMeth [0, 0] 2 0 S_Ma_min_7cf53
-- JetTrees$Event.copiedTo(I)[LJetTrees$Body;
def S_Ev_copiedTo : zSt := (zSeq (zAsg 2 (zNa 67 .null (zAn 0 (zCs F_Ma_max_7cf53 [(zK (.int 0)), (zL 0 1)]))))
  (zSeq (zCopy 67 (zStK 67).2 (zGf 3 2 0 (zL 3 0)) (zK (.int 0)) (zL 3 2) (zK (.int 0)) (zAn 0 (zCs F_Ma_min_7cf53 [(zLen 67 (zGf 3 2 0 (zL 3 0))), (zLen 67 (zL 3 2))])))
  (zRet (zL 3 2))))
def F_Ev_copiedTo : zMt := zMeth [3, 0] 3 3 S_Ev_copiedTo
-- JetTrees$Event.size()I
def S_Ev_size : zSt := (zRet (zLen 67 (zGf 3 2 0 (zL 3 0))))
def F_Ev_size : zMt := zMeth [3] 1 0 S_Ev_size
-- JetTrees$State.inHand()LJetTrees$Event;
def S_St_inHand : zSt := (zRet (zAx 3 68 (zGf 3 5 5 (zL 3 0)) (zGf 0 5 4 (zL 3 0))))
def F_St_inHand : zMt := zMeth [3] 1 3 S_St_inHand
-- JetTrees$State.<init>(LJetTrees$State;)V
def S_St_init_ : zSt := (zSeq zObj
  (zSeq (zPf 0 5 0 (zL 3 0) (zGf 0 5 0 (zL 3 1)))
  (zSeq (zPf 0 5 1 (zL 3 0) (zGf 0 5 1 (zL 3 1)))
  (zSeq (zPf 0 5 2 (zL 3 0) (zGf 0 5 2 (zL 3 1)))
  (zSeq (zPf 0 5 3 (zL 3 0) (zGf 0 5 3 (zL 3 1)))
  (zSeq (zPf 0 5 4 (zL 3 0) (zGf 0 5 4 (zL 3 1)))
  (zSeq (zPf 3 5 5 (zL 3 0) (zNa 68 .null (zK (.int 3))))
  (zSeq (zCopy 68 (zStK 68).2 (zGf 3 5 5 (zL 3 1)) (zK (.int 0)) (zGf 3 5 5 (zL 3 0)) (zK (.int 0)) (zK (.int 3)))
  (zSeq (zPf 3 5 6 (zL 3 0) (zNa 69 .null (zK (.int 4))))
  (zSeq (zCopy 69 (zStK 69).2 (zGf 3 5 6 (zL 3 1)) (zK (.int 0)) (zGf 3 5 6 (zL 3 0)) (zK (.int 0)) (zK (.int 4)))
  (zSeq (zPf 3 5 7 (zL 3 0) (zNa 73 .null (zK (.int 4))))
  (zSeq (zCopy 73 (zStK 73).2 (zGf 3 5 7 (zL 3 1)) (zK (.int 0)) (zGf 3 5 7 (zL 3 0)) (zK (.int 0)) (zK (.int 4)))
  zRetV))))))))))))
def F_St_init_ : zMt := zMeth [3, 3] 2 9 S_St_init_
-- JetTrees$State.withTracks([LJetTrees$Body;)LJetTrees$State;
def S_St_withTracks : zSt := (zSeq (zAsg 2 (zNew 5 8 [.int 0, .int 0, .int 0, .int 0, .int 0, .null, .null, .null] F_St_init_ [(zL 3 0)]))
  (zSeq (zAs (zStK 68).1 68 (zStK 68).2 (zGf 3 5 5 (zL 3 2)) (zGf 0 5 4 (zL 3 0)) (zNew 2 1 [.null] F_Ev_init [(zL 3 1)]))
  (zRet (zL 3 2))))
def F_St_withTracks : zMt := zMeth [3, 3] 3 3 S_St_withTracks
-- JetTrees.track(III)I
def S_JT_track : zSt := (zSeq (zAsg 4 (zAn 3 (zCv 5 F_St_inHand [(zGf 3 10 0 (zL 3 0))])))
  (zSeq (zAsg 5 (zAn 0 (zCv 2 F_Ev_size [(zL 3 4)])))
  (zSeq (zIf (zOr (zOr (zNot (zC1 1 (zAn 0 (zCs F_JT_isPlace [(zL 0 1), (zL 0 2)])))) (zNot (zC1 1 (zAn 0 (zCs F_JT_isWeight [(zL 0 3)]))))) (zC2 3 (zL 0 5) (zK (.int 40)))) (zRet (zK (.int (-1)))) zSkip)
  (zSeq (zAsg 6 (zAn 3 (zCv 2 F_Ev_copiedTo [(zL 3 4), (z2 (oI2 fun x y => x + y) (zL 0 5) (zK (.int 1)))])))
  (zSeq (zAs (zStK 67).1 67 (zStK 67).2 (zL 3 6) (zL 0 5) (zNew 0 4 [.int 0, .int 0, .int 0, .int 0] F_Bo_init [(zL 0 5), (zL 0 1), (zL 0 2), (zL 0 3)]))
  (zSeq (zDo (zCv 10 F_JT_takeStep [(zL 3 0), (zAn 3 (zCv 5 F_St_withTracks [(zGf 3 10 0 (zL 3 0)), (zL 3 6)]))]))
  (zRet (zL 0 5))))))))
def F_JT_track : zMt := zMeth [3, 0, 0, 0] 7 0 S_JT_track
-- JetTrees.replaceTrack(LJetTrees$Body;)V
def S_JT_replaceTrack : zSt := (zSeq (zAsg 2 (zAn 3 (zCv 2 F_Ev_copiedTo [(zAn 3 (zCv 5 F_St_inHand [(zGf 3 10 0 (zL 3 0))])), (zAn 0 (zCv 2 F_Ev_size [(zAn 3 (zCv 5 F_St_inHand [(zGf 3 10 0 (zL 3 0))]))]))])))
  (zSeq (zAs (zStK 67).1 67 (zStK 67).2 (zL 3 2) (zGf 0 0 0 (zL 3 1)) (zL 3 1))
  (zSeq (zDo (zCv 10 F_JT_takeStep [(zL 3 0), (zAn 3 (zCv 5 F_St_withTracks [(zGf 3 10 0 (zL 3 0)), (zL 3 2)]))]))
  zRetV)))
def F_JT_replaceTrack : zMt := zMeth [3, 3] 3 9 S_JT_replaceTrack
-- JetTrees$Event.trackAt(I)LJetTrees$Body;
def S_Ev_trackAt : zSt := (zRet (zIte (zOr (zC1 2 (zL 0 1)) (zC2 3 (zL 0 1) (zLen 67 (zGf 3 2 0 (zL 3 0))))) (zK .null) (zAx 3 67 (zGf 3 2 0 (zL 3 0)) (zL 0 1))))
def F_Ev_trackAt : zMt := zMeth [3, 0] 2 3 S_Ev_trackAt
-- JetTrees.move(III)Z
def S_JT_move : zSt := (zSeq (zAsg 4 (zAn 3 (zCv 2 F_Ev_trackAt [(zAn 3 (zCv 5 F_St_inHand [(zGf 3 10 0 (zL 3 0))])), (zL 0 1)])))
  (zSeq (zIf (zOr (zCn (zL 3 4)) (zNot (zC1 1 (zAn 0 (zCs F_JT_isPlace [(zL 0 2), (zL 0 3)]))))) (zRet (zK (.int 0))) zSkip)
  (zSeq (zDo (zCv 10 F_JT_replaceTrack [(zL 3 0), (zNew 0 4 [.int 0, .int 0, .int 0, .int 0] F_Bo_init [(zL 0 1), (zL 0 2), (zL 0 3), (zGf 0 0 3 (zL 3 4))])]))
  (zRet (zK (.int 1))))))
def F_JT_move : zMt := zMeth [3, 0, 0, 0] 5 4 S_JT_move
-- JetTrees.weigh(II)Z
def S_JT_weigh : zSt := (zSeq (zAsg 3 (zAn 3 (zCv 2 F_Ev_trackAt [(zAn 3 (zCv 5 F_St_inHand [(zGf 3 10 0 (zL 3 0))])), (zL 0 1)])))
  (zSeq (zIf (zOr (zCn (zL 3 3)) (zNot (zC1 1 (zAn 0 (zCs F_JT_isWeight [(zL 0 2)]))))) (zRet (zK (.int 0))) zSkip)
  (zSeq (zDo (zCv 10 F_JT_replaceTrack [(zL 3 0), (zNew 0 4 [.int 0, .int 0, .int 0, .int 0] F_Bo_init [(zL 0 1), (zGf 0 0 1 (zL 3 3)), (zGf 0 0 2 (zL 3 3)), (zL 0 2)])]))
  (zRet (zK (.int 1))))))
def F_JT_weigh : zMt := zMeth [3, 0, 0] 4 4 S_JT_weigh
-- JetTrees$Body.numbered(I)LJetTrees$Body;
def S_Bo_numbered : zSt := (zRet (zNew 0 4 [.int 0, .int 0, .int 0, .int 0] F_Bo_init [(zL 0 1), (zGf 0 0 1 (zL 3 0)), (zGf 0 0 2 (zL 3 0)), (zGf 0 0 3 (zL 3 0))]))
def F_Bo_numbered : zMt := zMeth [3, 0] 2 3 S_Bo_numbered
-- JetTrees.drop(I)I
def C_JT_drop_0 : zCx := (zC2 2 (zL 0 5) (zL 0 3))
def B_JT_drop_0 : zSt := (zAs (zStK 67).1 67 (zStK 67).2 (zL 3 4) (zL 0 5) (zAn 3 (zCv 0 F_Bo_numbered [(zAx 3 67 (zGf 3 2 0 (zL 3 2)) (z2 (oI2 fun x y => x + y) (zL 0 5) (zK (.int 1)))), (zL 0 5)])))
def T_JT_drop_0 : zSt := (zAsg 5 (z2 (oI2 fun x y => x + y) (zL 0 5) (zK (.int 1))))
def L_JT_drop_0 : zSt := zLp C_JT_drop_0 B_JT_drop_0 T_JT_drop_0
def S_JT_drop : zSt := (zSeq (zAsg 2 (zAn 3 (zCv 5 F_St_inHand [(zGf 3 10 0 (zL 3 0))])))
  (zSeq (zIf (zCn (zAn 3 (zCv 2 F_Ev_trackAt [(zL 3 2), (zL 0 1)]))) (zRet (zK (.int (-1)))) zSkip)
  (zSeq (zAsg 3 (z2 (oI2 fun x y => x - y) (zAn 0 (zCv 2 F_Ev_size [(zL 3 2)])) (zK (.int 1))))
  (zSeq (zAsg 4 (zAn 3 (zCv 2 F_Ev_copiedTo [(zL 3 2), (zL 0 3)])))
  (zSeq (zBl 5 (zSeq (zAsg 5 (zL 0 1))
  L_JT_drop_0))
  (zSeq (zDo (zCv 10 F_JT_takeStep [(zL 3 0), (zAn 3 (zCv 5 F_St_withTracks [(zGf 3 10 0 (zL 3 0)), (zL 3 4)]))]))
  (zRet (zL 0 3))))))))
def F_JT_drop : zMt := zMeth [3, 0] 6 0 S_JT_drop
-- java/lang/Math.floorMod(II)I
def S_Ma_floorMod_7cf53 : zSt := (zSeq (zAsg 2 (z2 oIrem (zL 0 0) (zL 0 1)))
  (zSeq (zIf (zAnd (zC1 2 (z2 (oI2 fun x y => x ^^^ y) (zL 0 0) (zL 0 1))) (zC1 1 (zL 0 2))) (zRet (z2 (oI2 fun x y => x + y) (zL 0 2) (zL 0 1))) zSkip)
  (zRet (zL 0 2))))
def F_Ma_floorMod_7cf53 : zMt := zMeth [0, 0] 3 0 S_Ma_floorMod_7cf53
-- JetTrees.nextX(I)I
def S_JT_nextX : zSt := (zRet (z2 oIrem (z2 (oI2 fun x y => x + y) (z2 (oI2 fun x y => x * y) (zL 0 0) (zK (.int 821))) (zK (.int 631))) (zK (.int 30091))))
def F_JT_nextX : zMt := zMeth [0] 1 0 S_JT_nextX
-- JetTrees.drawn(IIII)I
def C_JT_drawn_0 : zCx := (zC2 2 (zL 0 11) (zL 0 7))
def B_JT_drawn_0 : zSt := (zBl 12 (zSeq (zAsg 9 (zAn 0 (zCs F_JT_nextX [(zL 0 9)])))
  (zSeq (zAsg 12 (z2 (oI2 fun x y => x - y) (z2 (oI2 fun x y => x + y) (zL 0 1) (zAn 0 (zCs F_Ma_floorMod_7cf53 [(zL 0 9), (zL 0 10)]))) (zL 0 3)))
  (zSeq (zAsg 9 (zAn 0 (zCs F_JT_nextX [(zL 0 9)])))
  (zSeq (zAsg 13 (zAn 0 (zCs F_Ma_floorMod_7cf53 [(z2 (oI2 fun x y => x - y) (z2 (oI2 fun x y => x + y) (zL 0 2) (zAn 0 (zCs F_Ma_floorMod_7cf53 [(zL 0 9), (zL 0 10)]))) (zL 0 3)), (zK (.int 360))])))
  (zSeq (zAsg 9 (zAn 0 (zCs F_JT_nextX [(zL 0 9)])))
  (zSeq (zAsg 14 (zAn 0 (zCs F_Ma_max_7cf53 [(zK (.int (-200))), (zAn 0 (zCs F_Ma_min_7cf53 [(zK (.int 200)), (zL 0 12)]))])))
  (zAs (zStK 67).1 67 (zStK 67).2 (zL 3 8) (zL 0 11) (zNew 0 4 [.int 0, .int 0, .int 0, .int 0] F_Bo_init [(zL 0 11), (zL 0 14), (zL 0 13), (z2 (oI2 fun x y => x + y) (z2 oIrem (zL 0 9) (zK (.int 500))) (zK (.int 1)))])))))))))
def T_JT_drawn_0 : zSt := (zAsg 11 (z2 (oI2 fun x y => x + y) (zL 0 11) (zK (.int 1))))
def L_JT_drawn_0 : zSt := zLp C_JT_drawn_0 B_JT_drawn_0 T_JT_drawn_0
def S_JT_drawn : zSt := (zSeq (zIf (zOr (zOr (zOr (zOr (zNot (zC1 1 (zAn 0 (zCs F_JT_isPlace [(zL 0 1), (zL 0 2)])))) (zC1 2 (zL 0 3))) (zC2 4 (zL 0 3) (zK (.int 60)))) (zC2 2 (zL 0 4) (zK (.int 1)))) (zC2 4 (zL 0 4) (zK (.int 20)))) (zRet (zK (.int (-1)))) zSkip)
  (zSeq (zAsg 5 (zAn 3 (zCv 5 F_St_inHand [(zGf 3 10 0 (zL 3 0))])))
  (zSeq (zAsg 6 (zAn 0 (zCv 2 F_Ev_size [(zL 3 5)])))
  (zSeq (zAsg 7 (z2 (oI2 fun x y => x + y) (zL 0 6) (zL 0 4)))
  (zSeq (zIf (zC2 4 (zL 0 7) (zK (.int 40))) (zRet (zK (.int (-1)))) zSkip)
  (zSeq (zAsg 8 (zAn 3 (zCv 2 F_Ev_copiedTo [(zL 3 5), (zL 0 7)])))
  (zSeq (zAsg 9 (zGf 0 5 3 (zGf 3 10 0 (zL 3 0))))
  (zSeq (zAsg 10 (z2 (oI2 fun x y => x + y) (z2 (oI2 fun x y => x * y) (zK (.int 2)) (zL 0 3)) (zK (.int 1))))
  (zSeq (zBl 11 (zSeq (zAsg 11 (zL 0 6))
  L_JT_drawn_0))
  (zSeq (zAsg 11 (zAn 3 (zCv 5 F_St_withTracks [(zGf 3 10 0 (zL 3 0)), (zL 3 8)])))
  (zSeq (zPf 0 5 3 (zL 3 11) (zL 0 9))
  (zSeq (zDo (zCv 10 F_JT_takeStep [(zL 3 0), (zL 3 11)]))
  (zRet (zL 0 7))))))))))))))
def F_JT_drawn : zMt := zMeth [3, 0, 0, 0, 0] 15 0 S_JT_drawn
-- JetTrees.tell(I)Z
def S_JT_tell : zSt := (zSeq (zIf (zOr (zC1 2 (zL 0 1)) (zC2 3 (zL 0 1) (zK (.int 30091)))) (zRet (zK (.int 0))) zSkip)
  (zSeq (zAsg 2 (zNew 5 8 [.int 0, .int 0, .int 0, .int 0, .int 0, .null, .null, .null] F_St_init_ [(zGf 3 10 0 (zL 3 0))]))
  (zSeq (zPf 0 5 3 (zL 3 2) (zL 0 1))
  (zSeq (zPf 3 10 0 (zL 3 0) (zL 3 2))
  (zRet (zK (.int 1)))))))
def F_JT_tell : zMt := zMeth [3, 0] 3 4 S_JT_tell
-- JetTrees.isPower(I)Z
def S_JT_isPower : zSt := (zRet (zBx (zAnd (zC2 3 (zL 0 0) (zK (.int (-1)))) (zC2 5 (zL 0 0) (zK (.int 1))))))
def F_JT_isPower : zMt := zMeth [0] 1 4 S_JT_isPower
-- JetTrees.isRadius(I)Z
def S_JT_isRadius : zSt := (zRet (zBx (zAnd (zC2 3 (zL 0 0) (zK (.int 1))) (zC2 5 (zL 0 0) (zK (.int 200))))))
def F_JT_isRadius : zMt := zMeth [0] 1 4 S_JT_isRadius
-- JetTrees.set(II)Z
def S_JT_set : zSt := (zSeq (zAsg 3 (zNew 5 8 [.int 0, .int 0, .int 0, .int 0, .int 0, .null, .null, .null] F_St_init_ [(zGf 3 10 0 (zL 3 0))]))
  (zSeq (zIf (zAnd (zC1 0 (zL 0 1)) (zC1 1 (zAn 0 (zCs F_JT_isRadius [(zL 0 2)])))) (zPf 0 5 0 (zL 3 3) (zL 0 2)) (zIf (zAnd (zC2 0 (zL 0 1) (zK (.int 1))) (zC1 1 (zAn 0 (zCs F_JT_isPower [(zL 0 2)])))) (zPf 0 5 1 (zL 3 3) (zL 0 2)) (zIf (zAnd (zC2 0 (zL 0 1) (zK (.int 2))) (zOr (zC1 0 (zL 0 2)) (zC2 0 (zL 0 2) (zK (.int 1))))) (zPf 0 5 2 (zL 3 3) (zL 0 2)) (zRet (zK (.int 0))))))
  (zSeq (zDo (zCv 10 F_JT_takeStep [(zL 3 0), (zL 3 3)]))
  (zRet (zK (.int 1))))))
def F_JT_set : zMt := zMeth [3, 0, 0] 4 4 S_JT_set
-- JetTrees.bitOf(I)J
def S_JT_bitOf : zSt := (zRet (z2 (oLsh fun x y => x <<< (y.toInt64 &&& 63)) (zK (.long 1)) (zL 0 0)))
def F_JT_bitOf : zMt := zMeth [0] 1 1 S_JT_bitOf
-- JetTrees$Gatherer.offer(IIJJ)V
def S_Ga_offer : zSt := (zSeq (zAsg 7 (zIte (zC1 4 (zGf 0 9 1 (zGf 3 3 1 (zL 3 0)))) (z2 (oL2 fun x y => x * y) (zL 1 3) (zL 1 5)) (zL 1 3)))
  (zSeq (zAsg 9 (zIte (zC1 2 (zGf 0 9 1 (zGf 3 3 1 (zL 3 0)))) (zL 1 5) (zK (.long 1))))
  (zSeq (zIf (zOr (zC2 0 (zGf 0 3 5 (zL 3 0)) (zK (.int (-1)))) (zC1 2 (z2 oLcmp (z2 (oL2 fun x y => x * y) (zL 1 7) (zGf 1 3 8 (zL 3 0))) (z2 (oL2 fun x y => x * y) (zGf 1 3 7 (zL 3 0)) (zL 1 9))))) (zSeq (zPf 0 3 5 (zL 3 0) (zL 0 1))
  (zSeq (zPf 0 3 6 (zL 3 0) (zL 0 2))
  (zSeq (zPf 1 3 7 (zL 3 0) (zL 1 7))
  (zPf 1 3 8 (zL 3 0) (zL 1 9))))) zSkip)
  zRetV)))
def F_Ga_offer : zMt := zMeth [3, 0, 0, 1, 1] 11 9 S_Ga_offer
-- JetTrees$Gatherer.offerAlone(I)V
def S_Ga_offerAlone : zSt := (zSeq (zAsg 2 (z1 oI2l (zGf 0 0 3 (zGf 3 4 0 (zAx 3 71 (zGf 3 3 3 (zL 3 0)) (zL 0 1))))))
  (zSeq (zDo (zCv 3 F_Ga_offer [(zL 3 0), (zL 0 1), (zK (.int (-1))), (z2 (oL2 fun x y => x * y) (z1 oI2l (zGf 0 9 0 (zGf 3 3 1 (zL 3 0)))) (z1 oI2l (zGf 0 9 0 (zGf 3 3 1 (zL 3 0))))), (z2 (oL2 fun x y => x * y) (zL 1 2) (zL 1 2))]))
  zRetV))
def F_Ga_offerAlone : zMt := zMeth [3, 0] 4 9 S_Ga_offerAlone
-- java/lang/Math.abs(I)I
def S_Ma_abs_0f7a4 : zSt := (zRet (zIte (zC1 2 (zL 0 0)) (z1 (oI1 fun x => -x) (zL 0 0)) (zL 0 0)))
def F_Ma_abs_0f7a4 : zMt := zMeth [0] 1 0 S_Ma_abs_0f7a4
-- JetTrees$Body.lesserWay(II)I
def S_Bo_lesserWay : zSt := (zSeq (zAsg 2 (zAn 0 (zCs F_Ma_abs_0f7a4 [(z2 (oI2 fun x y => x - y) (zL 0 0) (zL 0 1))])))
  (zRet (zAn 0 (zCs F_Ma_min_7cf53 [(zL 0 2), (z2 (oI2 fun x y => x - y) (zK (.int 360)) (zL 0 2))]))))
def F_Bo_lesserWay : zMt := zMeth [0, 0] 3 0 S_Bo_lesserWay
-- JetTrees$Body.squareTo(II)I
def S_Bo_squareTo_ : zSt := (zSeq (zAsg 3 (z2 (oI2 fun x y => x - y) (zGf 0 0 1 (zL 3 0)) (zL 0 1)))
  (zSeq (zAsg 4 (zAn 0 (zCs F_Bo_lesserWay [(zGf 0 0 2 (zL 3 0)), (zL 0 2)])))
  (zRet (z2 (oI2 fun x y => x + y) (z2 (oI2 fun x y => x * y) (zL 0 3) (zL 0 3)) (z2 (oI2 fun x y => x * y) (zL 0 4) (zL 0 4))))))
def F_Bo_squareTo_ : zMt := zMeth [3, 0, 0] 5 0 S_Bo_squareTo_
-- JetTrees$Body.squareTo(LJetTrees$Body;)I
def S_Bo_squareTo : zSt := (zRet (zAn 0 (zCv 0 F_Bo_squareTo_ [(zL 3 0), (zGf 0 0 1 (zL 3 1)), (zGf 0 0 2 (zL 3 1))])))
def F_Bo_squareTo : zMt := zMeth [3, 3] 2 0 S_Bo_squareTo
-- JetTrees$Gatherer.offerTwo(II)V
def S_Ga_offerTwo : zSt := (zSeq (zAsg 3 (zGf 3 4 0 (zAx 3 71 (zGf 3 3 3 (zL 3 0)) (zL 0 1))))
  (zSeq (zAsg 4 (zGf 3 4 0 (zAx 3 71 (zGf 3 3 3 (zL 3 0)) (zL 0 2))))
  (zSeq (zAsg 5 (zIte (zC1 4 (zGf 0 9 1 (zGf 3 3 1 (zL 3 0)))) (z1 oI2l (zAn 0 (zCs F_Ma_min_7cf53 [(zGf 0 0 3 (zL 3 3)), (zGf 0 0 3 (zL 3 4))]))) (z1 oI2l (zAn 0 (zCs F_Ma_max_7cf53 [(zGf 0 0 3 (zL 3 3)), (zGf 0 0 3 (zL 3 4))])))))
  (zSeq (zDo (zCv 3 F_Ga_offer [(zL 3 0), (zL 0 1), (zL 0 2), (z1 oI2l (zAn 0 (zCv 0 F_Bo_squareTo [(zL 3 3), (zL 3 4)]))), (z2 (oL2 fun x y => x * y) (zL 1 5) (zL 1 5))]))
  zRetV))))
def F_Ga_offerTwo : zMt := zMeth [3, 0, 0] 7 9 S_Ga_offerTwo
-- JetTrees$Gatherer.findLeast()V
def C_Ga_findLeast_0 : zCx := (zC2 2 (zL 0 1) (zGf 0 3 4 (zL 3 0)))
def B_Ga_findLeast_0 : zSt := (zDo (zCv 3 F_Ga_offerAlone [(zL 3 0), (zL 0 1)]))
def T_Ga_findLeast_0 : zSt := (zAsg 1 (z2 (oI2 fun x y => x + y) (zL 0 1) (zK (.int 1))))
def L_Ga_findLeast_0 : zSt := zLp C_Ga_findLeast_0 B_Ga_findLeast_0 T_Ga_findLeast_0
def C_Ga_findLeast_2 : zCx := (zC2 2 (zL 0 2) (zGf 0 3 4 (zL 3 0)))
def B_Ga_findLeast_2 : zSt := (zDo (zCv 3 F_Ga_offerTwo [(zL 3 0), (zL 0 1), (zL 0 2)]))
def T_Ga_findLeast_2 : zSt := (zAsg 2 (z2 (oI2 fun x y => x + y) (zL 0 2) (zK (.int 1))))
def L_Ga_findLeast_2 : zSt := zLp C_Ga_findLeast_2 B_Ga_findLeast_2 T_Ga_findLeast_2
def C_Ga_findLeast_1 : zCx := (zC2 2 (zL 0 1) (zGf 0 3 4 (zL 3 0)))
def B_Ga_findLeast_1 : zSt := (zBl 2 (zSeq (zAsg 2 (z2 (oI2 fun x y => x + y) (zL 0 1) (zK (.int 1))))
  L_Ga_findLeast_2))
def T_Ga_findLeast_1 : zSt := (zAsg 1 (z2 (oI2 fun x y => x + y) (zL 0 1) (zK (.int 1))))
def L_Ga_findLeast_1 : zSt := zLp C_Ga_findLeast_1 B_Ga_findLeast_1 T_Ga_findLeast_1
def S_Ga_findLeast : zSt := (zSeq (zPf 0 3 5 (zL 3 0) (zK (.int (-1))))
  (zSeq (zPf 0 3 6 (zL 3 0) (zK (.int (-1))))
  (zSeq (zBl 1 (zSeq (zAsg 1 (zK (.int 0)))
  L_Ga_findLeast_0))
  (zSeq (zBl 1 (zSeq (zAsg 1 (zK (.int 0)))
  L_Ga_findLeast_1))
  zRetV))))
def F_Ga_findLeast : zMt := zMeth [3] 3 9 S_Ga_findLeast
-- JetTrees$Body.isAheadOf(LJetTrees$Body;)Z
def S_Bo_isAheadOf : zSt := (zSeq (zIf (zC2 1 (zGf 0 0 1 (zL 3 0)) (zGf 0 0 1 (zL 3 1))) (zRet (zBx (zC2 2 (zGf 0 0 1 (zL 3 0)) (zGf 0 0 1 (zL 3 1))))) zSkip)
  (zSeq (zIf (zC2 1 (zGf 0 0 2 (zL 3 0)) (zGf 0 0 2 (zL 3 1))) (zRet (zBx (zC2 2 (zGf 0 0 2 (zL 3 0)) (zGf 0 0 2 (zL 3 1))))) zSkip)
  (zSeq (zIf (zC2 1 (zGf 0 0 3 (zL 3 0)) (zGf 0 0 3 (zL 3 1))) (zRet (zBx (zC2 2 (zGf 0 0 3 (zL 3 0)) (zGf 0 0 3 (zL 3 1))))) zSkip)
  (zRet (zBx (zC2 2 (zGf 0 0 0 (zL 3 0)) (zGf 0 0 0 (zL 3 1))))))))
def F_Bo_isAheadOf : zMt := zMeth [3, 3] 2 4 S_Bo_isAheadOf
-- JetTrees$Tree.isJetBefore(LJetTrees$Body;LJetTrees$Body;)Z
def S_Tr_isJetBefore : zSt := (zRet (zIte (zC2 1 (zGf 0 0 3 (zL 3 0)) (zGf 0 0 3 (zL 3 1))) (zBx (zC2 4 (zGf 0 0 3 (zL 3 0)) (zGf 0 0 3 (zL 3 1)))) (zAn 0 (zCv 0 F_Bo_isAheadOf [(zL 3 0), (zL 3 1)]))))
def F_Tr_isJetBefore : zMt := zMeth [3, 3] 2 4 S_Tr_isJetBefore
-- JetTrees$Tree.addJet(LJetTrees$Knot;)V
def C_Tr_addJet_0 : zCx := (zAnd (zC1 4 (zL 0 3)) (zC1 1 (zAn 0 (zCs F_Tr_isJetBefore [(zGf 3 4 0 (zL 3 1)), (zGf 3 4 0 (zAx 3 71 (zGf 3 9 8 (zL 3 0)) (z2 (oI2 fun x y => x - y) (zL 0 3) (zK (.int 1)))))]))))
def B_Tr_addJet_0 : zSt := (zSeq (zAs (zStK 71).1 71 (zStK 71).2 (zGf 3 9 8 (zL 3 0)) (zL 0 3) (zAx 3 71 (zGf 3 9 8 (zL 3 0)) (z2 (oI2 fun x y => x - y) (zL 0 3) (zK (.int 1)))))
  (zAsg 2 (z2 (oI2 fun x y => x - y) (zL 0 3) (zK (.int 1)))))
def T_Tr_addJet_0 : zSt := (zAsg 3 (z2 (oI2 fun x y => x + y) (zL 0 3) (zK (.int (-1)))))
def L_Tr_addJet_0 : zSt := zLp C_Tr_addJet_0 B_Tr_addJet_0 T_Tr_addJet_0
def S_Tr_addJet : zSt := (zSeq (zIf (zC2 3 (zGf 0 9 9 (zL 3 0)) (zLen 71 (zGf 3 9 8 (zL 3 0)))) zRetV zSkip)
  (zSeq (zAsg 2 (zGf 0 9 9 (zL 3 0)))
  (zSeq (zBl 3 (zSeq (zAsg 3 (zGf 0 9 9 (zL 3 0)))
  L_Tr_addJet_0))
  (zSeq (zAs (zStK 71).1 71 (zStK 71).2 (zGf 3 9 8 (zL 3 0)) (zL 0 2) (zL 3 1))
  (zSeq (zPfo 0 9 9 (oI2 fun x y => x + y) (zL 3 0) (zK (.int 1)))
  zRetV)))))
def F_Tr_addJet : zMt := zMeth [3, 3] 4 9 S_Tr_addJet
-- JetTrees$Tree.addStep(LJetTrees$Step;)V
def S_Tr_addStep : zSt := (zSeq (zIf (zC2 2 (zGf 0 9 7 (zL 3 0)) (zLen 72 (zGf 3 9 6 (zL 3 0)))) (zSeq (zAs (zStK 72).1 72 (zStK 72).2 (zGf 3 9 6 (zL 3 0)) (zGf 0 9 7 (zL 3 0)) (zL 3 1))
  (zPfo 0 9 7 (oI2 fun x y => x + y) (zL 3 0) (zK (.int 1)))) zSkip)
  zRetV)
def F_Tr_addStep : zMt := zMeth [3, 3] 2 9 S_Tr_addStep
-- JetTrees$Gatherer.takeOut(I)V
def C_Ga_takeOut_0 : zCx := (zC2 2 (z2 (oI2 fun x y => x + y) (zL 0 2) (zK (.int 1))) (zGf 0 3 4 (zL 3 0)))
def B_Ga_takeOut_0 : zSt := (zAs (zStK 71).1 71 (zStK 71).2 (zGf 3 3 3 (zL 3 0)) (zL 0 2) (zAx 3 71 (zGf 3 3 3 (zL 3 0)) (z2 (oI2 fun x y => x + y) (zL 0 2) (zK (.int 1)))))
def T_Ga_takeOut_0 : zSt := (zAsg 2 (z2 (oI2 fun x y => x + y) (zL 0 2) (zK (.int 1))))
def L_Ga_takeOut_0 : zSt := zLp C_Ga_takeOut_0 B_Ga_takeOut_0 T_Ga_takeOut_0
def S_Ga_takeOut : zSt := (zSeq (zBl 2 (zSeq (zAsg 2 (zL 0 1))
  L_Ga_takeOut_0))
  (zSeq (zPfo 0 3 4 (oI2 fun x y => x - y) (zL 3 0) (zK (.int 1)))
  (zSeq (zAs (zStK 71).1 71 (zStK 71).2 (zGf 3 3 3 (zL 3 0)) (zGf 0 3 4 (zL 3 0)) (zK .null))
  zRetV)))
def F_Ga_takeOut : zMt := zMeth [3, 0] 3 9 S_Ga_takeOut
-- JetTrees$Step.commonDivisor(JJ)J
def C_Sp_commonDivisor_0 : zCx := (zAnd (zC2 2 (zL 0 8) (zK (.int 2000))) (zC1 1 (z2 oLcmp (zL 1 6) (zK (.long 0)))))
def B_Sp_commonDivisor_0 : zSt := (zBl 9 (zSeq (zAsg 9 (z2 oLrem (zL 1 4) (zL 1 6)))
  (zSeq (zAsg 4 (zL 1 6))
  (zAsg 6 (zL 1 9)))))
def T_Sp_commonDivisor_0 : zSt := (zAsg 8 (z2 (oI2 fun x y => x + y) (zL 0 8) (zK (.int 1))))
def L_Sp_commonDivisor_0 : zSt := zLp C_Sp_commonDivisor_0 B_Sp_commonDivisor_0 T_Sp_commonDivisor_0
def S_Sp_commonDivisor : zSt := (zSeq (zAsg 4 (zL 1 0))
  (zSeq (zAsg 6 (zL 1 2))
  (zSeq (zBl 8 (zSeq (zAsg 8 (zK (.int 0)))
  L_Sp_commonDivisor_0))
  (zRet (zL 1 4)))))
def F_Sp_commonDivisor : zMt := zMeth [1, 1] 11 1 S_Sp_commonDivisor
-- JetTrees$Step.<init>(IIIJJ)V
def S_Sp_init : zSt := (zSeq zObj
  (zSeq (zAsg 8 (zAn 1 (zCs F_Sp_commonDivisor [(zL 1 4), (zL 1 6)])))
  (zSeq (zPf 0 6 0 (zL 3 0) (zL 0 1))
  (zSeq (zPf 0 6 1 (zL 3 0) (zL 0 2))
  (zSeq (zPf 0 6 2 (zL 3 0) (zL 0 3))
  (zSeq (zPf 1 6 3 (zL 3 0) (zIte (zC1 0 (z2 oLcmp (zL 1 8) (zK (.long 0)))) (zL 1 4) (z2 oLdiv (zL 1 4) (zL 1 8))))
  (zSeq (zPf 1 6 4 (zL 3 0) (zIte (zC1 0 (z2 oLcmp (zL 1 8) (zK (.long 0)))) (zL 1 6) (z2 oLdiv (zL 1 6) (zL 1 8))))
  zRetV)))))))
def F_Sp_init : zMt := zMeth [3, 0, 0, 0, 1, 1] 10 9 S_Sp_init
-- JetTrees$Gatherer.goToBeam(I)V
def S_Ga_goToBeam : zSt := (zSeq (zAsg 2 (zAx 3 71 (zGf 3 3 3 (zL 3 0)) (zGf 0 3 5 (zL 3 0))))
  (zSeq (zPf 0 4 6 (zL 3 2) (zL 0 1))
  (zSeq (zDo (zCv 9 F_Tr_addStep [(zGf 3 3 1 (zL 3 0)), (zNew 6 5 [.int 0, .int 0, .int 0, .long 0, .long 0] F_Sp_init [(zGf 0 0 0 (zGf 3 4 0 (zL 3 2))), (zK (.int (-1))), (zK (.int (-1))), (zGf 1 3 7 (zL 3 0)), (zGf 1 3 8 (zL 3 0))])]))
  (zSeq (zDo (zCv 9 F_Tr_addJet [(zGf 3 3 1 (zL 3 0)), (zL 3 2)]))
  (zSeq (zDo (zCv 3 F_Ga_takeOut [(zL 3 0), (zGf 0 3 5 (zL 3 0))]))
  zRetV)))))
def F_Ga_goToBeam : zMt := zMeth [3, 0] 3 9 S_Ga_goToBeam
-- JetTrees$Body.wayFromTo(II)I
def S_Bo_wayFromTo : zSt := (zSeq (zAsg 2 (zAn 0 (zCs F_Ma_floorMod_7cf53 [(z2 (oI2 fun x y => x - y) (zL 0 1) (zL 0 0)), (zK (.int 360))])))
  (zRet (zIte (zC2 4 (zL 0 2) (zK (.int 180))) (z2 (oI2 fun x y => x - y) (zL 0 2) (zK (.int 360))) (zL 0 2))))
def F_Bo_wayFromTo : zMt := zMeth [0, 0] 3 0 S_Bo_wayFromTo
-- java/lang/Math.floorDiv(II)I
def S_Ma_floorDiv_7cf53 : zSt := (zSeq (zAsg 2 (z2 oIdiv (zL 0 0) (zL 0 1)))
  (zSeq (zIf (zAnd (zC1 2 (z2 (oI2 fun x y => x ^^^ y) (zL 0 0) (zL 0 1))) (zC2 1 (z2 (oI2 fun x y => x * y) (zL 0 2) (zL 0 1)) (zL 0 0))) (zRet (z2 (oI2 fun x y => x - y) (zL 0 2) (zK (.int 1)))) zSkip)
  (zRet (zL 0 2))))
def F_Ma_floorDiv_7cf53 : zMt := zMeth [0, 0] 3 0 S_Ma_floorDiv_7cf53
-- JetTrees.downward(II)I
def S_JT_downward : zSt := (zRet (zIte (zC1 0 (zL 0 1)) (zK (.int 0)) (zAn 0 (zCs F_Ma_floorDiv_7cf53 [(zL 0 0), (zL 0 1)]))))
def F_JT_downward : zMt := zMeth [0, 0] 2 0 S_JT_downward
-- JetTrees$Sum.add(LJetTrees$Body;)V
def S_Su_add : zSt := (zSeq (zAsg 2 (z2 (oI2 fun x y => x + y) (zGf 0 7 2 (zL 3 0)) (zGf 0 0 3 (zL 3 1))))
  (zSeq (zPf 0 7 0 (zL 3 0) (zAn 0 (zCs F_JT_downward [(z2 (oI2 fun x y => x + y) (z2 (oI2 fun x y => x * y) (zGf 0 7 2 (zL 3 0)) (zGf 0 7 0 (zL 3 0))) (z2 (oI2 fun x y => x * y) (zGf 0 0 3 (zL 3 1)) (zGf 0 0 1 (zL 3 1)))), (zL 0 2)])))
  (zSeq (zAsg 3 (zAn 0 (zCs F_Bo_wayFromTo [(zGf 0 7 1 (zL 3 0)), (zGf 0 0 2 (zL 3 1))])))
  (zSeq (zPf 0 7 1 (zL 3 0) (zAn 0 (zCs F_Ma_floorMod_7cf53 [(z2 (oI2 fun x y => x + y) (zGf 0 7 1 (zL 3 0)) (zAn 0 (zCs F_JT_downward [(z2 (oI2 fun x y => x * y) (zGf 0 0 3 (zL 3 1)) (zL 0 3)), (zL 0 2)]))), (zK (.int 360))])))
  (zSeq (zPf 0 7 2 (zL 3 0) (zL 0 2))
  zRetV)))))
def F_Su_add : zMt := zMeth [3, 3] 4 9 S_Su_add
-- JetTrees$Sum.begin(LJetTrees$Body;)V
def S_Su_begin : zSt := (zSeq (zPf 0 7 0 (zL 3 0) (zGf 0 0 1 (zL 3 1)))
  (zSeq (zPf 0 7 1 (zL 3 0) (zGf 0 0 2 (zL 3 1)))
  (zSeq (zPf 0 7 2 (zL 3 0) (zGf 0 0 3 (zL 3 1)))
  zRetV)))
def F_Su_begin : zMt := zMeth [3, 3] 2 9 S_Su_begin
-- JetTrees$Gatherer.joinedBody(LJetTrees$Body;LJetTrees$Body;)LJetTrees$Body;
def S_Ga_joinedBody : zSt := (zSeq (zAsg 3 (zGf 0 9 5 (zGf 3 3 1 (zL 3 0))))
  (zSeq (zIf (zC1 0 (zGf 0 9 2 (zGf 3 3 1 (zL 3 0)))) (zSeq (zDo (zCv 7 F_Su_begin [(zGf 3 3 2 (zL 3 0)), (zL 3 1)]))
  (zSeq (zDo (zCv 7 F_Su_add [(zGf 3 3 2 (zL 3 0)), (zL 3 2)]))
  (zRet (zNew 0 4 [.int 0, .int 0, .int 0, .int 0] F_Bo_init [(zL 0 3), (zGf 0 7 0 (zGf 3 3 2 (zL 3 0))), (zGf 0 7 1 (zGf 3 3 2 (zL 3 0))), (zGf 0 7 2 (zGf 3 3 2 (zL 3 0)))])))) zSkip)
  (zSeq (zAsg 4 (zIte (zC2 4 (zGf 0 0 3 (zL 3 2)) (zGf 0 0 3 (zL 3 1))) (zL 3 2) (zL 3 1)))
  (zRet (zNew 0 4 [.int 0, .int 0, .int 0, .int 0] F_Bo_init [(zL 0 3), (zGf 0 0 1 (zL 3 4)), (zGf 0 0 2 (zL 3 4)), (z2 (oI2 fun x y => x + y) (zGf 0 0 3 (zL 3 1)) (zGf 0 0 3 (zL 3 2)))])))))
def F_Ga_joinedBody : zMt := zMeth [3, 3, 3] 5 3 S_Ga_joinedBody
-- JetTrees$Tree.addKnot(LJetTrees$Knot;)V
def S_Tr_addKnot : zSt := (zSeq (zIf (zC2 2 (zGf 0 9 5 (zL 3 0)) (zLen 71 (zGf 3 9 4 (zL 3 0)))) (zSeq (zAs (zStK 71).1 71 (zStK 71).2 (zGf 3 9 4 (zL 3 0)) (zGf 0 9 5 (zL 3 0)) (zL 3 1))
  (zPfo 0 9 5 (oI2 fun x y => x + y) (zL 3 0) (zK (.int 1)))) zSkip)
  zRetV)
def F_Tr_addKnot : zMt := zMeth [3, 3] 2 9 S_Tr_addKnot
-- JetTrees$Gatherer.putIn(LJetTrees$Knot;)V
def C_Ga_putIn_0 : zCx := (zAnd (zC1 4 (zL 0 3)) (zC1 1 (zAn 0 (zCv 0 F_Bo_isAheadOf [(zGf 3 4 0 (zL 3 1)), (zGf 3 4 0 (zAx 3 71 (zGf 3 3 3 (zL 3 0)) (z2 (oI2 fun x y => x - y) (zL 0 3) (zK (.int 1)))))]))))
def B_Ga_putIn_0 : zSt := (zSeq (zAs (zStK 71).1 71 (zStK 71).2 (zGf 3 3 3 (zL 3 0)) (zL 0 3) (zAx 3 71 (zGf 3 3 3 (zL 3 0)) (z2 (oI2 fun x y => x - y) (zL 0 3) (zK (.int 1)))))
  (zAsg 2 (z2 (oI2 fun x y => x - y) (zL 0 3) (zK (.int 1)))))
def T_Ga_putIn_0 : zSt := (zAsg 3 (z2 (oI2 fun x y => x + y) (zL 0 3) (zK (.int (-1)))))
def L_Ga_putIn_0 : zSt := zLp C_Ga_putIn_0 B_Ga_putIn_0 T_Ga_putIn_0
def S_Ga_putIn : zSt := (zSeq (zDo (zCv 9 F_Tr_addKnot [(zGf 3 3 1 (zL 3 0)), (zL 3 1)]))
  (zSeq (zIf (zC2 3 (zGf 0 3 4 (zL 3 0)) (zLen 71 (zGf 3 3 3 (zL 3 0)))) zRetV zSkip)
  (zSeq (zAsg 2 (zGf 0 3 4 (zL 3 0)))
  (zSeq (zBl 3 (zSeq (zAsg 3 (zGf 0 3 4 (zL 3 0)))
  L_Ga_putIn_0))
  (zSeq (zAs (zStK 71).1 71 (zStK 71).2 (zGf 3 3 3 (zL 3 0)) (zL 0 2) (zL 3 1))
  (zSeq (zPfo 0 3 4 (oI2 fun x y => x + y) (zL 3 0) (zK (.int 1)))
  zRetV))))))
def F_Ga_putIn : zMt := zMeth [3, 3] 4 9 S_Ga_putIn
-- JetTrees$Knot.<init>(LJetTrees$Body;JLJetTrees$Knot;LJetTrees$Knot;I)V
def S_Kn_init : zSt := (zSeq zObj
  (zSeq (zPf 3 4 0 (zL 3 0) (zL 3 1))
  (zSeq (zPf 1 4 1 (zL 3 0) (zL 1 2))
  (zSeq (zPf 3 4 2 (zL 3 0) (zL 3 4))
  (zSeq (zPf 3 4 3 (zL 3 0) (zL 3 5))
  (zSeq (zPf 0 4 4 (zL 3 0) (zL 0 6))
  (zSeq (zPf 3 4 5 (zL 3 0) (zK .null))
  (zSeq (zPf 0 4 6 (zL 3 0) (zK (.int (-1))))
  zRetV))))))))
def F_Kn_init : zMt := zMeth [3, 3, 1, 3, 3, 0] 7 9 S_Kn_init
-- JetTrees$Gatherer.joinBest(I)V
def S_Ga_joinBest : zSt := (zSeq (zAsg 2 (zAx 3 71 (zGf 3 3 3 (zL 3 0)) (zGf 0 3 5 (zL 3 0))))
  (zSeq (zAsg 3 (zAx 3 71 (zGf 3 3 3 (zL 3 0)) (zGf 0 3 6 (zL 3 0))))
  (zSeq (zAsg 4 (zAn 3 (zCv 3 F_Ga_joinedBody [(zL 3 0), (zGf 3 4 0 (zL 3 2)), (zGf 3 4 0 (zL 3 3))])))
  (zSeq (zAsg 5 (zNew 4 7 [.null, .long 0, .null, .null, .int 0, .null, .int 0] F_Kn_init [(zL 3 4), (z2 (oL2 fun x y => x ||| y) (zGf 1 4 1 (zL 3 2)) (zGf 1 4 1 (zL 3 3))), (zL 3 2), (zL 3 3), (zL 0 1)]))
  (zSeq (zPf 3 4 5 (zL 3 2) (zL 3 5))
  (zSeq (zPf 0 4 6 (zL 3 2) (zL 0 1))
  (zSeq (zPf 3 4 5 (zL 3 3) (zL 3 5))
  (zSeq (zPf 0 4 6 (zL 3 3) (zL 0 1))
  (zSeq (zDo (zCv 9 F_Tr_addStep [(zGf 3 3 1 (zL 3 0)), (zNew 6 5 [.int 0, .int 0, .int 0, .long 0, .long 0] F_Sp_init [(zGf 0 0 0 (zGf 3 4 0 (zL 3 2))), (zGf 0 0 0 (zGf 3 4 0 (zL 3 3))), (zGf 0 0 0 (zL 3 4)), (zGf 1 3 7 (zL 3 0)), (zGf 1 3 8 (zL 3 0))])]))
  (zSeq (zDo (zCv 3 F_Ga_takeOut [(zL 3 0), (zGf 0 3 6 (zL 3 0))]))
  (zSeq (zDo (zCv 3 F_Ga_takeOut [(zL 3 0), (zGf 0 3 5 (zL 3 0))]))
  (zSeq (zDo (zCv 3 F_Ga_putIn [(zL 3 0), (zL 3 5)]))
  zRetV))))))))))))
def F_Ga_joinBest : zMt := zMeth [3, 0] 6 9 S_Ga_joinBest
-- JetTrees$Gatherer.gathered()LJetTrees$Tree;
def C_Ga_gathered_0 : zCx := (zC2 2 (zL 0 1) (zLen 67 (zGf 3 3 0 (zL 3 0))))
def B_Ga_gathered_0 : zSt := (zDo (zCv 3 F_Ga_putIn [(zL 3 0), (zNew 4 7 [.null, .long 0, .null, .null, .int 0, .null, .int 0] F_Kn_init [(zAx 3 67 (zGf 3 3 0 (zL 3 0)) (zL 0 1)), (zAn 1 (zCs F_JT_bitOf [(zL 0 1)])), (zK .null), (zK .null), (zK (.int (-1)))])]))
def T_Ga_gathered_0 : zSt := (zAsg 1 (z2 (oI2 fun x y => x + y) (zL 0 1) (zK (.int 1))))
def L_Ga_gathered_0 : zSt := zLp C_Ga_gathered_0 B_Ga_gathered_0 T_Ga_gathered_0
def C_Ga_gathered_1 : zCx := (zAnd (zC2 2 (zL 0 1) (zLen 67 (zGf 3 3 0 (zL 3 0)))) (zC1 4 (zGf 0 3 4 (zL 3 0))))
def B_Ga_gathered_1 : zSt := (zSeq (zDo (zCv 3 F_Ga_findLeast [(zL 3 0)]))
  (zSeq (zIf (zC2 0 (zGf 0 3 5 (zL 3 0)) (zK (.int (-1)))) zBrk zSkip)
  (zIf (zC2 0 (zGf 0 3 6 (zL 3 0)) (zK (.int (-1)))) (zDo (zCv 3 F_Ga_goToBeam [(zL 3 0), (zL 0 1)])) (zDo (zCv 3 F_Ga_joinBest [(zL 3 0), (zL 0 1)])))))
def T_Ga_gathered_1 : zSt := (zAsg 1 (z2 (oI2 fun x y => x + y) (zL 0 1) (zK (.int 1))))
def L_Ga_gathered_1 : zSt := zLp C_Ga_gathered_1 B_Ga_gathered_1 T_Ga_gathered_1
def S_Ga_gathered : zSt := (zSeq (zBl 1 (zSeq (zAsg 1 (zK (.int 0)))
  L_Ga_gathered_0))
  (zSeq (zBl 1 (zSeq (zAsg 1 (zK (.int 0)))
  L_Ga_gathered_1))
  (zRet (zGf 3 3 1 (zL 3 0)))))
def F_Ga_gathered : zMt := zMeth [3] 2 3 S_Ga_gathered
-- JetTrees$Tree.<init>(IIII)V
def S_Tr_init : zSt := (zSeq zObj
  (zSeq (zPf 0 9 0 (zL 3 0) (zL 0 2))
  (zSeq (zPf 0 9 1 (zL 3 0) (zL 0 3))
  (zSeq (zPf 0 9 2 (zL 3 0) (zL 0 4))
  (zSeq (zPf 0 9 3 (zL 3 0) (zL 0 1))
  (zSeq (zPf 3 9 4 (zL 3 0) (zNa 71 .null (z2 (oI2 fun x y => x * y) (zK (.int 2)) (zL 0 1))))
  (zSeq (zPf 0 9 5 (zL 3 0) (zK (.int 0)))
  (zSeq (zPf 3 9 6 (zL 3 0) (zNa 72 .null (zL 0 1)))
  (zSeq (zPf 0 9 7 (zL 3 0) (zK (.int 0)))
  (zSeq (zPf 3 9 8 (zL 3 0) (zNa 71 .null (zL 0 1)))
  (zSeq (zPf 0 9 9 (zL 3 0) (zK (.int 0)))
  (zSeq (zPf 3 9 10 (zL 3 0) (zNa 64 (.int 0) (zK (.int 0))))
  zRetV))))))))))))
def F_Tr_init : zMt := zMeth [3, 0, 0, 0, 0] 5 9 S_Tr_init
-- JetTrees$Sum.<init>()V
def S_Su_init : zSt := (zSeq zObj
  zRetV)
def F_Su_init : zMt := zMeth [3] 1 9 S_Su_init
-- JetTrees$Gatherer.<init>([LJetTrees$Body;III)V
def S_Ga_init : zSt := (zSeq zObj
  (zSeq (zPf 3 3 0 (zL 3 0) (zL 3 1))
  (zSeq (zPf 3 3 1 (zL 3 0) (zNew 9 11 [.int 0, .int 0, .int 0, .int 0, .null, .int 0, .null, .int 0, .null, .int 0, .null] F_Tr_init [(zLen 67 (zL 3 1)), (zL 0 2), (zL 0 3), (zL 0 4)]))
  (zSeq (zPf 3 3 2 (zL 3 0) (zNew 7 3 [.int 0, .int 0, .int 0] F_Su_init []))
  (zSeq (zPf 3 3 3 (zL 3 0) (zNa 71 .null (zLen 67 (zL 3 1))))
  (zSeq (zPf 0 3 4 (zL 3 0) (zK (.int 0)))
  (zSeq (zPf 0 3 5 (zL 3 0) (zK (.int (-1))))
  (zSeq (zPf 0 3 6 (zL 3 0) (zK (.int (-1))))
  (zSeq (zPf 1 3 7 (zL 3 0) (zK (.long 0)))
  (zSeq (zPf 1 3 8 (zL 3 0) (zK (.long 1)))
  zRetV))))))))))
def F_Ga_init : zMt := zMeth [3, 3, 0, 0, 0] 5 9 S_Ga_init
-- JetTrees.gatheredNow()LJetTrees$Tree;
def S_JT_gatheredNow : zSt := (zRet (zAn 3 (zCv 3 F_Ga_gathered [(zNew 3 9 [.null, .null, .null, .null, .int 0, .int 0, .int 0, .long 0, .long 0] F_Ga_init [(zGf 3 2 0 (zAn 3 (zCv 5 F_St_inHand [(zGf 3 10 0 (zL 3 0))]))), (zGf 0 5 0 (zGf 3 10 0 (zL 3 0))), (zGf 0 5 1 (zGf 3 10 0 (zL 3 0))), (zGf 0 5 2 (zGf 3 10 0 (zL 3 0)))])])))
def F_JT_gatheredNow : zMt := zMeth [3] 1 3 S_JT_gatheredNow
-- JetTrees.isTree(I)Z
def S_JT_isTree : zSt := (zRet (zBx (zAnd (zC1 3 (zL 0 0)) (zC2 2 (zL 0 0) (zK (.int 4))))))
def F_JT_isTree : zMt := zMeth [0] 1 4 S_JT_isTree
-- JetTrees$State.withTree(ILJetTrees$Tree;)LJetTrees$State;
def S_St_withTree : zSt := (zSeq (zAsg 3 (zNew 5 8 [.int 0, .int 0, .int 0, .int 0, .int 0, .null, .null, .null] F_St_init_ [(zL 3 0)]))
  (zSeq (zAs (zStK 69).1 69 (zStK 69).2 (zGf 3 5 6 (zL 3 3)) (zL 0 1) (zL 3 2))
  (zRet (zL 3 3))))
def F_St_withTree : zMt := zMeth [3, 0, 3] 4 3 S_St_withTree
-- JetTrees.gather(I)I
def S_JT_gather : zSt := (zSeq (zIf (zOr (zNot (zC1 1 (zAn 0 (zCs F_JT_isTree [(zL 0 1)])))) (zC1 0 (zAn 0 (zCv 2 F_Ev_size [(zAn 3 (zCv 5 F_St_inHand [(zGf 3 10 0 (zL 3 0))]))])))) (zRet (zK (.int (-1)))) zSkip)
  (zSeq (zAsg 2 (zAn 3 (zCv 10 F_JT_gatheredNow [(zL 3 0)])))
  (zSeq (zDo (zCv 10 F_JT_takeStep [(zL 3 0), (zAn 3 (zCv 5 F_St_withTree [(zGf 3 10 0 (zL 3 0)), (zL 0 1), (zL 3 2)]))]))
  (zRet (zGf 0 9 9 (zL 3 2))))))
def F_JT_gather : zMt := zMeth [3, 0] 3 0 S_JT_gather
-- JetTrees$Tree.isThereBehind(LJetTrees$Knot;IZ)Z
def S_Tr_isThereBehind : zSt := (zSeq (zIf (zC2 3 (zGf 0 4 4 (zL 3 1)) (zL 0 2)) (zRet (zK (.int 0))) zSkip)
  (zRet (zBx (zOr (zC2 3 (zGf 0 4 6 (zL 3 1)) (zL 0 2)) (zAnd (zC1 1 (zL 0 3)) (zCn (zGf 3 4 5 (zL 3 1))))))))
def F_Tr_isThereBehind : zMt := zMeth [3, 3, 0, 0] 4 4 S_Tr_isThereBehind
-- JetTrees$Tree.ithBehind(IZI)I
def C_Tr_ithBehind_0 : zCx := (zC2 2 (zL 0 5) (zGf 0 9 5 (zL 3 0)))
def B_Tr_ithBehind_0 : zSt := (zIf (zC1 1 (zAn 0 (zCv 9 F_Tr_isThereBehind [(zL 3 0), (zAx 3 71 (zGf 3 9 4 (zL 3 0)) (zL 0 5)), (zL 0 1), (zL 0 2)]))) (zSeq (zIf (zC2 0 (zL 0 4) (zL 0 3)) (zRet (zL 0 5)) zSkip)
  (zAsg 4 (z2 (oI2 fun x y => x + y) (zL 0 4) (zK (.int 1))))) zSkip)
def T_Tr_ithBehind_0 : zSt := (zAsg 5 (z2 (oI2 fun x y => x + y) (zL 0 5) (zK (.int 1))))
def L_Tr_ithBehind_0 : zSt := zLp C_Tr_ithBehind_0 B_Tr_ithBehind_0 T_Tr_ithBehind_0
def S_Tr_ithBehind : zSt := (zSeq (zAsg 4 (zK (.int 0)))
  (zSeq (zBl 5 (zSeq (zAsg 5 (zK (.int 0)))
  L_Tr_ithBehind_0))
  (zRet (zIte (zC2 0 (zL 0 3) (zK (.int (-1)))) (zL 0 4) (zK (.int (-1)))))))
def F_Tr_ithBehind : zMt := zMeth [3, 0, 0, 0] 6 0 S_Tr_ithBehind
-- JetTrees$Tree.setsOfCut(I)[J
def C_Tr_setsOfCut_0 : zCx := (zAnd (zC2 2 (zL 0 5) (zGf 0 9 5 (zL 3 0))) (zC2 2 (zL 0 4) (zL 0 2)))
def B_Tr_setsOfCut_0 : zSt := (zIf (zC1 1 (zAn 0 (zCv 9 F_Tr_isThereBehind [(zL 3 0), (zAx 3 71 (zGf 3 9 4 (zL 3 0)) (zL 0 5)), (zL 0 1), (zK (.int 1))]))) (zSeq (zAs (zStK 65).1 65 (zStK 65).2 (zL 3 3) (zL 0 4) (zGf 1 4 1 (zAx 3 71 (zGf 3 9 4 (zL 3 0)) (zL 0 5))))
  (zAsg 4 (z2 (oI2 fun x y => x + y) (zL 0 4) (zK (.int 1))))) zSkip)
def T_Tr_setsOfCut_0 : zSt := (zAsg 5 (z2 (oI2 fun x y => x + y) (zL 0 5) (zK (.int 1))))
def L_Tr_setsOfCut_0 : zSt := zLp C_Tr_setsOfCut_0 B_Tr_setsOfCut_0 T_Tr_setsOfCut_0
def S_Tr_setsOfCut : zSt := (zSeq (zAsg 2 (zAn 0 (zCs F_Ma_max_7cf53 [(zK (.int 0)), (zAn 0 (zCv 9 F_Tr_ithBehind [(zL 3 0), (zL 0 1), (zK (.int 1)), (zK (.int (-1)))]))])))
  (zSeq (zAsg 3 (zNa 65 (.long 0) (zL 0 2)))
  (zSeq (zAsg 4 (zK (.int 0)))
  (zSeq (zBl 5 (zSeq (zAsg 5 (zK (.int 0)))
  L_Tr_setsOfCut_0))
  (zRet (zL 3 3))))))
def F_Tr_setsOfCut : zMt := zMeth [3, 0] 6 3 S_Tr_setsOfCut
-- JetTrees$Tree.stepsToCount(I)I
def C_Tr_stepsToCount_0 : zCx := (zAnd (zC2 2 (zL 0 3) (zGf 0 9 7 (zL 3 0))) (zC2 4 (zL 0 2) (zL 0 1)))
def B_Tr_stepsToCount_0 : zSt := (zSeq (zIf (zC2 1 (zGf 0 6 2 (zAx 3 72 (zGf 3 9 6 (zL 3 0)) (zL 0 3))) (zK (.int (-1)))) (zAsg 2 (z2 (oI2 fun x y => x + y) (zL 0 2) (zK (.int (-1))))) zSkip)
  (zIf (zC2 5 (zL 0 2) (zL 0 1)) (zRet (z2 (oI2 fun x y => x + y) (zL 0 3) (zK (.int 1)))) zSkip))
def T_Tr_stepsToCount_0 : zSt := (zAsg 3 (z2 (oI2 fun x y => x + y) (zL 0 3) (zK (.int 1))))
def L_Tr_stepsToCount_0 : zSt := zLp C_Tr_stepsToCount_0 B_Tr_stepsToCount_0 T_Tr_stepsToCount_0
def S_Tr_stepsToCount : zSt := (zSeq (zIf (zOr (zC2 2 (zL 0 1) (zK (.int 1))) (zC2 4 (zL 0 1) (zK (.int 40)))) (zRet (zK (.int (-1)))) zSkip)
  (zSeq (zAsg 2 (zGf 0 9 3 (zL 3 0)))
  (zSeq (zBl 3 (zSeq (zAsg 3 (zK (.int 0)))
  L_Tr_stepsToCount_0))
  (zRet (zIte (zC2 5 (zL 0 2) (zL 0 1)) (zK (.int 0)) (zK (.int (-1))))))))
def F_Tr_stepsToCount : zMt := zMeth [3, 0] 4 0 S_Tr_stepsToCount
-- JetTrees.treeAt(I)LJetTrees$Tree;
def S_JT_treeAt : zSt := (zRet (zIte (zC1 1 (zAn 0 (zCs F_JT_isTree [(zL 0 1)]))) (zAx 3 69 (zGf 3 5 6 (zGf 3 10 0 (zL 3 0))) (zL 0 1)) (zK .null)))
def F_JT_treeAt : zMt := zMeth [3, 0] 2 3 S_JT_treeAt
-- JetTrees.keep(III)I
def S_JT_keep : zSt := (zSeq (zAsg 4 (zAn 3 (zCv 10 F_JT_treeAt [(zL 3 0), (zL 0 2)])))
  (zSeq (zAsg 5 (zIte (zCn (zL 3 4)) (zK (.int (-1))) (zAn 0 (zCv 9 F_Tr_stepsToCount [(zL 3 4), (zL 0 3)]))))
  (zSeq (zIf (zOr (zOr (zOr (zCn (zL 3 4)) (zC2 0 (zL 0 5) (zK (.int (-1))))) (zC1 2 (zL 0 1))) (zC2 3 (zL 0 1) (zK (.int 4)))) (zRet (zK (.int (-1)))) zSkip)
  (zSeq (zAsg 6 (zAn 3 (zCv 9 F_Tr_setsOfCut [(zL 3 4), (zL 0 5)])))
  (zSeq (zAsg 7 (zNew 5 8 [.int 0, .int 0, .int 0, .int 0, .int 0, .null, .null, .null] F_St_init_ [(zGf 3 10 0 (zL 3 0))]))
  (zSeq (zAs (zStK 73).1 73 (zStK 73).2 (zGf 3 5 7 (zL 3 7)) (zL 0 1) (zL 3 6))
  (zSeq (zDo (zCv 10 F_JT_takeStep [(zL 3 0), (zL 3 7)]))
  (zRet (zLen 65 (zL 3 6))))))))))
def F_JT_keep : zMt := zMeth [3, 0, 0, 0] 8 0 S_JT_keep
-- JetTrees$Tree.knotAt(I)LJetTrees$Knot;
def S_Tr_knotAt : zSt := (zRet (zIte (zOr (zC1 2 (zL 0 1)) (zC2 3 (zL 0 1) (zGf 0 9 5 (zL 3 0)))) (zK .null) (zAx 3 71 (zGf 3 9 4 (zL 3 0)) (zL 0 1))))
def F_Tr_knotAt : zMt := zMeth [3, 0] 2 3 S_Tr_knotAt
-- JetTrees.knotAt(II)LJetTrees$Knot;
def S_JT_knotAt : zSt := (zSeq (zAsg 3 (zAn 3 (zCv 10 F_JT_treeAt [(zL 3 0), (zL 0 1)])))
  (zRet (zIte (zCn (zL 3 3)) (zK .null) (zAn 3 (zCv 9 F_Tr_knotAt [(zL 3 3), (zL 0 2)])))))
def F_JT_knotAt : zMt := zMeth [3, 0, 0] 4 3 S_JT_knotAt
-- java/lang/Long.bitCount(J)I
def S_Lo_bitCount_95d88 : zSt := (zSeq (zAsg 0 (z2 (oL2 fun x y => x - y) (zL 1 0) (z2 (oL2 fun x y => x &&& y) (z2 (oLsh fun x y => (x.toUInt64 >>> (y.toInt64.toUInt64 &&& Int64.toUInt64 63)).toInt64) (zL 1 0) (zK (.int 1))) (zK (.long 6148914691236517205)))))
  (zSeq (zAsg 0 (z2 (oL2 fun x y => x + y) (z2 (oL2 fun x y => x &&& y) (zL 1 0) (zK (.long 3689348814741910323))) (z2 (oL2 fun x y => x &&& y) (z2 (oLsh fun x y => (x.toUInt64 >>> (y.toInt64.toUInt64 &&& Int64.toUInt64 63)).toInt64) (zL 1 0) (zK (.int 2))) (zK (.long 3689348814741910323)))))
  (zSeq (zAsg 0 (z2 (oL2 fun x y => x &&& y) (z2 (oL2 fun x y => x + y) (zL 1 0) (z2 (oLsh fun x y => (x.toUInt64 >>> (y.toInt64.toUInt64 &&& Int64.toUInt64 63)).toInt64) (zL 1 0) (zK (.int 4)))) (zK (.long 1085102592571150095))))
  (zSeq (zAsg 0 (z2 (oL2 fun x y => x + y) (zL 1 0) (z2 (oLsh fun x y => (x.toUInt64 >>> (y.toInt64.toUInt64 &&& Int64.toUInt64 63)).toInt64) (zL 1 0) (zK (.int 8)))))
  (zSeq (zAsg 0 (z2 (oL2 fun x y => x + y) (zL 1 0) (z2 (oLsh fun x y => (x.toUInt64 >>> (y.toInt64.toUInt64 &&& Int64.toUInt64 63)).toInt64) (zL 1 0) (zK (.int 16)))))
  (zSeq (zAsg 0 (z2 (oL2 fun x y => x + y) (zL 1 0) (z2 (oLsh fun x y => (x.toUInt64 >>> (y.toInt64.toUInt64 &&& Int64.toUInt64 63)).toInt64) (zL 1 0) (zK (.int 32)))))
  (zRet (z2 (oI2 fun x y => x &&& y) (z1 oL2i (zL 1 0)) (zK (.int 127))))))))))
def F_Lo_bitCount_95d88 : zMt := zMeth [1] 2 0 S_Lo_bitCount_95d88
-- JetTrees.isIn(JI)Z
def S_JT_isIn : zSt := (zRet (zBx (zC1 1 (z2 oLcmp (z2 (oL2 fun x y => x &&& y) (zL 1 0) (zAn 1 (zCs F_JT_bitOf [(zL 0 2)]))) (zK (.long 0))))))
def F_JT_isIn : zMt := zMeth [1, 0] 3 4 S_JT_isIn
-- JetTrees$Branches.gatheredApart(LJetTrees$Tree;LJetTrees$Knot;II)LJetTrees$Tree;
def C_Br_gatheredApart_0 : zCx := (zAnd (zC2 2 (zL 0 8) (zGf 0 9 3 (zL 3 0))) (zC2 2 (zL 0 7) (zL 0 4)))
def B_Br_gatheredApart_0 : zSt := (zIf (zC1 1 (zAn 0 (zCs F_JT_isIn [(zGf 1 4 1 (zL 3 1)), (zL 0 8)]))) (zSeq (zAs (zStK 67).1 67 (zStK 67).2 (zL 3 5) (zL 0 7) (zAn 3 (zCv 0 F_Bo_numbered [(zGf 3 4 0 (zAx 3 71 (zGf 3 9 4 (zL 3 0)) (zL 0 8))), (zL 0 7)])))
  (zSeq (zAs (zStK 64).1 64 (zStK 64).2 (zL 3 6) (zL 0 7) (zL 0 8))
  (zAsg 7 (z2 (oI2 fun x y => x + y) (zL 0 7) (zK (.int 1)))))) zSkip)
def T_Br_gatheredApart_0 : zSt := (zAsg 8 (z2 (oI2 fun x y => x + y) (zL 0 8) (zK (.int 1))))
def L_Br_gatheredApart_0 : zSt := zLp C_Br_gatheredApart_0 B_Br_gatheredApart_0 T_Br_gatheredApart_0
def S_Br_gatheredApart : zSt := (zSeq (zAsg 4 (zAn 0 (zCs F_Lo_bitCount_95d88 [(zGf 1 4 1 (zL 3 1))])))
  (zSeq (zAsg 5 (zNa 67 .null (zL 0 4)))
  (zSeq (zAsg 6 (zNa 64 (.int 0) (zL 0 4)))
  (zSeq (zAsg 7 (zK (.int 0)))
  (zSeq (zBl 8 (zSeq (zAsg 8 (zK (.int 0)))
  L_Br_gatheredApart_0))
  (zSeq (zAsg 8 (zAn 3 (zCv 3 F_Ga_gathered [(zNew 3 9 [.null, .null, .null, .null, .int 0, .int 0, .int 0, .long 0, .long 0] F_Ga_init [(zL 3 5), (zL 0 3), (zL 0 2), (zGf 0 9 2 (zL 3 0))])])))
  (zSeq (zPf 3 9 10 (zL 3 8) (zL 3 6))
  (zRet (zL 3 8)))))))))
def F_Br_gatheredApart : zMt := zMeth [3, 3, 0, 0] 9 3 S_Br_gatheredApart
-- JetTrees.apart(IIIII)I
def S_JT_apart : zSt := (zSeq (zAsg 6 (zAn 3 (zCv 10 F_JT_treeAt [(zL 3 0), (zL 0 1)])))
  (zSeq (zAsg 7 (zAn 3 (zCv 10 F_JT_knotAt [(zL 3 0), (zL 0 1), (zL 0 2)])))
  (zSeq (zIf (zOr (zOr (zOr (zOr (zCn (zL 3 6)) (zCn (zL 3 7))) (zNot (zC1 1 (zAn 0 (zCs F_JT_isPower [(zL 0 3)]))))) (zNot (zC1 1 (zAn 0 (zCs F_JT_isRadius [(zL 0 4)]))))) (zNot (zC1 1 (zAn 0 (zCs F_JT_isTree [(zL 0 5)]))))) (zRet (zK (.int (-1)))) zSkip)
  (zSeq (zAsg 8 (zAn 3 (zCs F_Br_gatheredApart [(zL 3 6), (zL 3 7), (zL 0 3), (zL 0 4)])))
  (zSeq (zDo (zCv 10 F_JT_takeStep [(zL 3 0), (zAn 3 (zCv 5 F_St_withTree [(zGf 3 10 0 (zL 3 0)), (zL 0 5), (zL 3 8)]))]))
  (zRet (zGf 0 9 9 (zL 3 8))))))))
def F_JT_apart : zMt := zMeth [3, 0, 0, 0, 0, 0] 9 0 S_JT_apart
-- JetTrees.hand(I)I
def S_JT_hand : zSt := (zSeq (zIf (zOr (zOr (zC1 2 (zL 0 1)) (zC2 3 (zL 0 1) (zK (.int 3)))) (zC2 0 (zL 0 1) (zGf 0 5 4 (zGf 3 10 0 (zL 3 0))))) (zRet (zK (.int (-1)))) zSkip)
  (zSeq (zAsg 2 (zNew 5 8 [.int 0, .int 0, .int 0, .int 0, .int 0, .null, .null, .null] F_St_init_ [(zGf 3 10 0 (zL 3 0))]))
  (zSeq (zPf 0 5 4 (zL 3 2) (zL 0 1))
  (zSeq (zDo (zCv 10 F_JT_takeStep [(zL 3 0), (zL 3 2)]))
  (zRet (zAn 0 (zCv 2 F_Ev_size [(zAn 3 (zCv 5 F_St_inHand [(zL 3 2)]))])))))))
def F_JT_hand : zMt := zMeth [3, 0] 3 0 S_JT_hand
-- JetTrees.mix(II)I
def C_JT_mix_0 : zCx := (zC2 2 (zL 0 7) (zAn 0 (zCv 2 F_Ev_size [(zL 3 3)])))
def B_JT_mix_0 : zSt := (zBl 8 (zSeq (zAsg 8 (zAx 3 67 (zGf 3 2 0 (zL 3 3)) (zL 0 7)))
  (zSeq (zAsg 9 (zAn 0 (zCs F_Ma_floorMod_7cf53 [(z2 (oI2 fun x y => x + y) (zGf 0 0 2 (zL 3 8)) (zL 0 2)), (zK (.int 360))])))
  (zAs (zStK 67).1 67 (zStK 67).2 (zL 3 6) (z2 (oI2 fun x y => x + y) (zL 0 4) (zL 0 7)) (zNew 0 4 [.int 0, .int 0, .int 0, .int 0] F_Bo_init [(z2 (oI2 fun x y => x + y) (zL 0 4) (zL 0 7)), (zGf 0 0 1 (zL 3 8)), (zL 0 9), (zGf 0 0 3 (zL 3 8))])))))
def T_JT_mix_0 : zSt := (zAsg 7 (z2 (oI2 fun x y => x + y) (zL 0 7) (zK (.int 1))))
def L_JT_mix_0 : zSt := zLp C_JT_mix_0 B_JT_mix_0 T_JT_mix_0
def S_JT_mix : zSt := (zSeq (zIf (zOr (zOr (zOr (zOr (zC1 2 (zL 0 1)) (zC2 3 (zL 0 1) (zK (.int 3)))) (zC2 0 (zL 0 1) (zGf 0 5 4 (zGf 3 10 0 (zL 3 0))))) (zC1 2 (zL 0 2))) (zC2 3 (zL 0 2) (zK (.int 360)))) (zRet (zK (.int (-1)))) zSkip)
  (zSeq (zAsg 3 (zAx 3 68 (zGf 3 5 5 (zGf 3 10 0 (zL 3 0))) (zL 0 1)))
  (zSeq (zAsg 4 (zAn 0 (zCv 2 F_Ev_size [(zAn 3 (zCv 5 F_St_inHand [(zGf 3 10 0 (zL 3 0))]))])))
  (zSeq (zAsg 5 (z2 (oI2 fun x y => x + y) (zL 0 4) (zAn 0 (zCv 2 F_Ev_size [(zL 3 3)]))))
  (zSeq (zIf (zC2 4 (zL 0 5) (zK (.int 40))) (zRet (zK (.int (-1)))) zSkip)
  (zSeq (zAsg 6 (zAn 3 (zCv 2 F_Ev_copiedTo [(zAn 3 (zCv 5 F_St_inHand [(zGf 3 10 0 (zL 3 0))])), (zL 0 5)])))
  (zSeq (zBl 7 (zSeq (zAsg 7 (zK (.int 0)))
  L_JT_mix_0))
  (zSeq (zDo (zCv 10 F_JT_takeStep [(zL 3 0), (zAn 3 (zCv 5 F_St_withTracks [(zGf 3 10 0 (zL 3 0)), (zL 3 6)]))]))
  (zRet (zL 0 5))))))))))
def F_JT_mix : zMt := zMeth [3, 0, 0] 10 0 S_JT_mix
-- JetTrees.free(I)Z
def S_JT_free : zSt := (zSeq (zIf (zCn (zAn 3 (zCv 10 F_JT_treeAt [(zL 3 0), (zL 0 1)]))) (zRet (zK (.int 0))) zSkip)
  (zSeq (zDo (zCv 10 F_JT_takeStep [(zL 3 0), (zAn 3 (zCv 5 F_St_withTree [(zGf 3 10 0 (zL 3 0)), (zL 0 1), (zK .null)]))]))
  (zRet (zK (.int 1)))))
def F_JT_free : zMt := zMeth [3, 0] 2 4 S_JT_free
-- JetTrees.undo()I
def S_JT_undo : zSt := (zSeq (zIf (zOr (zC2 2 (zGf 0 10 2 (zL 3 0)) (zK (.int 1))) (zC2 4 (zGf 0 10 2 (zL 3 0)) (zLen 70 (zGf 3 10 1 (zL 3 0))))) (zRet (zK (.int (-1)))) zSkip)
  (zSeq (zPfo 0 10 2 (oI2 fun x y => x - y) (zL 3 0) (zK (.int 1)))
  (zSeq (zPf 3 10 0 (zL 3 0) (zAx 3 70 (zGf 3 10 1 (zL 3 0)) (zGf 0 10 2 (zL 3 0))))
  (zSeq (zAs (zStK 70).1 70 (zStK 70).2 (zGf 3 10 1 (zL 3 0)) (zGf 0 10 2 (zL 3 0)) (zK .null))
  (zRet (zGf 0 10 2 (zL 3 0)))))))
def F_JT_undo : zMt := zMeth [3] 1 0 S_JT_undo
-- JetTrees.treeBits()I
def C_JT_treeBits_0 : zCx := (zC2 2 (zL 0 2) (zK (.int 4)))
def B_JT_treeBits_0 : zSt := (zIf (zNot (zCn (zAx 3 69 (zGf 3 5 6 (zGf 3 10 0 (zL 3 0))) (zL 0 2)))) (zAsg 1 (z2 (oI2 fun x y => x ||| y) (zL 0 1) (z2 (oI2 fun x y => x <<< (y &&& 31)) (zK (.int 1)) (zL 0 2)))) zSkip)
def T_JT_treeBits_0 : zSt := (zAsg 2 (z2 (oI2 fun x y => x + y) (zL 0 2) (zK (.int 1))))
def L_JT_treeBits_0 : zSt := zLp C_JT_treeBits_0 B_JT_treeBits_0 T_JT_treeBits_0
def S_JT_treeBits : zSt := (zSeq (zAsg 1 (zK (.int 0)))
  (zSeq (zBl 2 (zSeq (zAsg 2 (zK (.int 0)))
  L_JT_treeBits_0))
  (zRet (zL 0 1))))
def F_JT_treeBits : zMt := zMeth [3] 3 0 S_JT_treeBits
-- JetTrees$Event.weightOfAll()I
def C_Ev_weightOfAll_0 : zCx := (zC2 2 (zL 0 2) (zLen 67 (zGf 3 2 0 (zL 3 0))))
def B_Ev_weightOfAll_0 : zSt := (zAsg 1 (z2 (oI2 fun x y => x + y) (zL 0 1) (zGf 0 0 3 (zAx 3 67 (zGf 3 2 0 (zL 3 0)) (zL 0 2)))))
def T_Ev_weightOfAll_0 : zSt := (zAsg 2 (z2 (oI2 fun x y => x + y) (zL 0 2) (zK (.int 1))))
def L_Ev_weightOfAll_0 : zSt := zLp C_Ev_weightOfAll_0 B_Ev_weightOfAll_0 T_Ev_weightOfAll_0
def S_Ev_weightOfAll : zSt := (zSeq (zAsg 1 (zK (.int 0)))
  (zSeq (zBl 2 (zSeq (zAsg 2 (zK (.int 0)))
  L_Ev_weightOfAll_0))
  (zRet (zL 0 1))))
def F_Ev_weightOfAll : zMt := zMeth [3] 3 0 S_Ev_weightOfAll
-- JetTrees.is(I)I
def W_JT_is_0_0 : zSt := (zRet (zGf 0 5 0 (zGf 3 10 0 (zL 3 0))))
def W_JT_is_0_1 : zSt := (zRet (zGf 0 5 1 (zGf 3 10 0 (zL 3 0))))
def W_JT_is_0_2 : zSt := (zRet (zGf 0 5 2 (zGf 3 10 0 (zL 3 0))))
def W_JT_is_0_3 : zSt := (zRet (zAn 0 (zCv 2 F_Ev_size [(zAn 3 (zCv 5 F_St_inHand [(zGf 3 10 0 (zL 3 0))]))])))
def W_JT_is_0_4 : zSt := (zRet (zGf 0 5 3 (zGf 3 10 0 (zL 3 0))))
def W_JT_is_0_5 : zSt := (zRet (zAn 0 (zCv 10 F_JT_treeBits [(zL 3 0)])))
def W_JT_is_0_6 : zSt := (zRet (zAn 0 (zCv 2 F_Ev_weightOfAll [(zAn 3 (zCv 5 F_St_inHand [(zGf 3 10 0 (zL 3 0))]))])))
def W_JT_is_0_7 : zSt := (zRet (zGf 0 5 4 (zGf 3 10 0 (zL 3 0))))
def W_JT_is_0_8 : zSt := (zRet (zK (.int (-2))))
def S_JT_is : zSt := (zSw (zL 0 1) (zSwF 0 [0, 1, 2, 3, 4, 5, 6, 7] 8) [W_JT_is_0_0, W_JT_is_0_1, W_JT_is_0_2, W_JT_is_0_3, W_JT_is_0_4, W_JT_is_0_5, W_JT_is_0_6, W_JT_is_0_7, W_JT_is_0_8])
def F_JT_is : zMt := zMeth [3, 0] 2 0 S_JT_is
-- JetTrees.of(II)I
def W_JT_of_0_0 : zSt := (zRet (zGf 0 0 1 (zL 3 3)))
def W_JT_of_0_1 : zSt := (zRet (zGf 0 0 2 (zL 3 3)))
def W_JT_of_0_2 : zSt := (zRet (zGf 0 0 3 (zL 3 3)))
def W_JT_of_0_3 : zSt := (zRet (zK (.int (-1000))))
def S_JT_of : zSt := (zSeq (zAsg 3 (zAn 3 (zCv 2 F_Ev_trackAt [(zAn 3 (zCv 5 F_St_inHand [(zGf 3 10 0 (zL 3 0))])), (zL 0 1)])))
  (zSeq (zIf (zCn (zL 3 3)) (zRet (zK (.int (-1000)))) zSkip)
  (zSw (zL 0 2) (zSwF 0 [0, 1, 2] 3) [W_JT_of_0_0, W_JT_of_0_1, W_JT_of_0_2, W_JT_of_0_3])))
def F_JT_of : zMt := zMeth [3, 0, 0] 4 0 S_JT_of
-- JetTrees.square(II)I
def S_JT_square : zSt := (zSeq (zAsg 3 (zAn 3 (zCv 2 F_Ev_trackAt [(zAn 3 (zCv 5 F_St_inHand [(zGf 3 10 0 (zL 3 0))])), (zL 0 1)])))
  (zSeq (zAsg 4 (zAn 3 (zCv 2 F_Ev_trackAt [(zAn 3 (zCv 5 F_St_inHand [(zGf 3 10 0 (zL 3 0))])), (zL 0 2)])))
  (zRet (zIte (zOr (zCn (zL 3 3)) (zCn (zL 3 4))) (zK (.int (-1))) (zAn 0 (zCv 0 F_Bo_squareTo [(zL 3 3), (zL 3 4)]))))))
def F_JT_square : zMt := zMeth [3, 0, 0] 5 0 S_JT_square
-- JetTrees$Event.nearestTo(LJetTrees$Body;)I
def C_Ev_nearestTo_0 : zCx := (zC2 2 (zL 0 4) (zLen 67 (zGf 3 2 0 (zL 3 0))))
def B_Ev_nearestTo_0 : zSt := (zBl 5 (zSeq (zAsg 5 (zAn 0 (zCv 0 F_Bo_squareTo [(zL 3 1), (zAx 3 67 (zGf 3 2 0 (zL 3 0)) (zL 0 4))])))
  (zSeq (zAsg 6 (zBx (zOr (zOr (zCn (zL 3 2)) (zC2 2 (zL 0 5) (zL 0 3))) (zAnd (zC2 0 (zL 0 5) (zL 0 3)) (zC1 1 (zAn 0 (zCv 0 F_Bo_isAheadOf [(zAx 3 67 (zGf 3 2 0 (zL 3 0)) (zL 0 4)), (zL 3 2)])))))))
  (zIf (zAnd (zC2 1 (zL 0 4) (zGf 0 0 0 (zL 3 1))) (zC1 1 (zL 0 6))) (zSeq (zAsg 2 (zAx 3 67 (zGf 3 2 0 (zL 3 0)) (zL 0 4)))
  (zAsg 3 (zL 0 5))) zSkip))))
def T_Ev_nearestTo_0 : zSt := (zAsg 4 (z2 (oI2 fun x y => x + y) (zL 0 4) (zK (.int 1))))
def L_Ev_nearestTo_0 : zSt := zLp C_Ev_nearestTo_0 B_Ev_nearestTo_0 T_Ev_nearestTo_0
def S_Ev_nearestTo : zSt := (zSeq (zAsg 2 (zK .null))
  (zSeq (zAsg 3 (zK (.int 0)))
  (zSeq (zBl 4 (zSeq (zAsg 4 (zK (.int 0)))
  L_Ev_nearestTo_0))
  (zRet (zIte (zCn (zL 3 2)) (zK (.int (-1))) (zGf 0 0 0 (zL 3 2)))))))
def F_Ev_nearestTo : zMt := zMeth [3, 3] 7 0 S_Ev_nearestTo
-- JetTrees.nearest(I)I
def S_JT_nearest : zSt := (zSeq (zAsg 2 (zAn 3 (zCv 2 F_Ev_trackAt [(zAn 3 (zCv 5 F_St_inHand [(zGf 3 10 0 (zL 3 0))])), (zL 0 1)])))
  (zRet (zIte (zCn (zL 3 2)) (zK (.int (-1))) (zAn 0 (zCv 2 F_Ev_nearestTo [(zAn 3 (zCv 5 F_St_inHand [(zGf 3 10 0 (zL 3 0))])), (zL 3 2)])))))
def F_JT_nearest : zMt := zMeth [3, 0] 3 0 S_JT_nearest
-- JetTrees.tree(II)I
def W_JT_tree_0_0 : zSt := (zRet (zGf 0 9 5 (zL 3 3)))
def W_JT_tree_0_1 : zSt := (zRet (zGf 0 9 7 (zL 3 3)))
def W_JT_tree_0_2 : zSt := (zRet (zGf 0 9 9 (zL 3 3)))
def W_JT_tree_0_3 : zSt := (zRet (zGf 0 9 3 (zL 3 3)))
def W_JT_tree_0_4 : zSt := (zRet (zGf 0 9 0 (zL 3 3)))
def W_JT_tree_0_5 : zSt := (zRet (zGf 0 9 1 (zL 3 3)))
def W_JT_tree_0_6 : zSt := (zRet (zGf 0 9 2 (zL 3 3)))
def W_JT_tree_0_7 : zSt := (zRet (zK (.int (-2))))
def S_JT_tree : zSt := (zSeq (zAsg 3 (zAn 3 (zCv 10 F_JT_treeAt [(zL 3 0), (zL 0 1)])))
  (zSeq (zIf (zCn (zL 3 3)) (zRet (zK (.int (-2)))) zSkip)
  (zSw (zL 0 2) (zSwF 0 [0, 1, 2, 3, 4, 5, 6] 7) [W_JT_tree_0_0, W_JT_tree_0_1, W_JT_tree_0_2, W_JT_tree_0_3, W_JT_tree_0_4, W_JT_tree_0_5, W_JT_tree_0_6, W_JT_tree_0_7])))
def F_JT_tree : zMt := zMeth [3, 0, 0] 4 0 S_JT_tree
-- JetTrees.numberOf(LJetTrees$Knot;)I
def S_JT_numberOf : zSt := (zRet (zIte (zCn (zL 3 0)) (zK (.int (-1))) (zGf 0 0 0 (zGf 3 4 0 (zL 3 0)))))
def F_JT_numberOf : zMt := zMeth [3] 1 0 S_JT_numberOf
-- JetTrees.knot(III)I
def W_JT_knot_0_0 : zSt := (zRet (zGf 0 0 1 (zGf 3 4 0 (zL 3 4))))
def W_JT_knot_0_1 : zSt := (zRet (zGf 0 0 2 (zGf 3 4 0 (zL 3 4))))
def W_JT_knot_0_2 : zSt := (zRet (zGf 0 0 3 (zGf 3 4 0 (zL 3 4))))
def W_JT_knot_0_3 : zSt := (zRet (zAn 0 (zCs F_JT_numberOf [(zGf 3 4 2 (zL 3 4))])))
def W_JT_knot_0_4 : zSt := (zRet (zAn 0 (zCs F_JT_numberOf [(zGf 3 4 3 (zL 3 4))])))
def W_JT_knot_0_5 : zSt := (zRet (zAn 0 (zCs F_JT_numberOf [(zGf 3 4 5 (zL 3 4))])))
def W_JT_knot_0_6 : zSt := (zRet (zGf 0 4 4 (zL 3 4)))
def W_JT_knot_0_7 : zSt := (zRet (zGf 0 4 6 (zL 3 4)))
def W_JT_knot_0_8 : zSt := (zRet (zK (.int (-1000))))
def S_JT_knot : zSt := (zSeq (zAsg 4 (zAn 3 (zCv 10 F_JT_knotAt [(zL 3 0), (zL 0 1), (zL 0 2)])))
  (zSeq (zIf (zCn (zL 3 4)) (zRet (zK (.int (-1000)))) zSkip)
  (zSw (zL 0 3) (zSwF 0 [0, 1, 2, 3, 4, 5, 6, 7] 8) [W_JT_knot_0_0, W_JT_knot_0_1, W_JT_knot_0_2, W_JT_knot_0_3, W_JT_knot_0_4, W_JT_knot_0_5, W_JT_knot_0_6, W_JT_knot_0_7, W_JT_knot_0_8])))
def F_JT_knot : zMt := zMeth [3, 0, 0, 0] 5 0 S_JT_knot
-- JetTrees.origin(II)I
def S_JT_origin : zSt := (zSeq (zAsg 3 (zAn 3 (zCv 10 F_JT_treeAt [(zL 3 0), (zL 0 1)])))
  (zSeq (zIf (zOr (zOr (zCn (zL 3 3)) (zC1 2 (zL 0 2))) (zC2 3 (zL 0 2) (zLen 64 (zGf 3 9 10 (zL 3 3))))) (zRet (zK (.int (-1)))) zSkip)
  (zRet (zAx 0 64 (zGf 3 9 10 (zL 3 3)) (zL 0 2)))))
def F_JT_origin : zMt := zMeth [3, 0, 0] 4 0 S_JT_origin
-- JetTrees.stepAt(II)LJetTrees$Step;
def S_JT_stepAt : zSt := (zSeq (zAsg 3 (zAn 3 (zCv 10 F_JT_treeAt [(zL 3 0), (zL 0 1)])))
  (zRet (zIte (zOr (zOr (zCn (zL 3 3)) (zC1 2 (zL 0 2))) (zC2 3 (zL 0 2) (zGf 0 9 7 (zL 3 3)))) (zK .null) (zAx 3 72 (zGf 3 9 6 (zL 3 3)) (zL 0 2)))))
def F_JT_stepAt : zMt := zMeth [3, 0, 0] 4 3 S_JT_stepAt
-- JetTrees.step(III)I
def W_JT_step_0_0 : zSt := (zRet (zGf 0 6 0 (zL 3 4)))
def W_JT_step_0_1 : zSt := (zRet (zGf 0 6 1 (zL 3 4)))
def W_JT_step_0_2 : zSt := (zRet (zGf 0 6 2 (zL 3 4)))
def W_JT_step_0_3 : zSt := (zRet (zK (.int (-2))))
def S_JT_step : zSt := (zSeq (zAsg 4 (zAn 3 (zCv 10 F_JT_stepAt [(zL 3 0), (zL 0 1), (zL 0 2)])))
  (zSeq (zIf (zCn (zL 3 4)) (zRet (zK (.int (-2)))) zSkip)
  (zSw (zL 0 3) (zSwF 0 [0, 1, 2] 3) [W_JT_step_0_0, W_JT_step_0_1, W_JT_step_0_2, W_JT_step_0_3])))
def F_JT_step : zMt := zMeth [3, 0, 0, 0] 5 0 S_JT_step
-- JetTrees.up(II)J
def S_JT_up : zSt := (zSeq (zAsg 3 (zAn 3 (zCv 10 F_JT_stepAt [(zL 3 0), (zL 0 1), (zL 0 2)])))
  (zRet (zIte (zCn (zL 3 3)) (zK (.long (-1))) (zGf 1 6 3 (zL 3 3)))))
def F_JT_up : zMt := zMeth [3, 0, 0] 4 1 S_JT_up
-- JetTrees.down(II)J
def S_JT_down : zSt := (zSeq (zAsg 3 (zAn 3 (zCv 10 F_JT_stepAt [(zL 3 0), (zL 0 1), (zL 0 2)])))
  (zRet (zIte (zCn (zL 3 3)) (zK (.long (-1))) (zGf 1 6 4 (zL 3 3)))))
def F_JT_down : zMt := zMeth [3, 0, 0] 4 1 S_JT_down
-- JetTrees.leaves(II)J
def S_JT_leaves : zSt := (zSeq (zAsg 3 (zAn 3 (zCv 10 F_JT_knotAt [(zL 3 0), (zL 0 1), (zL 0 2)])))
  (zRet (zIte (zCn (zL 3 3)) (zK (.long 0)) (zGf 1 4 1 (zL 3 3)))))
def F_JT_leaves : zMt := zMeth [3, 0, 0] 4 1 S_JT_leaves
-- JetTrees.jetByWeight(II)LJetTrees$Knot;
def S_JT_jetByWeight : zSt := (zSeq (zAsg 3 (zAn 3 (zCv 10 F_JT_treeAt [(zL 3 0), (zL 0 1)])))
  (zRet (zIte (zOr (zOr (zCn (zL 3 3)) (zC1 2 (zL 0 2))) (zC2 3 (zL 0 2) (zGf 0 9 9 (zL 3 3)))) (zK .null) (zAx 3 71 (zGf 3 9 8 (zL 3 3)) (zL 0 2)))))
def F_JT_jetByWeight : zMt := zMeth [3, 0, 0] 4 3 S_JT_jetByWeight
-- JetTrees.jet(II)I
def S_JT_jet : zSt := (zRet (zAn 0 (zCs F_JT_numberOf [(zAn 3 (zCv 10 F_JT_jetByWeight [(zL 3 0), (zL 0 1), (zL 0 2)]))])))
def F_JT_jet : zMt := zMeth [3, 0, 0] 3 0 S_JT_jet
-- JetTrees$Tree.jetWith(J)LJetTrees$Knot;
def C_Tr_jetWith_0 : zCx := (zC2 2 (zL 0 3) (zGf 0 9 9 (zL 3 0)))
def B_Tr_jetWith_0 : zSt := (zIf (zC1 1 (z2 oLcmp (z2 (oL2 fun x y => x &&& y) (zGf 1 4 1 (zAx 3 71 (zGf 3 9 8 (zL 3 0)) (zL 0 3))) (zL 1 1)) (zK (.long 0)))) (zRet (zAx 3 71 (zGf 3 9 8 (zL 3 0)) (zL 0 3))) zSkip)
def T_Tr_jetWith_0 : zSt := (zAsg 3 (z2 (oI2 fun x y => x + y) (zL 0 3) (zK (.int 1))))
def L_Tr_jetWith_0 : zSt := zLp C_Tr_jetWith_0 B_Tr_jetWith_0 T_Tr_jetWith_0
def S_Tr_jetWith : zSt := (zSeq (zBl 3 (zSeq (zAsg 3 (zK (.int 0)))
  L_Tr_jetWith_0))
  (zRet (zK .null)))
def F_Tr_jetWith : zMt := zMeth [3, 1] 4 3 S_Tr_jetWith
-- JetTrees$Tree.trackAt(I)LJetTrees$Knot;
def S_Tr_trackAt : zSt := (zRet (zIte (zOr (zC1 2 (zL 0 1)) (zC2 3 (zL 0 1) (zGf 0 9 3 (zL 3 0)))) (zK .null) (zAx 3 71 (zGf 3 9 4 (zL 3 0)) (zL 0 1))))
def F_Tr_trackAt : zMt := zMeth [3, 0] 2 3 S_Tr_trackAt
-- JetTrees.jetOf(II)I
def S_JT_jetOf : zSt := (zSeq (zAsg 3 (zAn 3 (zCv 10 F_JT_treeAt [(zL 3 0), (zL 0 1)])))
  (zSeq (zIf (zCn (zL 3 3)) (zRet (zK (.int (-1)))) zSkip)
  (zSeq (zAsg 4 (zAn 3 (zCv 9 F_Tr_trackAt [(zL 3 3), (zL 0 2)])))
  (zRet (zIte (zCn (zL 3 4)) (zK (.int (-1))) (zAn 0 (zCs F_JT_numberOf [(zAn 3 (zCv 9 F_Tr_jetWith [(zL 3 3), (zGf 1 4 1 (zL 3 4))]))])))))))
def F_JT_jetOf : zMt := zMeth [3, 0, 0] 5 0 S_JT_jetOf
-- JetTrees.left(III)I
def S_JT_left : zSt := (zSeq (zAsg 4 (zAn 3 (zCv 10 F_JT_treeAt [(zL 3 0), (zL 0 1)])))
  (zSeq (zIf (zOr (zOr (zCn (zL 3 4)) (zC1 2 (zL 0 2))) (zC2 4 (zL 0 2) (zGf 0 9 7 (zL 3 4)))) (zRet (zK (.int (-1)))) zSkip)
  (zRet (zAn 0 (zCv 9 F_Tr_ithBehind [(zL 3 4), (zL 0 2), (zK (.int 0)), (zL 0 3)])))))
def F_JT_left : zMt := zMeth [3, 0, 0, 0] 5 0 S_JT_left
-- JetTrees.cut(III)I
def S_JT_cut : zSt := (zSeq (zAsg 4 (zAn 3 (zCv 10 F_JT_treeAt [(zL 3 0), (zL 0 1)])))
  (zSeq (zAsg 5 (zIte (zCn (zL 3 4)) (zK (.int (-1))) (zAn 0 (zCv 9 F_Tr_stepsToCount [(zL 3 4), (zL 0 2)]))))
  (zRet (zIte (zOr (zCn (zL 3 4)) (zC2 0 (zL 0 5) (zK (.int (-1))))) (zK (.int (-1))) (zAn 0 (zCv 9 F_Tr_ithBehind [(zL 3 4), (zL 0 5), (zK (.int 1)), (zL 0 3)]))))))
def F_JT_cut : zMt := zMeth [3, 0, 0, 0] 6 0 S_JT_cut
-- JetTrees$Step.isAbove(JJ)Z
def C_Sp_isAbove_0 : zCx := (zAnd (zAnd (zC2 2 (zL 0 14) (zK (.int 2000))) (zC1 1 (z2 oLcmp (zL 1 7) (zK (.long 0))))) (zC1 1 (z2 oLcmp (zL 1 11) (zK (.long 0)))))
def B_Sp_isAbove_0 : zSt := (zBl 15 (zSeq (zAsg 15 (z2 oLdiv (zL 1 5) (zL 1 7)))
  (zSeq (zAsg 17 (z2 oLdiv (zL 1 9) (zL 1 11)))
  (zSeq (zIf (zC1 1 (z2 oLcmp (zL 1 15) (zL 1 17))) (zRet (zBx (zC2 1 (zBx (zC1 4 (z2 oLcmp (zL 1 15) (zL 1 17)))) (zL 0 13)))) zSkip)
  (zSeq (zAsg 19 (z2 oLrem (zL 1 5) (zL 1 7)))
  (zSeq (zAsg 21 (z2 oLrem (zL 1 9) (zL 1 11)))
  (zSeq (zAsg 5 (zL 1 7))
  (zSeq (zAsg 7 (zL 1 19))
  (zSeq (zAsg 9 (zL 1 11))
  (zSeq (zAsg 11 (zL 1 21))
  (zAsg 13 (zBx (zNot (zC1 1 (zL 0 13)))))))))))))))
def T_Sp_isAbove_0 : zSt := (zAsg 14 (z2 (oI2 fun x y => x + y) (zL 0 14) (zK (.int 1))))
def L_Sp_isAbove_0 : zSt := zLp C_Sp_isAbove_0 B_Sp_isAbove_0 T_Sp_isAbove_0
def S_Sp_isAbove : zSt := (zSeq (zAsg 5 (zGf 1 6 3 (zL 3 0)))
  (zSeq (zAsg 7 (zGf 1 6 4 (zL 3 0)))
  (zSeq (zAsg 9 (zL 1 1))
  (zSeq (zAsg 11 (zL 1 3))
  (zSeq (zAsg 13 (zK (.int 0)))
  (zSeq (zBl 14 (zSeq (zAsg 14 (zK (.int 0)))
  L_Sp_isAbove_0))
  (zSeq (zIf (zAnd (zC1 0 (z2 oLcmp (zL 1 7) (zK (.long 0)))) (zC1 0 (z2 oLcmp (zL 1 11) (zK (.long 0))))) (zRet (zK (.int 0))) zSkip)
  (zRet (zBx (zC2 1 (zBx (zC1 0 (z2 oLcmp (zL 1 7) (zK (.long 0))))) (zL 0 13)))))))))))
def F_Sp_isAbove : zMt := zMeth [3, 1, 1] 23 4 S_Sp_isAbove
-- JetTrees$Tree.stepsToMark(JJ)I
def C_Tr_stepsToMark_0 : zCx := (zC2 2 (zL 0 5) (zGf 0 9 7 (zL 3 0)))
def B_Tr_stepsToMark_0 : zSt := (zIf (zC1 1 (zAn 0 (zCv 6 F_Sp_isAbove [(zAx 3 72 (zGf 3 9 6 (zL 3 0)) (zL 0 5)), (zL 1 1), (zL 1 3)]))) (zRet (zL 0 5)) zSkip)
def T_Tr_stepsToMark_0 : zSt := (zAsg 5 (z2 (oI2 fun x y => x + y) (zL 0 5) (zK (.int 1))))
def L_Tr_stepsToMark_0 : zSt := zLp C_Tr_stepsToMark_0 B_Tr_stepsToMark_0 T_Tr_stepsToMark_0
def S_Tr_stepsToMark : zSt := (zSeq (zBl 5 (zSeq (zAsg 5 (zK (.int 0)))
  L_Tr_stepsToMark_0))
  (zRet (zGf 0 9 7 (zL 3 0))))
def F_Tr_stepsToMark : zMt := zMeth [3, 1, 1] 6 0 S_Tr_stepsToMark
-- JetTrees.cutBy(IIII)I
def S_JT_cutBy : zSt := (zSeq (zAsg 5 (zAn 3 (zCv 10 F_JT_treeAt [(zL 3 0), (zL 0 1)])))
  (zSeq (zIf (zOr (zOr (zCn (zL 3 5)) (zC1 2 (zL 0 2))) (zC2 2 (zL 0 3) (zK (.int 1)))) (zRet (zK (.int (-1)))) zSkip)
  (zRet (zAn 0 (zCv 9 F_Tr_ithBehind [(zL 3 5), (zAn 0 (zCv 9 F_Tr_stepsToMark [(zL 3 5), (z1 oI2l (zL 0 2)), (z1 oI2l (zL 0 3))])), (zK (.int 1)), (zL 0 4)])))))
def F_JT_cutBy : zMt := zMeth [3, 0, 0, 0, 0] 6 0 S_JT_cutBy
-- JetTrees$Tree.stepThatJoined(J)I
def C_Tr_stepThatJoined_0 : zCx := (zC2 2 (zL 0 3) (zGf 0 9 5 (zL 3 0)))
def B_Tr_stepThatJoined_0 : zSt := (zIf (zC1 0 (z2 oLcmp (z2 (oL2 fun x y => x &&& y) (zL 1 1) (z2 (oL2 fun x y => x ^^^ y) (zGf 1 4 1 (zAx 3 71 (zGf 3 9 4 (zL 3 0)) (zL 0 3))) (zK (.long (-1))))) (zK (.long 0)))) (zRet (zGf 0 4 4 (zAx 3 71 (zGf 3 9 4 (zL 3 0)) (zL 0 3)))) zSkip)
def T_Tr_stepThatJoined_0 : zSt := (zAsg 3 (z2 (oI2 fun x y => x + y) (zL 0 3) (zK (.int 1))))
def L_Tr_stepThatJoined_0 : zSt := zLp C_Tr_stepThatJoined_0 B_Tr_stepThatJoined_0 T_Tr_stepThatJoined_0
def S_Tr_stepThatJoined : zSt := (zSeq (zBl 3 (zSeq (zAsg 3 (zGf 0 9 3 (zL 3 0)))
  L_Tr_stepThatJoined_0))
  (zRet (zK (.int (-1)))))
def F_Tr_stepThatJoined : zMt := zMeth [3, 1] 4 0 S_Tr_stepThatJoined
-- JetTrees.together(III)I
def S_JT_together : zSt := (zSeq (zAsg 4 (zAn 3 (zCv 10 F_JT_treeAt [(zL 3 0), (zL 0 1)])))
  (zSeq (zIf (zOr (zCn (zL 3 4)) (zC2 0 (zL 0 2) (zL 0 3))) (zRet (zK (.int (-1)))) zSkip)
  (zSeq (zAsg 5 (zAn 3 (zCv 9 F_Tr_trackAt [(zL 3 4), (zL 0 2)])))
  (zSeq (zAsg 6 (zAn 3 (zCv 9 F_Tr_trackAt [(zL 3 4), (zL 0 3)])))
  (zRet (zIte (zOr (zCn (zL 3 5)) (zCn (zL 3 6))) (zK (.int (-1))) (zAn 0 (zCv 9 F_Tr_stepThatJoined [(zL 3 4), (z2 (oL2 fun x y => x ||| y) (zGf 1 4 1 (zL 3 5)) (zGf 1 4 1 (zL 3 6)))]))))))))
def F_JT_together : zMt := zMeth [3, 0, 0, 0] 7 0 S_JT_together
-- JetTrees.isOfThousand(I)Z
def S_JT_isOfThousand : zSt := (zRet (zBx (zAnd (zC1 3 (zL 0 0)) (zC2 5 (zL 0 0) (zK (.int 1000))))))
def F_JT_isOfThousand : zMt := zMeth [0] 1 4 S_JT_isOfThousand
-- JetTrees$Knot.heavier()LJetTrees$Knot;
def S_Kn_heavier : zSt := (zSeq (zIf (zOr (zCn (zGf 3 4 2 (zL 3 0))) (zCn (zGf 3 4 3 (zL 3 0)))) (zRet (zK .null)) zSkip)
  (zRet (zIte (zC2 4 (zGf 0 0 3 (zGf 3 4 0 (zGf 3 4 3 (zL 3 0)))) (zGf 0 0 3 (zGf 3 4 0 (zGf 3 4 2 (zL 3 0))))) (zGf 3 4 3 (zL 3 0)) (zGf 3 4 2 (zL 3 0)))))
def F_Kn_heavier : zMt := zMeth [3] 1 3 S_Kn_heavier
-- JetTrees$Knot.lighter()LJetTrees$Knot;
def S_Kn_lighter : zSt := (zSeq (zIf (zOr (zCn (zGf 3 4 2 (zL 3 0))) (zCn (zGf 3 4 3 (zL 3 0)))) (zRet (zK .null)) zSkip)
  (zRet (zIte (zC2 4 (zGf 0 0 3 (zGf 3 4 0 (zGf 3 4 3 (zL 3 0)))) (zGf 0 0 3 (zGf 3 4 0 (zGf 3 4 2 (zL 3 0))))) (zGf 3 4 2 (zL 3 0)) (zGf 3 4 3 (zL 3 0)))))
def F_Kn_lighter : zMt := zMeth [3] 1 3 S_Kn_lighter
-- JetTrees$Knot.squareOfParts()I
def S_Kn_squareOfParts : zSt := (zRet (zIte (zOr (zCn (zGf 3 4 2 (zL 3 0))) (zCn (zGf 3 4 3 (zL 3 0)))) (zK (.int 0)) (zAn 0 (zCv 0 F_Bo_squareTo [(zGf 3 4 0 (zGf 3 4 2 (zL 3 0))), (zGf 3 4 0 (zGf 3 4 3 (zL 3 0)))]))))
def F_Kn_squareOfParts : zMt := zMeth [3] 1 0 S_Kn_squareOfParts
-- JetTrees$Branches.groomed(LJetTrees$Knot;IZI)LJetTrees$Knot;
def C_Br_groomed_0 : zCx := (zC2 2 (zL 0 5) (zK (.int 40)))
def B_Br_groomed_0 : zSt := (zBl 6 (zSeq (zAsg 6 (zAn 3 (zCv 4 F_Kn_lighter [(zL 3 4)])))
  (zSeq (zAsg 7 (zAn 3 (zCv 4 F_Kn_heavier [(zL 3 4)])))
  (zSeq (zIf (zOr (zCn (zL 3 6)) (zCn (zL 3 7))) (zRet (zL 3 4)) zSkip)
  (zSeq (zAsg 8 (z2 (oL2 fun x y => x * y) (z1 oI2l (zGf 0 0 3 (zGf 3 4 0 (zL 3 6)))) (zK (.long 1000))))
  (zSeq (zAsg 10 (z2 (oL2 fun x y => x * y) (z1 oI2l (zL 0 1)) (z1 oI2l (zGf 0 0 3 (zGf 3 4 0 (zL 3 4))))))
  (zSeq (zIf (zC1 1 (zL 0 2)) (zSeq (zAsg 8 (z2 (oL2 fun x y => x * y) (z2 (oL2 fun x y => x * y) (zL 1 8) (z1 oI2l (zL 0 3))) (z1 oI2l (zL 0 3))))
  (zAsg 10 (z2 (oL2 fun x y => x * y) (zL 1 10) (z1 oI2l (zAn 0 (zCv 4 F_Kn_squareOfParts [(zL 3 4)])))))) zSkip)
  (zSeq (zIf (zC1 3 (z2 oLcmp (zL 1 8) (zL 1 10))) (zRet (zL 3 4)) zSkip)
  (zAsg 4 (zL 3 7))))))))))
def T_Br_groomed_0 : zSt := (zAsg 5 (z2 (oI2 fun x y => x + y) (zL 0 5) (zK (.int 1))))
def L_Br_groomed_0 : zSt := zLp C_Br_groomed_0 B_Br_groomed_0 T_Br_groomed_0
def S_Br_groomed : zSt := (zSeq (zAsg 4 (zL 3 0))
  (zSeq (zBl 5 (zSeq (zAsg 5 (zK (.int 0)))
  L_Br_groomed_0))
  (zRet (zL 3 4))))
def F_Br_groomed : zMt := zMeth [3, 0, 0, 0] 12 3 S_Br_groomed
-- JetTrees.groom(IIII)I
def S_JT_groom : zSt := (zSeq (zAsg 5 (zAn 3 (zCv 10 F_JT_treeAt [(zL 3 0), (zL 0 1)])))
  (zSeq (zAsg 6 (zAn 3 (zCv 10 F_JT_knotAt [(zL 3 0), (zL 0 1), (zL 0 2)])))
  (zSeq (zIf (zOr (zOr (zOr (zOr (zCn (zL 3 5)) (zCn (zL 3 6))) (zNot (zC1 1 (zAn 0 (zCs F_JT_isOfThousand [(zL 0 3)]))))) (zC1 2 (zL 0 4))) (zC2 4 (zL 0 4) (zK (.int 1)))) (zRet (zK (.int (-1)))) zSkip)
  (zRet (zAn 0 (zCs F_JT_numberOf [(zAn 3 (zCs F_Br_groomed [(zL 3 6), (zL 0 3), (zBx (zC2 0 (zL 0 4) (zK (.int 1)))), (zGf 0 9 0 (zL 3 5))]))]))))))
def F_JT_groom : zMt := zMeth [3, 0, 0, 0, 0] 7 0 S_JT_groom
-- JetTrees$Branches.trimmed(LJetTrees$Tree;LJetTrees$Knot;I)J
def C_Br_trimmed_0 : zCx := (zC2 2 (zL 0 5) (zGf 0 9 9 (zL 3 0)))
def B_Br_trimmed_0 : zSt := (zBl 6 (zSeq (zAsg 6 (zAx 3 71 (zGf 3 9 8 (zL 3 0)) (zL 0 5)))
  (zIf (zC1 3 (z2 oLcmp (z2 (oL2 fun x y => x * y) (z1 oI2l (zGf 0 0 3 (zGf 3 4 0 (zL 3 6)))) (zK (.long 1000))) (z2 (oL2 fun x y => x * y) (z1 oI2l (zL 0 2)) (z1 oI2l (zGf 0 0 3 (zGf 3 4 0 (zL 3 1))))))) (zAsg 3 (z2 (oL2 fun x y => x ||| y) (zL 1 3) (zGf 1 4 1 (zL 3 6)))) zSkip)))
def T_Br_trimmed_0 : zSt := (zAsg 5 (z2 (oI2 fun x y => x + y) (zL 0 5) (zK (.int 1))))
def L_Br_trimmed_0 : zSt := zLp C_Br_trimmed_0 B_Br_trimmed_0 T_Br_trimmed_0
def C_Br_trimmed_1 : zCx := (zC2 2 (zL 0 7) (zLen 64 (zGf 3 9 10 (zL 3 0))))
def B_Br_trimmed_1 : zSt := (zIf (zC1 1 (zAn 0 (zCs F_JT_isIn [(zL 1 3), (zL 0 7)]))) (zAsg 5 (z2 (oL2 fun x y => x ||| y) (zL 1 5) (zAn 1 (zCs F_JT_bitOf [(zAx 0 64 (zGf 3 9 10 (zL 3 0)) (zL 0 7))])))) zSkip)
def T_Br_trimmed_1 : zSt := (zAsg 7 (z2 (oI2 fun x y => x + y) (zL 0 7) (zK (.int 1))))
def L_Br_trimmed_1 : zSt := zLp C_Br_trimmed_1 B_Br_trimmed_1 T_Br_trimmed_1
def S_Br_trimmed : zSt := (zSeq (zAsg 3 (zK (.long 0)))
  (zSeq (zBl 5 (zSeq (zAsg 5 (zK (.int 0)))
  L_Br_trimmed_0))
  (zSeq (zAsg 5 (zK (.long 0)))
  (zSeq (zBl 7 (zSeq (zAsg 7 (zK (.int 0)))
  L_Br_trimmed_1))
  (zRet (zL 1 5))))))
def F_Br_trimmed : zMt := zMeth [3, 3, 0] 8 1 S_Br_trimmed
-- JetTrees.trim(IIII)J
def S_JT_trim : zSt := (zSeq (zAsg 5 (zAn 3 (zCv 10 F_JT_treeAt [(zL 3 0), (zL 0 1)])))
  (zSeq (zAsg 6 (zAn 3 (zCv 10 F_JT_knotAt [(zL 3 0), (zL 0 1), (zL 0 2)])))
  (zSeq (zIf (zOr (zOr (zOr (zCn (zL 3 5)) (zCn (zL 3 6))) (zNot (zC1 1 (zAn 0 (zCs F_JT_isRadius [(zL 0 3)]))))) (zNot (zC1 1 (zAn 0 (zCs F_JT_isOfThousand [(zL 0 4)]))))) (zRet (zK (.long 0))) zSkip)
  (zSeq (zAsg 7 (zAn 3 (zCs F_Br_gatheredApart [(zL 3 5), (zL 3 6), (zGf 0 9 1 (zL 3 5)), (zL 0 3)])))
  (zRet (zAn 1 (zCs F_Br_trimmed [(zL 3 7), (zL 3 6), (zL 0 4)])))))))
def F_JT_trim : zMt := zMeth [3, 0, 0, 0, 0] 8 1 S_JT_trim
-- JetTrees$Branches.pruned(LJetTrees$Tree;LJetTrees$Knot;II)J
def C_Br_pruned_0 : zCx := (zC2 3 (zL 0 6) (zGf 0 9 3 (zL 3 0)))
def B_Br_pruned_0 : zSt := (zBl 7 (zSeq (zAsg 7 (zAn 3 (zCv 4 F_Kn_lighter [(zAx 3 71 (zGf 3 9 4 (zL 3 0)) (zL 0 6))])))
  (zSeq (zAsg 8 (zAn 3 (zCv 4 F_Kn_heavier [(zAx 3 71 (zGf 3 9 4 (zL 3 0)) (zL 0 6))])))
  (zIf (zAnd (zAnd (zC1 1 (zAx 0 66 (zL 3 4) (zL 0 6))) (zNot (zCn (zL 3 7)))) (zNot (zCn (zL 3 8)))) (zBl 9 (zSeq (zAsg 9 (zBx (zC1 2 (z2 oLcmp (z2 (oL2 fun x y => x * y) (z1 oI2l (zGf 0 0 3 (zGf 3 4 0 (zL 3 7)))) (zK (.long 1000))) (z2 (oL2 fun x y => x * y) (z1 oI2l (zL 0 2)) (z1 oI2l (zGf 0 0 3 (zGf 3 4 0 (zAx 3 71 (zGf 3 9 4 (zL 3 0)) (zL 0 6))))))))))
  (zSeq (zAs (zStK 66).1 66 (zStK 66).2 (zL 3 4) (zGf 0 0 0 (zGf 3 4 0 (zL 3 8))) (zK (.int 1)))
  (zAs (zStK 66).1 66 (zStK 66).2 (zL 3 4) (zGf 0 0 0 (zGf 3 4 0 (zL 3 7))) (zBx (zOr (zNot (zC1 1 (zL 0 9))) (zC2 5 (zAn 0 (zCv 4 F_Kn_squareOfParts [(zAx 3 71 (zGf 3 9 4 (zL 3 0)) (zL 0 6))])) (z2 (oI2 fun x y => x * y) (zL 0 3) (zL 0 3))))))))) zSkip))))
def T_Br_pruned_0 : zSt := (zAsg 6 (z2 (oI2 fun x y => x + y) (zL 0 6) (zK (.int (-1)))))
def L_Br_pruned_0 : zSt := zLp C_Br_pruned_0 B_Br_pruned_0 T_Br_pruned_0
def C_Br_pruned_1 : zCx := (zC2 2 (zL 0 8) (zGf 0 9 3 (zL 3 0)))
def B_Br_pruned_1 : zSt := (zIf (zC1 1 (zAx 0 66 (zL 3 4) (zL 0 8))) (zAsg 6 (z2 (oL2 fun x y => x ||| y) (zL 1 6) (zAn 1 (zCs F_JT_bitOf [(zL 0 8)])))) zSkip)
def T_Br_pruned_1 : zSt := (zAsg 8 (z2 (oI2 fun x y => x + y) (zL 0 8) (zK (.int 1))))
def L_Br_pruned_1 : zSt := zLp C_Br_pruned_1 B_Br_pruned_1 T_Br_pruned_1
def S_Br_pruned : zSt := (zSeq (zAsg 4 (zNa 66 (.int 0) (zGf 0 9 5 (zL 3 0))))
  (zSeq (zAsg 5 (zGf 0 0 0 (zGf 3 4 0 (zL 3 1))))
  (zSeq (zIf (zOr (zC1 2 (zL 0 5)) (zC2 3 (zL 0 5) (zLen 66 (zL 3 4)))) (zRet (zK (.long 0))) zSkip)
  (zSeq (zAs (zStK 66).1 66 (zStK 66).2 (zL 3 4) (zL 0 5) (zK (.int 1)))
  (zSeq (zBl 6 (zSeq (zAsg 6 (zL 0 5))
  L_Br_pruned_0))
  (zSeq (zAsg 6 (zK (.long 0)))
  (zSeq (zBl 8 (zSeq (zAsg 8 (zK (.int 0)))
  L_Br_pruned_1))
  (zRet (zL 1 6)))))))))
def F_Br_pruned : zMt := zMeth [3, 3, 0, 0] 10 1 S_Br_pruned
-- JetTrees.prune(IIII)J
def S_JT_prune : zSt := (zSeq (zAsg 5 (zAn 3 (zCv 10 F_JT_treeAt [(zL 3 0), (zL 0 1)])))
  (zSeq (zAsg 6 (zAn 3 (zCv 10 F_JT_knotAt [(zL 3 0), (zL 0 1), (zL 0 2)])))
  (zSeq (zIf (zOr (zOr (zOr (zCn (zL 3 5)) (zCn (zL 3 6))) (zNot (zC1 1 (zAn 0 (zCs F_JT_isOfThousand [(zL 0 3)]))))) (zNot (zC1 1 (zAn 0 (zCs F_JT_isRadius [(zL 0 4)]))))) (zRet (zK (.long 0))) zSkip)
  (zRet (zAn 1 (zCs F_Br_pruned [(zL 3 5), (zL 3 6), (zL 0 3), (zL 0 4)]))))))
def F_JT_prune : zMt := zMeth [3, 0, 0, 0, 0] 7 1 S_JT_prune
-- JetTrees$Branches.lightShare(LJetTrees$Knot;)I
def S_Br_lightShare : zSt := (zSeq (zAsg 1 (zAn 3 (zCv 4 F_Kn_lighter [(zL 3 0)])))
  (zRet (zIte (zCn (zL 3 1)) (zK (.int 0)) (zAn 0 (zCs F_JT_downward [(z2 (oI2 fun x y => x * y) (zGf 0 0 3 (zGf 3 4 0 (zL 3 1))) (zK (.int 1000))), (zGf 0 0 3 (zGf 3 4 0 (zL 3 0)))])))))
def F_Br_lightShare : zMt := zMeth [3] 2 0 S_Br_lightShare
-- JetTrees$Branches.splitsOf(LJetTrees$Knot;)I
def C_Br_splitsOf_0 : zCx := (zC2 2 (zL 0 2) (zK (.int 40)))
def B_Br_splitsOf_0 : zSt := (zBl 3 (zSeq (zAsg 3 (zAn 3 (zCv 4 F_Kn_heavier [(zL 3 1)])))
  (zSeq (zIf (zCn (zL 3 3)) (zRet (zL 0 2)) zSkip)
  (zAsg 1 (zL 3 3)))))
def T_Br_splitsOf_0 : zSt := (zAsg 2 (z2 (oI2 fun x y => x + y) (zL 0 2) (zK (.int 1))))
def L_Br_splitsOf_0 : zSt := zLp C_Br_splitsOf_0 B_Br_splitsOf_0 T_Br_splitsOf_0
def S_Br_splitsOf : zSt := (zSeq (zAsg 1 (zL 3 0))
  (zSeq (zBl 2 (zSeq (zAsg 2 (zK (.int 0)))
  L_Br_splitsOf_0))
  (zRet (zK (.int 40)))))
def F_Br_splitsOf : zMt := zMeth [3] 4 0 S_Br_splitsOf
-- JetTrees$Branches.splitAt(LJetTrees$Knot;I)LJetTrees$Knot;
def C_Br_splitAt_0 : zCx := (zAnd (zC2 2 (zL 0 3) (zL 0 1)) (zNot (zCn (zL 3 2))))
def B_Br_splitAt_0 : zSt := (zAsg 2 (zAn 3 (zCv 4 F_Kn_heavier [(zL 3 2)])))
def T_Br_splitAt_0 : zSt := (zAsg 3 (z2 (oI2 fun x y => x + y) (zL 0 3) (zK (.int 1))))
def L_Br_splitAt_0 : zSt := zLp C_Br_splitAt_0 B_Br_splitAt_0 T_Br_splitAt_0
def S_Br_splitAt : zSt := (zSeq (zIf (zOr (zC1 2 (zL 0 1)) (zC2 3 (zL 0 1) (zAn 0 (zCs F_Br_splitsOf [(zL 3 0)])))) (zRet (zK .null)) zSkip)
  (zSeq (zAsg 2 (zL 3 0))
  (zSeq (zBl 3 (zSeq (zAsg 3 (zK (.int 0)))
  L_Br_splitAt_0))
  (zRet (zL 3 2)))))
def F_Br_splitAt : zMt := zMeth [3, 0] 4 3 S_Br_splitAt
-- JetTrees.split(IIII)I
def W_JT_split_0_0 : zSt := (zRet (zGf 0 0 0 (zGf 3 4 0 (zL 3 6))))
def W_JT_split_0_1 : zSt := (zRet (zAn 0 (zCs F_Br_lightShare [(zL 3 6)])))
def W_JT_split_0_2 : zSt := (zRet (zAn 0 (zCv 4 F_Kn_squareOfParts [(zL 3 6)])))
def W_JT_split_0_3 : zSt := (zRet (zK (.int (-1))))
def S_JT_split : zSt := (zSeq (zAsg 5 (zAn 3 (zCv 10 F_JT_knotAt [(zL 3 0), (zL 0 1), (zL 0 2)])))
  (zSeq (zIf (zCn (zL 3 5)) (zRet (zK (.int (-1)))) zSkip)
  (zSeq (zIf (zC2 0 (zL 0 3) (zK (.int (-1)))) (zRet (zAn 0 (zCs F_Br_splitsOf [(zL 3 5)]))) zSkip)
  (zSeq (zAsg 6 (zAn 3 (zCs F_Br_splitAt [(zL 3 5), (zL 0 3)])))
  (zSeq (zIf (zCn (zL 3 6)) (zRet (zK (.int (-1)))) zSkip)
  (zSw (zL 0 4) (zSwF 0 [0, 1, 2] 3) [W_JT_split_0_0, W_JT_split_0_1, W_JT_split_0_2, W_JT_split_0_3]))))))
def F_JT_split : zMt := zMeth [3, 0, 0, 0, 0] 7 0 S_JT_split
-- JetTrees$Branches.quotientBits(JJ)J
def C_Br_quotientBits_0 : zCx := (zAnd (zC2 2 (zL 0 9) (zK (.int 2000))) (zC1 2 (z2 (oDcmp .g) (zL 2 4) (zL 2 6))))
def B_Br_quotientBits_0 : zSt := (zSeq (zAsg 4 (z2 (oD2 FP.dmul) (zL 2 4) (zK (.double 4611686018427387904))))
  (zAsg 8 (z2 (oI2 fun x y => x + y) (zL 0 8) (zK (.int (-1))))))
def T_Br_quotientBits_0 : zSt := (zAsg 9 (z2 (oI2 fun x y => x + y) (zL 0 9) (zK (.int 1))))
def L_Br_quotientBits_0 : zSt := zLp C_Br_quotientBits_0 B_Br_quotientBits_0 T_Br_quotientBits_0
def C_Br_quotientBits_1 : zCx := (zAnd (zC2 2 (zL 0 9) (zK (.int 2000))) (zC1 3 (z2 (oDcmp .l) (zL 2 4) (z2 (oD2 FP.dmul) (zL 2 6) (zK (.double 4611686018427387904))))))
def B_Br_quotientBits_1 : zSt := (zSeq (zAsg 4 (z2 (oD2 FP.ddiv) (zL 2 4) (zK (.double 4611686018427387904))))
  (zAsg 8 (z2 (oI2 fun x y => x + y) (zL 0 8) (zK (.int 1)))))
def T_Br_quotientBits_1 : zSt := (zAsg 9 (z2 (oI2 fun x y => x + y) (zL 0 9) (zK (.int 1))))
def L_Br_quotientBits_1 : zSt := zLp C_Br_quotientBits_1 B_Br_quotientBits_1 T_Br_quotientBits_1
def S_Br_quotientBits : zSt := (zSeq (zIf (zOr (zC1 5 (z2 oLcmp (zL 1 0) (zK (.long 0)))) (zC1 5 (z2 oLcmp (zL 1 2) (zK (.long 0))))) (zRet (zK (.long 0))) zSkip)
  (zSeq (zAsg 4 (z2 (oD2 FP.ddiv) (z1 oL2d (zL 1 0)) (z1 oL2d (zL 1 2))))
  (zSeq (zAsg 6 (zK (.double 4841369599423283200)))
  (zSeq (zAsg 8 (zK (.int 52)))
  (zSeq (zBl 9 (zSeq (zAsg 9 (zK (.int 0)))
  L_Br_quotientBits_0))
  (zSeq (zBl 9 (zSeq (zAsg 9 (zK (.int 0)))
  L_Br_quotientBits_1))
  (zRet (z2 (oL2 fun x y => x ||| y) (z2 (oLsh fun x y => x <<< (y.toInt64 &&& 63)) (z1 oI2l (z2 (oI2 fun x y => x + y) (zL 0 8) (zK (.int 1023)))) (zK (.int 52))) (z2 (oL2 fun x y => x &&& y) (z1 oD2l (zL 2 4)) (zK (.long 4503599627370495)))))))))))
def F_Br_quotientBits : zMt := zMeth [1, 1] 10 1 S_Br_quotientBits
-- JetTrees$Branches.widthBits(LJetTrees$Tree;LJetTrees$Knot;)J
def C_Br_widthBits_0 : zCx := (zC2 2 (zL 0 4) (zGf 0 9 3 (zL 3 0)))
def B_Br_widthBits_0 : zSt := (zIf (zC1 1 (zAn 0 (zCs F_JT_isIn [(zGf 1 4 1 (zL 3 1)), (zL 0 4)]))) (zBl 5 (zSeq (zAsg 5 (zGf 3 4 0 (zAx 3 71 (zGf 3 9 4 (zL 3 0)) (zL 0 4))))
  (zAsg 2 (z2 (oL2 fun x y => x + y) (zL 1 2) (z2 (oL2 fun x y => x * y) (z1 oI2l (zGf 0 0 3 (zL 3 5))) (z1 oI2l (zAn 0 (zCv 0 F_Bo_squareTo [(zL 3 5), (zGf 3 4 0 (zL 3 1))])))))))) zSkip)
def T_Br_widthBits_0 : zSt := (zAsg 4 (z2 (oI2 fun x y => x + y) (zL 0 4) (zK (.int 1))))
def L_Br_widthBits_0 : zSt := zLp C_Br_widthBits_0 B_Br_widthBits_0 T_Br_widthBits_0
def S_Br_widthBits : zSt := (zSeq (zAsg 2 (zK (.long 0)))
  (zSeq (zBl 4 (zSeq (zAsg 4 (zK (.int 0)))
  L_Br_widthBits_0))
  (zRet (zAn 1 (zCs F_Br_quotientBits [(zL 1 2), (z1 oI2l (zGf 0 0 3 (zGf 3 4 0 (zL 3 1))))])))))
def F_Br_widthBits : zMt := zMeth [3, 3] 6 1 S_Br_widthBits
-- JetTrees.width(II)J
def S_JT_width : zSt := (zSeq (zAsg 3 (zAn 3 (zCv 10 F_JT_treeAt [(zL 3 0), (zL 0 1)])))
  (zSeq (zAsg 4 (zAn 3 (zCv 10 F_JT_knotAt [(zL 3 0), (zL 0 1), (zL 0 2)])))
  (zRet (zIte (zOr (zCn (zL 3 3)) (zCn (zL 3 4))) (zK (.long 0)) (zAn 1 (zCs F_Br_widthBits [(zL 3 3), (zL 3 4)]))))))
def F_JT_width : zMt := zMeth [3, 0, 0] 5 1 S_JT_width
-- JetTrees$Body.pairedWith(LJetTrees$Body;)J
def S_Bo_pairedWith : zSt := (zRet (z2 (oL2 fun x y => x * y) (z2 (oL2 fun x y => x * y) (z1 oI2l (zGf 0 0 3 (zL 3 0))) (z1 oI2l (zGf 0 0 3 (zL 3 1)))) (z1 oI2l (zAn 0 (zCv 0 F_Bo_squareTo [(zL 3 0), (zL 3 1)])))))
def F_Bo_pairedWith : zMt := zMeth [3, 3] 2 1 S_Bo_pairedWith
-- JetTrees$Branches.closenessBits(LJetTrees$Tree;LJetTrees$Knot;)J
def C_Br_closenessBits_1 : zCx := (zC2 2 (zL 0 5) (zGf 0 9 3 (zL 3 0)))
def B_Br_closenessBits_1 : zSt := (zIf (zAnd (zC1 1 (zAn 0 (zCs F_JT_isIn [(zGf 1 4 1 (zL 3 1)), (zL 0 4)]))) (zC1 1 (zAn 0 (zCs F_JT_isIn [(zGf 1 4 1 (zL 3 1)), (zL 0 5)])))) (zAsg 2 (z2 (oL2 fun x y => x + y) (zL 1 2) (zAn 1 (zCv 0 F_Bo_pairedWith [(zGf 3 4 0 (zAx 3 71 (zGf 3 9 4 (zL 3 0)) (zL 0 4))), (zGf 3 4 0 (zAx 3 71 (zGf 3 9 4 (zL 3 0)) (zL 0 5)))])))) zSkip)
def T_Br_closenessBits_1 : zSt := (zAsg 5 (z2 (oI2 fun x y => x + y) (zL 0 5) (zK (.int 1))))
def L_Br_closenessBits_1 : zSt := zLp C_Br_closenessBits_1 B_Br_closenessBits_1 T_Br_closenessBits_1
def C_Br_closenessBits_0 : zCx := (zC2 2 (zL 0 4) (zGf 0 9 3 (zL 3 0)))
def B_Br_closenessBits_0 : zSt := (zBl 5 (zSeq (zAsg 5 (z2 (oI2 fun x y => x + y) (zL 0 4) (zK (.int 1))))
  L_Br_closenessBits_1))
def T_Br_closenessBits_0 : zSt := (zAsg 4 (z2 (oI2 fun x y => x + y) (zL 0 4) (zK (.int 1))))
def L_Br_closenessBits_0 : zSt := zLp C_Br_closenessBits_0 B_Br_closenessBits_0 T_Br_closenessBits_0
def S_Br_closenessBits : zSt := (zSeq (zAsg 2 (zK (.long 0)))
  (zSeq (zBl 4 (zSeq (zAsg 4 (zK (.int 0)))
  L_Br_closenessBits_0))
  (zRet (zAn 1 (zCs F_Br_quotientBits [(zL 1 2), (z2 (oL2 fun x y => x * y) (z1 oI2l (zGf 0 0 3 (zGf 3 4 0 (zL 3 1)))) (z1 oI2l (zGf 0 0 3 (zGf 3 4 0 (zL 3 1)))))])))))
def F_Br_closenessBits : zMt := zMeth [3, 3] 6 1 S_Br_closenessBits
-- JetTrees.closeness(II)J
def S_JT_closeness : zSt := (zSeq (zAsg 3 (zAn 3 (zCv 10 F_JT_treeAt [(zL 3 0), (zL 0 1)])))
  (zSeq (zAsg 4 (zAn 3 (zCv 10 F_JT_knotAt [(zL 3 0), (zL 0 1), (zL 0 2)])))
  (zRet (zIte (zOr (zCn (zL 3 3)) (zCn (zL 3 4))) (zK (.long 0)) (zAn 1 (zCs F_Br_closenessBits [(zL 3 3), (zL 3 4)]))))))
def F_JT_closeness : zMt := zMeth [3, 0, 0] 5 1 S_JT_closeness
-- JetTrees.keptAt(I)[J
def S_JT_keptAt : zSt := (zRet (zIte (zOr (zC1 2 (zL 0 1)) (zC2 3 (zL 0 1) (zK (.int 4)))) (zK .null) (zAx 3 73 (zGf 3 5 7 (zGf 3 10 0 (zL 3 0))) (zL 0 1))))
def F_JT_keptAt : zMt := zMeth [3, 0] 2 3 S_JT_keptAt
-- JetTrees.kept(II)J
def S_JT_kept : zSt := (zSeq (zAsg 3 (zAn 3 (zCv 10 F_JT_keptAt [(zL 3 0), (zL 0 1)])))
  (zSeq (zIf (zCn (zL 3 3)) (zRet (zK (.long (-1)))) zSkip)
  (zSeq (zIf (zC2 0 (zL 0 2) (zK (.int (-1)))) (zRet (z1 oI2l (zLen 65 (zL 3 3)))) zSkip)
  (zRet (zIte (zOr (zC1 2 (zL 0 2)) (zC2 3 (zL 0 2) (zLen 65 (zL 3 3)))) (zK (.long (-1))) (zAx 1 65 (zL 3 3) (zL 0 2)))))))
def F_JT_kept : zMt := zMeth [3, 0, 0] 4 1 S_JT_kept
-- JetTrees.isInOneOf(J[J)Z
def C_JT_isInOneOf_0 : zCx := (zC2 2 (zL 0 3) (zLen 65 (zL 3 2)))
def B_JT_isInOneOf_0 : zSt := (zIf (zC1 0 (z2 oLcmp (z2 (oL2 fun x y => x &&& y) (zL 1 0) (z2 (oL2 fun x y => x ^^^ y) (zAx 1 65 (zL 3 2) (zL 0 3)) (zK (.long (-1))))) (zK (.long 0)))) (zRet (zK (.int 1))) zSkip)
def T_JT_isInOneOf_0 : zSt := (zAsg 3 (z2 (oI2 fun x y => x + y) (zL 0 3) (zK (.int 1))))
def L_JT_isInOneOf_0 : zSt := zLp C_JT_isInOneOf_0 B_JT_isInOneOf_0 T_JT_isInOneOf_0
def S_JT_isInOneOf : zSt := (zSeq (zBl 3 (zSeq (zAsg 3 (zK (.int 0)))
  L_JT_isInOneOf_0))
  (zRet (zK (.int 0))))
def F_JT_isInOneOf : zMt := zMeth [1, 3] 4 4 S_JT_isInOneOf
-- JetTrees.within(II)Z
def C_JT_within_0 : zCx := (zC2 2 (zL 0 5) (zLen 65 (zL 3 3)))
def B_JT_within_0 : zSt := (zIf (zNot (zC1 1 (zAn 0 (zCs F_JT_isInOneOf [(zAx 1 65 (zL 3 3) (zL 0 5)), (zL 3 4)])))) (zRet (zK (.int 0))) zSkip)
def T_JT_within_0 : zSt := (zAsg 5 (z2 (oI2 fun x y => x + y) (zL 0 5) (zK (.int 1))))
def L_JT_within_0 : zSt := zLp C_JT_within_0 B_JT_within_0 T_JT_within_0
def S_JT_within : zSt := (zSeq (zAsg 3 (zAn 3 (zCv 10 F_JT_keptAt [(zL 3 0), (zL 0 1)])))
  (zSeq (zAsg 4 (zAn 3 (zCv 10 F_JT_keptAt [(zL 3 0), (zL 0 2)])))
  (zSeq (zIf (zOr (zCn (zL 3 3)) (zCn (zL 3 4))) (zRet (zK (.int 0))) zSkip)
  (zSeq (zBl 5 (zSeq (zAsg 5 (zK (.int 0)))
  L_JT_within_0))
  (zRet (zK (.int 1)))))))
def F_JT_within : zMt := zMeth [3, 0, 0] 6 4 S_JT_within
-- JetTrees$Knot.wasJoined()Z
def S_Kn_wasJoined : zSt := (zRet (zBx (zAnd (zNot (zCn (zGf 3 4 2 (zL 3 0)))) (zNot (zCn (zGf 3 4 3 (zL 3 0)))))))
def F_Kn_wasJoined : zMt := zMeth [3] 1 4 S_Kn_wasJoined
-- JetTrees$Branches.latestJoined([LJetTrees$Knot;I)I
def C_Br_latestJoined_0 : zCx := (zC2 2 (zL 0 3) (zL 0 1))
def B_Br_latestJoined_0 : zSt := (zIf (zAnd (zC1 1 (zAn 0 (zCv 4 F_Kn_wasJoined [(zAx 3 71 (zL 3 0) (zL 0 3))]))) (zOr (zC2 0 (zL 0 2) (zK (.int (-1)))) (zC2 4 (zGf 0 4 4 (zAx 3 71 (zL 3 0) (zL 0 3))) (zGf 0 4 4 (zAx 3 71 (zL 3 0) (zL 0 2)))))) (zAsg 2 (zL 0 3)) zSkip)
def T_Br_latestJoined_0 : zSt := (zAsg 3 (z2 (oI2 fun x y => x + y) (zL 0 3) (zK (.int 1))))
def L_Br_latestJoined_0 : zSt := zLp C_Br_latestJoined_0 B_Br_latestJoined_0 T_Br_latestJoined_0
def S_Br_latestJoined : zSt := (zSeq (zAsg 2 (zK (.int (-1))))
  (zSeq (zBl 3 (zSeq (zAsg 3 (zK (.int 0)))
  L_Br_latestJoined_0))
  (zRet (zL 0 2))))
def F_Br_latestJoined : zMt := zMeth [3, 0] 4 0 S_Br_latestJoined
-- JetTrees$Branches.leastSquare(LJetTrees$Body;[LJetTrees$Knot;I)I
def C_Br_leastSquare_0 : zCx := (zC2 2 (zL 0 4) (zL 0 2))
def B_Br_leastSquare_0 : zSt := (zAsg 3 (zAn 0 (zCs F_Ma_min_7cf53 [(zL 0 3), (zAn 0 (zCv 0 F_Bo_squareTo [(zL 3 0), (zGf 3 4 0 (zAx 3 71 (zL 3 1) (zL 0 4)))]))])))
def T_Br_leastSquare_0 : zSt := (zAsg 4 (z2 (oI2 fun x y => x + y) (zL 0 4) (zK (.int 1))))
def L_Br_leastSquare_0 : zSt := zLp C_Br_leastSquare_0 B_Br_leastSquare_0 T_Br_leastSquare_0
def S_Br_leastSquare : zSt := (zSeq (zAsg 3 (zAn 0 (zCv 0 F_Bo_squareTo [(zL 3 0), (zGf 3 4 0 (zAx 3 71 (zL 3 1) (zK (.int 0))))])))
  (zSeq (zBl 4 (zSeq (zAsg 4 (zK (.int 1)))
  L_Br_leastSquare_0))
  (zRet (zL 0 3))))
def F_Br_leastSquare : zMt := zMeth [3, 3, 0] 5 0 S_Br_leastSquare
-- JetTrees$Branches.tauBits(LJetTrees$Tree;LJetTrees$Knot;I)J
def C_Br_tauBits_0 : zCx := (zAnd (zC2 2 (zL 0 5) (zL 0 2)) (zC2 2 (zL 0 4) (zLen 71 (zL 3 3))))
def B_Br_tauBits_0 : zSt := (zBl 6 (zSeq (zAsg 6 (zAn 0 (zCs F_Br_latestJoined [(zL 3 3), (zL 0 4)])))
  (zSeq (zIf (zC2 0 (zL 0 6) (zK (.int (-1)))) zBrk zSkip)
  (zSeq (zAsg 7 (zAx 3 71 (zL 3 3) (zL 0 6)))
  (zSeq (zAs (zStK 71).1 71 (zStK 71).2 (zL 3 3) (zL 0 6) (zGf 3 4 2 (zL 3 7)))
  (zSeq (zAs (zStK 71).1 71 (zStK 71).2 (zL 3 3) (zL 0 4) (zGf 3 4 3 (zL 3 7)))
  (zAsg 4 (z2 (oI2 fun x y => x + y) (zL 0 4) (zK (.int 1))))))))))
def T_Br_tauBits_0 : zSt := (zAsg 5 (z2 (oI2 fun x y => x + y) (zL 0 5) (zK (.int 1))))
def L_Br_tauBits_0 : zSt := zLp C_Br_tauBits_0 B_Br_tauBits_0 T_Br_tauBits_0
def C_Br_tauBits_1 : zCx := (zC2 2 (zL 0 7) (zGf 0 9 3 (zL 3 0)))
def B_Br_tauBits_1 : zSt := (zIf (zC1 1 (zAn 0 (zCs F_JT_isIn [(zGf 1 4 1 (zL 3 1)), (zL 0 7)]))) (zBl 8 (zSeq (zAsg 8 (zGf 3 4 0 (zAx 3 71 (zGf 3 9 4 (zL 3 0)) (zL 0 7))))
  (zAsg 5 (z2 (oL2 fun x y => x + y) (zL 1 5) (z2 (oL2 fun x y => x * y) (z1 oI2l (zGf 0 0 3 (zL 3 8))) (z1 oI2l (zAn 0 (zCs F_Br_leastSquare [(zL 3 8), (zL 3 3), (zL 0 4)])))))))) zSkip)
def T_Br_tauBits_1 : zSt := (zAsg 7 (z2 (oI2 fun x y => x + y) (zL 0 7) (zK (.int 1))))
def L_Br_tauBits_1 : zSt := zLp C_Br_tauBits_1 B_Br_tauBits_1 T_Br_tauBits_1
def S_Br_tauBits : zSt := (zSeq (zAsg 3 (zNa 71 .null (zK (.int 9))))
  (zSeq (zAs (zStK 71).1 71 (zStK 71).2 (zL 3 3) (zK (.int 0)) (zL 3 1))
  (zSeq (zAsg 4 (zK (.int 1)))
  (zSeq (zBl 5 (zSeq (zAsg 5 (zK (.int 1)))
  L_Br_tauBits_0))
  (zSeq (zAsg 5 (zK (.long 0)))
  (zSeq (zBl 7 (zSeq (zAsg 7 (zK (.int 0)))
  L_Br_tauBits_1))
  (zRet (zAn 1 (zCs F_Br_quotientBits [(zL 1 5), (z1 oI2l (zGf 0 0 3 (zGf 3 4 0 (zL 3 1))))])))))))))
def F_Br_tauBits : zMt := zMeth [3, 3, 0] 9 1 S_Br_tauBits
-- JetTrees.tau(III)J
def S_JT_tau : zSt := (zSeq (zAsg 4 (zAn 3 (zCv 10 F_JT_treeAt [(zL 3 0), (zL 0 1)])))
  (zSeq (zAsg 5 (zAn 3 (zCv 10 F_JT_knotAt [(zL 3 0), (zL 0 1), (zL 0 2)])))
  (zSeq (zIf (zOr (zOr (zOr (zCn (zL 3 4)) (zCn (zL 3 5))) (zC2 2 (zL 0 3) (zK (.int 1)))) (zC2 4 (zL 0 3) (zK (.int 9)))) (zRet (zK (.long 0))) zSkip)
  (zRet (zAn 1 (zCs F_Br_tauBits [(zL 3 4), (zL 3 5), (zL 0 3)]))))))
def F_JT_tau : zMt := zMeth [3, 0, 0, 0] 6 1 S_JT_tau
-- JetTrees$Tree.weightOf(J)I
def C_Tr_weightOf_0 : zCx := (zC2 2 (zL 0 4) (zGf 0 9 3 (zL 3 0)))
def B_Tr_weightOf_0 : zSt := (zIf (zC1 1 (zAn 0 (zCs F_JT_isIn [(zL 1 1), (zL 0 4)]))) (zAsg 3 (z2 (oI2 fun x y => x + y) (zL 0 3) (zGf 0 0 3 (zGf 3 4 0 (zAx 3 71 (zGf 3 9 4 (zL 3 0)) (zL 0 4)))))) zSkip)
def T_Tr_weightOf_0 : zSt := (zAsg 4 (z2 (oI2 fun x y => x + y) (zL 0 4) (zK (.int 1))))
def L_Tr_weightOf_0 : zSt := zLp C_Tr_weightOf_0 B_Tr_weightOf_0 T_Tr_weightOf_0
def S_Tr_weightOf : zSt := (zSeq (zAsg 3 (zK (.int 0)))
  (zSeq (zBl 4 (zSeq (zAsg 4 (zK (.int 0)))
  L_Tr_weightOf_0))
  (zRet (zL 0 3))))
def F_Tr_weightOf : zMt := zMeth [3, 1] 5 0 S_Tr_weightOf
-- JetTrees.matched(III)I
def C_JT_matched_0 : zCx := (zC2 2 (zL 0 9) (zGf 0 9 9 (zL 3 5)))
def B_JT_matched_0 : zSt := (zBl 10 (zSeq (zAsg 10 (zAn 0 (zCv 9 F_Tr_weightOf [(zL 3 4), (z2 (oL2 fun x y => x &&& y) (zGf 1 4 1 (zL 3 6)) (zGf 1 4 1 (zAx 3 71 (zGf 3 9 8 (zL 3 5)) (zL 0 9))))])))
  (zIf (zC2 4 (zL 0 10) (zL 0 8)) (zSeq (zAsg 8 (zL 0 10))
  (zAsg 7 (zAx 3 71 (zGf 3 9 8 (zL 3 5)) (zL 0 9)))) zSkip)))
def T_JT_matched_0 : zSt := (zAsg 9 (z2 (oI2 fun x y => x + y) (zL 0 9) (zK (.int 1))))
def L_JT_matched_0 : zSt := zLp C_JT_matched_0 B_JT_matched_0 T_JT_matched_0
def S_JT_matched : zSt := (zSeq (zAsg 4 (zAn 3 (zCv 10 F_JT_treeAt [(zL 3 0), (zL 0 1)])))
  (zSeq (zAsg 5 (zAn 3 (zCv 10 F_JT_treeAt [(zL 3 0), (zL 0 3)])))
  (zSeq (zAsg 6 (zAn 3 (zCv 10 F_JT_knotAt [(zL 3 0), (zL 0 1), (zL 0 2)])))
  (zSeq (zIf (zOr (zOr (zOr (zCn (zL 3 4)) (zCn (zL 3 5))) (zCn (zL 3 6))) (zNot (zCn (zGf 3 4 5 (zL 3 6))))) (zRet (zK (.int (-1)))) zSkip)
  (zSeq (zAsg 7 (zK .null))
  (zSeq (zAsg 8 (zK (.int 0)))
  (zSeq (zBl 9 (zSeq (zAsg 9 (zK (.int 0)))
  L_JT_matched_0))
  (zRet (zAn 0 (zCs F_JT_numberOf [(zL 3 7)]))))))))))
def F_JT_matched : zMt := zMeth [3, 0, 0, 0] 11 0 S_JT_matched
-- JetTrees$Tree.jetsUnlike(LJetTrees$Tree;)I
def C_Tr_jetsUnlike_0 : zCx := (zC2 2 (zL 0 3) (zGf 0 9 9 (zL 3 0)))
def B_Tr_jetsUnlike_0 : zSt := (zBl 4 (zSeq (zAsg 4 (zAn 3 (zCv 9 F_Tr_jetWith [(zL 3 1), (zGf 1 4 1 (zAx 3 71 (zGf 3 9 8 (zL 3 0)) (zL 0 3)))])))
  (zIf (zOr (zCn (zL 3 4)) (zC1 1 (z2 oLcmp (zGf 1 4 1 (zL 3 4)) (zGf 1 4 1 (zAx 3 71 (zGf 3 9 8 (zL 3 0)) (zL 0 3)))))) (zAsg 2 (z2 (oI2 fun x y => x + y) (zL 0 2) (zK (.int 1)))) zSkip)))
def T_Tr_jetsUnlike_0 : zSt := (zAsg 3 (z2 (oI2 fun x y => x + y) (zL 0 3) (zK (.int 1))))
def L_Tr_jetsUnlike_0 : zSt := zLp C_Tr_jetsUnlike_0 B_Tr_jetsUnlike_0 T_Tr_jetsUnlike_0
def S_Tr_jetsUnlike : zSt := (zSeq (zAsg 2 (zK (.int 0)))
  (zSeq (zBl 3 (zSeq (zAsg 3 (zK (.int 0)))
  L_Tr_jetsUnlike_0))
  (zRet (zL 0 2))))
def F_Tr_jetsUnlike : zMt := zMeth [3, 3] 5 0 S_Tr_jetsUnlike
-- JetTrees.alike(II)Z
def S_JT_alike : zSt := (zSeq (zAsg 3 (zAn 3 (zCv 10 F_JT_treeAt [(zL 3 0), (zL 0 1)])))
  (zSeq (zAsg 4 (zAn 3 (zCv 10 F_JT_treeAt [(zL 3 0), (zL 0 2)])))
  (zSeq (zIf (zOr (zCn (zL 3 3)) (zCn (zL 3 4))) (zRet (zK (.int 0))) zSkip)
  (zRet (zBx (zAnd (zC1 0 (zAn 0 (zCv 9 F_Tr_jetsUnlike [(zL 3 3), (zL 3 4)]))) (zC1 0 (zAn 0 (zCv 9 F_Tr_jetsUnlike [(zL 3 4), (zL 3 3)])))))))))
def F_JT_alike : zMt := zMeth [3, 0, 0] 5 4 S_JT_alike
-- JetTrees.unlike(II)I
def S_JT_unlike : zSt := (zSeq (zAsg 3 (zAn 3 (zCv 10 F_JT_treeAt [(zL 3 0), (zL 0 1)])))
  (zSeq (zAsg 4 (zAn 3 (zCv 10 F_JT_treeAt [(zL 3 0), (zL 0 2)])))
  (zRet (zIte (zOr (zCn (zL 3 3)) (zCn (zL 3 4))) (zK (.int (-1))) (zAn 0 (zCv 9 F_Tr_jetsUnlike [(zL 3 3), (zL 3 4)]))))))
def F_JT_unlike : zMt := zMeth [3, 0, 0] 5 0 S_JT_unlike
-- JetTrees.backToBack(I)I
def S_JT_backToBack : zSt := (zSeq (zAsg 2 (zAn 3 (zCv 10 F_JT_jetByWeight [(zL 3 0), (zL 0 1), (zK (.int 0))])))
  (zSeq (zAsg 3 (zAn 3 (zCv 10 F_JT_jetByWeight [(zL 3 0), (zL 0 1), (zK (.int 1))])))
  (zSeq (zIf (zOr (zCn (zL 3 2)) (zCn (zL 3 3))) (zRet (zK (.int (-1)))) zSkip)
  (zRet (zAn 0 (zCs F_Bo_lesserWay [(zGf 0 0 2 (zGf 3 4 0 (zL 3 2))), (zGf 0 0 2 (zGf 3 4 0 (zL 3 3)))]))))))
def F_JT_backToBack : zMt := zMeth [3, 0] 4 0 S_JT_backToBack
-- JetTrees$Step.isLike(LJetTrees$Step;)Z
def S_Sp_isLike : zSt := (zRet (zBx (zAnd (zAnd (zAnd (zAnd (zC2 0 (zGf 0 6 0 (zL 3 0)) (zGf 0 6 0 (zL 3 1))) (zC2 0 (zGf 0 6 1 (zL 3 0)) (zGf 0 6 1 (zL 3 1)))) (zC2 0 (zGf 0 6 2 (zL 3 0)) (zGf 0 6 2 (zL 3 1)))) (zC1 0 (z2 oLcmp (zGf 1 6 3 (zL 3 0)) (zGf 1 6 3 (zL 3 1))))) (zC1 0 (z2 oLcmp (zGf 1 6 4 (zL 3 0)) (zGf 1 6 4 (zL 3 1)))))))
def F_Sp_isLike : zMt := zMeth [3, 3] 2 4 S_Sp_isLike
-- JetTrees$Tree.hasStepsOf(LJetTrees$Tree;)Z
def C_Tr_hasStepsOf_0 : zCx := (zC2 2 (zL 0 2) (zGf 0 9 7 (zL 3 0)))
def B_Tr_hasStepsOf_0 : zSt := (zIf (zNot (zC1 1 (zAn 0 (zCv 6 F_Sp_isLike [(zAx 3 72 (zGf 3 9 6 (zL 3 0)) (zL 0 2)), (zAx 3 72 (zGf 3 9 6 (zL 3 1)) (zL 0 2))])))) (zRet (zK (.int 0))) zSkip)
def T_Tr_hasStepsOf_0 : zSt := (zAsg 2 (z2 (oI2 fun x y => x + y) (zL 0 2) (zK (.int 1))))
def L_Tr_hasStepsOf_0 : zSt := zLp C_Tr_hasStepsOf_0 B_Tr_hasStepsOf_0 T_Tr_hasStepsOf_0
def S_Tr_hasStepsOf : zSt := (zSeq (zIf (zC2 1 (zGf 0 9 7 (zL 3 0)) (zGf 0 9 7 (zL 3 1))) (zRet (zK (.int 0))) zSkip)
  (zSeq (zBl 2 (zSeq (zAsg 2 (zK (.int 0)))
  L_Tr_hasStepsOf_0))
  (zRet (zK (.int 1)))))
def F_Tr_hasStepsOf : zMt := zMeth [3, 3] 3 4 S_Tr_hasStepsOf
-- JetTrees.fresh(I)Z
def S_JT_fresh : zSt := (zSeq (zAsg 2 (zAn 3 (zCv 10 F_JT_treeAt [(zL 3 0), (zL 0 1)])))
  (zSeq (zIf (zOr (zCn (zL 3 2)) (zC2 1 (zAn 0 (zCv 2 F_Ev_size [(zAn 3 (zCv 5 F_St_inHand [(zGf 3 10 0 (zL 3 0))]))])) (zGf 0 9 3 (zL 3 2)))) (zRet (zK (.int 0))) zSkip)
  (zRet (zAn 0 (zCv 9 F_Tr_hasStepsOf [(zAn 3 (zCv 10 F_JT_gatheredNow [(zL 3 0)])), (zL 3 2)])))))
def F_JT_fresh : zMt := zMeth [3, 0] 3 4 S_JT_fresh
-- JetTrees.pair(III)J
def S_JT_pair : zSt := (zSeq (zAsg 4 (zAn 3 (zCv 10 F_JT_jetByWeight [(zL 3 0), (zL 0 1), (zL 0 2)])))
  (zSeq (zAsg 5 (zAn 3 (zCv 10 F_JT_jetByWeight [(zL 3 0), (zL 0 1), (zL 0 3)])))
  (zSeq (zIf (zOr (zOr (zCn (zL 3 4)) (zCn (zL 3 5))) (zC2 3 (zL 0 2) (zL 0 3))) (zRet (zK (.long (-1)))) zSkip)
  (zRet (zAn 1 (zCv 0 F_Bo_pairedWith [(zGf 3 4 0 (zL 3 4)), (zGf 3 4 0 (zL 3 5))]))))))
def F_JT_pair : zMt := zMeth [3, 0, 0, 0] 6 1 S_JT_pair
-- java/lang/Math.abs(J)J
def S_Ma_abs_067f4 : zSt := (zRet (zIte (zC1 2 (z2 oLcmp (zL 1 0) (zK (.long 0)))) (z1 (oL1 fun x => -x) (zL 1 0)) (zL 1 0)))
def F_Ma_abs_067f4 : zMt := zMeth [1] 2 1 S_Ma_abs_067f4
-- JetTrees$Tree.pairNearestTo(J)I
def C_Tr_pairNearestTo_1 : zCx := (zC2 2 (zL 0 7) (zGf 0 9 9 (zL 3 0)))
def B_Tr_pairNearestTo_1 : zSt := (zBl 8 (zSeq (zAsg 8 (zAn 1 (zCs F_Ma_abs_067f4 [(z2 (oL2 fun x y => x - y) (zAn 1 (zCv 0 F_Bo_pairedWith [(zGf 3 4 0 (zAx 3 71 (zGf 3 9 8 (zL 3 0)) (zL 0 6))), (zGf 3 4 0 (zAx 3 71 (zGf 3 9 8 (zL 3 0)) (zL 0 7)))])) (zL 1 1))])))
  (zIf (zOr (zC2 0 (zL 0 3) (zK (.int (-1)))) (zC1 2 (z2 oLcmp (zL 1 8) (zL 1 4)))) (zSeq (zAsg 4 (zL 1 8))
  (zAsg 3 (z2 (oI2 fun x y => x + y) (z2 (oI2 fun x y => x * y) (zK (.int 40)) (zL 0 6)) (zL 0 7)))) zSkip)))
def T_Tr_pairNearestTo_1 : zSt := (zAsg 7 (z2 (oI2 fun x y => x + y) (zL 0 7) (zK (.int 1))))
def L_Tr_pairNearestTo_1 : zSt := zLp C_Tr_pairNearestTo_1 B_Tr_pairNearestTo_1 T_Tr_pairNearestTo_1
def C_Tr_pairNearestTo_0 : zCx := (zC2 2 (zL 0 6) (zGf 0 9 9 (zL 3 0)))
def B_Tr_pairNearestTo_0 : zSt := (zBl 7 (zSeq (zAsg 7 (z2 (oI2 fun x y => x + y) (zL 0 6) (zK (.int 1))))
  L_Tr_pairNearestTo_1))
def T_Tr_pairNearestTo_0 : zSt := (zAsg 6 (z2 (oI2 fun x y => x + y) (zL 0 6) (zK (.int 1))))
def L_Tr_pairNearestTo_0 : zSt := zLp C_Tr_pairNearestTo_0 B_Tr_pairNearestTo_0 T_Tr_pairNearestTo_0
def S_Tr_pairNearestTo : zSt := (zSeq (zAsg 3 (zK (.int (-1))))
  (zSeq (zAsg 4 (zK (.long 0)))
  (zSeq (zBl 6 (zSeq (zAsg 6 (zK (.int 0)))
  L_Tr_pairNearestTo_0))
  (zRet (zL 0 3)))))
def F_Tr_pairNearestTo : zMt := zMeth [3, 1] 10 0 S_Tr_pairNearestTo
-- JetTrees.nearestPair(IJ)I
def S_JT_nearestPair : zSt := (zSeq (zAsg 4 (zAn 3 (zCv 10 F_JT_treeAt [(zL 3 0), (zL 0 1)])))
  (zSeq (zIf (zOr (zCn (zL 3 4)) (zC1 2 (z2 oLcmp (zL 1 2) (zK (.long 0))))) (zRet (zK (.int (-1)))) zSkip)
  (zRet (zAn 0 (zCv 9 F_Tr_pairNearestTo [(zL 3 4), (zL 1 2)])))))
def F_JT_nearestPair : zMt := zMeth [3, 0, 1] 5 0 S_JT_nearestPair
-- JetTrees.count(III)I
def C_JT_count_0 : zCx := (zC2 2 (zL 0 6) (zGf 0 9 9 (zL 3 4)))
def B_JT_count_0 : zSt := (zBl 7 (zSeq (zAsg 7 (zGf 3 4 0 (zAx 3 71 (zGf 3 9 8 (zL 3 4)) (zL 0 6))))
  (zIf (zAnd (zC2 3 (zGf 0 0 3 (zL 3 7)) (zL 0 2)) (zC2 5 (zAn 0 (zCs F_Ma_abs_0f7a4 [(zGf 0 0 1 (zL 3 7))])) (zL 0 3))) (zAsg 5 (z2 (oI2 fun x y => x + y) (zL 0 5) (zK (.int 1)))) zSkip)))
def T_JT_count_0 : zSt := (zAsg 6 (z2 (oI2 fun x y => x + y) (zL 0 6) (zK (.int 1))))
def L_JT_count_0 : zSt := zLp C_JT_count_0 B_JT_count_0 T_JT_count_0
def S_JT_count : zSt := (zSeq (zAsg 4 (zAn 3 (zCv 10 F_JT_treeAt [(zL 3 0), (zL 0 1)])))
  (zSeq (zIf (zOr (zOr (zOr (zCn (zL 3 4)) (zC1 2 (zL 0 2))) (zC1 2 (zL 0 3))) (zC2 4 (zL 0 3) (zK (.int 200)))) (zRet (zK (.int (-1)))) zSkip)
  (zSeq (zAsg 5 (zK (.int 0)))
  (zSeq (zBl 6 (zSeq (zAsg 6 (zK (.int 0)))
  L_JT_count_0))
  (zRet (zL 0 5))))))
def F_JT_count : zMt := zMeth [3, 0, 0, 0] 8 0 S_JT_count
-- JetTrees$Tree.joinedInCommon(LJetTrees$Tree;)I
def C_Tr_joinedInCommon_1 : zCx := (zC2 2 (zL 0 4) (zGf 0 9 5 (zL 3 1)))
def B_Tr_joinedInCommon_1 : zSt := (zIf (zC1 0 (z2 oLcmp (zGf 1 4 1 (zAx 3 71 (zGf 3 9 4 (zL 3 0)) (zL 0 3))) (zGf 1 4 1 (zAx 3 71 (zGf 3 9 4 (zL 3 1)) (zL 0 4))))) (zAsg 2 (z2 (oI2 fun x y => x + y) (zL 0 2) (zK (.int 1)))) zSkip)
def T_Tr_joinedInCommon_1 : zSt := (zAsg 4 (z2 (oI2 fun x y => x + y) (zL 0 4) (zK (.int 1))))
def L_Tr_joinedInCommon_1 : zSt := zLp C_Tr_joinedInCommon_1 B_Tr_joinedInCommon_1 T_Tr_joinedInCommon_1
def C_Tr_joinedInCommon_0 : zCx := (zC2 2 (zL 0 3) (zGf 0 9 5 (zL 3 0)))
def B_Tr_joinedInCommon_0 : zSt := (zBl 4 (zSeq (zAsg 4 (zGf 0 9 3 (zL 3 1)))
  L_Tr_joinedInCommon_1))
def T_Tr_joinedInCommon_0 : zSt := (zAsg 3 (z2 (oI2 fun x y => x + y) (zL 0 3) (zK (.int 1))))
def L_Tr_joinedInCommon_0 : zSt := zLp C_Tr_joinedInCommon_0 B_Tr_joinedInCommon_0 T_Tr_joinedInCommon_0
def S_Tr_joinedInCommon : zSt := (zSeq (zAsg 2 (zK (.int 0)))
  (zSeq (zBl 3 (zSeq (zAsg 3 (zGf 0 9 3 (zL 3 0)))
  L_Tr_joinedInCommon_0))
  (zRet (zL 0 2))))
def F_Tr_joinedInCommon : zMt := zMeth [3, 3] 5 0 S_Tr_joinedInCommon
-- JetTrees.common(II)I
def S_JT_common : zSt := (zSeq (zAsg 3 (zAn 3 (zCv 10 F_JT_treeAt [(zL 3 0), (zL 0 1)])))
  (zSeq (zAsg 4 (zAn 3 (zCv 10 F_JT_treeAt [(zL 3 0), (zL 0 2)])))
  (zRet (zIte (zOr (zCn (zL 3 3)) (zCn (zL 3 4))) (zK (.int (-1))) (zAn 0 (zCv 9 F_Tr_joinedInCommon [(zL 3 3), (zL 3 4)]))))))
def F_JT_common : zMt := zMeth [3, 0, 0] 5 0 S_JT_common
-- JetTrees$Event.asTheyComeAhead()[LJetTrees$Body;
def C_Ev_asTheyComeAhead_1 : zCx := (zAnd (zC1 4 (zL 0 5)) (zC1 1 (zAn 0 (zCv 0 F_Bo_isAheadOf [(zL 3 3), (zAx 3 67 (zL 3 1) (z2 (oI2 fun x y => x - y) (zL 0 5) (zK (.int 1))))]))))
def B_Ev_asTheyComeAhead_1 : zSt := (zSeq (zAs (zStK 67).1 67 (zStK 67).2 (zL 3 1) (zL 0 5) (zAx 3 67 (zL 3 1) (z2 (oI2 fun x y => x - y) (zL 0 5) (zK (.int 1)))))
  (zAsg 4 (z2 (oI2 fun x y => x - y) (zL 0 5) (zK (.int 1)))))
def T_Ev_asTheyComeAhead_1 : zSt := (zAsg 5 (z2 (oI2 fun x y => x + y) (zL 0 5) (zK (.int (-1)))))
def L_Ev_asTheyComeAhead_1 : zSt := zLp C_Ev_asTheyComeAhead_1 B_Ev_asTheyComeAhead_1 T_Ev_asTheyComeAhead_1
def C_Ev_asTheyComeAhead_0 : zCx := (zC2 2 (zL 0 2) (zLen 67 (zL 3 1)))
def B_Ev_asTheyComeAhead_0 : zSt := (zBl 3 (zSeq (zAsg 3 (zAx 3 67 (zL 3 1) (zL 0 2)))
  (zSeq (zAsg 4 (zL 0 2))
  (zSeq (zBl 5 (zSeq (zAsg 5 (zL 0 2))
  L_Ev_asTheyComeAhead_1))
  (zAs (zStK 67).1 67 (zStK 67).2 (zL 3 1) (zL 0 4) (zL 3 3))))))
def T_Ev_asTheyComeAhead_0 : zSt := (zAsg 2 (z2 (oI2 fun x y => x + y) (zL 0 2) (zK (.int 1))))
def L_Ev_asTheyComeAhead_0 : zSt := zLp C_Ev_asTheyComeAhead_0 B_Ev_asTheyComeAhead_0 T_Ev_asTheyComeAhead_0
def S_Ev_asTheyComeAhead : zSt := (zSeq (zAsg 1 (zAn 3 (zCv 2 F_Ev_copiedTo [(zL 3 0), (zLen 67 (zGf 3 2 0 (zL 3 0)))])))
  (zSeq (zBl 2 (zSeq (zAsg 2 (zK (.int 1)))
  L_Ev_asTheyComeAhead_0))
  (zRet (zL 3 1))))
def F_Ev_asTheyComeAhead : zMt := zMeth [3] 6 3 S_Ev_asTheyComeAhead
-- JetTrees$Event.leastWithoutWay([LJetTrees$Body;[I)I
def C_Ev_leastWithoutWay_1 : zCx := (zC2 2 (zL 0 5) (zLen 67 (zL 3 0)))
def B_Ev_leastWithoutWay_1 : zSt := (zBl 6 (zSeq (zAsg 6 (zAn 0 (zCv 0 F_Bo_squareTo [(zAx 3 67 (zL 3 0) (zL 0 4)), (zAx 3 67 (zL 3 0) (zL 0 5))])))
  (zIf (zAnd (zC2 1 (zAx 0 64 (zL 3 1) (zL 0 4)) (zAx 0 64 (zL 3 1) (zL 0 5))) (zOr (zC2 0 (zL 0 2) (zK (.int (-1)))) (zC2 2 (zL 0 6) (zL 0 3)))) (zSeq (zAsg 3 (zL 0 6))
  (zAsg 2 (z2 (oI2 fun x y => x + y) (z2 (oI2 fun x y => x * y) (zL 0 4) (zLen 67 (zL 3 0))) (zL 0 5)))) zSkip)))
def T_Ev_leastWithoutWay_1 : zSt := (zAsg 5 (z2 (oI2 fun x y => x + y) (zL 0 5) (zK (.int 1))))
def L_Ev_leastWithoutWay_1 : zSt := zLp C_Ev_leastWithoutWay_1 B_Ev_leastWithoutWay_1 T_Ev_leastWithoutWay_1
def C_Ev_leastWithoutWay_0 : zCx := (zC2 2 (zL 0 4) (zLen 67 (zL 3 0)))
def B_Ev_leastWithoutWay_0 : zSt := (zBl 5 (zSeq (zAsg 5 (z2 (oI2 fun x y => x + y) (zL 0 4) (zK (.int 1))))
  L_Ev_leastWithoutWay_1))
def T_Ev_leastWithoutWay_0 : zSt := (zAsg 4 (z2 (oI2 fun x y => x + y) (zL 0 4) (zK (.int 1))))
def L_Ev_leastWithoutWay_0 : zSt := zLp C_Ev_leastWithoutWay_0 B_Ev_leastWithoutWay_0 T_Ev_leastWithoutWay_0
def S_Ev_leastWithoutWay : zSt := (zSeq (zAsg 2 (zK (.int (-1))))
  (zSeq (zAsg 3 (zK (.int 0)))
  (zSeq (zBl 4 (zSeq (zAsg 4 (zK (.int 0)))
  L_Ev_leastWithoutWay_0))
  (zRet (zL 0 2)))))
def F_Ev_leastWithoutWay : zMt := zMeth [3, 3] 7 0 S_Ev_leastWithoutWay
-- JetTrees$Event.putTogether([III)V
def C_Ev_putTogether_0 : zCx := (zC2 2 (zL 0 3) (zLen 64 (zL 3 0)))
def B_Ev_putTogether_0 : zSt := (zIf (zC2 0 (zAx 0 64 (zL 3 0) (zL 0 3)) (zL 0 2)) (zAs (zStK 64).1 64 (zStK 64).2 (zL 3 0) (zL 0 3) (zL 0 1)) zSkip)
def T_Ev_putTogether_0 : zSt := (zAsg 3 (z2 (oI2 fun x y => x + y) (zL 0 3) (zK (.int 1))))
def L_Ev_putTogether_0 : zSt := zLp C_Ev_putTogether_0 B_Ev_putTogether_0 T_Ev_putTogether_0
def S_Ev_putTogether : zSt := (zSeq (zBl 3 (zSeq (zAsg 3 (zK (.int 0)))
  L_Ev_putTogether_0))
  zRetV)
def F_Ev_putTogether : zMt := zMeth [3, 0, 0] 4 9 S_Ev_putTogether
-- JetTrees$Event.spanned(II)I
def C_Ev_spanned_0 : zCx := (zC2 2 (zL 0 5) (zLen 67 (zL 3 3)))
def B_Ev_spanned_0 : zSt := (zAs (zStK 64).1 64 (zStK 64).2 (zL 3 4) (zL 0 5) (zL 0 5))
def T_Ev_spanned_0 : zSt := (zAsg 5 (z2 (oI2 fun x y => x + y) (zL 0 5) (zK (.int 1))))
def L_Ev_spanned_0 : zSt := zLp C_Ev_spanned_0 B_Ev_spanned_0 T_Ev_spanned_0
def C_Ev_spanned_1 : zCx := (zC2 2 (zL 0 5) (zLen 67 (zL 3 3)))
def B_Ev_spanned_1 : zSt := (zBl 6 (zSeq (zAsg 6 (zAn 0 (zCs F_Ev_leastWithoutWay [(zL 3 3), (zL 3 4)])))
  (zSeq (zIf (zOr (zC2 0 (zL 0 6) (zK (.int (-1)))) (zC1 0 (zLen 67 (zL 3 3)))) (zRet (zK (.int (-1)))) zSkip)
  (zSeq (zAsg 7 (zAx 3 67 (zL 3 3) (z2 oIdiv (zL 0 6) (zLen 67 (zL 3 3)))))
  (zSeq (zAsg 8 (zAx 3 67 (zL 3 3) (z2 oIrem (zL 0 6) (zLen 67 (zL 3 3)))))
  (zSeq (zIf (zC2 0 (zL 0 5) (zL 0 1)) (zRet (zIte (zC1 0 (zL 0 2)) (zGf 0 0 0 (zL 3 7)) (zIte (zC2 0 (zL 0 2) (zK (.int 1))) (zGf 0 0 0 (zL 3 8)) (zAn 0 (zCv 0 F_Bo_squareTo [(zL 3 7), (zL 3 8)]))))) zSkip)
  (zDo (zCs F_Ev_putTogether [(zL 3 4), (zAx 0 64 (zL 3 4) (z2 oIdiv (zL 0 6) (zLen 67 (zL 3 3)))), (zAx 0 64 (zL 3 4) (z2 oIrem (zL 0 6) (zLen 67 (zL 3 3))))]))))))))
def T_Ev_spanned_1 : zSt := (zAsg 5 (z2 (oI2 fun x y => x + y) (zL 0 5) (zK (.int 1))))
def L_Ev_spanned_1 : zSt := zLp C_Ev_spanned_1 B_Ev_spanned_1 T_Ev_spanned_1
def S_Ev_spanned : zSt := (zSeq (zAsg 3 (zAn 3 (zCv 2 F_Ev_asTheyComeAhead [(zL 3 0)])))
  (zSeq (zAsg 4 (zNa 64 (.int 0) (zLen 67 (zL 3 3))))
  (zSeq (zBl 5 (zSeq (zAsg 5 (zK (.int 0)))
  L_Ev_spanned_0))
  (zSeq (zBl 5 (zSeq (zAsg 5 (zK (.int 0)))
  L_Ev_spanned_1))
  (zRet (zK (.int (-1))))))))
def F_Ev_spanned : zMt := zMeth [3, 0, 0] 9 0 S_Ev_spanned
-- JetTrees.span(II)I
def S_JT_span : zSt := (zSeq (zIf (zC2 0 (zL 0 1) (zK (.int (-1)))) (zRet (zIte (zC1 0 (zL 0 2)) (zAn 0 (zCs F_Ma_max_7cf53 [(zK (.int 0)), (z2 (oI2 fun x y => x - y) (zAn 0 (zCv 2 F_Ev_size [(zAn 3 (zCv 5 F_St_inHand [(zGf 3 10 0 (zL 3 0))]))])) (zK (.int 1)))])) (zK (.int (-1))))) zSkip)
  (zSeq (zIf (zOr (zOr (zOr (zC1 2 (zL 0 1)) (zC2 3 (zL 0 1) (z2 (oI2 fun x y => x - y) (zAn 0 (zCv 2 F_Ev_size [(zAn 3 (zCv 5 F_St_inHand [(zGf 3 10 0 (zL 3 0))]))])) (zK (.int 1))))) (zC1 2 (zL 0 2))) (zC2 4 (zL 0 2) (zK (.int 2)))) (zRet (zK (.int (-1)))) zSkip)
  (zRet (zAn 0 (zCv 2 F_Ev_spanned [(zAn 3 (zCv 5 F_St_inHand [(zGf 3 10 0 (zL 3 0))])), (zL 0 1), (zL 0 2)])))))
def F_JT_span : zMt := zMeth [3, 0, 0] 3 0 S_JT_span
-- JetTrees$Event.wayToNext(I)I
def C_Ev_wayToNext_0 : zCx := (zC2 2 (zL 0 3) (zLen 67 (zGf 3 2 0 (zL 3 0))))
def B_Ev_wayToNext_0 : zSt := (zBl 4 (zSeq (zAsg 4 (zAn 0 (zCs F_Ma_floorMod_7cf53 [(z2 (oI2 fun x y => x - y) (zGf 0 0 2 (zAx 3 67 (zGf 3 2 0 (zL 3 0)) (zL 0 3))) (zL 0 1)), (zK (.int 360))])))
  (zIf (zAnd (zC1 4 (zL 0 4)) (zC2 2 (zL 0 4) (zL 0 2))) (zAsg 2 (zL 0 4)) zSkip)))
def T_Ev_wayToNext_0 : zSt := (zAsg 3 (z2 (oI2 fun x y => x + y) (zL 0 3) (zK (.int 1))))
def L_Ev_wayToNext_0 : zSt := zLp C_Ev_wayToNext_0 B_Ev_wayToNext_0 T_Ev_wayToNext_0
def S_Ev_wayToNext : zSt := (zSeq (zAsg 2 (zK (.int 360)))
  (zSeq (zBl 3 (zSeq (zAsg 3 (zK (.int 0)))
  L_Ev_wayToNext_0))
  (zRet (zL 0 2))))
def F_Ev_wayToNext : zMt := zMeth [3, 0] 5 0 S_Ev_wayToNext
-- JetTrees$Event.greatestGap(Z)I
def C_Ev_greatestGap_0 : zCx := (zC2 2 (zL 0 4) (zLen 67 (zGf 3 2 0 (zL 3 0))))
def B_Ev_greatestGap_0 : zSt := (zBl 5 (zSeq (zAsg 5 (zGf 0 0 2 (zAx 3 67 (zGf 3 2 0 (zL 3 0)) (zL 0 4))))
  (zSeq (zAsg 6 (zAn 0 (zCv 2 F_Ev_wayToNext [(zL 3 0), (zL 0 5)])))
  (zIf (zOr (zC2 4 (zL 0 6) (zL 0 2)) (zAnd (zC2 0 (zL 0 6) (zL 0 2)) (zC2 2 (zL 0 5) (zL 0 3)))) (zSeq (zAsg 2 (zL 0 6))
  (zAsg 3 (zL 0 5))) zSkip))))
def T_Ev_greatestGap_0 : zSt := (zAsg 4 (z2 (oI2 fun x y => x + y) (zL 0 4) (zK (.int 1))))
def L_Ev_greatestGap_0 : zSt := zLp C_Ev_greatestGap_0 B_Ev_greatestGap_0 T_Ev_greatestGap_0
def S_Ev_greatestGap : zSt := (zSeq (zAsg 2 (zK (.int (-1))))
  (zSeq (zAsg 3 (zK (.int (-1))))
  (zSeq (zBl 4 (zSeq (zAsg 4 (zK (.int 0)))
  L_Ev_greatestGap_0))
  (zRet (zIte (zC1 1 (zL 0 1)) (zL 0 3) (zL 0 2))))))
def F_Ev_greatestGap : zMt := zMeth [3, 0] 7 0 S_Ev_greatestGap
-- JetTrees.gap(I)I
def S_JT_gap : zSt := (zSeq (zIf (zOr (zC1 2 (zL 0 1)) (zC2 4 (zL 0 1) (zK (.int 1)))) (zRet (zK (.int (-1)))) zSkip)
  (zRet (zAn 0 (zCv 2 F_Ev_greatestGap [(zAn 3 (zCv 5 F_St_inHand [(zGf 3 10 0 (zL 3 0))])), (zBx (zC2 0 (zL 0 1) (zK (.int 1))))]))))
def F_JT_gap : zMt := zMeth [3, 0] 2 0 S_JT_gap
-- JetTrees.isTile(I)Z
def S_JT_isTile : zSt := (zRet (zBx (zAnd (zC2 3 (zL 0 0) (zK (.int 1))) (zC2 5 (zL 0 0) (zK (.int 100))))))
def F_JT_isTile : zMt := zMeth [0] 1 4 S_JT_isTile
-- JetTrees$Tiling.add(LJetTrees$Body;)V
def C_Ti_add_0 : zCx := (zAnd (zC2 2 (zL 0 4) (zGf 0 8 5 (zL 3 0))) (zOr (zC2 1 (zAx 0 64 (zGf 3 8 1 (zL 3 0)) (zL 0 4)) (zL 0 2)) (zC2 1 (zAx 0 64 (zGf 3 8 2 (zL 3 0)) (zL 0 4)) (zL 0 3))))
def B_Ti_add_0 : zSt := (zAsg 4 (z2 (oI2 fun x y => x + y) (zL 0 4) (zK (.int 1))))
def T_Ti_add_0 : zSt := zSkip
def L_Ti_add_0 : zSt := zLp C_Ti_add_0 B_Ti_add_0 T_Ti_add_0
def S_Ti_add : zSt := (zSeq (zAsg 2 (zAn 0 (zCs F_JT_downward [(zGf 0 0 1 (zL 3 1)), (zGf 0 8 0 (zL 3 0))])))
  (zSeq (zAsg 3 (zAn 0 (zCs F_JT_downward [(zGf 0 0 2 (zL 3 1)), (zGf 0 8 0 (zL 3 0))])))
  (zSeq (zAsg 4 (zK (.int 0)))
  (zSeq L_Ti_add_0
  (zSeq (zIf (zC2 3 (zL 0 4) (zK (.int 40))) zRetV zSkip)
  (zSeq (zIf (zC2 0 (zL 0 4) (zGf 0 8 5 (zL 3 0))) (zSeq (zAs (zStK 64).1 64 (zStK 64).2 (zGf 3 8 1 (zL 3 0)) (zL 0 4) (zL 0 2))
  (zSeq (zAs (zStK 64).1 64 (zStK 64).2 (zGf 3 8 2 (zL 3 0)) (zL 0 4) (zL 0 3))
  (zPfo 0 8 5 (oI2 fun x y => x + y) (zL 3 0) (zK (.int 1))))) zSkip)
  (zSeq (zAso (zStK 64).1 64 (oI2 fun x y => x + y) (zGf 3 8 3 (zL 3 0)) (zL 0 4) (zGf 0 0 3 (zL 3 1)))
  (zSeq (zAso (zStK 64).1 64 (oI2 fun x y => x + y) (zGf 3 8 4 (zL 3 0)) (zL 0 4) (zK (.int 1)))
  zRetV))))))))
def F_Ti_add : zMt := zMeth [3, 3] 5 9 S_Ti_add
-- JetTrees$Tiling.<init>(I)V
def S_Ti_init : zSt := (zSeq zObj
  (zSeq (zPf 0 8 0 (zL 3 0) (zL 0 1))
  (zSeq (zPf 3 8 1 (zL 3 0) (zNa 64 (.int 0) (zK (.int 40))))
  (zSeq (zPf 3 8 2 (zL 3 0) (zNa 64 (.int 0) (zK (.int 40))))
  (zSeq (zPf 3 8 3 (zL 3 0) (zNa 64 (.int 0) (zK (.int 40))))
  (zSeq (zPf 3 8 4 (zL 3 0) (zNa 64 (.int 0) (zK (.int 40))))
  (zSeq (zPf 0 8 5 (zL 3 0) (zK (.int 0)))
  zRetV)))))))
def F_Ti_init : zMt := zMeth [3, 0] 2 9 S_Ti_init
-- JetTrees$Event.tiledBy(I)LJetTrees$Tiling;
def C_Ev_tiledBy_0 : zCx := (zC2 2 (zL 0 3) (zLen 67 (zGf 3 2 0 (zL 3 0))))
def B_Ev_tiledBy_0 : zSt := (zDo (zCv 8 F_Ti_add [(zL 3 2), (zAx 3 67 (zGf 3 2 0 (zL 3 0)) (zL 0 3))]))
def T_Ev_tiledBy_0 : zSt := (zAsg 3 (z2 (oI2 fun x y => x + y) (zL 0 3) (zK (.int 1))))
def L_Ev_tiledBy_0 : zSt := zLp C_Ev_tiledBy_0 B_Ev_tiledBy_0 T_Ev_tiledBy_0
def S_Ev_tiledBy : zSt := (zSeq (zAsg 2 (zNew 8 6 [.int 0, .null, .null, .null, .null, .int 0] F_Ti_init [(zL 0 1)]))
  (zSeq (zBl 3 (zSeq (zAsg 3 (zK (.int 0)))
  L_Ev_tiledBy_0))
  (zRet (zL 3 2))))
def F_Ev_tiledBy : zMt := zMeth [3, 0] 4 3 S_Ev_tiledBy
-- JetTrees$Tiling.mostTracks()I
def C_Ti_mostTracks_0 : zCx := (zC2 2 (zL 0 2) (zGf 0 8 5 (zL 3 0)))
def B_Ti_mostTracks_0 : zSt := (zAsg 1 (zAn 0 (zCs F_Ma_max_7cf53 [(zL 0 1), (zAx 0 64 (zGf 3 8 4 (zL 3 0)) (zL 0 2))])))
def T_Ti_mostTracks_0 : zSt := (zAsg 2 (z2 (oI2 fun x y => x + y) (zL 0 2) (zK (.int 1))))
def L_Ti_mostTracks_0 : zSt := zLp C_Ti_mostTracks_0 B_Ti_mostTracks_0 T_Ti_mostTracks_0
def S_Ti_mostTracks : zSt := (zSeq (zAsg 1 (zK (.int 0)))
  (zSeq (zBl 2 (zSeq (zAsg 2 (zK (.int 0)))
  L_Ti_mostTracks_0))
  (zRet (zL 0 1))))
def F_Ti_mostTracks : zMt := zMeth [3] 3 0 S_Ti_mostTracks
-- JetTrees.tiles(II)I
def S_JT_tiles : zSt := (zSeq (zIf (zOr (zOr (zNot (zC1 1 (zAn 0 (zCs F_JT_isTile [(zL 0 1)])))) (zC1 2 (zL 0 2))) (zC2 4 (zL 0 2) (zK (.int 1)))) (zRet (zK (.int (-1)))) zSkip)
  (zSeq (zAsg 3 (zAn 3 (zCv 2 F_Ev_tiledBy [(zAn 3 (zCv 5 F_St_inHand [(zGf 3 10 0 (zL 3 0))])), (zL 0 1)])))
  (zRet (zIte (zC1 0 (zL 0 2)) (zGf 0 8 5 (zL 3 3)) (zAn 0 (zCv 8 F_Ti_mostTracks [(zL 3 3)]))))))
def F_JT_tiles : zMt := zMeth [3, 0, 0] 4 0 S_JT_tiles
-- JetTrees$Cones.<init>([LJetTrees$Body;)V
def S_Co_init : zSt := (zSeq zObj
  (zSeq (zPf 3 1 0 (zL 3 0) (zL 3 1))
  (zSeq (zPf 3 1 1 (zL 3 0) (zNew 7 3 [.int 0, .int 0, .int 0] F_Su_init []))
  (zSeq (zPf 3 1 2 (zL 3 0) (zNew 7 3 [.int 0, .int 0, .int 0] F_Su_init []))
  (zSeq (zPf 3 1 3 (zL 3 0) (zNa 65 (.long 0) (zLen 67 (zL 3 1))))
  (zSeq (zPf 0 1 4 (zL 3 0) (zK (.int 0)))
  (zSeq (zPf 3 1 5 (zL 3 0) (zNa 65 (.long 0) (zLen 67 (zL 3 1))))
  (zSeq (zPf 0 1 6 (zL 3 0) (zK (.int 0)))
  zRetV))))))))
def F_Co_init : zMt := zMeth [3, 3] 2 9 S_Co_init
-- JetTrees$Sum.addAll([LJetTrees$Body;J)V
def C_Su_addAll_0 : zCx := (zC2 2 (zL 0 5) (zLen 67 (zL 3 1)))
def B_Su_addAll_0 : zSt := (zIf (zAnd (zC1 1 (zAn 0 (zCs F_JT_isIn [(zL 1 2), (zL 0 5)]))) (zC1 1 (zL 0 4))) (zDo (zCv 7 F_Su_add [(zL 3 0), (zAx 3 67 (zL 3 1) (zL 0 5))])) (zIf (zC1 1 (zAn 0 (zCs F_JT_isIn [(zL 1 2), (zL 0 5)]))) (zSeq (zDo (zCv 7 F_Su_begin [(zL 3 0), (zAx 3 67 (zL 3 1) (zL 0 5))]))
  (zAsg 4 (zK (.int 1)))) zSkip))
def T_Su_addAll_0 : zSt := (zAsg 5 (z2 (oI2 fun x y => x + y) (zL 0 5) (zK (.int 1))))
def L_Su_addAll_0 : zSt := zLp C_Su_addAll_0 B_Su_addAll_0 T_Su_addAll_0
def S_Su_addAll : zSt := (zSeq (zAsg 4 (zK (.int 0)))
  (zSeq (zBl 5 (zSeq (zAsg 5 (zK (.int 0)))
  L_Su_addAll_0))
  zRetV))
def F_Su_addAll : zMt := zMeth [3, 3, 1] 6 9 S_Su_addAll
-- JetTrees$Cones.isSteady(IIJ)Z
def S_Co_isSteady : zSt := (zSeq (zIf (zC1 0 (z2 oLcmp (zL 1 3) (zK (.long 0)))) (zRet (zK (.int 0))) zSkip)
  (zSeq (zDo (zCv 7 F_Su_addAll [(zGf 3 1 1 (zL 3 0)), (zGf 3 1 0 (zL 3 0)), (zL 1 3)]))
  (zRet (zBx (zAnd (zC2 0 (zGf 0 7 0 (zGf 3 1 1 (zL 3 0))) (zL 0 1)) (zC2 0 (zGf 0 7 1 (zGf 3 1 1 (zL 3 0))) (zL 0 2)))))))
def F_Co_isSteady : zMt := zMeth [3, 0, 0, 1] 5 4 S_Co_isSteady
-- JetTrees$Cones.tracksAbout(III)J
def C_Co_tracksAbout_0 : zCx := (zC2 2 (zL 0 6) (zLen 67 (zGf 3 1 0 (zL 3 0))))
def B_Co_tracksAbout_0 : zSt := (zIf (zC2 5 (zAn 0 (zCv 0 F_Bo_squareTo_ [(zAx 3 67 (zGf 3 1 0 (zL 3 0)) (zL 0 6)), (zL 0 1), (zL 0 2)])) (z2 (oI2 fun x y => x * y) (zL 0 3) (zL 0 3))) (zAsg 4 (z2 (oL2 fun x y => x ||| y) (zL 1 4) (zAn 1 (zCs F_JT_bitOf [(zL 0 6)])))) zSkip)
def T_Co_tracksAbout_0 : zSt := (zAsg 6 (z2 (oI2 fun x y => x + y) (zL 0 6) (zK (.int 1))))
def L_Co_tracksAbout_0 : zSt := zLp C_Co_tracksAbout_0 B_Co_tracksAbout_0 T_Co_tracksAbout_0
def S_Co_tracksAbout : zSt := (zSeq (zAsg 4 (zK (.long 0)))
  (zSeq (zBl 6 (zSeq (zAsg 6 (zK (.int 0)))
  L_Co_tracksAbout_0))
  (zRet (zL 1 4))))
def F_Co_tracksAbout : zMt := zMeth [3, 0, 0, 0] 7 1 S_Co_tracksAbout
-- JetTrees$Cones.weightOf(J)I
def C_Co_weightOf_0 : zCx := (zC2 2 (zL 0 4) (zLen 67 (zGf 3 1 0 (zL 3 0))))
def B_Co_weightOf_0 : zSt := (zIf (zC1 1 (zAn 0 (zCs F_JT_isIn [(zL 1 1), (zL 0 4)]))) (zAsg 3 (z2 (oI2 fun x y => x + y) (zL 0 3) (zGf 0 0 3 (zAx 3 67 (zGf 3 1 0 (zL 3 0)) (zL 0 4))))) zSkip)
def T_Co_weightOf_0 : zSt := (zAsg 4 (z2 (oI2 fun x y => x + y) (zL 0 4) (zK (.int 1))))
def L_Co_weightOf_0 : zSt := zLp C_Co_weightOf_0 B_Co_weightOf_0 T_Co_weightOf_0
def S_Co_weightOf : zSt := (zSeq (zAsg 3 (zK (.int 0)))
  (zSeq (zBl 4 (zSeq (zAsg 4 (zK (.int 0)))
  L_Co_weightOf_0))
  (zRet (zL 0 3))))
def F_Co_weightOf : zMt := zMeth [3, 1] 5 0 S_Co_weightOf
-- JetTrees.cone(IIII)I
def W_JT_cone_0_0 : zSt := (zRet (zAn 0 (zCs F_Lo_bitCount_95d88 [(zL 1 6)])))
def W_JT_cone_0_1 : zSt := (zRet (zAn 0 (zCv 1 F_Co_weightOf [(zL 3 5), (zL 1 6)])))
def W_JT_cone_0_2 : zSt := (zRet (zIte (zC1 1 (zAn 0 (zCv 1 F_Co_isSteady [(zL 3 5), (zL 0 1), (zL 0 2), (zL 1 6)]))) (zK (.int 1)) (zK (.int 0))))
def W_JT_cone_0_3 : zSt := (zRet (zK (.int (-1))))
def S_JT_cone : zSt := (zSeq (zIf (zOr (zNot (zC1 1 (zAn 0 (zCs F_JT_isPlace [(zL 0 1), (zL 0 2)])))) (zNot (zC1 1 (zAn 0 (zCs F_JT_isRadius [(zL 0 3)]))))) (zRet (zK (.int (-1)))) zSkip)
  (zSeq (zAsg 5 (zNew 1 7 [.null, .null, .null, .null, .int 0, .null, .int 0] F_Co_init [(zGf 3 2 0 (zAn 3 (zCv 5 F_St_inHand [(zGf 3 10 0 (zL 3 0))])))]))
  (zSeq (zAsg 6 (zAn 1 (zCv 1 F_Co_tracksAbout [(zL 3 5), (zL 0 1), (zL 0 2), (zL 0 3)])))
  (zSw (zL 0 4) (zSwF 0 [0, 1, 2] 3) [W_JT_cone_0_0, W_JT_cone_0_1, W_JT_cone_0_2, W_JT_cone_0_3]))))
def F_JT_cone : zMt := zMeth [3, 0, 0, 0, 0] 8 0 S_JT_cone
-- JetTrees$Cones.isFound(J)Z
def C_Co_isFound_0 : zCx := (zC2 2 (zL 0 3) (zGf 0 1 4 (zL 3 0)))
def B_Co_isFound_0 : zSt := (zIf (zC1 0 (z2 oLcmp (zAx 1 65 (zGf 3 1 3 (zL 3 0)) (zL 0 3)) (zL 1 1))) (zRet (zK (.int 1))) zSkip)
def T_Co_isFound_0 : zSt := (zAsg 3 (z2 (oI2 fun x y => x + y) (zL 0 3) (zK (.int 1))))
def L_Co_isFound_0 : zSt := zLp C_Co_isFound_0 B_Co_isFound_0 T_Co_isFound_0
def S_Co_isFound : zSt := (zSeq (zBl 3 (zSeq (zAsg 3 (zK (.int 0)))
  L_Co_isFound_0))
  (zRet (zK (.int 0))))
def F_Co_isFound : zMt := zMeth [3, 1] 4 4 S_Co_isFound
-- JetTrees$Cones.stillFrom(LJetTrees$Body;I)J
def C_Co_stillFrom_0 : zCx := (zC2 5 (zL 0 5) (zK (.int 20)))
def B_Co_stillFrom_0 : zSt := (zBl 6 (zSeq (zAsg 6 (zAn 1 (zCv 1 F_Co_tracksAbout [(zL 3 0), (zL 0 3), (zL 0 4), (zL 0 2)])))
  (zSeq (zIf (zC1 0 (z2 oLcmp (zL 1 6) (zK (.long 0)))) (zRet (zK (.long 0))) zSkip)
  (zSeq (zIf (zC1 1 (zAn 0 (zCv 1 F_Co_isSteady [(zL 3 0), (zL 0 3), (zL 0 4), (zL 1 6)]))) (zRet (zL 1 6)) zSkip)
  (zSeq (zAsg 3 (zGf 0 7 0 (zGf 3 1 1 (zL 3 0))))
  (zAsg 4 (zGf 0 7 1 (zGf 3 1 1 (zL 3 0)))))))))
def T_Co_stillFrom_0 : zSt := (zAsg 5 (z2 (oI2 fun x y => x + y) (zL 0 5) (zK (.int 1))))
def L_Co_stillFrom_0 : zSt := zLp C_Co_stillFrom_0 B_Co_stillFrom_0 T_Co_stillFrom_0
def S_Co_stillFrom : zSt := (zSeq (zAsg 3 (zGf 0 0 1 (zL 3 1)))
  (zSeq (zAsg 4 (zGf 0 0 2 (zL 3 1)))
  (zSeq (zBl 5 (zSeq (zAsg 5 (zK (.int 0)))
  L_Co_stillFrom_0))
  (zRet (zK (.long 0))))))
def F_Co_stillFrom : zMt := zMeth [3, 3, 0] 8 1 S_Co_stillFrom
-- JetTrees$Cones.findStill(I)V
def C_Co_findStill_0 : zCx := (zC2 2 (zL 0 2) (zLen 67 (zGf 3 1 0 (zL 3 0))))
def B_Co_findStill_0 : zSt := (zBl 3 (zSeq (zAsg 3 (zAn 1 (zCv 1 F_Co_stillFrom [(zL 3 0), (zAx 3 67 (zGf 3 1 0 (zL 3 0)) (zL 0 2)), (zL 0 1)])))
  (zIf (zAnd (zAnd (zC1 1 (z2 oLcmp (zL 1 3) (zK (.long 0)))) (zNot (zC1 1 (zAn 0 (zCv 1 F_Co_isFound [(zL 3 0), (zL 1 3)]))))) (zC2 2 (zGf 0 1 4 (zL 3 0)) (zLen 65 (zGf 3 1 3 (zL 3 0))))) (zSeq (zAs (zStK 65).1 65 (zStK 65).2 (zGf 3 1 3 (zL 3 0)) (zGf 0 1 4 (zL 3 0)) (zL 1 3))
  (zPfo 0 1 4 (oI2 fun x y => x + y) (zL 3 0) (zK (.int 1)))) zSkip)))
def T_Co_findStill_0 : zSt := (zAsg 2 (z2 (oI2 fun x y => x + y) (zL 0 2) (zK (.int 1))))
def L_Co_findStill_0 : zSt := zLp C_Co_findStill_0 B_Co_findStill_0 T_Co_findStill_0
def S_Co_findStill : zSt := (zSeq (zBl 2 (zSeq (zAsg 2 (zK (.int 0)))
  L_Co_findStill_0))
  zRetV)
def F_Co_findStill : zMt := zMeth [3, 0] 5 9 S_Co_findStill
-- JetTrees$Cones.stillAt(I)J
def S_Co_stillAt : zSt := (zSeq (zIf (zC2 0 (zL 0 1) (zK (.int (-1)))) (zRet (z1 oI2l (zGf 0 1 4 (zL 3 0)))) zSkip)
  (zRet (zIte (zOr (zC1 2 (zL 0 1)) (zC2 3 (zL 0 1) (zGf 0 1 4 (zL 3 0)))) (zK (.long (-1))) (zAx 1 65 (zGf 3 1 3 (zL 3 0)) (zL 0 1)))))
def F_Co_stillAt : zMt := zMeth [3, 0] 2 1 S_Co_stillAt
-- JetTrees.still(II)J
def S_JT_still : zSt := (zSeq (zIf (zNot (zC1 1 (zAn 0 (zCs F_JT_isRadius [(zL 0 1)])))) (zRet (zK (.long (-1)))) zSkip)
  (zSeq (zAsg 3 (zNew 1 7 [.null, .null, .null, .null, .int 0, .null, .int 0] F_Co_init [(zGf 3 2 0 (zAn 3 (zCv 5 F_St_inHand [(zGf 3 10 0 (zL 3 0))])))]))
  (zSeq (zDo (zCv 1 F_Co_findStill [(zL 3 3), (zL 0 1)]))
  (zRet (zAn 1 (zCv 1 F_Co_stillAt [(zL 3 3), (zL 0 2)]))))))
def F_JT_still : zMt := zMeth [3, 0, 0] 4 1 S_JT_still
-- JetTrees$Cones.patchAt(I)J
def S_Co_patchAt : zSt := (zSeq (zIf (zC2 0 (zL 0 1) (zK (.int (-1)))) (zRet (z1 oI2l (zGf 0 1 6 (zL 3 0)))) zSkip)
  (zRet (zIte (zOr (zC1 2 (zL 0 1)) (zC2 3 (zL 0 1) (zGf 0 1 6 (zL 3 0)))) (zK (.long (-1))) (zAx 1 65 (zGf 3 1 5 (zL 3 0)) (zL 0 1)))))
def F_Co_patchAt : zMt := zMeth [3, 0] 2 1 S_Co_patchAt
-- JetTrees$Cones.heaviest(I)I
def C_Co_heaviest_0 : zCx := (zC2 2 (zL 0 4) (zGf 0 1 4 (zL 3 0)))
def B_Co_heaviest_0 : zSt := (zBl 5 (zSeq (zAsg 5 (zBx (zOr (zC2 0 (zL 0 1) (zK (.int (-1)))) (zAnd (zC2 1 (zL 0 4) (zL 0 1)) (zC1 1 (z2 oLcmp (z2 (oL2 fun x y => x &&& y) (zAx 1 65 (zGf 3 1 3 (zL 3 0)) (zL 0 4)) (zAx 1 65 (zGf 3 1 3 (zL 3 0)) (zL 0 1))) (zK (.long 0))))))))
  (zSeq (zAsg 6 (zAn 0 (zCv 1 F_Co_weightOf [(zL 3 0), (zAx 1 65 (zGf 3 1 3 (zL 3 0)) (zL 0 4))])))
  (zIf (zAnd (zC1 1 (zL 0 5)) (zOr (zC2 0 (zL 0 2) (zK (.int (-1)))) (zC2 4 (zL 0 6) (zL 0 3)))) (zSeq (zAsg 2 (zL 0 4))
  (zAsg 3 (zL 0 6))) zSkip))))
def T_Co_heaviest_0 : zSt := (zAsg 4 (z2 (oI2 fun x y => x + y) (zL 0 4) (zK (.int 1))))
def L_Co_heaviest_0 : zSt := zLp C_Co_heaviest_0 B_Co_heaviest_0 T_Co_heaviest_0
def S_Co_heaviest : zSt := (zSeq (zAsg 2 (zK (.int (-1))))
  (zSeq (zAsg 3 (zK (.int 0)))
  (zSeq (zBl 4 (zSeq (zAsg 4 (zK (.int 0)))
  L_Co_heaviest_0))
  (zRet (zL 0 2)))))
def F_Co_heaviest : zMt := zMeth [3, 0] 7 0 S_Co_heaviest
-- JetTrees$Cones.removeSet(I)V
def C_Co_removeSet_0 : zCx := (zC2 2 (z2 (oI2 fun x y => x + y) (zL 0 2) (zK (.int 1))) (zGf 0 1 4 (zL 3 0)))
def B_Co_removeSet_0 : zSt := (zAs (zStK 65).1 65 (zStK 65).2 (zGf 3 1 3 (zL 3 0)) (zL 0 2) (zAx 1 65 (zGf 3 1 3 (zL 3 0)) (z2 (oI2 fun x y => x + y) (zL 0 2) (zK (.int 1)))))
def T_Co_removeSet_0 : zSt := (zAsg 2 (z2 (oI2 fun x y => x + y) (zL 0 2) (zK (.int 1))))
def L_Co_removeSet_0 : zSt := zLp C_Co_removeSet_0 B_Co_removeSet_0 T_Co_removeSet_0
def S_Co_removeSet : zSt := (zSeq (zBl 2 (zSeq (zAsg 2 (zL 0 1))
  L_Co_removeSet_0))
  (zSeq (zPfo 0 1 4 (oI2 fun x y => x - y) (zL 3 0) (zK (.int 1)))
  zRetV))
def F_Co_removeSet : zMt := zMeth [3, 0] 3 9 S_Co_removeSet
-- JetTrees$Cones.makePatch(I)V
def S_Co_makePatch : zSt := (zSeq (zIf (zC2 2 (zGf 0 1 6 (zL 3 0)) (zLen 65 (zGf 3 1 5 (zL 3 0)))) (zSeq (zAs (zStK 65).1 65 (zStK 65).2 (zGf 3 1 5 (zL 3 0)) (zGf 0 1 6 (zL 3 0)) (zAx 1 65 (zGf 3 1 3 (zL 3 0)) (zL 0 1)))
  (zPfo 0 1 6 (oI2 fun x y => x + y) (zL 3 0) (zK (.int 1)))) zSkip)
  (zSeq (zDo (zCv 1 F_Co_removeSet [(zL 3 0), (zL 0 1)]))
  zRetV))
def F_Co_makePatch : zMt := zMeth [3, 0] 2 9 S_Co_makePatch
-- JetTrees$Cones.divide(IIJ)V
def C_Co_divide_0 : zCx := (zC2 2 (zL 0 5) (zLen 67 (zGf 3 1 0 (zL 3 0))))
def B_Co_divide_0 : zSt := (zIf (zC1 1 (zAn 0 (zCs F_JT_isIn [(zL 1 3), (zL 0 5)]))) (zBl 6 (zSeq (zAsg 6 (zAn 0 (zCv 0 F_Bo_squareTo_ [(zAx 3 67 (zGf 3 1 0 (zL 3 0)) (zL 0 5)), (zGf 0 7 0 (zGf 3 1 1 (zL 3 0))), (zGf 0 7 1 (zGf 3 1 1 (zL 3 0)))])))
  (zSeq (zAsg 7 (zAn 0 (zCv 0 F_Bo_squareTo_ [(zAx 3 67 (zGf 3 1 0 (zL 3 0)) (zL 0 5)), (zGf 0 7 0 (zGf 3 1 2 (zL 3 0))), (zGf 0 7 1 (zGf 3 1 2 (zL 3 0)))])))
  (zIf (zC2 2 (zL 0 7) (zL 0 6)) (zAso (zStK 65).1 65 (oL2 fun x y => x &&& y) (zGf 3 1 3 (zL 3 0)) (zL 0 1) (z2 (oL2 fun x y => x ^^^ y) (zAn 1 (zCs F_JT_bitOf [(zL 0 5)])) (zK (.long (-1))))) (zAso (zStK 65).1 65 (oL2 fun x y => x &&& y) (zGf 3 1 3 (zL 3 0)) (zL 0 2) (z2 (oL2 fun x y => x ^^^ y) (zAn 1 (zCs F_JT_bitOf [(zL 0 5)])) (zK (.long (-1))))))))) zSkip)
def T_Co_divide_0 : zSt := (zAsg 5 (z2 (oI2 fun x y => x + y) (zL 0 5) (zK (.int 1))))
def L_Co_divide_0 : zSt := zLp C_Co_divide_0 B_Co_divide_0 T_Co_divide_0
def S_Co_divide : zSt := (zSeq (zDo (zCv 7 F_Su_addAll [(zGf 3 1 1 (zL 3 0)), (zGf 3 1 0 (zL 3 0)), (zAx 1 65 (zGf 3 1 3 (zL 3 0)) (zL 0 1))]))
  (zSeq (zDo (zCv 7 F_Su_addAll [(zGf 3 1 2 (zL 3 0)), (zGf 3 1 0 (zL 3 0)), (zAx 1 65 (zGf 3 1 3 (zL 3 0)) (zL 0 2))]))
  (zSeq (zBl 5 (zSeq (zAsg 5 (zK (.int 0)))
  L_Co_divide_0))
  zRetV)))
def F_Co_divide : zMt := zMeth [3, 0, 0, 1] 8 9 S_Co_divide
-- JetTrees$Cones.settle(III)V
def S_Co_settle : zSt := (zSeq (zAsg 4 (z2 (oL2 fun x y => x &&& y) (zAx 1 65 (zGf 3 1 3 (zL 3 0)) (zL 0 1)) (zAx 1 65 (zGf 3 1 3 (zL 3 0)) (zL 0 2))))
  (zSeq (zAsg 6 (z1 oI2l (zAn 0 (zCs F_Ma_min_7cf53 [(zAn 0 (zCv 1 F_Co_weightOf [(zL 3 0), (zAx 1 65 (zGf 3 1 3 (zL 3 0)) (zL 0 1))])), (zAn 0 (zCv 1 F_Co_weightOf [(zL 3 0), (zAx 1 65 (zGf 3 1 3 (zL 3 0)) (zL 0 2))]))]))))
  (zSeq (zIf (zC1 3 (z2 oLcmp (z2 (oL2 fun x y => x * y) (z1 oI2l (zAn 0 (zCv 1 F_Co_weightOf [(zL 3 0), (zL 1 4)]))) (zK (.long 1000))) (z2 (oL2 fun x y => x * y) (z1 oI2l (zL 0 3)) (zL 1 6)))) (zSeq (zAso (zStK 65).1 65 (oL2 fun x y => x ||| y) (zGf 3 1 3 (zL 3 0)) (zL 0 1) (zAx 1 65 (zGf 3 1 3 (zL 3 0)) (zL 0 2)))
  (zSeq (zDo (zCv 1 F_Co_removeSet [(zL 3 0), (zL 0 2)]))
  zRetV)) zSkip)
  (zSeq (zDo (zCv 1 F_Co_divide [(zL 3 0), (zL 0 1), (zL 0 2), (zL 1 4)]))
  (zSeq (zAsg 8 (zAn 0 (zCs F_Ma_max_7cf53 [(zL 0 1), (zL 0 2)])))
  (zSeq (zAsg 9 (zAn 0 (zCs F_Ma_min_7cf53 [(zL 0 1), (zL 0 2)])))
  (zSeq (zIf (zC1 0 (z2 oLcmp (zAx 1 65 (zGf 3 1 3 (zL 3 0)) (zL 0 8)) (zK (.long 0)))) (zDo (zCv 1 F_Co_removeSet [(zL 3 0), (zL 0 8)])) zSkip)
  (zSeq (zIf (zC1 0 (z2 oLcmp (zAx 1 65 (zGf 3 1 3 (zL 3 0)) (zL 0 9)) (zK (.long 0)))) (zDo (zCv 1 F_Co_removeSet [(zL 3 0), (zL 0 9)])) zSkip)
  zRetV))))))))
def F_Co_settle : zMt := zMeth [3, 0, 0, 0] 10 9 S_Co_settle
-- JetTrees$Cones.shareOut(I)V
def C_Co_shareOut_0 : zCx := (zAnd (zC2 2 (zL 0 2) (zK (.int 1000000))) (zC1 4 (zGf 0 1 4 (zL 3 0))))
def B_Co_shareOut_0 : zSt := (zBl 3 (zSeq (zAsg 3 (zAn 0 (zCv 1 F_Co_heaviest [(zL 3 0), (zK (.int (-1)))])))
  (zSeq (zIf (zC2 0 (zL 0 3) (zK (.int (-1)))) zRetV zSkip)
  (zSeq (zAsg 4 (zAn 0 (zCv 1 F_Co_heaviest [(zL 3 0), (zL 0 3)])))
  (zIf (zC2 0 (zL 0 4) (zK (.int (-1)))) (zDo (zCv 1 F_Co_makePatch [(zL 3 0), (zL 0 3)])) (zDo (zCv 1 F_Co_settle [(zL 3 0), (zL 0 3), (zL 0 4), (zL 0 1)])))))))
def T_Co_shareOut_0 : zSt := (zAsg 2 (z2 (oI2 fun x y => x + y) (zL 0 2) (zK (.int 1))))
def L_Co_shareOut_0 : zSt := zLp C_Co_shareOut_0 B_Co_shareOut_0 T_Co_shareOut_0
def S_Co_shareOut : zSt := (zSeq (zBl 2 (zSeq (zAsg 2 (zK (.int 0)))
  L_Co_shareOut_0))
  zRetV)
def F_Co_shareOut : zMt := zMeth [3, 0] 5 9 S_Co_shareOut
-- JetTrees.patch(III)J
def S_JT_patch : zSt := (zSeq (zIf (zOr (zNot (zC1 1 (zAn 0 (zCs F_JT_isRadius [(zL 0 1)])))) (zNot (zC1 1 (zAn 0 (zCs F_JT_isOfThousand [(zL 0 2)]))))) (zRet (zK (.long (-1)))) zSkip)
  (zSeq (zAsg 4 (zNew 1 7 [.null, .null, .null, .null, .int 0, .null, .int 0] F_Co_init [(zGf 3 2 0 (zAn 3 (zCv 5 F_St_inHand [(zGf 3 10 0 (zL 3 0))])))]))
  (zSeq (zDo (zCv 1 F_Co_findStill [(zL 3 4), (zL 0 1)]))
  (zSeq (zDo (zCv 1 F_Co_shareOut [(zL 3 4), (zL 0 2)]))
  (zRet (zAn 1 (zCv 1 F_Co_patchAt [(zL 3 4), (zL 0 3)])))))))
def F_JT_patch : zMt := zMeth [3, 0, 0, 0] 5 1 S_JT_patch
-- JetTrees$Tiling.lessThan(I)I
def C_Ti_lessThan_0 : zCx := (zC2 2 (zL 0 3) (zGf 0 8 5 (zL 3 0)))
def B_Ti_lessThan_0 : zSt := (zBl 4 (zSeq (zAsg 4 (zBx (zOr (zC2 2 (zAx 0 64 (zGf 3 8 3 (zL 3 0)) (zL 0 3)) (zAx 0 64 (zGf 3 8 3 (zL 3 0)) (zL 0 1))) (zAnd (zC2 0 (zAx 0 64 (zGf 3 8 3 (zL 3 0)) (zL 0 3)) (zAx 0 64 (zGf 3 8 3 (zL 3 0)) (zL 0 1))) (zC2 2 (zL 0 3) (zL 0 1))))))
  (zIf (zC1 1 (zL 0 4)) (zAsg 2 (z2 (oI2 fun x y => x + y) (zL 0 2) (zK (.int 1)))) zSkip)))
def T_Ti_lessThan_0 : zSt := (zAsg 3 (z2 (oI2 fun x y => x + y) (zL 0 3) (zK (.int 1))))
def L_Ti_lessThan_0 : zSt := zLp C_Ti_lessThan_0 B_Ti_lessThan_0 T_Ti_lessThan_0
def S_Ti_lessThan : zSt := (zSeq (zAsg 2 (zK (.int 0)))
  (zSeq (zBl 3 (zSeq (zAsg 3 (zK (.int 0)))
  L_Ti_lessThan_0))
  (zRet (zL 0 2))))
def F_Ti_lessThan : zMt := zMeth [3, 0] 5 0 S_Ti_lessThan
-- JetTrees$Tiling.middleWeight()I
def C_Ti_middleWeight_0 : zCx := (zC2 2 (zL 0 5) (zGf 0 8 5 (zL 3 0)))
def B_Ti_middleWeight_0 : zSt := (zIf (zC2 0 (zAn 0 (zCv 8 F_Ti_lessThan [(zL 3 0), (zL 0 5)])) (zL 0 4)) (zRet (zAx 0 64 (zGf 3 8 3 (zL 3 0)) (zL 0 5))) zSkip)
def T_Ti_middleWeight_0 : zSt := (zAsg 5 (z2 (oI2 fun x y => x + y) (zL 0 5) (zK (.int 1))))
def L_Ti_middleWeight_0 : zSt := zLp C_Ti_middleWeight_0 B_Ti_middleWeight_0 T_Ti_middleWeight_0
def S_Ti_middleWeight : zSt := (zSeq (zAsg 1 (z2 (oI2 fun x y => x + y) (z2 (oI2 fun x y => x - y) (zAn 0 (zCs F_JT_downward [(zK (.int 200)), (zGf 0 8 0 (zL 3 0))])) (zAn 0 (zCs F_JT_downward [(zK (.int (-200))), (zGf 0 8 0 (zL 3 0))]))) (zK (.int 1))))
  (zSeq (zAsg 2 (z2 (oI2 fun x y => x + y) (zAn 0 (zCs F_JT_downward [(zK (.int 359)), (zGf 0 8 0 (zL 3 0))])) (zK (.int 1))))
  (zSeq (zAsg 3 (z2 (oI2 fun x y => x * y) (zL 0 1) (zL 0 2)))
  (zSeq (zAsg 4 (z2 (oI2 fun x y => x - y) (z2 oIdiv (z2 (oI2 fun x y => x - y) (zL 0 3) (zK (.int 1))) (zK (.int 2))) (z2 (oI2 fun x y => x - y) (zL 0 3) (zGf 0 8 5 (zL 3 0)))))
  (zSeq (zIf (zC1 2 (zL 0 4)) (zRet (zK (.int 0))) zSkip)
  (zSeq (zBl 5 (zSeq (zAsg 5 (zK (.int 0)))
  L_Ti_middleWeight_0))
  (zRet (zK (.int 0)))))))))
def F_Ti_middleWeight : zMt := zMeth [3] 6 0 S_Ti_middleWeight
-- JetTrees.pedestal(I)I
def S_JT_pedestal : zSt := (zRet (zIte (zC1 1 (zAn 0 (zCs F_JT_isTile [(zL 0 1)]))) (zAn 0 (zCv 8 F_Ti_middleWeight [(zAn 3 (zCv 2 F_Ev_tiledBy [(zAn 3 (zCv 5 F_St_inHand [(zGf 3 10 0 (zL 3 0))])), (zL 0 1)]))])) (zK (.int (-1)))))
def F_JT_pedestal : zMt := zMeth [3, 0] 2 0 S_JT_pedestal
-- JetTrees$Tree.tilesOf(LJetTrees$Knot;I)I
def C_Tr_tilesOf_0 : zCx := (zC2 2 (zL 0 4) (zGf 0 9 3 (zL 3 0)))
def B_Tr_tilesOf_0 : zSt := (zIf (zC1 1 (zAn 0 (zCs F_JT_isIn [(zGf 1 4 1 (zL 3 1)), (zL 0 4)]))) (zDo (zCv 8 F_Ti_add [(zL 3 3), (zGf 3 4 0 (zAx 3 71 (zGf 3 9 4 (zL 3 0)) (zL 0 4)))])) zSkip)
def T_Tr_tilesOf_0 : zSt := (zAsg 4 (z2 (oI2 fun x y => x + y) (zL 0 4) (zK (.int 1))))
def L_Tr_tilesOf_0 : zSt := zLp C_Tr_tilesOf_0 B_Tr_tilesOf_0 T_Tr_tilesOf_0
def S_Tr_tilesOf : zSt := (zSeq (zAsg 3 (zNew 8 6 [.int 0, .null, .null, .null, .null, .int 0] F_Ti_init [(zL 0 2)]))
  (zSeq (zBl 4 (zSeq (zAsg 4 (zK (.int 0)))
  L_Tr_tilesOf_0))
  (zRet (zGf 0 8 5 (zL 3 3)))))
def F_Tr_tilesOf : zMt := zMeth [3, 3, 0] 5 0 S_Tr_tilesOf
-- JetTrees.clean(III)I
def S_JT_clean : zSt := (zSeq (zAsg 4 (zAn 3 (zCv 10 F_JT_treeAt [(zL 3 0), (zL 0 1)])))
  (zSeq (zAsg 5 (zAn 3 (zCv 10 F_JT_knotAt [(zL 3 0), (zL 0 1), (zL 0 2)])))
  (zSeq (zIf (zOr (zOr (zOr (zCn (zL 3 4)) (zCn (zL 3 5))) (zNot (zCn (zGf 3 4 5 (zL 3 5))))) (zNot (zC1 1 (zAn 0 (zCs F_JT_isTile [(zL 0 3)]))))) (zRet (zK (.int (-1)))) zSkip)
  (zSeq (zAsg 6 (zAn 0 (zCv 8 F_Ti_middleWeight [(zAn 3 (zCv 2 F_Ev_tiledBy [(zAn 3 (zCv 5 F_St_inHand [(zGf 3 10 0 (zL 3 0))])), (zL 0 3)]))])))
  (zRet (zAn 0 (zCs F_Ma_max_7cf53 [(zK (.int 0)), (z2 (oI2 fun x y => x - y) (zGf 0 0 3 (zGf 3 4 0 (zL 3 5))) (z2 (oI2 fun x y => x * y) (zL 0 6) (zAn 0 (zCv 9 F_Tr_tilesOf [(zL 3 4), (zL 3 5), (zL 0 3)]))))])))))))
def F_JT_clean : zMt := zMeth [3, 0, 0, 0] 7 0 S_JT_clean
-- JetTrees$Event.balanceAbout(I)I
def C_Ev_balanceAbout_0 : zCx := (zC2 2 (zL 0 3) (zLen 67 (zGf 3 2 0 (zL 3 0))))
def B_Ev_balanceAbout_0 : zSt := (zBl 4 (zSeq (zAsg 4 (zBx (zC2 2 (zAn 0 (zCs F_Bo_lesserWay [(zL 0 1), (zGf 0 0 2 (zAx 3 67 (zGf 3 2 0 (zL 3 0)) (zL 0 3)))])) (zK (.int 90)))))
  (zAsg 2 (z2 (oI2 fun x y => x + y) (zL 0 2) (zIte (zC1 1 (zL 0 4)) (zGf 0 0 3 (zAx 3 67 (zGf 3 2 0 (zL 3 0)) (zL 0 3))) (z1 (oI1 fun x => -x) (zGf 0 0 3 (zAx 3 67 (zGf 3 2 0 (zL 3 0)) (zL 0 3)))))))))
def T_Ev_balanceAbout_0 : zSt := (zAsg 3 (z2 (oI2 fun x y => x + y) (zL 0 3) (zK (.int 1))))
def L_Ev_balanceAbout_0 : zSt := zLp C_Ev_balanceAbout_0 B_Ev_balanceAbout_0 T_Ev_balanceAbout_0
def S_Ev_balanceAbout : zSt := (zSeq (zAsg 2 (zK (.int 0)))
  (zSeq (zBl 3 (zSeq (zAsg 3 (zK (.int 0)))
  L_Ev_balanceAbout_0))
  (zRet (zL 0 2))))
def F_Ev_balanceAbout : zMt := zMeth [3, 0] 5 0 S_Ev_balanceAbout
-- JetTrees.balance(I)I
def S_JT_balance : zSt := (zRet (zIte (zC1 1 (zAn 0 (zCs F_JT_isRound [(zL 0 1)]))) (zAn 0 (zCv 2 F_Ev_balanceAbout [(zAn 3 (zCv 5 F_St_inHand [(zGf 3 10 0 (zL 3 0))])), (zL 0 1)])) (zK (.int 0))))
def F_JT_balance : zMt := zMeth [3, 0] 2 0 S_JT_balance
-- JetTrees.axis()I
def C_JT_axis_0 : zCx := (zC2 2 (zL 0 3) (zK (.int 360)))
def B_JT_axis_0 : zSt := (zBl 4 (zSeq (zAsg 4 (zAn 0 (zCv 2 F_Ev_balanceAbout [(zAn 3 (zCv 5 F_St_inHand [(zGf 3 10 0 (zL 3 0))])), (zL 0 3)])))
  (zIf (zC2 4 (zL 0 4) (zL 0 2)) (zSeq (zAsg 2 (zL 0 4))
  (zAsg 1 (zL 0 3))) zSkip)))
def T_JT_axis_0 : zSt := (zAsg 3 (z2 (oI2 fun x y => x + y) (zL 0 3) (zK (.int 1))))
def L_JT_axis_0 : zSt := zLp C_JT_axis_0 B_JT_axis_0 T_JT_axis_0
def S_JT_axis : zSt := (zSeq (zAsg 1 (zK (.int 0)))
  (zSeq (zAsg 2 (zAn 0 (zCv 2 F_Ev_balanceAbout [(zAn 3 (zCv 5 F_St_inHand [(zGf 3 10 0 (zL 3 0))])), (zK (.int 0))])))
  (zSeq (zBl 3 (zSeq (zAsg 3 (zK (.int 1)))
  L_JT_axis_0))
  (zRet (zL 0 1)))))
def F_JT_axis : zMt := zMeth [3] 5 0 S_JT_axis
-- JetTrees.image()I
def S_JT_image : zSt := (zSeq (zPf 3 10 3 (zL 3 0) (zGf 3 10 0 (zL 3 0)))
  (zSeq (zCopy 70 (zStK 70).2 (zGf 3 10 1 (zL 3 0)) (zK (.int 0)) (zGf 3 10 4 (zL 3 0)) (zK (.int 0)) (zK (.int 20)))
  (zSeq (zPf 0 10 5 (zL 3 0) (zGf 0 10 2 (zL 3 0)))
  (zRet (zAn 0 (zCv 2 F_Ev_size [(zAn 3 (zCv 5 F_St_inHand [(zGf 3 10 0 (zL 3 0))]))]))))))
def F_JT_image : zMt := zMeth [3] 1 0 S_JT_image
-- JetTrees.back()I
def S_JT_back : zSt := (zSeq (zPf 3 10 0 (zL 3 0) (zGf 3 10 3 (zL 3 0)))
  (zSeq (zCopy 70 (zStK 70).2 (zGf 3 10 4 (zL 3 0)) (zK (.int 0)) (zGf 3 10 1 (zL 3 0)) (zK (.int 0)) (zK (.int 20)))
  (zSeq (zPf 0 10 2 (zL 3 0) (zGf 0 10 5 (zL 3 0)))
  (zRet (zAn 0 (zCv 2 F_Ev_size [(zAn 3 (zCv 5 F_St_inHand [(zGf 3 10 0 (zL 3 0))]))]))))))
def F_JT_back : zMt := zMeth [3] 1 0 S_JT_back
-- JetTrees.steps()I
def S_JT_steps : zSt := (zRet (zGf 0 10 2 (zL 3 0)))
def F_JT_steps : zMt := zMeth [3] 1 0 S_JT_steps
-- JetTreesModel.copy([I[I)V
def C_Mo_copy_0 : zCx := (zC2 2 (zL 0 2) (zK (.int 58319)))
def B_Mo_copy_0 : zSt := (zAs (zStK 64).1 64 (zStK 64).2 (zL 3 1) (zL 0 2) (zAx 0 64 (zL 3 0) (zL 0 2)))
def T_Mo_copy_0 : zSt := (zAsg 2 (z2 (oI2 fun x y => x + y) (zL 0 2) (zK (.int 1))))
def L_Mo_copy_0 : zSt := zLp C_Mo_copy_0 B_Mo_copy_0 T_Mo_copy_0
def S_Mo_copy : zSt := (zSeq (zBl 2 (zSeq (zAsg 2 (zK (.int 0)))
  L_Mo_copy_0))
  zRetV)
def F_Mo_copy : zMt := zMeth [3, 3] 3 9 S_Mo_copy
-- JetTreesModel.<init>()V
def S_Mo_init : zSt := (zSeq zObj
  (zSeq (zPf 3 11 0 (zL 3 0) (zNa 64 (.int 0) (zK (.int 58319))))
  (zSeq (zPf 3 11 1 (zL 3 0) (zNa 64 (.int 0) (zK (.int 58319))))
  (zSeq (zPf 3 11 2 (zL 3 0) (zNa 64 (.int 0) (zK (.int 79))))
  (zSeq (zPf 3 11 3 (zL 3 0) (zNa 64 (.int 0) (zK (.int 79))))
  (zSeq (zPf 3 11 4 (zL 3 0) (zNa 64 (.int 0) (zK (.int 79))))
  (zSeq (zPf 3 11 5 (zL 3 0) (zNa 64 (.int 0) (zK (.int 79))))
  (zSeq (zPf 3 11 6 (zL 3 0) (zNa 64 (.int 0) (zK (.int 79))))
  (zSeq (zPf 3 11 7 (zL 3 0) (zNa 66 (.int 0) (zK (.int 79))))
  (zSeq (zPf 3 11 8 (zL 3 0) (zNa 64 (.int 0) (zK (.int 40))))
  (zSeq (zPf 3 11 9 (zL 3 0) (zNa 64 (.int 0) (zK (.int 40))))
  (zSeq (zPf 3 11 15 (zL 3 0) (zNa 64 (.int 0) (zK (.int 40))))
  (zSeq (zPf 3 11 16 (zL 3 0) (zNa 64 (.int 0) (zK (.int 79))))
  (zSeq (zPf 3 11 18 (zL 3 0) (zNa 64 (.int 0) (zK (.int 79))))
  (zSeq (zPf 3 11 19 (zL 3 0) (zNa 64 (.int 0) (zK (.int 40))))
  (zSeq (zPf 3 11 22 (zL 3 0) (zNa 64 (.int 0) (zK (.int 40))))
  (zSeq (zPf 3 11 25 (zL 3 0) (zNa 65 (.long 0) (zK (.int 40))))
  (zSeq (zAs (zStK 64).1 64 (zStK 64).2 (zGf 3 11 0 (zL 3 0)) (zK (.int 2)) (zK (.int 40)))
  (zSeq (zAs (zStK 64).1 64 (zStK 64).2 (zGf 3 11 0 (zL 3 0)) (zK (.int 3)) (zK (.int (-1))))
  (zSeq (zAs (zStK 64).1 64 (zStK 64).2 (zGf 3 11 0 (zL 3 0)) (zK (.int 6)) (zK (.int 701)))
  (zSeq (zDo (zCs F_Mo_copy [(zGf 3 11 0 (zL 3 0)), (zGf 3 11 1 (zL 3 0))]))
  zRetV)))))))))))))))))))))
def F_Mo_init : zMt := zMeth [3] 1 9 S_Mo_init
