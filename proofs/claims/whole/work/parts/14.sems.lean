/-! printed by program: what each method does, as a function of its numbers and the state -/
def fX11_within : FF := sBody [.inl 0, .inl 0, .inl 0] (sRet 3 (sIte (sAnd (sCmp 3 (sLoc 0) (sLoc 1)) (sCmp 5 (sLoc 0) (sLoc 2))) (sLit 1) (sLit 0)))
theorem qX11_within : MX11_within.1 = fX11_within := by
  show sBody [.inl 0, .inl 0, .inl 0] bX11_within.1.2 = _
  unfold bX11_within fX11_within
  simp only [m_cAnd, m_cCmp, m_eIte, m_eLit, m_eLoc, m_pRet]
def fX4_setWide : FF := sBody [.inr 3, .inl 0, .inl 0] (sSeq (sIf (sAnd (sCmp0 3 (sLoc 1)) (sCmp 2 (sLoc 1) (sLit 27))) (sAst 4 0 27 (sLoc 1) (sLoc 2)) sSkip) sRetV)
theorem qX4_setWide : MX4_setWide.1 = fX4_setWide := by
  show sBody [.inr 3, .inl 0, .inl 0] bX4_setWide.1.2 = _
  unfold bX4_setWide fX4_setWide
  simp only [m_cAnd, m_cCmp, m_cCmp0, m_eLit, m_eLoc, m_pAst, m_pIf, m_pRetV, m_pSeq, m_pSkip]
def fX11_changed : FF := sBody [.inr 0] (sSeq (sPut 0 13 3 (sLit 0)) sRetV)
theorem qX11_changed : MX11_changed.1 = fX11_changed := by
  show sBody [.inr 0] bX11_changed.1.2 = _
  unfold bX11_changed fX11_changed
  simp only [m_eLit, m_pPut, m_pRetV, m_pSeq]
def fX11_width : FF := sBody [.inr 0, .inl 0, .inl 0] (sSeq (sIf (sOr (sNot (sCmp0 1 (sCall fX11_within (sArgI (sLoc 1) (sArgI (sLit 0) (sArgI (sLit 26) sNil)))))) (sNot (sCmp0 1 (sCall fX11_within (sArgI (sLoc 2) (sArgI (sLit 1) (sArgI (sLit 60) sNil))))))) (sRet 3 (sLit 0)) sSkip) (sSeq (sDo fX4_setWide (sArgI (sLoc 1) (sArgI (sLoc 2) sNil))) (sSeq (sDo fX11_changed sNil) (sRet 3 (sLit 1)))))
theorem qX11_width : MX11_width.1 = fX11_width := by
  show sBody [.inr 0, .inl 0, .inl 0] bX11_width.1.2 = _
  unfold bX11_width fX11_width
  simp only [m_aI, m_aNil, m_aR, m_cCmp0, m_cNot, m_cOr, m_eCall, m_eLit, m_eLoc, m_pDo, m_pIf, m_pRet, m_pSeq, m_pSkip, qX11_changed, qX11_within, qX4_setWide]
def fX4_setJoined : FF := sBody [.inr 3, .inl 0, .inl 0, .inl 0] (sSeq (sIf (sAnd (sAnd (sAnd (sCmp0 3 (sLoc 1)) (sCmp 2 (sLoc 1) (sLit 27))) (sCmp0 3 (sLoc 2))) (sCmp 2 (sLoc 2) (sLit 27))) (sAst 5 0 729 (sBin 0 (sBin 2 (sLoc 1) (sLit 27)) (sLoc 2)) (sLoc 3)) sSkip) sRetV)
theorem qX4_setJoined : MX4_setJoined.1 = fX4_setJoined := by
  show sBody [.inr 3, .inl 0, .inl 0, .inl 0] bX4_setJoined.1.2 = _
  unfold bX4_setJoined fX4_setJoined
  simp only [m_cAnd, m_cCmp, m_cCmp0, m_eBin, m_eLit, m_eLoc, m_pAst, m_pIf, m_pRetV, m_pSeq, m_pSkip]
def fX11_joined : FF := sBody [.inr 0, .inl 0, .inl 0, .inl 0] (sSeq (sIf (sOr (sOr (sNot (sCmp0 1 (sCall fX11_within (sArgI (sLoc 1) (sArgI (sLit 1) (sArgI (sLit 26) sNil)))))) (sNot (sCmp0 1 (sCall fX11_within (sArgI (sLoc 2) (sArgI (sLit 1) (sArgI (sLit 26) sNil))))))) (sNot (sCmp0 1 (sCall fX11_within (sArgI (sLoc 3) (sArgI (sLit (-20)) (sArgI (sLit 20) sNil))))))) (sRet 3 (sLit 0)) sSkip) (sSeq (sDo fX4_setJoined (sArgI (sLoc 1) (sArgI (sLoc 2) (sArgI (sLoc 3) sNil)))) (sSeq (sDo fX11_changed sNil) (sRet 3 (sLit 1)))))
theorem qX11_joined : MX11_joined.1 = fX11_joined := by
  show sBody [.inr 0, .inl 0, .inl 0, .inl 0] bX11_joined.1.2 = _
  unfold bX11_joined fX11_joined
  simp only [m_aI, m_aNil, m_aR, m_cCmp0, m_cNot, m_cOr, m_eCall, m_eLit, m_eLoc, m_pDo, m_pIf, m_pRet, m_pSeq, m_pSkip, qX11_changed, qX11_within, qX4_setJoined]
def fX9_takes : FF := sBody [.inr 1, .inl 0] (sRet 3 (sIte (sCmp 5 (sBin 0 (sFld 1 1) (sLoc 1)) (sLit 400)) (sLit 1) (sLit 0)))
theorem qX9_takes : MX9_takes.1 = fX9_takes := by
  show sBody [.inr 1, .inl 0] bX9_takes.1.2 = _
  unfold bX9_takes fX9_takes
  simp only [m_cCmp, m_eBin, m_eFld, m_eIte, m_eLit, m_eLoc, m_pRet]
def fX9_push : FF := sBody [.inr 1, .inl 0] (sSeq (sSeq (sSet 2 (sLit 24)) (sWh (sAnd (sCmp0 3 (sLoc 2)) (sCmp 2 (sFld 1 1) (sLit 400))) (sSeq (sSeq (sAst 2 0 400 (sFld 1 1) (sBin 3 (sBin 7 (sLoc 1) (sLoc 2)) (sLit 255))) (sPutOp 1 1 0 (sLit 1))) (sInc 2 (-8))) ik_fuel)) sRetV)
theorem qX9_push : MX9_push.1 = fX9_push := by
  show sBody [.inr 1, .inl 0] bX9_push.1.2 = _
  unfold bX9_push fX9_push
  simp only [m_cAnd, m_cCmp, m_cCmp0, m_eBin, m_eFld, m_eLit, m_eLoc, m_pAst, m_pInc, m_pPutOp, m_pRetV, m_pSeq, m_pSet, m_pWh]
def fX9_length : FF := sBody [.inr 1] (sRet 0 (sFld 1 1))
theorem qX9_length : MX9_length.1 = fX9_length := by
  show sBody [.inr 1] bX9_length.1.2 = _
  unfold bX9_length fX9_length
  simp only [m_eFld, m_pRet]
def fX11_feed : FF := sBody [.inr 0, .inl 0, .inl 0, .inl 0, .inl 0, .inl 0] (sSeq (sIf (sNot (sCmp0 1 (sCall fX9_takes (sArgI (sLit 20) sNil)))) (sRet 0 (sLit (-1))) sSkip) (sSeq (sDo fX9_push (sArgI (sLoc 1) sNil)) (sSeq (sDo fX9_push (sArgI (sLoc 2) sNil)) (sSeq (sDo fX9_push (sArgI (sLoc 3) sNil)) (sSeq (sDo fX9_push (sArgI (sLoc 4) sNil)) (sSeq (sDo fX9_push (sArgI (sLoc 5) sNil)) (sRet 0 (sCall fX9_length sNil))))))))
theorem qX11_feed : MX11_feed.1 = fX11_feed := by
  show sBody [.inr 0, .inl 0, .inl 0, .inl 0, .inl 0, .inl 0] bX11_feed.1.2 = _
  unfold bX11_feed fX11_feed
  simp only [m_aI, m_aNil, m_aR, m_cCmp0, m_cNot, m_eCall, m_eLit, m_eLoc, m_pDo, m_pIf, m_pRet, m_pSeq, m_pSkip, qX9_length, qX9_push, qX9_takes]
def fX6_full : FF := sBody [.inr 6] (sRet 3 (sIte (sCmp 3 (sFld 6 6) (sLit 24)) (sLit 1) (sLit 0)))
theorem qX6_full : MX6_full.1 = fX6_full := by
  show sBody [.inr 6] bX6_full.1.2 = _
  unfold bX6_full fX6_full
  simp only [m_cCmp, m_eFld, m_eIte, m_eLit, m_pRet]
def fX10_stands_7 : FF := sBody [.inr 7, .inl 0] (sRet 3 (sIte (sAnd (sCmp0 3 (sLoc 1)) (sCmp 2 (sLoc 1) (sFld 7 0))) (sLit 1) (sLit 0)))
theorem qX10_stands_7 : MX10_stands_7.1 = fX10_stands_7 := by
  show sBody [.inr 7, .inl 0] bX10_stands_7.1.2 = _
  unfold bX10_stands_7 fX10_stands_7
  simp only [m_cAnd, m_cCmp, m_cCmp0, m_eFld, m_eIte, m_eLit, m_eLoc, m_pRet]
def fX10_wipe_7 : FF := sBody [.inr 7, .inl 0] (sSeq (sIf (sCmp0 1 (sCall fX10_stands_7 (sArgI (sLoc 1) sNil))) (sAst 9 0 24 (sLoc 1) (sLit 0)) sSkip) sRetV)
theorem qX10_wipe_7 : MX10_wipe_7.1 = fX10_wipe_7 := by
  show sBody [.inr 7, .inl 0] bX10_wipe_7.1.2 = _
  unfold bX10_wipe_7 fX10_wipe_7
  simp only [m_aI, m_aNil, m_aR, m_cCmp0, m_eCall, m_eLit, m_eLoc, m_pAst, m_pIf, m_pRetV, m_pSeq, m_pSkip, qX10_stands_7]
def fX9_at : FF := sBody [.inr 1, .inl 0] (sRet 0 (sIte (sAnd (sAnd (sCmp0 3 (sLoc 1)) (sCmp 2 (sLoc 1) (sFld 1 1))) (sCmp 2 (sLoc 1) (sLit 400))) (sArr 2 400 (sLoc 1)) (sLit 0)))
theorem qX9_at : MX9_at.1 = fX9_at := by
  show sBody [.inr 1, .inl 0] bX9_at.1.2 = _
  unfold bX9_at fX9_at
  simp only [m_cAnd, m_cCmp, m_cCmp0, m_eArr, m_eFld, m_eIte, m_eLit, m_eLoc, m_pRet]
def fX11_isLetter : FF := sBody [.inl 0] (sRet 3 (sIte (sAnd (sCmp 3 (sLoc 0) (sLit 97)) (sCmp 5 (sLoc 0) (sLit 122))) (sLit 1) (sLit 0)))
theorem qX11_isLetter : MX11_isLetter.1 = fX11_isLetter := by
  show sBody [.inl 0] bX11_isLetter.1.2 = _
  unfold bX11_isLetter fX11_isLetter
  simp only [m_cAnd, m_cCmp, m_eIte, m_eLit, m_eLoc, m_pRet]
def fX10_grow_7 : FF := sBody [.inr 7, .inl 0, .inl 0] (sSeq (sIf (sOr (sOr (sNot (sCmp0 1 (sCall fX10_stands_7 (sArgI (sLoc 1) sNil)))) (sCmp0 2 (sArr 9 24 (sLoc 1)))) (sCmp 3 (sArr 9 24 (sLoc 1)) (sLit 12))) (sRet 3 (sLit 0)) sSkip) (sSeq (sAst 8 0 288 (sBin 0 (sBin 2 (sLoc 1) (sLit 12)) (sArr 9 24 (sLoc 1))) (sLoc 2)) (sSeq (sAop 9 24 0 (sLoc 1) (sLit 1)) (sRet 3 (sLit 1)))))
theorem qX10_grow_7 : MX10_grow_7.1 = fX10_grow_7 := by
  show sBody [.inr 7, .inl 0, .inl 0] bX10_grow_7.1.2 = _
  unfold bX10_grow_7 fX10_grow_7
  simp only [m_aI, m_aNil, m_aR, m_cCmp, m_cCmp0, m_cNot, m_cOr, m_eArr, m_eBin, m_eCall, m_eLit, m_eLoc, m_pAop, m_pAst, m_pIf, m_pRet, m_pSeq, m_pSkip, qX10_stands_7]
def fX10_letter_7 : FF := sBody [.inr 7, .inl 0, .inl 0] (sSeq (sSet 3 (sIte (sAnd (sAnd (sAnd (sCmp0 3 (sLoc 1)) (sCmp 2 (sLoc 1) (sFld 7 0))) (sCmp0 3 (sLoc 2))) (sCmp 2 (sLoc 2) (sLit 12))) (sLit 1) (sLit 0))) (sRet 0 (sIte (sAnd (sCmp0 1 (sLoc 3)) (sCmp 2 (sLoc 2) (sArr 9 24 (sLoc 1)))) (sArr 8 288 (sBin 0 (sBin 2 (sLoc 1) (sLit 12)) (sLoc 2))) (sLit 0))))
theorem qX10_letter_7 : MX10_letter_7.1 = fX10_letter_7 := by
  show sBody [.inr 7, .inl 0, .inl 0] bX10_letter_7.1.2 = _
  unfold bX10_letter_7 fX10_letter_7
  simp only [m_cAnd, m_cCmp, m_cCmp0, m_eArr, m_eBin, m_eFld, m_eIte, m_eLit, m_eLoc, m_pRet, m_pSeq, m_pSet]
def fX10_compare_7 : FF := sBody [.inr 7, .inl 0, .inl 0] (sSeq (sSeq (sSet 3 (sLit 0)) (sWh (sCmp 2 (sLoc 3) (sLit 12)) (sSeq (sSeq (sSet 4 (sBin 1 (sCall fX10_letter_7 (sArgI (sLoc 1) (sArgI (sLoc 3) sNil))) (sCall fX10_letter_7 (sArgI (sLoc 2) (sArgI (sLoc 3) sNil))))) (sIf (sCmp0 1 (sLoc 4)) (sRet 0 (sLoc 4)) sSkip)) (sInc 3 1)) ik_fuel)) (sRet 0 (sLit 0)))
theorem qX10_compare_7 : MX10_compare_7.1 = fX10_compare_7 := by
  show sBody [.inr 7, .inl 0, .inl 0] bX10_compare_7.1.2 = _
  unfold bX10_compare_7 fX10_compare_7
  simp only [m_aI, m_aNil, m_aR, m_cCmp, m_cCmp0, m_eBin, m_eCall, m_eLit, m_eLoc, m_pIf, m_pInc, m_pRet, m_pSeq, m_pSet, m_pSkip, m_pWh, qX10_letter_7]
def fX6_read : FF := sBody [.inr 6, .inr 1, .inl 0] (sSeq (sDo fX10_wipe_7 (sArgI (sFld 6 6) sNil)) (sSeq (sSeq (sSet 3 (sLit 0)) (sWh (sCmp 2 (sLoc 3) (sLoc 2)) (sSeq (sSeq (sSet 4 (sCall fX9_at (sArgI (sLoc 3) sNil))) (sIf (sOr (sNot (sCmp0 1 (sCall fX11_isLetter (sArgI (sLoc 4) sNil)))) (sNot (sCmp0 1 (sCall fX10_grow_7 (sArgI (sFld 6 6) (sArgI (sBin 0 (sBin 1 (sLoc 4) (sLit 97)) (sLit 1)) sNil)))))) (sRet 3 (sLit 0)) sSkip)) (sInc 3 1)) ik_fuel)) (sSeq (sSeq (sSet 3 (sLit 0)) (sWh (sCmp 2 (sLoc 3) (sFld 6 6)) (sSeq (sIf (sCmp0 0 (sCall fX10_compare_7 (sArgI (sLoc 3) (sArgI (sFld 6 6) sNil)))) (sRet 3 (sLit 0)) sSkip) (sInc 3 1)) ik_fuel)) (sRet 3 (sLit 1)))))
theorem qX6_read : MX6_read.1 = fX6_read := by
  show sBody [.inr 6, .inr 1, .inl 0] bX6_read.1.2 = _
  unfold bX6_read fX6_read
  simp only [m_aI, m_aNil, m_aR, m_cCmp, m_cCmp0, m_cNot, m_cOr, m_eBin, m_eCall, m_eFld, m_eLit, m_eLoc, m_pDo, m_pIf, m_pInc, m_pRet, m_pSeq, m_pSet, m_pSkip, m_pWh, qX10_compare_7, qX10_grow_7, qX10_wipe_7, qX11_isLetter, qX9_at]
def fX9_clear : FF := sBody [.inr 1] (sSeq (sPut 1 1 0 (sLit 0)) sRetV)
theorem qX9_clear : MX9_clear.1 = fX9_clear := by
  show sBody [.inr 1] bX9_clear.1.2 = _
  unfold bX9_clear fX9_clear
  simp only [m_eLit, m_pPut, m_pRetV, m_pSeq]
def fX6_add : FF := sBody [.inr 6, .inl 0, .inl 0, .inl 0, .inl 0] (sSeq (sIf (sOr (sCmp0 1 (sCall fX6_full sNil)) (sCmp0 2 (sFld 6 6))) (sRet 0 (sLit (-1))) sSkip) (sSeq (sAst 10 0 24 (sFld 6 6) (sLoc 1)) (sSeq (sAst 11 0 24 (sFld 6 6) (sLoc 2)) (sSeq (sAst 12 0 24 (sFld 6 6) (sLoc 3)) (sSeq (sAst 13 0 24 (sFld 6 6) (sLoc 4)) (sSeq (sAst 14 0 24 (sFld 6 6) (sLit 0)) (sSeq (sSeq (sSet 5 (sLit 0)) (sWh (sCmp 2 (sLoc 5) (sFld 6 6)) (sSeq (sIf (sCmp0 2 (sCall fX10_compare_7 (sArgI (sLoc 5) (sArgI (sFld 6 6) sNil)))) (sAop 14 24 4 (sFld 6 6) (sBin 6 (sLit 1) (sLoc 5))) (sAop 14 24 4 (sLoc 5) (sBin 6 (sLit 1) (sFld 6 6)))) (sInc 5 1)) ik_fuel)) (sSeq (sPutOp 6 6 0 (sLit 1)) (sRet 0 (sBin 1 (sFld 6 6) (sLit 1)))))))))))
theorem qX6_add : MX6_add.1 = fX6_add := by
  show sBody [.inr 6, .inl 0, .inl 0, .inl 0, .inl 0] bX6_add.1.2 = _
  unfold bX6_add fX6_add
  simp only [m_aI, m_aNil, m_aR, m_cCmp, m_cCmp0, m_cOr, m_eBin, m_eCall, m_eFld, m_eLit, m_eLoc, m_pAop, m_pAst, m_pIf, m_pInc, m_pPutOp, m_pRet, m_pSeq, m_pSet, m_pSkip, m_pWh, qX10_compare_7, qX6_full]
def fX11_name : FF := sBody [.inr 0, .inl 0, .inl 0, .inl 0, .inl 0, .inl 0] (sSeq (sIf (sOr (sOr (sNot (sCmp0 1 (sCall fX11_within (sArgI (sLoc 1) (sArgI (sLit 1) (sArgI (sLit 12) sNil)))))) (sNot (sCmp0 1 (sCall fX11_within (sArgI (sLoc 2) (sArgI (sLit 0) (sArgI (sLit 7) sNil))))))) (sNot (sCmp0 1 (sCall fX11_within (sArgI (sLoc 3) (sArgI (sLit 0) (sArgI (sLit 199) sNil))))))) (sRet 0 (sLit (-1))) sSkip) (sSeq (sIf (sOr (sNot (sCmp0 1 (sCall fX11_within (sArgI (sLoc 4) (sArgI (sLoc 3) (sArgI (sLit 199) sNil)))))) (sNot (sCmp0 1 (sCall fX11_within (sArgI (sLoc 5) (sArgI (sLit 1) (sArgI (sLit 100) sNil))))))) (sRet 0 (sLit (-1))) sSkip) (sSeq (sIf (sOr (sCmp0 1 (sCall fX6_full sNil)) (sCmp 2 (sCall fX9_length sNil) (sLoc 1))) (sRet 0 (sLit (-1))) sSkip) (sSeq (sSet 6 (sCall fX6_read (sArgI (sLoc 1) sNil))) (sSeq (sDo fX9_clear sNil) (sSeq (sIf (sNot (sCmp0 1 (sLoc 6))) (sRet 0 (sLit (-2))) sSkip) (sSeq (sDo fX11_changed sNil) (sRet 0 (sCall fX6_add (sArgI (sLoc 2) (sArgI (sLoc 3) (sArgI (sLoc 4) (sArgI (sLoc 5) sNil)))))))))))))
theorem qX11_name : MX11_name.1 = fX11_name := by
  show sBody [.inr 0, .inl 0, .inl 0, .inl 0, .inl 0, .inl 0] bX11_name.1.2 = _
  unfold bX11_name fX11_name
  simp only [m_aI, m_aNil, m_aR, m_cCmp, m_cCmp0, m_cNot, m_cOr, m_eCall, m_eLit, m_eLoc, m_pDo, m_pIf, m_pRet, m_pSeq, m_pSet, m_pSkip, qX11_changed, qX11_within, qX6_add, qX6_full, qX6_read, qX9_clear, qX9_length]
def fX6_has : FF := sBody [.inr 6, .inl 0] (sRet 3 (sIte (sAnd (sAnd (sCmp0 3 (sLoc 1)) (sCmp 2 (sLoc 1) (sFld 6 6))) (sCmp 2 (sLoc 1) (sLit 24))) (sLit 1) (sLit 0)))
theorem qX6_has : MX6_has.1 = fX6_has := by
  show sBody [.inr 6, .inl 0] bX6_has.1.2 = _
  unfold bX6_has fX6_has
  simp only [m_cAnd, m_cCmp, m_cCmp0, m_eFld, m_eIte, m_eLit, m_eLoc, m_pRet]
def fX10_length_7 : FF := sBody [.inr 7, .inl 0] (sRet 0 (sIte (sAnd (sCmp0 3 (sLoc 1)) (sCmp 2 (sLoc 1) (sFld 7 0))) (sArr 9 24 (sLoc 1)) (sLit 0)))
theorem qX10_length_7 : MX10_length_7.1 = fX10_length_7 := by
  show sBody [.inr 7, .inl 0] bX10_length_7.1.2 = _
  unfold bX10_length_7 fX10_length_7
  simp only [m_cAnd, m_cCmp, m_cCmp0, m_eArr, m_eFld, m_eIte, m_eLit, m_eLoc, m_pRet]
def fX4_wideOf : FF := sBody [.inr 3, .inl 0] (sRet 0 (sIte (sAnd (sCmp0 3 (sLoc 1)) (sCmp 2 (sLoc 1) (sLit 27))) (sArr 4 27 (sLoc 1)) (sLit 0)))
theorem qX4_wideOf : MX4_wideOf.1 = fX4_wideOf := by
  show sBody [.inr 3, .inl 0] bX4_wideOf.1.2 = _
  unfold bX4_wideOf fX4_wideOf
  simp only [m_cAnd, m_cCmp, m_cCmp0, m_eArr, m_eIte, m_eLit, m_eLoc, m_pRet]
def fX4_joinOf : FF := sBody [.inr 3, .inl 0, .inl 0] (sRet 0 (sIte (sAnd (sAnd (sAnd (sCmp0 3 (sLoc 1)) (sCmp 2 (sLoc 1) (sLit 27))) (sCmp0 3 (sLoc 2))) (sCmp 2 (sLoc 2) (sLit 27))) (sArr 5 729 (sBin 0 (sBin 2 (sLoc 1) (sLit 27)) (sLoc 2))) (sLit 0)))
theorem qX4_joinOf : MX4_joinOf.1 = fX4_joinOf := by
  show sBody [.inr 3, .inl 0, .inl 0] bX4_joinOf.1.2 = _
  unfold bX4_joinOf fX4_joinOf
  simp only [m_cAnd, m_cCmp, m_cCmp0, m_eArr, m_eBin, m_eIte, m_eLit, m_eLoc, m_pRet]
def fX10_wide_7 : FF := sBody [.inr 7, .inl 0, .inr 3] (sSeq (sSet 3 (sLit 0)) (sSeq (sSet 4 (sLit 0)) (sSeq (sSet 5 (sCall fX10_length_7 (sArgI (sLoc 1) sNil))) (sSeq (sSeq (sSet 6 (sLit 0)) (sWh (sCmp 2 (sLoc 6) (sLoc 5)) (sSeq (sSeq (sSet 7 (sCall fX10_letter_7 (sArgI (sLoc 1) (sArgI (sLoc 6) sNil)))) (sSeq (sSet 3 (sBin 0 (sLoc 3) (sBin 0 (sCall fX4_wideOf (sArgI (sLoc 7) sNil)) (sCall fX4_joinOf (sArgI (sLoc 4) (sArgI (sLoc 7) sNil)))))) (sSet 4 (sLoc 7)))) (sInc 6 1)) ik_fuel)) (sRet 0 (sLoc 3))))))
theorem qX10_wide_7 : MX10_wide_7.1 = fX10_wide_7 := by
  show sBody [.inr 7, .inl 0, .inr 3] bX10_wide_7.1.2 = _
  unfold bX10_wide_7 fX10_wide_7
  simp only [m_aI, m_aNil, m_aR, m_cCmp, m_eBin, m_eCall, m_eLit, m_eLoc, m_pInc, m_pRet, m_pSeq, m_pSet, m_pWh, qX10_length_7, qX10_letter_7, qX4_joinOf, qX4_wideOf]
def fX6_wide : FF := sBody [.inr 6, .inl 0, .inr 3] (sRet 0 (sCall fX10_wide_7 (sArgI (sLoc 1) sNil)))
theorem qX6_wide : MX6_wide.1 = fX6_wide := by
  show sBody [.inr 6, .inl 0, .inr 3] bX6_wide.1.2 = _
  unfold bX6_wide fX6_wide
  simp only [m_aI, m_aNil, m_aR, m_eCall, m_eLoc, m_pRet, qX10_wide_7]
def fX11_wide : FF := sBody [.inr 0, .inl 0] (sRet 0 (sIte (sCmp0 1 (sCall fX6_has (sArgI (sLoc 1) sNil))) (sCall fX6_wide (sArgI (sLoc 1) sNil)) (sLit (-1))))
theorem qX11_wide : MX11_wide.1 = fX11_wide := by
  show sBody [.inr 0, .inl 0] bX11_wide.1.2 = _
  unfold bX11_wide fX11_wide
  simp only [m_aI, m_aNil, m_aR, m_cCmp0, m_eCall, m_eIte, m_eLit, m_eLoc, m_pRet, qX6_has, qX6_wide]
def fX0_full : FF := sBody [.inr 15] (sRet 3 (sIte (sCmp 3 (sFld 15 9) (sLit 4)) (sLit 1) (sLit 0)))
theorem qX0_full : MX0_full.1 = fX0_full := by
  show sBody [.inr 15] bX0_full.1.2 = _
  unfold bX0_full fX0_full
  simp only [m_cCmp, m_eFld, m_eIte, m_eLit, m_pRet]
def fX0_add : FF := sBody [.inr 15, .inl 0, .inl 0, .inl 0] (sSeq (sIf (sOr (sCmp0 1 (sCall fX0_full sNil)) (sCmp0 2 (sFld 15 9))) (sRet 0 (sLit (-1))) sSkip) (sSeq (sAst 16 0 4 (sFld 15 9) (sLoc 1)) (sSeq (sAst 17 0 4 (sFld 15 9) (sLoc 2)) (sSeq (sAst 18 0 4 (sFld 15 9) (sLoc 3)) (sSeq (sPutOp 15 9 0 (sLit 1)) (sRet 0 (sBin 1 (sFld 15 9) (sLit 1))))))))
theorem qX0_add : MX0_add.1 = fX0_add := by
  show sBody [.inr 15, .inl 0, .inl 0, .inl 0] bX0_add.1.2 = _
  unfold bX0_add fX0_add
  simp only [m_aNil, m_aR, m_cCmp0, m_cOr, m_eBin, m_eCall, m_eFld, m_eLit, m_eLoc, m_pAst, m_pIf, m_pPutOp, m_pRet, m_pSeq, m_pSkip, qX0_full]
def fX11_bar : FF := sBody [.inr 0, .inl 0, .inl 0, .inl 0] (sSeq (sIf (sOr (sOr (sNot (sCmp0 1 (sCall fX11_within (sArgI (sLoc 1) (sArgI (sLit 1) (sArgI (sLit 3000) sNil)))))) (sNot (sCmp0 1 (sCall fX11_within (sArgI (sLoc 2) (sArgI (sLit (-1)) (sArgI (sLit 199) sNil))))))) (sNot (sCmp0 1 (sCall fX11_within (sArgI (sLoc 3) (sArgI (sLit 0) (sArgI (sLit 255) sNil))))))) (sRet 0 (sLit (-1))) sSkip) (sSeq (sIf (sCmp0 1 (sCall fX0_full sNil)) (sRet 0 (sLit (-1))) sSkip) (sSeq (sDo fX11_changed sNil) (sRet 0 (sCall fX0_add (sArgI (sLoc 1) (sArgI (sLoc 2) (sArgI (sLoc 3) sNil))))))))
theorem qX11_bar : MX11_bar.1 = fX11_bar := by
  show sBody [.inr 0, .inl 0, .inl 0, .inl 0] bX11_bar.1.2 = _
  unfold bX11_bar fX11_bar
  simp only [m_aI, m_aNil, m_aR, m_cCmp0, m_cNot, m_cOr, m_eCall, m_eLit, m_eLoc, m_pDo, m_pIf, m_pRet, m_pSeq, m_pSkip, qX0_add, qX0_full, qX11_changed, qX11_within]
def fX8_full : FF := sBody [.inr 25] (sRet 3 (sIte (sCmp 3 (sFld 25 7) (sLit 6)) (sLit 1) (sLit 0)))
theorem qX8_full : MX8_full.1 = fX8_full := by
  show sBody [.inr 25] bX8_full.1.2 = _
  unfold bX8_full fX8_full
  simp only [m_cCmp, m_eFld, m_eIte, m_eLit, m_pRet]
def fX0_count : FF := sBody [.inr 15] (sRet 0 (sFld 15 9))
theorem qX0_count : MX0_count.1 = fX0_count := by
  show sBody [.inr 15] bX0_count.1.2 = _
  unfold bX0_count fX0_count
  simp only [m_eFld, m_pRet]
def fX11_isDigit : FF := sBody [.inl 0] (sRet 3 (sIte (sAnd (sCmp 3 (sLoc 0) (sLit 48)) (sCmp 5 (sLoc 0) (sLit 57))) (sLit 1) (sLit 0)))
theorem qX11_isDigit : MX11_isDigit.1 = fX11_isDigit := by
  show sBody [.inl 0] bX11_isDigit.1.2 = _
  unfold bX11_isDigit fX11_isDigit
  simp only [m_cAnd, m_cCmp, m_eIte, m_eLit, m_eLoc, m_pRet]
def fX8_slot : FF := sBody [.inl 0, .inl 0] (sRet 0 (sBin 0 (sBin 2 (sLoc 0) (sLit 24)) (sLoc 1)))
theorem qX8_slot : MX8_slot.1 = fX8_slot := by
  show sBody [.inl 0, .inl 0] bX8_slot.1.2 = _
  unfold bX8_slot fX8_slot
  simp only [m_eBin, m_eLit, m_eLoc, m_pRet]
def fX10_stands_26 : FF := sBody [.inr 26, .inl 0] (sRet 3 (sIte (sAnd (sCmp0 3 (sLoc 1)) (sCmp 2 (sLoc 1) (sFld 26 0))) (sLit 1) (sLit 0)))
theorem qX10_stands_26 : MX10_stands_26.1 = fX10_stands_26 := by
  show sBody [.inr 26, .inl 0] bX10_stands_26.1.2 = _
  unfold bX10_stands_26 fX10_stands_26
  simp only [m_cAnd, m_cCmp, m_cCmp0, m_eFld, m_eIte, m_eLit, m_eLoc, m_pRet]
def fX10_wipe_26 : FF := sBody [.inr 26, .inl 0] (sSeq (sIf (sCmp0 1 (sCall fX10_stands_26 (sArgI (sLoc 1) sNil))) (sAst 28 0 144 (sLoc 1) (sLit 0)) sSkip) sRetV)
theorem qX10_wipe_26 : MX10_wipe_26.1 = fX10_wipe_26 := by
  show sBody [.inr 26, .inl 0] bX10_wipe_26.1.2 = _
  unfold bX10_wipe_26 fX10_wipe_26
  simp only [m_aI, m_aNil, m_aR, m_cCmp0, m_eCall, m_eLit, m_eLoc, m_pAst, m_pIf, m_pRetV, m_pSeq, m_pSkip, qX10_stands_26]
def fX10_grow_26 : FF := sBody [.inr 26, .inl 0, .inl 0] (sSeq (sIf (sOr (sOr (sNot (sCmp0 1 (sCall fX10_stands_26 (sArgI (sLoc 1) sNil)))) (sCmp0 2 (sArr 28 144 (sLoc 1)))) (sCmp 3 (sArr 28 144 (sLoc 1)) (sLit 12))) (sRet 3 (sLit 0)) sSkip) (sSeq (sAst 27 0 1728 (sBin 0 (sBin 2 (sLoc 1) (sLit 12)) (sArr 28 144 (sLoc 1))) (sLoc 2)) (sSeq (sAop 28 144 0 (sLoc 1) (sLit 1)) (sRet 3 (sLit 1)))))
theorem qX10_grow_26 : MX10_grow_26.1 = fX10_grow_26 := by
  show sBody [.inr 26, .inl 0, .inl 0] bX10_grow_26.1.2 = _
  unfold bX10_grow_26 fX10_grow_26
  simp only [m_aI, m_aNil, m_aR, m_cCmp, m_cCmp0, m_cNot, m_cOr, m_eArr, m_eBin, m_eCall, m_eLit, m_eLoc, m_pAop, m_pAst, m_pIf, m_pRet, m_pSeq, m_pSkip, qX10_stands_26]
def fX8_beginToken : FF := sBody [.inr 25, .inl 0, .inl 0, .inl 0] (sSeq (sIf (sAnd (sNot (sCmp0 1 (sCall fX11_isLetter (sArgI (sLoc 1) sNil)))) (sNot (sCmp0 1 (sCall fX11_isDigit (sArgI (sLoc 1) sNil))))) (sRet 0 (sLit 1)) sSkip) (sSeq (sIf (sCmp 3 (sFld 25 8) (sLit 24)) (sRet 0 (sLit 4)) sSkip) (sSeq (sIf (sAnd (sCmp0 1 (sCall fX11_isDigit (sArgI (sLoc 1) sNil))) (sCmp 3 (sBin 1 (sLoc 1) (sLit 48)) (sLoc 3))) (sRet 0 (sLit 3)) sSkip) (sSeq (sSet 4 (sCall fX8_slot (sArgI (sFld 25 7) (sArgI (sFld 25 8) sNil)))) (sSeq (sIf (sAnd (sCmp0 3 (sLoc 4)) (sCmp 2 (sLoc 4) (sLit 144))) (sSeq (sDo fX10_wipe_26 (sArgI (sLoc 4) sNil)) (sSeq (sAst 29 0 144 (sLoc 4) (sIte (sCmp0 1 (sCall fX11_isDigit (sArgI (sLoc 1) sNil))) (sBin 1 (sLoc 1) (sLit 48)) (sLit (-1)))) (sSeq (sAst 30 3 144 (sLoc 4) (sLoc 2)) (sIf (sCmp0 1 (sCall fX11_isLetter (sArgI (sLoc 1) sNil))) (sPop (sCall fX10_grow_26 (sArgI (sLoc 4) (sArgI (sBin 0 (sBin 1 (sLoc 1) (sLit 97)) (sLit 1)) sNil)))) sSkip)))) sSkip) (sSeq (sPutOp 25 8 0 (sLit 1)) (sRet 0 (sLit 0))))))))
theorem qX8_beginToken : MX8_beginToken.1 = fX8_beginToken := by
  show sBody [.inr 25, .inl 0, .inl 0, .inl 0] bX8_beginToken.1.2 = _
  unfold bX8_beginToken fX8_beginToken
  simp only [m_aI, m_aNil, m_aR, m_cAnd, m_cCmp, m_cCmp0, m_cNot, m_eBin, m_eCall, m_eFld, m_eIte, m_eLit, m_eLoc, m_pAst, m_pDo, m_pIf, m_pPop, m_pPutOp, m_pRet, m_pSeq, m_pSet, m_pSkip, qX10_grow_26, qX10_wipe_26, qX11_isDigit, qX11_isLetter, qX8_slot]
def fX8_read : FF := sBody [.inr 25, .inr 1, .inl 0, .inl 0] (sSeq (sSet 4 (sLit 0)) (sSeq (sSet 5 (sLit 1)) (sSeq (sPut 25 8 0 (sLit 0)) (sSeq (sSeq (sSet 6 (sLit 0)) (sWh (sCmp 2 (sLoc 6) (sLoc 2)) (sSeq (sSeq (sSet 7 (sCall fX9_at (sArgI (sLoc 6) sNil))) (sSeq (sSet 8 (sLit 0)) (sSeq (sIf (sCmp0 0 (sLoc 4)) (sSeq (sSet 8 (sCall fX8_beginToken (sArgI (sLoc 7) (sArgI (sLoc 5) (sArgI (sLoc 3) sNil))))) (sSet 4 (sIte (sCmp0 1 (sCall fX11_isLetter (sArgI (sLoc 7) sNil))) (sLit 1) (sLit 2)))) (sIf (sOr (sCmp 0 (sLoc 7) (sLit 32)) (sCmp 0 (sLoc 7) (sLit 47))) (sSeq (sSet 4 (sLit 0)) (sSet 5 (sIte (sCmp 0 (sLoc 7) (sLit 47)) (sLit 1) (sLit 0)))) (sIf (sAnd (sCmp 0 (sLoc 4) (sLit 1)) (sCmp0 1 (sCall fX11_isLetter (sArgI (sLoc 7) sNil)))) (sSet 8 (sIte (sCmp0 1 (sCall fX10_grow_26 (sArgI (sCall fX8_slot (sArgI (sFld 25 7) (sArgI (sBin 1 (sFld 25 8) (sLit 1)) sNil))) (sArgI (sBin 0 (sBin 1 (sLoc 7) (sLit 97)) (sLit 1)) sNil)))) (sLit 0) (sLit 2))) (sSet 8 (sLit 1))))) (sIf (sCmp0 1 (sLoc 8)) (sRet 0 (sBin 0 (sBin 2 (sLit 1000) (sLoc 8)) (sLoc 6))) sSkip)))) (sInc 6 1)) ik_fuel)) (sRet 0 (sIte (sCmp0 0 (sLoc 4)) (sBin 0 (sLit 1000) (sLoc 2)) (sLit 0)))))))
theorem qX8_read : MX8_read.1 = fX8_read := by
  show sBody [.inr 25, .inr 1, .inl 0, .inl 0] bX8_read.1.2 = _
  unfold bX8_read fX8_read
  simp only [m_aI, m_aNil, m_aR, m_cAnd, m_cCmp, m_cCmp0, m_cOr, m_eBin, m_eCall, m_eFld, m_eIte, m_eLit, m_eLoc, m_pIf, m_pInc, m_pPut, m_pRet, m_pSeq, m_pSet, m_pSkip, m_pWh, qX10_grow_26, qX11_isLetter, qX8_beginToken, qX8_slot, qX9_at]
def fX8_has : FF := sBody [.inr 25, .inl 0] (sRet 3 (sIte (sAnd (sAnd (sCmp0 3 (sLoc 1)) (sCmp 2 (sLoc 1) (sFld 25 7))) (sCmp 2 (sLoc 1) (sLit 6))) (sLit 1) (sLit 0)))
theorem qX8_has : MX8_has.1 = fX8_has := by
  show sBody [.inr 25, .inl 0] bX8_has.1.2 = _
  unfold bX8_has fX8_has
  simp only [m_cAnd, m_cCmp, m_cCmp0, m_eFld, m_eIte, m_eLit, m_eLoc, m_pRet]
def fX8_stands : FF := sBody [.inr 25, .inl 0, .inl 0] (sRet 3 (sIte (sAnd (sAnd (sAnd (sCmp0 1 (sCall fX8_has (sArgI (sLoc 1) sNil))) (sCmp0 3 (sLoc 2))) (sCmp 2 (sLoc 2) (sArr 33 6 (sLoc 1)))) (sCmp 2 (sLoc 2) (sLit 24))) (sLit 1) (sLit 0)))
theorem qX8_stands : MX8_stands.1 = fX8_stands := by
  show sBody [.inr 25, .inl 0, .inl 0] bX8_stands.1.2 = _
  unfold bX8_stands fX8_stands
  simp only [m_aI, m_aNil, m_aR, m_cAnd, m_cCmp, m_cCmp0, m_eArr, m_eCall, m_eIte, m_eLit, m_eLoc, m_pRet, qX8_has]
def fX8_barAt : FF := sBody [.inr 25, .inl 0, .inl 0] (sRet 0 (sIte (sCmp0 1 (sCall fX8_stands (sArgI (sLoc 1) (sArgI (sLoc 2) sNil)))) (sArr 29 144 (sCall fX8_slot (sArgI (sLoc 1) (sArgI (sLoc 2) sNil)))) (sLit (-1))))
theorem qX8_barAt : MX8_barAt.1 = fX8_barAt := by
  show sBody [.inr 25, .inl 0, .inl 0] bX8_barAt.1.2 = _
  unfold bX8_barAt fX8_barAt
  simp only [m_aI, m_aNil, m_aR, m_cCmp0, m_eArr, m_eCall, m_eIte, m_eLit, m_eLoc, m_pRet, qX8_slot, qX8_stands]
def fX10_letter_26 : FF := sBody [.inr 26, .inl 0, .inl 0] (sSeq (sSet 3 (sIte (sAnd (sAnd (sAnd (sCmp0 3 (sLoc 1)) (sCmp 2 (sLoc 1) (sFld 26 0))) (sCmp0 3 (sLoc 2))) (sCmp 2 (sLoc 2) (sLit 12))) (sLit 1) (sLit 0))) (sRet 0 (sIte (sAnd (sCmp0 1 (sLoc 3)) (sCmp 2 (sLoc 2) (sArr 28 144 (sLoc 1)))) (sArr 27 1728 (sBin 0 (sBin 2 (sLoc 1) (sLit 12)) (sLoc 2))) (sLit 0))))
theorem qX10_letter_26 : MX10_letter_26.1 = fX10_letter_26 := by
  show sBody [.inr 26, .inl 0, .inl 0] bX10_letter_26.1.2 = _
  unfold bX10_letter_26 fX10_letter_26
  simp only [m_cAnd, m_cCmp, m_cCmp0, m_eArr, m_eBin, m_eFld, m_eIte, m_eLit, m_eLoc, m_pRet, m_pSeq, m_pSet]
def fX10_length_26 : FF := sBody [.inr 26, .inl 0] (sRet 0 (sIte (sAnd (sCmp0 3 (sLoc 1)) (sCmp 2 (sLoc 1) (sFld 26 0))) (sArr 28 144 (sLoc 1)) (sLit 0)))
theorem qX10_length_26 : MX10_length_26.1 = fX10_length_26 := by
  show sBody [.inr 26, .inl 0] bX10_length_26.1.2 = _
  unfold bX10_length_26 fX10_length_26
  simp only [m_cAnd, m_cCmp, m_cCmp0, m_eArr, m_eFld, m_eIte, m_eLit, m_eLoc, m_pRet]
def fX8_heedArticle : FF := sBody [.inr 25, .inl 0, .inl 0] (sSeq (sSeq (sIf (sOr (sCmp 0 (sLoc 2) (sLit (-1))) (sCmp 1 (sCall fX10_letter_26 (sArgI (sLoc 1) (sArgI (sLit 0) sNil))) (sLit 1))) sRetV sSkip) (sSeq (sIf (sCmp 0 (sCall fX10_length_26 (sArgI (sLoc 1) sNil)) (sLit 1)) (sPutOp 25 9 4 (sBin 6 (sLit 1) (sLoc 2))) sSkip) (sIf (sAnd (sCmp 0 (sCall fX10_length_26 (sArgI (sLoc 1) sNil)) (sLit 2)) (sCmp 0 (sCall fX10_letter_26 (sArgI (sLoc 1) (sArgI (sLit 1) sNil))) (sLit 14))) (sPutOp 25 10 4 (sBin 6 (sLit 1) (sLoc 2))) sSkip))) sRetV)
theorem qX8_heedArticle : MX8_heedArticle.1 = fX8_heedArticle := by
  show sBody [.inr 25, .inl 0, .inl 0] bX8_heedArticle.1.2 = _
  unfold bX8_heedArticle fX8_heedArticle
  simp only [m_aI, m_aNil, m_aR, m_cAnd, m_cCmp, m_cOr, m_eBin, m_eCall, m_eLit, m_eLoc, m_pIf, m_pPutOp, m_pRetV, m_pSeq, m_pSkip, qX10_length_26, qX10_letter_26]
def fX8_add : FF := sBody [.inr 25, .inl 0] (sSeq (sIf (sOr (sCmp0 1 (sCall fX8_full sNil)) (sCmp0 2 (sFld 25 7))) (sRet 0 (sLit (-1))) sSkip) (sSeq (sAst 32 0 6 (sFld 25 7) (sLoc 1)) (sSeq (sAst 33 0 6 (sFld 25 7) (sFld 25 8)) (sSeq (sAst 34 0 6 (sFld 25 7) (sLit 0)) (sSeq (sPutOp 25 7 0 (sLit 1)) (sSeq (sSeq (sSet 2 (sLit 1)) (sWh (sCmp 2 (sLoc 2) (sFld 25 8)) (sSeq (sDo fX8_heedArticle (sArgI (sCall fX8_slot (sArgI (sBin 1 (sFld 25 7) (sLit 1)) (sArgI (sBin 1 (sLoc 2) (sLit 1)) sNil))) (sArgI (sCall fX8_barAt (sArgI (sBin 1 (sFld 25 7) (sLit 1)) (sArgI (sLoc 2) sNil))) sNil))) (sInc 2 1)) ik_fuel)) (sRet 0 (sBin 1 (sFld 25 7) (sLit 1)))))))))
theorem qX8_add : MX8_add.1 = fX8_add := by
  show sBody [.inr 25, .inl 0] bX8_add.1.2 = _
  unfold bX8_add fX8_add
  simp only [m_aI, m_aNil, m_aR, m_cCmp, m_cCmp0, m_cOr, m_eBin, m_eCall, m_eFld, m_eLit, m_eLoc, m_pAst, m_pDo, m_pIf, m_pInc, m_pPutOp, m_pRet, m_pSeq, m_pSet, m_pSkip, m_pWh, qX8_barAt, qX8_full, qX8_heedArticle, qX8_slot]
def fX11_sheet : FF := sBody [.inr 0, .inl 0, .inl 0] (sSeq (sIf (sOr (sNot (sCmp0 1 (sCall fX11_within (sArgI (sLoc 1) (sArgI (sLit 50) (sArgI (sLit 5000) sNil)))))) (sNot (sCmp0 1 (sCall fX11_within (sArgI (sLoc 2) (sArgI (sLit 1) (sArgI (sLit 160) sNil))))))) (sRet 0 (sLit (-1))) sSkip) (sSeq (sIf (sOr (sCmp0 1 (sCall fX8_full sNil)) (sCmp 2 (sCall fX9_length sNil) (sLoc 2))) (sRet 0 (sLit (-1))) sSkip) (sSeq (sSet 3 (sCall fX8_read (sArgI (sLoc 2) (sArgI (sCall fX0_count sNil) sNil)))) (sSeq (sDo fX9_clear sNil) (sSeq (sIf (sCmp0 1 (sLoc 3)) (sRet 0 (sUn 0 (sLoc 3))) sSkip) (sSeq (sDo fX11_changed sNil) (sRet 0 (sCall fX8_add (sArgI (sLoc 1) sNil)))))))))
theorem qX11_sheet : MX11_sheet.1 = fX11_sheet := by
  show sBody [.inr 0, .inl 0, .inl 0] bX11_sheet.1.2 = _
  unfold bX11_sheet fX11_sheet
  simp only [m_aI, m_aNil, m_aR, m_cCmp, m_cCmp0, m_cNot, m_cOr, m_eCall, m_eLit, m_eLoc, m_eUn, m_pDo, m_pIf, m_pRet, m_pSeq, m_pSet, m_pSkip, qX0_count, qX11_changed, qX11_within, qX8_add, qX8_full, qX8_read, qX9_clear, qX9_length]
def fX7_go : FF := sBody [.inr 35, .inl 0] (sSeq (sSeq (sIf (sCmp0 1 (sFld 35 9)) sRetV sSkip) (sSeq (sIf (sCmp0 1 (sLoc 1)) (sSeq (sPut 35 9 0 (sBin 0 (sBin 2 (sLit 1000) (sLoc 1)) (sFld 35 7))) (sSeq (sPut 35 8 0 (sLit (-1))) sRetV)) sSkip) (sSeq (sPutOp 35 7 0 (sLit 1)) (sSeq (sSet 2 (sIte (sAnd (sAnd (sCmp0 3 (sFld 35 7)) (sCmp 2 (sFld 35 7) (sFld 35 6))) (sCmp 2 (sFld 35 7) (sLit 160))) (sLit 1) (sLit 0))) (sPut 35 8 0 (sIte (sNot (sCmp0 1 (sLoc 2))) (sLit (-1)) (sIte (sCmp0 1 (sFld 35 5)) (sArr 36 160 (sFld 35 7)) (sArr 37 160 (sFld 35 7))))))))) sRetV)
theorem qX7_go : MX7_go.1 = fX7_go := by
  show sBody [.inr 35, .inl 0] bX7_go.1.2 = _
  unfold bX7_go fX7_go
  simp only [m_cAnd, m_cCmp, m_cCmp0, m_cNot, m_eArr, m_eBin, m_eFld, m_eIte, m_eLit, m_eLoc, m_pIf, m_pPut, m_pPutOp, m_pRetV, m_pSeq, m_pSet, m_pSkip]
def fX7_begin : FF := sBody [.inr 35, .inl 0, .inl 0, .inl 0] (sSeq (sSeq (sPut 35 5 3 (sLoc 1)) (sSeq (sPut 35 6 0 (sLoc 3)) (sSeq (sPut 35 7 0 (sBin 1 (sLoc 2) (sLit 1))) (sSeq (sPut 35 9 0 (sLit 0)) (sSeq (sPut 35 10 3 (sLit 0)) (sDo fX7_go (sArgI (sLit 0) sNil))))))) sRetV)
theorem qX7_begin : MX7_begin.1 = fX7_begin := by
  show sBody [.inr 35, .inl 0, .inl 0, .inl 0] bX7_begin.1.2 = _
  unfold bX7_begin fX7_begin
  simp only [m_aI, m_aNil, m_aR, m_eBin, m_eLit, m_eLoc, m_pDo, m_pPut, m_pRetV, m_pSeq, qX7_go]
def fX7_nested (condition : FF) (piece : FF) : FF := sBody [.inr 35, .inl 0, .inl 0] (sSeq (sSet 3 (sFld 35 8)) (sSeq (sDo fX7_go (sArgI (sIte (sCmp 2 (sLoc 1) (sLit 6)) (sLit 0) (sLit 5)) sNil)) (sSeq (sIf (sCmp 3 (sLoc 1) (sLit 6)) (sRet 3 (sLit 0)) sSkip) (sSeq (sIf (sCmp 0 (sLoc 3) (sLit 33)) (sRet 3 (sIte (sNot (sCmp0 1 (sCall piece (sArgI (sBin 0 (sLoc 1) (sLit 1)) (sArgI (sLoc 2) sNil))))) (sLit 1) (sLit 0))) sSkip) (sSeq (sSet 4 (sCall condition (sArgI (sBin 0 (sLoc 1) (sLit 1)) (sArgI (sLoc 2) sNil)))) (sSeq (sDo fX7_go (sArgI (sIte (sCmp 0 (sFld 35 8) (sLit 41)) (sLit 0) (sLit 1)) sNil)) (sRet 3 (sLoc 4))))))))
theorem qX7_nested_f0 : MX7_nested_f0.1 = fX7_nested MX7_condition_x.1 MX7_piece_x.1 := by
  show sBody [.inr 35, .inl 0, .inl 0] bX7_nested_f0.1.2 = _
  unfold bX7_nested_f0 fX7_nested
  simp only [m_aI, m_aNil, m_aR, m_cCmp, m_cCmp0, m_cNot, m_eBin, m_eCall, m_eFld, m_eIte, m_eLit, m_eLoc, m_pDo, m_pIf, m_pRet, m_pSeq, m_pSet, m_pSkip, qX7_go]
def fX7_isFact : FF := sBody [.inl 0] (sSw (sLoc 0) (ik_pickS [(97, (sDead (sRet 3 (sLit 1)))), (98, (sDead (sRet 3 (sLit 1)))), (105, (sDead (sRet 3 (sLit 1)))), (110, (sDead (sRet 3 (sLit 1)))), (115, (sDead (sRet 3 (sLit 1)))), (118, (sDead (sRet 3 (sLit 1)))), (119, (sDead (sRet 3 (sLit 1)))), (121, (sDead (sRet 3 (sLit 1)))), (122, (sDead (sRet 3 (sLit 1))))] (sDead (sRet 3 (sLit 0)))))
theorem qX7_isFact : MX7_isFact.1 = fX7_isFact := by
  show sBody [.inl 0] bX7_isFact.1.2 = _
  unfold bX7_isFact fX7_isFact
  simp only [m_eLit, m_eLoc, m_pDead, m_pRet, m_pSw, List.map_cons, List.map_nil]
def fX7_factor (sum : FF) : FF := sBody [.inr 35, .inl 0, .inl 0] (sSeq (sIf (sCmp 0 (sFld 35 8) (sLit 91)) (sSeq (sDo fX7_go (sArgI (sIte (sCmp 2 (sLoc 1) (sLit 6)) (sLit 0) (sLit 5)) sNil)) (sSeq (sSet 3 (sIte (sCmp 2 (sLoc 1) (sLit 6)) (sCall sum (sArgI (sBin 0 (sLoc 1) (sLit 1)) (sArgI (sLoc 2) sNil))) (sLit 0))) (sSeq (sDo fX7_go (sArgI (sIte (sCmp 0 (sFld 35 8) (sLit 93)) (sLit 0) (sLit 1)) sNil)) (sRet 0 (sLoc 3))))) sSkip) (sSeq (sSet 3 (sLit 0)) (sSeq (sSet 4 (sLit 0)) (sSeq (sWh (sAnd (sCmp 5 (sLoc 4) (sLit 5)) (sCmp0 1 (sCall fX11_isDigit (sArgI (sFld 35 8) sNil)))) (sSeq (sSeq (sSet 3 (sBin 1 (sBin 0 (sBin 2 (sLit 10) (sLoc 3)) (sFld 35 8)) (sLit 48))) (sDo fX7_go (sArgI (sIte (sCmp 2 (sLoc 4) (sLit 5)) (sLit 0) (sLit 2)) sNil))) (sInc 4 1)) ik_fuel) (sSeq (sIf (sCmp0 4 (sLoc 4)) (sRet 0 (sLoc 3)) sSkip) (sSeq (sSet 5 (sBin 1 (sFld 35 8) (sLit 97))) (sSeq (sDo fX7_go (sArgI (sIte (sCmp0 1 (sCall fX7_isFact (sArgI (sFld 35 8) sNil))) (sLit 0) (sLit 1)) sNil)) (sRet 0 (sIte (sAnd (sCmp0 3 (sLoc 5)) (sCmp 2 (sLoc 5) (sLit 26))) (sArr 38 26 (sLoc 5)) (sLit 0))))))))))
theorem qX7_factor_f0 : MX7_factor_f0.1 = fX7_factor MX7_sum_x.1 := by
  show sBody [.inr 35, .inl 0, .inl 0] bX7_factor_f0.1.2 = _
  unfold bX7_factor_f0 fX7_factor
  simp only [m_aI, m_aNil, m_aR, m_cAnd, m_cCmp, m_cCmp0, m_eArr, m_eBin, m_eCall, m_eFld, m_eIte, m_eLit, m_eLoc, m_pDo, m_pIf, m_pInc, m_pRet, m_pSeq, m_pSet, m_pSkip, m_pWh, qX11_isDigit, qX7_go, qX7_isFact]
def fX7_product (factor : FF) : FF := sBody [.inr 35, .inl 0, .inl 0] (sSeq (sSet 3 (sCall factor (sArgI (sLoc 1) (sArgI (sLoc 2) sNil)))) (sSeq (sSeq (sSet 4 (sLit 0)) (sWh (sAnd (sCmp 2 (sLoc 4) (sLit 160)) (sOr (sOr (sCmp 0 (sFld 35 8) (sLit 42)) (sCmp 0 (sFld 35 8) (sLit 47))) (sCmp 0 (sFld 35 8) (sLit 37)))) (sSeq (sSeq (sSet 5 (sFld 35 8)) (sSeq (sDo fX7_go (sArgI (sLit 0) sNil)) (sSeq (sSet 6 (sCall factor (sArgI (sLoc 1) (sArgI (sLoc 2) sNil)))) (sIf (sCmp 0 (sLoc 5) (sLit 42)) (sSet 3 (sBin 2 (sLoc 3) (sLoc 6))) (sIf (sCmp0 0 (sLoc 6)) (sPut 35 10 3 (sIte (sOr (sCmp0 1 (sFld 35 10)) (sCmp0 1 (sLoc 2))) (sLit 1) (sLit 0))) (sSet 3 (sIte (sCmp 0 (sLoc 5) (sLit 47)) (sBin 9 (sLoc 3) (sLoc 6)) (sBin 10 (sLoc 3) (sLoc 6))))))))) (sInc 4 1)) ik_fuel)) (sRet 0 (sLoc 3))))
theorem qX7_product_f0 : MX7_product_f0.1 = fX7_product MX7_factor_f0.1 := by
  show sBody [.inr 35, .inl 0, .inl 0] bX7_product_f0.1.2 = _
  unfold bX7_product_f0 fX7_product
  simp only [m_aI, m_aNil, m_aR, m_cAnd, m_cCmp, m_cCmp0, m_cOr, m_eBin, m_eCall, m_eFld, m_eIte, m_eLit, m_eLoc, m_pDo, m_pIf, m_pInc, m_pPut, m_pRet, m_pSeq, m_pSet, m_pWh, qX7_go]
def fX7_sum (product : FF) : FF := sBody [.inr 35, .inl 0, .inl 0] (sSeq (sSet 3 (sCall product (sArgI (sLoc 1) (sArgI (sLoc 2) sNil)))) (sSeq (sSeq (sSet 4 (sLit 0)) (sWh (sAnd (sCmp 2 (sLoc 4) (sLit 160)) (sOr (sCmp 0 (sFld 35 8) (sLit 43)) (sCmp 0 (sFld 35 8) (sLit 45)))) (sSeq (sSeq (sSet 5 (sIte (sCmp 0 (sFld 35 8) (sLit 43)) (sLit 1) (sLit 0))) (sSeq (sDo fX7_go (sArgI (sLit 0) sNil)) (sSeq (sSet 6 (sCall product (sArgI (sLoc 1) (sArgI (sLoc 2) sNil)))) (sSet 3 (sIte (sCmp0 1 (sLoc 5)) (sBin 0 (sLoc 3) (sLoc 6)) (sBin 1 (sLoc 3) (sLoc 6))))))) (sInc 4 1)) ik_fuel)) (sRet 0 (sLoc 3))))
theorem qX7_sum_f0 : MX7_sum_f0.1 = fX7_sum MX7_product_f0.1 := by
  show sBody [.inr 35, .inl 0, .inl 0] bX7_sum_f0.1.2 = _
  unfold bX7_sum_f0 fX7_sum
  simp only [m_aI, m_aNil, m_aR, m_cAnd, m_cCmp, m_cCmp0, m_cOr, m_eBin, m_eCall, m_eFld, m_eIte, m_eLit, m_eLoc, m_pDo, m_pInc, m_pRet, m_pSeq, m_pSet, m_pWh, qX7_go]
def fX7_piece (nested : FF) (sum : FF) : FF := sBody [.inr 35, .inl 0, .inl 0] (sSeq (sIf (sOr (sCmp 0 (sFld 35 8) (sLit 33)) (sCmp 0 (sFld 35 8) (sLit 40))) (sRet 3 (sCall nested (sArgI (sLoc 1) (sArgI (sLoc 2) sNil)))) sSkip) (sSeq (sSet 3 (sCall sum (sArgI (sLoc 1) (sArgI (sLoc 2) sNil)))) (sSeq (sSet 4 (sFld 35 8)) (sSeq (sDo fX7_go (sArgI (sIte (sOr (sOr (sCmp 0 (sLoc 4) (sLit 60)) (sCmp 0 (sLoc 4) (sLit 62))) (sCmp 0 (sLoc 4) (sLit 61))) (sLit 0) (sLit 1)) sNil)) (sSeq (sSet 5 (sCall sum (sArgI (sLoc 1) (sArgI (sLoc 2) sNil)))) (sRet 3 (sIte (sCmp 0 (sLoc 4) (sLit 60)) (sIte (sCmp 2 (sLoc 3) (sLoc 5)) (sLit 1) (sLit 0)) (sIte (sCmp 0 (sLoc 4) (sLit 62)) (sIte (sCmp 4 (sLoc 3) (sLoc 5)) (sLit 1) (sLit 0)) (sIte (sCmp 0 (sLoc 3) (sLoc 5)) (sLit 1) (sLit 0))))))))))
theorem qX7_piece_f0 : MX7_piece_f0.1 = fX7_piece MX7_nested_f0.1 MX7_sum_f0.1 := by
  show sBody [.inr 35, .inl 0, .inl 0] bX7_piece_f0.1.2 = _
  unfold bX7_piece_f0 fX7_piece
  simp only [m_aI, m_aNil, m_aR, m_cCmp, m_cOr, m_eCall, m_eFld, m_eIte, m_eLit, m_eLoc, m_pDo, m_pIf, m_pRet, m_pSeq, m_pSet, m_pSkip, qX7_go]
def fX7_part (piece : FF) : FF := sBody [.inr 35, .inl 0, .inl 0] (sSeq (sSet 3 (sCall piece (sArgI (sLoc 1) (sArgI (sLoc 2) sNil)))) (sSeq (sSeq (sSet 4 (sLit 0)) (sWh (sAnd (sCmp 2 (sLoc 4) (sLit 160)) (sCmp 0 (sFld 35 8) (sLit 38))) (sSeq (sSeq (sDo fX7_go (sArgI (sLit 0) sNil)) (sSeq (sSet 5 (sCall piece (sArgI (sLoc 1) (sArgI (sIte (sAnd (sCmp0 1 (sLoc 2)) (sCmp0 1 (sLoc 3))) (sLit 1) (sLit 0)) sNil)))) (sSet 3 (sIte (sAnd (sCmp0 1 (sLoc 3)) (sCmp0 1 (sLoc 5))) (sLit 1) (sLit 0))))) (sInc 4 1)) ik_fuel)) (sRet 3 (sLoc 3))))
theorem qX7_part_f0 : MX7_part_f0.1 = fX7_part MX7_piece_f0.1 := by
  show sBody [.inr 35, .inl 0, .inl 0] bX7_part_f0.1.2 = _
  unfold bX7_part_f0 fX7_part
  simp only [m_aI, m_aNil, m_aR, m_cAnd, m_cCmp, m_cCmp0, m_eCall, m_eFld, m_eIte, m_eLit, m_eLoc, m_pDo, m_pInc, m_pRet, m_pSeq, m_pSet, m_pWh, qX7_go]
def fX7_condition (part : FF) : FF := sBody [.inr 35, .inl 0, .inl 0] (sSeq (sSet 3 (sCall part (sArgI (sLoc 1) (sArgI (sLoc 2) sNil)))) (sSeq (sSeq (sSet 4 (sLit 0)) (sWh (sAnd (sCmp 2 (sLoc 4) (sLit 160)) (sCmp 0 (sFld 35 8) (sLit 124))) (sSeq (sSeq (sDo fX7_go (sArgI (sLit 0) sNil)) (sSeq (sSet 5 (sCall part (sArgI (sLoc 1) (sArgI (sIte (sAnd (sCmp0 1 (sLoc 2)) (sNot (sCmp0 1 (sLoc 3)))) (sLit 1) (sLit 0)) sNil)))) (sSet 3 (sIte (sOr (sCmp0 1 (sLoc 3)) (sCmp0 1 (sLoc 5))) (sLit 1) (sLit 0))))) (sInc 4 1)) ik_fuel)) (sRet 3 (sLoc 3))))
theorem qX7_condition_f0 : MX7_condition_f0.1 = fX7_condition MX7_part_f0.1 := by
  show sBody [.inr 35, .inl 0, .inl 0] bX7_condition_f0.1.2 = _
  unfold bX7_condition_f0 fX7_condition
  simp only [m_aI, m_aNil, m_aR, m_cAnd, m_cCmp, m_cCmp0, m_cNot, m_cOr, m_eCall, m_eFld, m_eIte, m_eLit, m_eLoc, m_pDo, m_pInc, m_pRet, m_pSeq, m_pSet, m_pWh, qX7_go]
theorem qX7_nested_f1 : MX7_nested_f1.1 = fX7_nested MX7_condition_f0.1 MX7_piece_f0.1 := by
  show sBody [.inr 35, .inl 0, .inl 0] bX7_nested_f1.1.2 = _
  unfold bX7_nested_f1 fX7_nested
  simp only [m_aI, m_aNil, m_aR, m_cCmp, m_cCmp0, m_cNot, m_eBin, m_eCall, m_eFld, m_eIte, m_eLit, m_eLoc, m_pDo, m_pIf, m_pRet, m_pSeq, m_pSet, m_pSkip, qX7_go]
theorem qX7_factor_f1 : MX7_factor_f1.1 = fX7_factor MX7_sum_f0.1 := by
  show sBody [.inr 35, .inl 0, .inl 0] bX7_factor_f1.1.2 = _
  unfold bX7_factor_f1 fX7_factor
  simp only [m_aI, m_aNil, m_aR, m_cAnd, m_cCmp, m_cCmp0, m_eArr, m_eBin, m_eCall, m_eFld, m_eIte, m_eLit, m_eLoc, m_pDo, m_pIf, m_pInc, m_pRet, m_pSeq, m_pSet, m_pSkip, m_pWh, qX11_isDigit, qX7_go, qX7_isFact]
theorem qX7_product_f1 : MX7_product_f1.1 = fX7_product MX7_factor_f1.1 := by
  show sBody [.inr 35, .inl 0, .inl 0] bX7_product_f1.1.2 = _
  unfold bX7_product_f1 fX7_product
  simp only [m_aI, m_aNil, m_aR, m_cAnd, m_cCmp, m_cCmp0, m_cOr, m_eBin, m_eCall, m_eFld, m_eIte, m_eLit, m_eLoc, m_pDo, m_pIf, m_pInc, m_pPut, m_pRet, m_pSeq, m_pSet, m_pWh, qX7_go]
theorem qX7_sum_f1 : MX7_sum_f1.1 = fX7_sum MX7_product_f1.1 := by
  show sBody [.inr 35, .inl 0, .inl 0] bX7_sum_f1.1.2 = _
  unfold bX7_sum_f1 fX7_sum
  simp only [m_aI, m_aNil, m_aR, m_cAnd, m_cCmp, m_cCmp0, m_cOr, m_eBin, m_eCall, m_eFld, m_eIte, m_eLit, m_eLoc, m_pDo, m_pInc, m_pRet, m_pSeq, m_pSet, m_pWh, qX7_go]
theorem qX7_piece_f1 : MX7_piece_f1.1 = fX7_piece MX7_nested_f1.1 MX7_sum_f1.1 := by
  show sBody [.inr 35, .inl 0, .inl 0] bX7_piece_f1.1.2 = _
  unfold bX7_piece_f1 fX7_piece
  simp only [m_aI, m_aNil, m_aR, m_cCmp, m_cOr, m_eCall, m_eFld, m_eIte, m_eLit, m_eLoc, m_pDo, m_pIf, m_pRet, m_pSeq, m_pSet, m_pSkip, qX7_go]
theorem qX7_part_f1 : MX7_part_f1.1 = fX7_part MX7_piece_f1.1 := by
  show sBody [.inr 35, .inl 0, .inl 0] bX7_part_f1.1.2 = _
  unfold bX7_part_f1 fX7_part
  simp only [m_aI, m_aNil, m_aR, m_cAnd, m_cCmp, m_cCmp0, m_eCall, m_eFld, m_eIte, m_eLit, m_eLoc, m_pDo, m_pInc, m_pRet, m_pSeq, m_pSet, m_pWh, qX7_go]
theorem qX7_condition_f1 : MX7_condition_f1.1 = fX7_condition MX7_part_f1.1 := by
  show sBody [.inr 35, .inl 0, .inl 0] bX7_condition_f1.1.2 = _
  unfold bX7_condition_f1 fX7_condition
  simp only [m_aI, m_aNil, m_aR, m_cAnd, m_cCmp, m_cCmp0, m_cNot, m_cOr, m_eCall, m_eFld, m_eIte, m_eLit, m_eLoc, m_pDo, m_pInc, m_pRet, m_pSeq, m_pSet, m_pWh, qX7_go]
theorem qX7_nested_f2 : MX7_nested_f2.1 = fX7_nested MX7_condition_f1.1 MX7_piece_f1.1 := by
  show sBody [.inr 35, .inl 0, .inl 0] bX7_nested_f2.1.2 = _
  unfold bX7_nested_f2 fX7_nested
  simp only [m_aI, m_aNil, m_aR, m_cCmp, m_cCmp0, m_cNot, m_eBin, m_eCall, m_eFld, m_eIte, m_eLit, m_eLoc, m_pDo, m_pIf, m_pRet, m_pSeq, m_pSet, m_pSkip, qX7_go]
theorem qX7_factor_f2 : MX7_factor_f2.1 = fX7_factor MX7_sum_f1.1 := by
  show sBody [.inr 35, .inl 0, .inl 0] bX7_factor_f2.1.2 = _
  unfold bX7_factor_f2 fX7_factor
  simp only [m_aI, m_aNil, m_aR, m_cAnd, m_cCmp, m_cCmp0, m_eArr, m_eBin, m_eCall, m_eFld, m_eIte, m_eLit, m_eLoc, m_pDo, m_pIf, m_pInc, m_pRet, m_pSeq, m_pSet, m_pSkip, m_pWh, qX11_isDigit, qX7_go, qX7_isFact]
theorem qX7_product_f2 : MX7_product_f2.1 = fX7_product MX7_factor_f2.1 := by
  show sBody [.inr 35, .inl 0, .inl 0] bX7_product_f2.1.2 = _
  unfold bX7_product_f2 fX7_product
  simp only [m_aI, m_aNil, m_aR, m_cAnd, m_cCmp, m_cCmp0, m_cOr, m_eBin, m_eCall, m_eFld, m_eIte, m_eLit, m_eLoc, m_pDo, m_pIf, m_pInc, m_pPut, m_pRet, m_pSeq, m_pSet, m_pWh, qX7_go]
theorem qX7_sum_f2 : MX7_sum_f2.1 = fX7_sum MX7_product_f2.1 := by
  show sBody [.inr 35, .inl 0, .inl 0] bX7_sum_f2.1.2 = _
  unfold bX7_sum_f2 fX7_sum
  simp only [m_aI, m_aNil, m_aR, m_cAnd, m_cCmp, m_cCmp0, m_cOr, m_eBin, m_eCall, m_eFld, m_eIte, m_eLit, m_eLoc, m_pDo, m_pInc, m_pRet, m_pSeq, m_pSet, m_pWh, qX7_go]
theorem qX7_piece_f2 : MX7_piece_f2.1 = fX7_piece MX7_nested_f2.1 MX7_sum_f2.1 := by
  show sBody [.inr 35, .inl 0, .inl 0] bX7_piece_f2.1.2 = _
  unfold bX7_piece_f2 fX7_piece
  simp only [m_aI, m_aNil, m_aR, m_cCmp, m_cOr, m_eCall, m_eFld, m_eIte, m_eLit, m_eLoc, m_pDo, m_pIf, m_pRet, m_pSeq, m_pSet, m_pSkip, qX7_go]
theorem qX7_part_f2 : MX7_part_f2.1 = fX7_part MX7_piece_f2.1 := by
  show sBody [.inr 35, .inl 0, .inl 0] bX7_part_f2.1.2 = _
  unfold bX7_part_f2 fX7_part
  simp only [m_aI, m_aNil, m_aR, m_cAnd, m_cCmp, m_cCmp0, m_eCall, m_eFld, m_eIte, m_eLit, m_eLoc, m_pDo, m_pInc, m_pRet, m_pSeq, m_pSet, m_pWh, qX7_go]
theorem qX7_condition_f2 : MX7_condition_f2.1 = fX7_condition MX7_part_f2.1 := by
  show sBody [.inr 35, .inl 0, .inl 0] bX7_condition_f2.1.2 = _
  unfold bX7_condition_f2 fX7_condition
  simp only [m_aI, m_aNil, m_aR, m_cAnd, m_cCmp, m_cCmp0, m_cNot, m_cOr, m_eCall, m_eFld, m_eIte, m_eLit, m_eLoc, m_pDo, m_pInc, m_pRet, m_pSeq, m_pSet, m_pWh, qX7_go]
theorem qX7_nested_f3 : MX7_nested_f3.1 = fX7_nested MX7_condition_f2.1 MX7_piece_f2.1 := by
  show sBody [.inr 35, .inl 0, .inl 0] bX7_nested_f3.1.2 = _
  unfold bX7_nested_f3 fX7_nested
  simp only [m_aI, m_aNil, m_aR, m_cCmp, m_cCmp0, m_cNot, m_eBin, m_eCall, m_eFld, m_eIte, m_eLit, m_eLoc, m_pDo, m_pIf, m_pRet, m_pSeq, m_pSet, m_pSkip, qX7_go]
theorem qX7_factor_f3 : MX7_factor_f3.1 = fX7_factor MX7_sum_f2.1 := by
  show sBody [.inr 35, .inl 0, .inl 0] bX7_factor_f3.1.2 = _
  unfold bX7_factor_f3 fX7_factor
  simp only [m_aI, m_aNil, m_aR, m_cAnd, m_cCmp, m_cCmp0, m_eArr, m_eBin, m_eCall, m_eFld, m_eIte, m_eLit, m_eLoc, m_pDo, m_pIf, m_pInc, m_pRet, m_pSeq, m_pSet, m_pSkip, m_pWh, qX11_isDigit, qX7_go, qX7_isFact]
theorem qX7_product_f3 : MX7_product_f3.1 = fX7_product MX7_factor_f3.1 := by
  show sBody [.inr 35, .inl 0, .inl 0] bX7_product_f3.1.2 = _
  unfold bX7_product_f3 fX7_product
  simp only [m_aI, m_aNil, m_aR, m_cAnd, m_cCmp, m_cCmp0, m_cOr, m_eBin, m_eCall, m_eFld, m_eIte, m_eLit, m_eLoc, m_pDo, m_pIf, m_pInc, m_pPut, m_pRet, m_pSeq, m_pSet, m_pWh, qX7_go]
theorem qX7_sum_f3 : MX7_sum_f3.1 = fX7_sum MX7_product_f3.1 := by
  show sBody [.inr 35, .inl 0, .inl 0] bX7_sum_f3.1.2 = _
  unfold bX7_sum_f3 fX7_sum
  simp only [m_aI, m_aNil, m_aR, m_cAnd, m_cCmp, m_cCmp0, m_cOr, m_eBin, m_eCall, m_eFld, m_eIte, m_eLit, m_eLoc, m_pDo, m_pInc, m_pRet, m_pSeq, m_pSet, m_pWh, qX7_go]
theorem qX7_piece_f3 : MX7_piece_f3.1 = fX7_piece MX7_nested_f3.1 MX7_sum_f3.1 := by
  show sBody [.inr 35, .inl 0, .inl 0] bX7_piece_f3.1.2 = _
  unfold bX7_piece_f3 fX7_piece
  simp only [m_aI, m_aNil, m_aR, m_cCmp, m_cOr, m_eCall, m_eFld, m_eIte, m_eLit, m_eLoc, m_pDo, m_pIf, m_pRet, m_pSeq, m_pSet, m_pSkip, qX7_go]
theorem qX7_part_f3 : MX7_part_f3.1 = fX7_part MX7_piece_f3.1 := by
  show sBody [.inr 35, .inl 0, .inl 0] bX7_part_f3.1.2 = _
  unfold bX7_part_f3 fX7_part
  simp only [m_aI, m_aNil, m_aR, m_cAnd, m_cCmp, m_cCmp0, m_eCall, m_eFld, m_eIte, m_eLit, m_eLoc, m_pDo, m_pInc, m_pRet, m_pSeq, m_pSet, m_pWh, qX7_go]
theorem qX7_condition_f3 : MX7_condition_f3.1 = fX7_condition MX7_part_f3.1 := by
  show sBody [.inr 35, .inl 0, .inl 0] bX7_condition_f3.1.2 = _
  unfold bX7_condition_f3 fX7_condition
  simp only [m_aI, m_aNil, m_aR, m_cAnd, m_cCmp, m_cCmp0, m_cNot, m_cOr, m_eCall, m_eFld, m_eIte, m_eLit, m_eLoc, m_pDo, m_pInc, m_pRet, m_pSeq, m_pSet, m_pWh, qX7_go]
theorem qX7_nested_f4 : MX7_nested_f4.1 = fX7_nested MX7_condition_f3.1 MX7_piece_f3.1 := by
  show sBody [.inr 35, .inl 0, .inl 0] bX7_nested_f4.1.2 = _
  unfold bX7_nested_f4 fX7_nested
  simp only [m_aI, m_aNil, m_aR, m_cCmp, m_cCmp0, m_cNot, m_eBin, m_eCall, m_eFld, m_eIte, m_eLit, m_eLoc, m_pDo, m_pIf, m_pRet, m_pSeq, m_pSet, m_pSkip, qX7_go]
theorem qX7_factor_f4 : MX7_factor_f4.1 = fX7_factor MX7_sum_f3.1 := by
  show sBody [.inr 35, .inl 0, .inl 0] bX7_factor_f4.1.2 = _
  unfold bX7_factor_f4 fX7_factor
  simp only [m_aI, m_aNil, m_aR, m_cAnd, m_cCmp, m_cCmp0, m_eArr, m_eBin, m_eCall, m_eFld, m_eIte, m_eLit, m_eLoc, m_pDo, m_pIf, m_pInc, m_pRet, m_pSeq, m_pSet, m_pSkip, m_pWh, qX11_isDigit, qX7_go, qX7_isFact]
theorem qX7_product_f4 : MX7_product_f4.1 = fX7_product MX7_factor_f4.1 := by
  show sBody [.inr 35, .inl 0, .inl 0] bX7_product_f4.1.2 = _
  unfold bX7_product_f4 fX7_product
  simp only [m_aI, m_aNil, m_aR, m_cAnd, m_cCmp, m_cCmp0, m_cOr, m_eBin, m_eCall, m_eFld, m_eIte, m_eLit, m_eLoc, m_pDo, m_pIf, m_pInc, m_pPut, m_pRet, m_pSeq, m_pSet, m_pWh, qX7_go]
theorem qX7_sum_f4 : MX7_sum_f4.1 = fX7_sum MX7_product_f4.1 := by
  show sBody [.inr 35, .inl 0, .inl 0] bX7_sum_f4.1.2 = _
  unfold bX7_sum_f4 fX7_sum
  simp only [m_aI, m_aNil, m_aR, m_cAnd, m_cCmp, m_cCmp0, m_cOr, m_eBin, m_eCall, m_eFld, m_eIte, m_eLit, m_eLoc, m_pDo, m_pInc, m_pRet, m_pSeq, m_pSet, m_pWh, qX7_go]
theorem qX7_piece_f4 : MX7_piece_f4.1 = fX7_piece MX7_nested_f4.1 MX7_sum_f4.1 := by
  show sBody [.inr 35, .inl 0, .inl 0] bX7_piece_f4.1.2 = _
  unfold bX7_piece_f4 fX7_piece
  simp only [m_aI, m_aNil, m_aR, m_cCmp, m_cOr, m_eCall, m_eFld, m_eIte, m_eLit, m_eLoc, m_pDo, m_pIf, m_pRet, m_pSeq, m_pSet, m_pSkip, qX7_go]
theorem qX7_part_f4 : MX7_part_f4.1 = fX7_part MX7_piece_f4.1 := by
  show sBody [.inr 35, .inl 0, .inl 0] bX7_part_f4.1.2 = _
  unfold bX7_part_f4 fX7_part
  simp only [m_aI, m_aNil, m_aR, m_cAnd, m_cCmp, m_cCmp0, m_eCall, m_eFld, m_eIte, m_eLit, m_eLoc, m_pDo, m_pInc, m_pRet, m_pSeq, m_pSet, m_pWh, qX7_go]
theorem qX7_condition_f4 : MX7_condition_f4.1 = fX7_condition MX7_part_f4.1 := by
  show sBody [.inr 35, .inl 0, .inl 0] bX7_condition_f4.1.2 = _
  unfold bX7_condition_f4 fX7_condition
  simp only [m_aI, m_aNil, m_aR, m_cAnd, m_cCmp, m_cCmp0, m_cNot, m_cOr, m_eCall, m_eFld, m_eIte, m_eLit, m_eLoc, m_pDo, m_pInc, m_pRet, m_pSeq, m_pSet, m_pWh, qX7_go]
theorem qX7_nested_f5 : MX7_nested_f5.1 = fX7_nested MX7_condition_f4.1 MX7_piece_f4.1 := by
  show sBody [.inr 35, .inl 0, .inl 0] bX7_nested_f5.1.2 = _
  unfold bX7_nested_f5 fX7_nested
  simp only [m_aI, m_aNil, m_aR, m_cCmp, m_cCmp0, m_cNot, m_eBin, m_eCall, m_eFld, m_eIte, m_eLit, m_eLoc, m_pDo, m_pIf, m_pRet, m_pSeq, m_pSet, m_pSkip, qX7_go]
theorem qX7_factor_f5 : MX7_factor_f5.1 = fX7_factor MX7_sum_f4.1 := by
  show sBody [.inr 35, .inl 0, .inl 0] bX7_factor_f5.1.2 = _
  unfold bX7_factor_f5 fX7_factor
  simp only [m_aI, m_aNil, m_aR, m_cAnd, m_cCmp, m_cCmp0, m_eArr, m_eBin, m_eCall, m_eFld, m_eIte, m_eLit, m_eLoc, m_pDo, m_pIf, m_pInc, m_pRet, m_pSeq, m_pSet, m_pSkip, m_pWh, qX11_isDigit, qX7_go, qX7_isFact]
theorem qX7_product_f5 : MX7_product_f5.1 = fX7_product MX7_factor_f5.1 := by
  show sBody [.inr 35, .inl 0, .inl 0] bX7_product_f5.1.2 = _
  unfold bX7_product_f5 fX7_product
  simp only [m_aI, m_aNil, m_aR, m_cAnd, m_cCmp, m_cCmp0, m_cOr, m_eBin, m_eCall, m_eFld, m_eIte, m_eLit, m_eLoc, m_pDo, m_pIf, m_pInc, m_pPut, m_pRet, m_pSeq, m_pSet, m_pWh, qX7_go]
theorem qX7_sum_f5 : MX7_sum_f5.1 = fX7_sum MX7_product_f5.1 := by
  show sBody [.inr 35, .inl 0, .inl 0] bX7_sum_f5.1.2 = _
  unfold bX7_sum_f5 fX7_sum
  simp only [m_aI, m_aNil, m_aR, m_cAnd, m_cCmp, m_cCmp0, m_cOr, m_eBin, m_eCall, m_eFld, m_eIte, m_eLit, m_eLoc, m_pDo, m_pInc, m_pRet, m_pSeq, m_pSet, m_pWh, qX7_go]
theorem qX7_piece_f5 : MX7_piece_f5.1 = fX7_piece MX7_nested_f5.1 MX7_sum_f5.1 := by
  show sBody [.inr 35, .inl 0, .inl 0] bX7_piece_f5.1.2 = _
  unfold bX7_piece_f5 fX7_piece
  simp only [m_aI, m_aNil, m_aR, m_cCmp, m_cOr, m_eCall, m_eFld, m_eIte, m_eLit, m_eLoc, m_pDo, m_pIf, m_pRet, m_pSeq, m_pSet, m_pSkip, qX7_go]
theorem qX7_part_f5 : MX7_part_f5.1 = fX7_part MX7_piece_f5.1 := by
  show sBody [.inr 35, .inl 0, .inl 0] bX7_part_f5.1.2 = _
  unfold bX7_part_f5 fX7_part
  simp only [m_aI, m_aNil, m_aR, m_cAnd, m_cCmp, m_cCmp0, m_eCall, m_eFld, m_eIte, m_eLit, m_eLoc, m_pDo, m_pInc, m_pRet, m_pSeq, m_pSet, m_pWh, qX7_go]
theorem qX7_condition_f5 : MX7_condition_f5.1 = fX7_condition MX7_part_f5.1 := by
  show sBody [.inr 35, .inl 0, .inl 0] bX7_condition_f5.1.2 = _
  unfold bX7_condition_f5 fX7_condition
  simp only [m_aI, m_aNil, m_aR, m_cAnd, m_cCmp, m_cCmp0, m_cNot, m_cOr, m_eCall, m_eFld, m_eIte, m_eLit, m_eLoc, m_pDo, m_pInc, m_pRet, m_pSeq, m_pSet, m_pWh, qX7_go]
def g_rules : Nat → FF × FF × FF
  | 0 => (fun _ _ => none, fun _ _ => none, fun _ _ => none)
  | n + 1 => (fX7_condition (fX7_part (fX7_piece (fX7_nested (g_rules n).1 (g_rules n).2.1) (fX7_sum (fX7_product (fX7_factor (g_rules n).2.2))))), fX7_piece (fX7_nested (g_rules n).1 (g_rules n).2.1) (fX7_sum (fX7_product (fX7_factor (g_rules n).2.2))), fX7_sum (fX7_product (fX7_factor (g_rules n).2.2)))
def fX7_condition_f5 : FF := (g_rules 6).1
theorem g_rules_0 : (MX7_condition_x.1, MX7_piece_x.1, MX7_sum_x.1) = g_rules 0 := rfl
theorem g_rules_1 : (MX7_condition_f0.1, MX7_piece_f0.1, MX7_sum_f0.1) = g_rules 1 := by
  have h := g_rules_0
  show _ = (fX7_condition (fX7_part (fX7_piece (fX7_nested (g_rules 0).1 (g_rules 0).2.1) (fX7_sum (fX7_product (fX7_factor (g_rules 0).2.2))))), fX7_piece (fX7_nested (g_rules 0).1 (g_rules 0).2.1) (fX7_sum (fX7_product (fX7_factor (g_rules 0).2.2))), fX7_sum (fX7_product (fX7_factor (g_rules 0).2.2)))
  rw [← h, qX7_condition_f0, qX7_part_f0, qX7_piece_f0, qX7_nested_f0, qX7_sum_f0, qX7_product_f0, qX7_factor_f0]
theorem g_rules_2 : (MX7_condition_f1.1, MX7_piece_f1.1, MX7_sum_f1.1) = g_rules 2 := by
  have h := g_rules_1
  show _ = (fX7_condition (fX7_part (fX7_piece (fX7_nested (g_rules 1).1 (g_rules 1).2.1) (fX7_sum (fX7_product (fX7_factor (g_rules 1).2.2))))), fX7_piece (fX7_nested (g_rules 1).1 (g_rules 1).2.1) (fX7_sum (fX7_product (fX7_factor (g_rules 1).2.2))), fX7_sum (fX7_product (fX7_factor (g_rules 1).2.2)))
  rw [← h, qX7_condition_f1, qX7_part_f1, qX7_piece_f1, qX7_nested_f1, qX7_sum_f1, qX7_product_f1, qX7_factor_f1]
theorem g_rules_3 : (MX7_condition_f2.1, MX7_piece_f2.1, MX7_sum_f2.1) = g_rules 3 := by
  have h := g_rules_2
  show _ = (fX7_condition (fX7_part (fX7_piece (fX7_nested (g_rules 2).1 (g_rules 2).2.1) (fX7_sum (fX7_product (fX7_factor (g_rules 2).2.2))))), fX7_piece (fX7_nested (g_rules 2).1 (g_rules 2).2.1) (fX7_sum (fX7_product (fX7_factor (g_rules 2).2.2))), fX7_sum (fX7_product (fX7_factor (g_rules 2).2.2)))
  rw [← h, qX7_condition_f2, qX7_part_f2, qX7_piece_f2, qX7_nested_f2, qX7_sum_f2, qX7_product_f2, qX7_factor_f2]
theorem g_rules_4 : (MX7_condition_f3.1, MX7_piece_f3.1, MX7_sum_f3.1) = g_rules 4 := by
  have h := g_rules_3
  show _ = (fX7_condition (fX7_part (fX7_piece (fX7_nested (g_rules 3).1 (g_rules 3).2.1) (fX7_sum (fX7_product (fX7_factor (g_rules 3).2.2))))), fX7_piece (fX7_nested (g_rules 3).1 (g_rules 3).2.1) (fX7_sum (fX7_product (fX7_factor (g_rules 3).2.2))), fX7_sum (fX7_product (fX7_factor (g_rules 3).2.2)))
  rw [← h, qX7_condition_f3, qX7_part_f3, qX7_piece_f3, qX7_nested_f3, qX7_sum_f3, qX7_product_f3, qX7_factor_f3]
theorem g_rules_5 : (MX7_condition_f4.1, MX7_piece_f4.1, MX7_sum_f4.1) = g_rules 5 := by
  have h := g_rules_4
  show _ = (fX7_condition (fX7_part (fX7_piece (fX7_nested (g_rules 4).1 (g_rules 4).2.1) (fX7_sum (fX7_product (fX7_factor (g_rules 4).2.2))))), fX7_piece (fX7_nested (g_rules 4).1 (g_rules 4).2.1) (fX7_sum (fX7_product (fX7_factor (g_rules 4).2.2))), fX7_sum (fX7_product (fX7_factor (g_rules 4).2.2)))
  rw [← h, qX7_condition_f4, qX7_part_f4, qX7_piece_f4, qX7_nested_f4, qX7_sum_f4, qX7_product_f4, qX7_factor_f4]
theorem g_rules_6 : (MX7_condition_f5.1, MX7_piece_f5.1, MX7_sum_f5.1) = g_rules 6 := by
  have h := g_rules_5
  show _ = (fX7_condition (fX7_part (fX7_piece (fX7_nested (g_rules 5).1 (g_rules 5).2.1) (fX7_sum (fX7_product (fX7_factor (g_rules 5).2.2))))), fX7_piece (fX7_nested (g_rules 5).1 (g_rules 5).2.1) (fX7_sum (fX7_product (fX7_factor (g_rules 5).2.2))), fX7_sum (fX7_product (fX7_factor (g_rules 5).2.2)))
  rw [← h, qX7_condition_f5, qX7_part_f5, qX7_piece_f5, qX7_nested_f5, qX7_sum_f5, qX7_product_f5, qX7_factor_f5]
theorem tX7_condition_f5 : MX7_condition_f5.1 = fX7_condition_f5 := congrArg (fun q => q.1) g_rules_6
def fX7_clause : FF := sBody [.inr 35, .inl 0] (sSeq (sSeq (sSet 2 (sIte (sCmp 3 (sLoc 1) (sLit 12)) (sLit 4) (sIte (sCmp 4 (sFld 35 8) (sLit 51)) (sLit 3) (sLit 0)))) (sSeq (sDo fX7_go (sArgI (sIte (sCmp0 1 (sCall fX11_isDigit (sArgI (sFld 35 8) sNil))) (sLoc 2) (sLit 1)) sNil)) (sSeq (sDo fX7_go (sArgI (sIte (sCmp 0 (sFld 35 8) (sLit 40)) (sLit 0) (sLit 1)) sNil)) (sSeq (sPop (sCall fX7_condition_f5 (sArgI (sLit 1) (sArgI (sLit 0) sNil)))) (sDo fX7_go (sArgI (sIte (sCmp 0 (sFld 35 8) (sLit 41)) (sLit 0) (sLit 1)) sNil)))))) sRetV)
theorem qX7_clause : MX7_clause.1 = fX7_clause := by
  show sBody [.inr 35, .inl 0] bX7_clause.1.2 = _
  unfold bX7_clause fX7_clause
  simp only [m_aI, m_aNil, m_aR, m_cCmp, m_cCmp0, m_eCall, m_eFld, m_eIte, m_eLit, m_eLoc, m_pDo, m_pPop, m_pRetV, m_pSeq, m_pSet, qX11_isDigit, tX7_condition_f5, qX7_go]
def fX7_take : FF := sBody [.inr 35, .inr 1, .inl 0] (sSeq (sSeq (sSet 3 (sLit 0)) (sWh (sAnd (sCmp 2 (sLoc 3) (sLoc 2)) (sCmp 2 (sLoc 3) (sLit 160))) (sSeq (sAst 37 0 160 (sLoc 3) (sCall fX9_at (sArgI (sLoc 3) sNil))) (sInc 3 1)) ik_fuel)) (sSeq (sDo fX7_begin (sArgI (sLit 0) (sArgI (sLit 0) (sArgI (sLoc 2) sNil)))) (sSeq (sSet 3 (sLit 0)) (sSeq (sSeq (sSet 4 (sLit 0)) (sWhB (sCmp 5 (sLoc 4) (sLit 12)) (sSeq (sDo fX7_clause (sArgI (sLoc 4) sNil)) (sSet 3 (sBin 0 (sLoc 4) (sLit 1)))) (sCmp 0 (sFld 35 8) (sLit (-1))) (sSeq (sDo fX7_go (sArgI (sIte (sCmp 0 (sFld 35 8) (sLit 59)) (sLit 0) (sLit 1)) sNil)) (sInc 4 1)) ik_fuel)) (sSeq (sIf (sCmp0 1 (sFld 35 9)) (sRet 0 (sFld 35 9)) sSkip) (sSeq (sCopy 37 36 160 160 160) (sSeq (sPut 35 3 0 (sLoc 2)) (sSeq (sPut 35 4 0 (sLoc 3)) (sRet 0 (sLit 0))))))))))
theorem qX7_take : MX7_take.1 = fX7_take := by
  show sBody [.inr 35, .inr 1, .inl 0] bX7_take.1.2 = _
  unfold bX7_take fX7_take
  simp only [m_aI, m_aNil, m_aR, m_cAnd, m_cCmp, m_cCmp0, m_eBin, m_eCall, m_eFld, m_eIte, m_eLit, m_eLoc, m_pAst, m_pCopy, m_pDo, m_pIf, m_pInc, m_pPut, m_pRet, m_pSeq, m_pSet, m_pSkip, m_pWh, m_pWhB, qX7_begin, qX7_clause, qX7_go, qX9_at]
  rfl
def fX7_clauses : FF := sBody [.inr 35] (sRet 0 (sFld 35 4))
theorem qX7_clauses : MX7_clauses.1 = fX7_clauses := by
  show sBody [.inr 35] bX7_clauses.1.2 = _
  unfold bX7_clauses fX7_clauses
  simp only [m_eFld, m_pRet]
def fX11_rules : FF := sBody [.inr 0, .inl 0] (sSeq (sIf (sOr (sNot (sCmp0 1 (sCall fX11_within (sArgI (sLoc 1) (sArgI (sLit 1) (sArgI (sLit 160) sNil)))))) (sCmp 2 (sCall fX9_length sNil) (sLoc 1))) (sRet 0 (sLit (-1))) sSkip) (sSeq (sSet 2 (sCall fX7_take (sArgI (sLoc 1) sNil))) (sSeq (sDo fX9_clear sNil) (sSeq (sIf (sCmp0 1 (sLoc 2)) (sRet 0 (sUn 0 (sLoc 2))) sSkip) (sSeq (sDo fX11_changed sNil) (sRet 0 (sCall fX7_clauses sNil)))))))
theorem qX11_rules : MX11_rules.1 = fX11_rules := by
  show sBody [.inr 0, .inl 0] bX11_rules.1.2 = _
  unfold bX11_rules fX11_rules
  simp only [m_aI, m_aNil, m_aR, m_cCmp, m_cCmp0, m_cNot, m_cOr, m_eCall, m_eLit, m_eLoc, m_eUn, m_pDo, m_pIf, m_pRet, m_pSeq, m_pSet, m_pSkip, qX11_changed, qX11_within, qX7_clauses, qX7_take, qX9_clear, qX9_length]
def fX0_has : FF := sBody [.inr 15, .inl 0] (sRet 3 (sIte (sAnd (sAnd (sCmp0 3 (sLoc 1)) (sCmp 2 (sLoc 1) (sFld 15 9))) (sCmp 2 (sLoc 1) (sLit 4))) (sLit 1) (sLit 0)))
theorem qX0_has : MX0_has.1 = fX0_has := by
  show sBody [.inr 15, .inl 0] bX0_has.1.2 = _
  unfold bX0_has fX0_has
  simp only [m_cAnd, m_cCmp, m_cCmp0, m_eFld, m_eIte, m_eLit, m_eLoc, m_pRet]
def fX0_tiesFull : FF := sBody [.inr 15] (sRet 3 (sIte (sCmp 3 (sFld 15 10) (sLit 20)) (sLit 1) (sLit 0)))
theorem qX0_tiesFull : MX0_tiesFull.1 = fX0_tiesFull := by
  show sBody [.inr 15] bX0_tiesFull.1.2 = _
  unfold bX0_tiesFull fX0_tiesFull
  simp only [m_cCmp, m_eFld, m_eIte, m_eLit, m_pRet]
def fX0_addTie : FF := sBody [.inr 15, .inl 0, .inl 0, .inl 0] (sSeq (sIf (sAnd (sNot (sCmp0 1 (sCall fX0_tiesFull sNil))) (sCmp0 3 (sFld 15 10))) (sSeq (sAst 19 0 20 (sFld 15 10) (sLoc 1)) (sSeq (sAst 20 0 20 (sFld 15 10) (sLoc 2)) (sSeq (sAst 21 0 20 (sFld 15 10) (sLoc 3)) (sPutOp 15 10 0 (sLit 1))))) sSkip) sRetV)
theorem qX0_addTie : MX0_addTie.1 = fX0_addTie := by
  show sBody [.inr 15, .inl 0, .inl 0, .inl 0] bX0_addTie.1.2 = _
  unfold bX0_addTie fX0_addTie
  simp only [m_aNil, m_aR, m_cAnd, m_cCmp0, m_cNot, m_eCall, m_eFld, m_eLit, m_eLoc, m_pAst, m_pIf, m_pPutOp, m_pRetV, m_pSeq, m_pSkip, qX0_tiesFull]
def fX11_tie : FF := sBody [.inr 0, .inl 0, .inl 0, .inl 0] (sSeq (sIf (sOr (sOr (sOr (sOr (sNot (sCmp0 1 (sCall fX11_within (sArgI (sLoc 1) (sArgI (sLit 0) (sArgI (sLit 2) sNil)))))) (sNot (sCmp0 1 (sCall fX0_has (sArgI (sLoc 2) sNil))))) (sNot (sCmp0 1 (sCall fX0_has (sArgI (sLoc 3) sNil))))) (sCmp 0 (sLoc 2) (sLoc 3))) (sCmp0 1 (sCall fX0_tiesFull sNil))) (sRet 3 (sLit 0)) sSkip) (sSeq (sDo fX0_addTie (sArgI (sLoc 1) (sArgI (sLoc 2) (sArgI (sLoc 3) sNil)))) (sSeq (sDo fX11_changed sNil) (sRet 3 (sLit 1)))))
theorem qX11_tie : MX11_tie.1 = fX11_tie := by
  show sBody [.inr 0, .inl 0, .inl 0, .inl 0] bX11_tie.1.2 = _
  unfold bX11_tie fX11_tie
  simp only [m_aI, m_aNil, m_aR, m_cCmp, m_cCmp0, m_cNot, m_cOr, m_eCall, m_eLit, m_eLoc, m_pDo, m_pIf, m_pRet, m_pSeq, m_pSkip, qX0_addTie, qX0_has, qX0_tiesFull, qX11_changed, qX11_within]
def fX0_listsFull : FF := sBody [.inr 15] (sRet 3 (sIte (sCmp 3 (sFld 15 11) (sLit 20)) (sLit 1) (sLit 0)))
theorem qX0_listsFull : MX0_listsFull.1 = fX0_listsFull := by
  show sBody [.inr 15] bX0_listsFull.1.2 = _
  unfold bX0_listsFull fX0_listsFull
  simp only [m_cCmp, m_eFld, m_eIte, m_eLit, m_pRet]
def fX0_addListed : FF := sBody [.inr 15, .inl 0, .inl 0, .inl 0] (sSeq (sIf (sAnd (sNot (sCmp0 1 (sCall fX0_listsFull sNil))) (sCmp0 3 (sFld 15 11))) (sSeq (sAst 22 0 20 (sFld 15 11) (sLoc 1)) (sSeq (sAst 23 0 20 (sFld 15 11) (sLoc 2)) (sSeq (sAst 24 0 20 (sFld 15 11) (sLoc 3)) (sPutOp 15 11 0 (sLit 1))))) sSkip) sRetV)
theorem qX0_addListed : MX0_addListed.1 = fX0_addListed := by
  show sBody [.inr 15, .inl 0, .inl 0, .inl 0] bX0_addListed.1.2 = _
  unfold bX0_addListed fX0_addListed
  simp only [m_aNil, m_aR, m_cAnd, m_cCmp0, m_cNot, m_eCall, m_eFld, m_eLit, m_eLoc, m_pAst, m_pIf, m_pPutOp, m_pRetV, m_pSeq, m_pSkip, qX0_listsFull]
def fX11_listed : FF := sBody [.inr 0, .inl 0, .inl 0, .inl 0] (sSeq (sIf (sOr (sNot (sCmp0 1 (sCall fX0_has (sArgI (sLoc 1) sNil)))) (sCmp0 1 (sCall fX0_listsFull sNil))) (sRet 3 (sLit 0)) sSkip) (sSeq (sIf (sOr (sAnd (sCmp 1 (sLoc 2) (sLit (-1))) (sNot (sCmp0 1 (sCall fX6_has (sArgI (sLoc 2) sNil))))) (sAnd (sCmp 1 (sLoc 3) (sLit (-1))) (sNot (sCmp0 1 (sCall fX6_has (sArgI (sLoc 3) sNil)))))) (sRet 3 (sLit 0)) sSkip) (sSeq (sDo fX0_addListed (sArgI (sLoc 1) (sArgI (sLoc 2) (sArgI (sLoc 3) sNil)))) (sSeq (sDo fX11_changed sNil) (sRet 3 (sLit 1))))))
theorem qX11_listed : MX11_listed.1 = fX11_listed := by
  show sBody [.inr 0, .inl 0, .inl 0, .inl 0] bX11_listed.1.2 = _
  unfold bX11_listed fX11_listed
  simp only [m_aI, m_aNil, m_aR, m_cAnd, m_cCmp, m_cCmp0, m_cNot, m_cOr, m_eCall, m_eLit, m_eLoc, m_pDo, m_pIf, m_pRet, m_pSeq, m_pSkip, qX0_addListed, qX0_has, qX0_listsFull, qX11_changed, qX6_has]
def fX11_isHouse : FF := sBody [.inl 0] (sRet 3 (sCall fX11_within (sArgI (sLoc 0) (sArgI (sLit 0) (sArgI (sLit 3) sNil)))))
theorem qX11_isHouse : MX11_isHouse.1 = fX11_isHouse := by
  show sBody [.inl 0] bX11_isHouse.1.2 = _
  unfold bX11_isHouse fX11_isHouse
  simp only [m_aI, m_aNil, m_eCall, m_eLit, m_eLoc, m_pRet, qX11_within]
def fX3_full : FF := sBody [.inr 39] (sRet 3 (sIte (sCmp 3 (sFld 39 3) (sLit 60)) (sLit 1) (sLit 0)))
theorem qX3_full : MX3_full.1 = fX3_full := by
  show sBody [.inr 39] bX3_full.1.2 = _
  unfold bX3_full fX3_full
  simp only [m_cCmp, m_eFld, m_eIte, m_eLit, m_pRet]
def fX3_add : FF := sBody [.inr 39, .inl 0, .inl 0, .inl 0] (sSeq (sIf (sAnd (sNot (sCmp0 1 (sCall fX3_full sNil))) (sCmp0 3 (sFld 39 3))) (sSeq (sAst 40 0 60 (sFld 39 3) (sLoc 1)) (sSeq (sAst 41 0 60 (sFld 39 3) (sLoc 2)) (sSeq (sAst 42 0 60 (sFld 39 3) (sLoc 3)) (sPutOp 39 3 0 (sLit 1))))) sSkip) sRetV)
theorem qX3_add : MX3_add.1 = fX3_add := by
  show sBody [.inr 39, .inl 0, .inl 0, .inl 0] bX3_add.1.2 = _
  unfold bX3_add fX3_add
  simp only [m_aNil, m_aR, m_cAnd, m_cCmp0, m_cNot, m_eCall, m_eFld, m_eLit, m_eLoc, m_pAst, m_pIf, m_pPutOp, m_pRetV, m_pSeq, m_pSkip, qX3_full]
def fX11_lifted : FF := sBody [.inr 0, .inl 0, .inl 0, .inl 0] (sSeq (sIf (sOr (sOr (sOr (sNot (sCmp0 1 (sCall fX11_isHouse (sArgI (sLoc 1) sNil)))) (sNot (sCmp0 1 (sCall fX6_has (sArgI (sLoc 2) sNil))))) (sNot (sCmp0 1 (sCall fX11_within (sArgI (sLoc 3) (sArgI (sLit 1) (sArgI (sLit 3000) sNil))))))) (sCmp0 1 (sCall fX3_full sNil))) (sRet 3 (sLit 0)) sSkip) (sSeq (sDo fX3_add (sArgI (sLoc 1) (sArgI (sLoc 2) (sArgI (sLoc 3) sNil)))) (sSeq (sDo fX11_changed sNil) (sRet 3 (sLit 1)))))
theorem qX11_lifted : MX11_lifted.1 = fX11_lifted := by
  show sBody [.inr 0, .inl 0, .inl 0, .inl 0] bX11_lifted.1.2 = _
  unfold bX11_lifted fX11_lifted
  simp only [m_aI, m_aNil, m_aR, m_cCmp0, m_cNot, m_cOr, m_eCall, m_eLit, m_eLoc, m_pDo, m_pIf, m_pRet, m_pSeq, m_pSkip, qX11_changed, qX11_isHouse, qX11_within, qX3_add, qX3_full, qX6_has]
def fX3_bound : FF := sBody [.inr 39, .inl 0, .inl 0, .inr 6, .inr 3] (sSeq (sSet 5 (sIte (sCmp0 1 (sLoc 2)) (sLit 20) (sLit 0))) (sSeq (sSet 6 (sLit 0)) (sSeq (sSeq (sSet 7 (sLit 0)) (sWh (sAnd (sCmp 2 (sLoc 7) (sFld 39 3)) (sCmp 2 (sLoc 7) (sLit 60))) (sSeq (sIf (sCmp 0 (sArr 40 60 (sLoc 7)) (sLoc 1)) (sSeq (sSet 8 (sBin 1 (sArr 42 60 (sLoc 7)) (sCall fX6_wide (sArgI (sArr 41 60 (sLoc 7)) sNil)))) (sSeq (sSet 9 (sIte (sCmp0 1 (sLoc 2)) (sIte (sCmp 4 (sLoc 8) (sLoc 5)) (sLit 1) (sLit 0)) (sIte (sCmp 2 (sLoc 8) (sLoc 5)) (sLit 1) (sLit 0)))) (sSeq (sSet 5 (sIte (sOr (sNot (sCmp0 1 (sLoc 6))) (sCmp0 1 (sLoc 9))) (sLoc 8) (sLoc 5))) (sSet 6 (sLit 1))))) sSkip) (sInc 7 1)) ik_fuel)) (sRet 0 (sLoc 5)))))
theorem qX3_bound : MX3_bound.1 = fX3_bound := by
  show sBody [.inr 39, .inl 0, .inl 0, .inr 6, .inr 3] bX3_bound.1.2 = _
  unfold bX3_bound fX3_bound
  simp only [m_aI, m_aNil, m_aR, m_cAnd, m_cCmp, m_cCmp0, m_cNot, m_cOr, m_eArr, m_eBin, m_eCall, m_eFld, m_eIte, m_eLit, m_eLoc, m_pIf, m_pInc, m_pRet, m_pSeq, m_pSet, m_pSkip, m_pWh, qX6_wide]
def fX3_least : FF := sBody [.inr 39, .inl 0, .inr 6, .inr 3] (sRet 0 (sCall fX3_bound (sArgI (sLoc 1) (sArgI (sLit 0) sNil))))
theorem qX3_least : MX3_least.1 = fX3_least := by
  show sBody [.inr 39, .inl 0, .inr 6, .inr 3] bX3_least.1.2 = _
  unfold bX3_least fX3_least
  simp only [m_aI, m_aNil, m_aR, m_eCall, m_eLit, m_eLoc, m_pRet, qX3_bound]
def fX3_greatest : FF := sBody [.inr 39, .inl 0, .inr 6, .inr 3] (sRet 0 (sCall fX3_bound (sArgI (sLoc 1) (sArgI (sLit 1) sNil))))
theorem qX3_greatest : MX3_greatest.1 = fX3_greatest := by
  show sBody [.inr 39, .inl 0, .inr 6, .inr 3] bX3_greatest.1.2 = _
  unfold bX3_greatest fX3_greatest
  simp only [m_aI, m_aNil, m_aR, m_eCall, m_eLit, m_eLoc, m_pRet, qX3_bound]
def fX11_habit : FF := sBody [.inr 0, .inl 0, .inl 0] (sSeq (sIf (sOr (sNot (sCmp0 1 (sCall fX11_isHouse (sArgI (sLoc 1) sNil)))) (sNot (sCmp0 1 (sCall fX11_within (sArgI (sLoc 2) (sArgI (sLit 0) (sArgI (sLit 1) sNil))))))) (sRet 0 (sLit (-10000))) sSkip) (sRet 0 (sIte (sCmp0 0 (sLoc 2)) (sCall fX3_least (sArgI (sLoc 1) sNil)) (sCall fX3_greatest (sArgI (sLoc 1) sNil)))))
theorem qX11_habit : MX11_habit.1 = fX11_habit := by
  show sBody [.inr 0, .inl 0, .inl 0] bX11_habit.1.2 = _
  unfold bX11_habit fX11_habit
  simp only [m_aI, m_aNil, m_aR, m_cCmp0, m_cNot, m_cOr, m_eCall, m_eIte, m_eLit, m_eLoc, m_pIf, m_pRet, m_pSeq, m_pSkip, qX11_isHouse, qX11_within, qX3_greatest, qX3_least]
def fX11_house : FF := sBody [.inr 0, .inl 0] (sSeq (sIf (sNot (sCmp0 1 (sCall fX11_isHouse (sArgI (sLoc 1) sNil)))) (sRet 3 (sLit 0)) sSkip) (sSeq (sPut 0 12 0 (sLoc 1)) (sSeq (sDo fX11_changed sNil) (sRet 3 (sLit 1)))))
theorem qX11_house : MX11_house.1 = fX11_house := by
  show sBody [.inr 0, .inl 0] bX11_house.1.2 = _
  unfold bX11_house fX11_house
  simp only [m_aI, m_aNil, m_aR, m_cCmp0, m_cNot, m_eCall, m_eLit, m_eLoc, m_pDo, m_pIf, m_pPut, m_pRet, m_pSeq, m_pSkip, qX11_changed, qX11_isHouse]
def fX6_first : FF := sBody [.inr 6, .inl 0] (sRet 0 (sCall fX10_letter_7 (sArgI (sLoc 1) (sArgI (sLit 0) sNil))))
theorem qX6_first : MX6_first.1 = fX6_first := by
  show sBody [.inr 6, .inl 0] bX6_first.1.2 = _
  unfold bX6_first fX6_first
  simp only [m_aI, m_aNil, m_aR, m_eCall, m_eLit, m_eLoc, m_pRet, qX10_letter_7]
def fX6_vowel : FF := sBody [.inr 6, .inl 0] (sSeq (sSet 2 (sBin 1 (sBin 0 (sCall fX6_first (sArgI (sLoc 1) sNil)) (sLit 97)) (sLit 1))) (sRet 3 (sIte (sOr (sOr (sOr (sOr (sCmp 0 (sLoc 2) (sLit 97)) (sCmp 0 (sLoc 2) (sLit 101))) (sCmp 0 (sLoc 2) (sLit 105))) (sCmp 0 (sLoc 2) (sLit 111))) (sCmp 0 (sLoc 2) (sLit 117))) (sLit 1) (sLit 0))))
theorem qX6_vowel : MX6_vowel.1 = fX6_vowel := by
  show sBody [.inr 6, .inl 0] bX6_vowel.1.2 = _
  unfold bX6_vowel fX6_vowel
  simp only [m_aI, m_aNil, m_aR, m_cCmp, m_cOr, m_eBin, m_eCall, m_eIte, m_eLit, m_eLoc, m_pRet, m_pSeq, m_pSet, qX6_first]
def fX11_bit : FF := sBody [.inl 0, .inl 0] (sRet 3 (sIte (sCmp0 1 (sBin 3 (sBin 7 (sLoc 0) (sLoc 1)) (sLit 1))) (sLit 1) (sLit 0)))
theorem qX11_bit : MX11_bit.1 = fX11_bit := by
  show sBody [.inl 0, .inl 0] bX11_bit.1.2 = _
  unfold bX11_bit fX11_bit
  simp only [m_cCmp0, m_eBin, m_eIte, m_eLit, m_eLoc, m_pRet]
def fX8_isBehindA : FF := sBody [.inr 25, .inl 0] (sRet 3 (sCall fX11_bit (sArgI (sFld 25 9) (sArgI (sLoc 1) sNil))))
theorem qX8_isBehindA : MX8_isBehindA.1 = fX8_isBehindA := by
  show sBody [.inr 25, .inl 0] bX8_isBehindA.1.2 = _
  unfold bX8_isBehindA fX8_isBehindA
  simp only [m_aI, m_aNil, m_eCall, m_eFld, m_eLoc, m_pRet, qX11_bit]
def fX8_isBehindAn : FF := sBody [.inr 25, .inl 0] (sRet 3 (sCall fX11_bit (sArgI (sFld 25 10) (sArgI (sLoc 1) sNil))))
theorem qX8_isBehindAn : MX8_isBehindAn.1 = fX8_isBehindAn := by
  show sBody [.inr 25, .inl 0] bX8_isBehindAn.1.2 = _
  unfold bX8_isBehindAn fX8_isBehindAn
  simp only [m_aI, m_aNil, m_eCall, m_eFld, m_eLoc, m_pRet, qX11_bit]
def fX7_tell : FF := sBody [.inr 35, .inl 0, .inl 0] (sSeq (sSeq (sSet 3 (sBin 1 (sLoc 1) (sLit 97))) (sIf (sAnd (sCmp0 3 (sLoc 3)) (sCmp 2 (sLoc 3) (sLit 26))) (sAst 38 0 26 (sLoc 3) (sLoc 2)) sSkip)) sRetV)
theorem qX7_tell : MX7_tell.1 = fX7_tell := by
  show sBody [.inr 35, .inl 0, .inl 0] bX7_tell.1.2 = _
  unfold bX7_tell fX7_tell
  simp only [m_cAnd, m_cCmp, m_cCmp0, m_eBin, m_eLit, m_eLoc, m_pAst, m_pIf, m_pRetV, m_pSeq, m_pSet, m_pSkip]
def fX6_length : FF := sBody [.inr 6, .inl 0] (sRet 0 (sCall fX10_length_7 (sArgI (sLoc 1) sNil)))
theorem qX6_length : MX6_length.1 = fX6_length := by
  show sBody [.inr 6, .inl 0] bX6_length.1.2 = _
  unfold bX6_length fX6_length
  simp only [m_aI, m_aNil, m_aR, m_eCall, m_eLoc, m_pRet, qX10_length_7]
def fX6_sort : FF := sBody [.inr 6, .inl 0] (sRet 0 (sIte (sCmp0 1 (sCall fX6_has (sArgI (sLoc 1) sNil))) (sArr 10 24 (sLoc 1)) (sLit 0)))
theorem qX6_sort : MX6_sort.1 = fX6_sort := by
  show sBody [.inr 6, .inl 0] bX6_sort.1.2 = _
  unfold bX6_sort fX6_sort
  simp only [m_aI, m_aNil, m_aR, m_cCmp0, m_eArr, m_eCall, m_eIte, m_eLit, m_eLoc, m_pRet, qX6_has]
def fX6_from : FF := sBody [.inr 6, .inl 0] (sRet 0 (sIte (sCmp0 1 (sCall fX6_has (sArgI (sLoc 1) sNil))) (sArr 11 24 (sLoc 1)) (sLit 0)))
theorem qX6_from : MX6_from.1 = fX6_from := by
  show sBody [.inr 6, .inl 0] bX6_from.1.2 = _
  unfold bX6_from fX6_from
  simp only [m_aI, m_aNil, m_aR, m_cCmp0, m_eArr, m_eCall, m_eIte, m_eLit, m_eLoc, m_pRet, qX6_has]
def fX6_to : FF := sBody [.inr 6, .inl 0] (sRet 0 (sIte (sCmp0 1 (sCall fX6_has (sArgI (sLoc 1) sNil))) (sArr 12 24 (sLoc 1)) (sLit 0)))
theorem qX6_to : MX6_to.1 = fX6_to := by
  show sBody [.inr 6, .inl 0] bX6_to.1.2 = _
  unfold bX6_to fX6_to
  simp only [m_aI, m_aNil, m_aR, m_cCmp0, m_eArr, m_eCall, m_eIte, m_eLit, m_eLoc, m_pRet, qX6_has]
def fX0_ink : FF := sBody [.inr 15, .inl 0] (sRet 0 (sIte (sCmp0 1 (sCall fX0_has (sArgI (sLoc 1) sNil))) (sArr 16 4 (sLoc 1)) (sLit 0)))
theorem qX0_ink : MX0_ink.1 = fX0_ink := by
  show sBody [.inr 15, .inl 0] bX0_ink.1.2 = _
  unfold bX0_ink fX0_ink
  simp only [m_aI, m_aNil, m_aR, m_cCmp0, m_eArr, m_eCall, m_eIte, m_eLit, m_eLoc, m_pRet, qX0_has]
def fX11_tellFacts : FF := sBody [.inr 0, .inl 0, .inl 0, .inl 0] (sSeq (sSeq (sDo fX7_tell (sArgI (sLit 105) (sArgI (sLoc 2) sNil))) (sSeq (sDo fX7_tell (sArgI (sLit 119) (sArgI (sCall fX6_wide (sArgI (sLoc 2) sNil)) sNil))) (sSeq (sDo fX7_tell (sArgI (sLit 110) (sArgI (sCall fX6_length (sArgI (sLoc 2) sNil)) sNil))) (sSeq (sDo fX7_tell (sArgI (sLit 115) (sArgI (sCall fX6_sort (sArgI (sLoc 2) sNil)) sNil))) (sSeq (sDo fX7_tell (sArgI (sLit 121) (sArgI (sCall fX6_from (sArgI (sLoc 2) sNil)) sNil))) (sSeq (sDo fX7_tell (sArgI (sLit 122) (sArgI (sCall fX6_to (sArgI (sLoc 2) sNil)) sNil))) (sSeq (sDo fX7_tell (sArgI (sLit 118) (sArgI (sIte (sCmp0 1 (sLoc 3)) (sLit 1) (sLit 0)) sNil))) (sSeq (sDo fX7_tell (sArgI (sLit 97) (sArgI (sCall fX6_first (sArgI (sLoc 2) sNil)) sNil))) (sDo fX7_tell (sArgI (sLit 98) (sArgI (sCall fX0_ink (sArgI (sLoc 1) sNil)) sNil))))))))))) sRetV)
theorem qX11_tellFacts : MX11_tellFacts.1 = fX11_tellFacts := by
  show sBody [.inr 0, .inl 0, .inl 0, .inl 0] bX11_tellFacts.1.2 = _
  unfold bX11_tellFacts fX11_tellFacts
  simp only [m_aI, m_aNil, m_aR, m_cCmp0, m_eCall, m_eIte, m_eLit, m_eLoc, m_pDo, m_pRetV, m_pSeq, qX0_ink, qX6_first, qX6_from, qX6_length, qX6_sort, qX6_to, qX6_wide, qX7_tell]
def fX7_hold : FF := sBody [.inr 35, .inl 0] (sSeq (sSeq (sSet 2 (sLit 0)) (sWh (sAnd (sCmp 2 (sLoc 2) (sFld 35 3)) (sCmp 2 (sLoc 2) (sLit 160))) (sSeq (sSeq (sSet 3 (sIte (sOr (sCmp0 0 (sLoc 2)) (sCmp 0 (sArr 36 160 (sBin 1 (sLoc 2) (sLit 1))) (sLit 59))) (sLit 1) (sLit 0))) (sIf (sAnd (sCmp0 1 (sLoc 3)) (sCmp 0 (sBin 1 (sArr 36 160 (sLoc 2)) (sLit 48)) (sLoc 1))) (sSeq (sDo fX7_begin (sArgI (sLit 1) (sArgI (sBin 0 (sLoc 2) (sLit 2)) (sArgI (sFld 35 3) sNil)))) (sIf (sOr (sNot (sCmp0 1 (sCall fX7_condition_f5 (sArgI (sLit 1) (sArgI (sLit 1) sNil))))) (sCmp0 1 (sFld 35 10))) (sRet 3 (sLit 0)) sSkip)) sSkip)) (sInc 2 1)) ik_fuel)) (sRet 3 (sLit 1)))
theorem qX7_hold : MX7_hold.1 = fX7_hold := by
  show sBody [.inr 35, .inl 0] bX7_hold.1.2 = _
  unfold bX7_hold fX7_hold
  simp only [m_aI, m_aNil, m_aR, m_cAnd, m_cCmp, m_cCmp0, m_cNot, m_cOr, m_eArr, m_eBin, m_eCall, m_eFld, m_eIte, m_eLit, m_eLoc, m_pDo, m_pIf, m_pInc, m_pRet, m_pSeq, m_pSet, m_pSkip, m_pWh, qX7_begin, tX7_condition_f5]
def fX6_ahead : FF := sBody [.inr 6, .inl 0] (sRet 0 (sIte (sCmp0 1 (sCall fX6_has (sArgI (sLoc 1) sNil))) (sArr 14 24 (sLoc 1)) (sLit 0)))
theorem qX6_ahead : MX6_ahead.1 = fX6_ahead := by
  show sBody [.inr 6, .inl 0] bX6_ahead.1.2 = _
  unfold bX6_ahead fX6_ahead
  simp only [m_aI, m_aNil, m_aR, m_cCmp0, m_eArr, m_eCall, m_eIte, m_eLit, m_eLoc, m_pRet, qX6_has]
def fX0_inLists : FF := sBody [.inr 15, .inl 0, .inl 0, .inr 6] (sSeq (sSeq (sSet 4 (sLit 0)) (sWh (sAnd (sCmp 2 (sLoc 4) (sFld 15 11)) (sCmp 2 (sLoc 4) (sLit 20))) (sSeq (sIf (sCmp 0 (sArr 22 20 (sLoc 4)) (sLoc 1)) (sSeq (sSet 5 (sArr 23 20 (sLoc 4))) (sSeq (sSet 6 (sArr 24 20 (sLoc 4))) (sIf (sOr (sAnd (sCmp 1 (sLoc 5) (sLit (-1))) (sNot (sCmp0 1 (sCall fX11_bit (sArgI (sCall fX6_ahead (sArgI (sLoc 2) sNil)) (sArgI (sLoc 5) sNil)))))) (sAnd (sCmp 1 (sLoc 6) (sLit (-1))) (sNot (sCmp0 1 (sCall fX11_bit (sArgI (sCall fX6_ahead (sArgI (sLoc 6) sNil)) (sArgI (sLoc 2) sNil))))))) (sRet 3 (sLit 0)) sSkip))) sSkip) (sInc 4 1)) ik_fuel)) (sRet 3 (sLit 1)))
theorem qX0_inLists : MX0_inLists.1 = fX0_inLists := by
  show sBody [.inr 15, .inl 0, .inl 0, .inr 6] bX0_inLists.1.2 = _
  unfold bX0_inLists fX0_inLists
  simp only [m_aI, m_aNil, m_aR, m_cAnd, m_cCmp, m_cCmp0, m_cNot, m_cOr, m_eArr, m_eCall, m_eFld, m_eLit, m_eLoc, m_pIf, m_pInc, m_pRet, m_pSeq, m_pSet, m_pSkip, m_pWh, qX11_bit, qX6_ahead]
def fX0_year : FF := sBody [.inr 15, .inl 0] (sRet 0 (sIte (sCmp0 1 (sCall fX0_has (sArgI (sLoc 1) sNil))) (sArr 17 4 (sLoc 1)) (sLit (-1))))
theorem qX0_year : MX0_year.1 = fX0_year := by
  show sBody [.inr 15, .inl 0] bX0_year.1.2 = _
  unfold bX0_year fX0_year
  simp only [m_aI, m_aNil, m_aR, m_cCmp0, m_eArr, m_eCall, m_eIte, m_eLit, m_eLoc, m_pRet, qX0_has]
def fX6_lives : FF := sBody [.inr 6, .inl 0, .inl 0] (sRet 3 (sIte (sAnd (sCmp 5 (sCall fX6_from (sArgI (sLoc 1) sNil)) (sLoc 2)) (sCmp 5 (sLoc 2) (sCall fX6_to (sArgI (sLoc 1) sNil)))) (sLit 1) (sLit 0)))
theorem qX6_lives : MX6_lives.1 = fX6_lives := by
  show sBody [.inr 6, .inl 0, .inl 0] bX6_lives.1.2 = _
  unfold bX6_lives fX6_lives
  simp only [m_aI, m_aNil, m_aR, m_cAnd, m_cCmp, m_eCall, m_eIte, m_eLit, m_eLoc, m_pRet, qX6_from, qX6_to]
def fX0_sorts : FF := sBody [.inr 15, .inl 0] (sRet 0 (sIte (sCmp0 1 (sCall fX0_has (sArgI (sLoc 1) sNil))) (sArr 18 4 (sLoc 1)) (sLit 0)))
theorem qX0_sorts : MX0_sorts.1 = fX0_sorts := by
  show sBody [.inr 15, .inl 0] bX0_sorts.1.2 = _
  unfold bX0_sorts fX0_sorts
  simp only [m_aI, m_aNil, m_aR, m_cCmp0, m_eArr, m_eCall, m_eIte, m_eLit, m_eLoc, m_pRet, qX0_has]
def fX11_reasonsButInk : FF := sBody [.inr 0, .inl 0, .inl 0] (sSeq (sSet 3 (sLit 0)) (sSeq (sSet 4 (sCall fX6_vowel (sArgI (sLoc 2) sNil))) (sSeq (sIf (sIteC (sCmp0 1 (sLoc 4)) (sCmp0 1 (sCall fX8_isBehindA (sArgI (sLoc 1) sNil))) (sCmp0 1 (sCall fX8_isBehindAn (sArgI (sLoc 1) sNil)))) (sSet 3 (sBin 4 (sLoc 3) (sLit 4))) sSkip) (sSeq (sDo fX11_tellFacts (sArgI (sLoc 1) (sArgI (sLoc 2) (sArgI (sLoc 4) sNil)))) (sSeq (sIf (sNot (sCmp0 1 (sCall fX7_hold (sArgI (sLoc 1) sNil)))) (sSet 3 (sBin 4 (sLoc 3) (sLit 8))) sSkip) (sSeq (sIf (sNot (sCmp0 1 (sCall fX0_inLists (sArgI (sLoc 1) (sArgI (sLoc 2) sNil))))) (sSet 3 (sBin 4 (sLoc 3) (sLit 16))) sSkip) (sSeq (sSet 5 (sCall fX0_year (sArgI (sLoc 1) sNil))) (sSeq (sIf (sOr (sAnd (sCmp 1 (sLoc 5) (sLit (-1))) (sNot (sCmp0 1 (sCall fX6_lives (sArgI (sLoc 2) (sArgI (sLoc 5) sNil)))))) (sNot (sCmp0 1 (sCall fX11_bit (sArgI (sCall fX0_sorts (sArgI (sLoc 1) sNil)) (sArgI (sCall fX6_sort (sArgI (sLoc 2) sNil)) sNil)))))) (sSet 3 (sBin 4 (sLoc 3) (sLit 32))) sSkip) (sRet 0 (sLoc 3))))))))))
theorem qX11_reasonsButInk : MX11_reasonsButInk.1 = fX11_reasonsButInk := by
  show sBody [.inr 0, .inl 0, .inl 0] bX11_reasonsButInk.1.2 = _
  unfold bX11_reasonsButInk fX11_reasonsButInk
  simp only [m_aI, m_aNil, m_aR, m_cAnd, m_cCmp, m_cCmp0, m_cIteC, m_cNot, m_cOr, m_eBin, m_eCall, m_eLit, m_eLoc, m_pDo, m_pIf, m_pRet, m_pSeq, m_pSet, m_pSkip, qX0_inLists, qX0_sorts, qX0_year, qX11_bit, qX11_tellFacts, qX6_lives, qX6_sort, qX6_vowel, qX7_hold, qX8_isBehindA, qX8_isBehindAn]
def fX11_inkReason : FF := sBody [.inr 0, .inl 0, .inl 0] (sSeq (sSet 3 (sBin 1 (sCall fX0_ink (sArgI (sLoc 1) sNil)) (sCall fX6_wide (sArgI (sLoc 2) sNil)))) (sSeq (sSet 4 (sCall fX11_within (sArgI (sLoc 3) (sArgI (sCall fX3_least (sArgI (sFld 0 12) sNil)) (sArgI (sCall fX3_greatest (sArgI (sFld 0 12) sNil)) sNil))))) (sRet 0 (sIte (sCmp0 1 (sLoc 4)) (sLit 0) (sLit 1)))))
theorem qX11_inkReason : MX11_inkReason.1 = fX11_inkReason := by
  show sBody [.inr 0, .inl 0, .inl 0] bX11_inkReason.1.2 = _
  unfold bX11_inkReason fX11_inkReason
  simp only [m_aI, m_aNil, m_aR, m_cCmp0, m_eBin, m_eCall, m_eFld, m_eIte, m_eLit, m_eLoc, m_pRet, m_pSeq, m_pSet, qX0_ink, qX11_within, qX3_greatest, qX3_least, qX6_wide]
def fX11_against : FF := sBody [.inr 0, .inl 0, .inl 0] (sSeq (sIf (sOr (sNot (sCmp0 1 (sCall fX0_has (sArgI (sLoc 1) sNil)))) (sNot (sCmp0 1 (sCall fX6_has (sArgI (sLoc 2) sNil))))) (sRet 0 (sLit (-1))) sSkip) (sRet 0 (sBin 4 (sCall fX11_reasonsButInk (sArgI (sLoc 1) (sArgI (sLoc 2) sNil))) (sCall fX11_inkReason (sArgI (sLoc 1) (sArgI (sLoc 2) sNil))))))
theorem qX11_against : MX11_against.1 = fX11_against := by
  show sBody [.inr 0, .inl 0, .inl 0] bX11_against.1.2 = _
  unfold bX11_against fX11_against
  simp only [m_aI, m_aNil, m_aR, m_cCmp0, m_cNot, m_cOr, m_eBin, m_eCall, m_eLit, m_eLoc, m_pIf, m_pRet, m_pSeq, m_pSkip, qX0_has, qX11_inkReason, qX11_reasonsButInk, qX6_has]
def fX11_lay : FF := sBody [.inr 0, .inl 0] (sSeq (sSet 2 (sLoc 1)) (sSeq (sSeq (sSet 3 (sLit 0)) (sWh (sAnd (sCmp 2 (sLoc 3) (sCall fX0_count sNil)) (sCmp 2 (sLoc 3) (sLit 4))) (sSeq (sSeq (sSet 4 (sBin 10 (sLoc 2) (sLit 24))) (sSeq (sIf (sNot (sCmp0 1 (sCall fX6_has (sArgI (sLoc 4) sNil)))) (sRet 3 (sLit 0)) sSkip) (sSeq (sAst 64 0 4 (sLoc 3) (sLoc 4)) (sSeq (sAst 65 0 4 (sLoc 3) (sCall fX6_wide (sArgI (sLoc 4) sNil))) (sSet 2 (sBin 9 (sLoc 2) (sLit 24))))))) (sInc 3 1)) ik_fuel)) (sRet 3 (sIte (sCmp0 0 (sLoc 2)) (sLit 1) (sLit 0)))))
theorem qX11_lay : MX11_lay.1 = fX11_lay := by
  show sBody [.inr 0, .inl 0] bX11_lay.1.2 = _
  unfold bX11_lay fX11_lay
  simp only [m_aI, m_aNil, m_aR, m_cAnd, m_cCmp, m_cCmp0, m_cNot, m_eBin, m_eCall, m_eIte, m_eLit, m_eLoc, m_pAst, m_pIf, m_pInc, m_pRet, m_pSeq, m_pSet, m_pSkip, m_pWh, qX0_count, qX6_has, qX6_wide]
def fX0_ties : FF := sBody [.inr 15] (sRet 0 (sFld 15 10))
theorem qX0_ties : MX0_ties.1 = fX0_ties := by
  show sBody [.inr 15] bX0_ties.1.2 = _
  unfold bX0_ties fX0_ties
  simp only [m_eFld, m_pRet]
def fX0_tied : FF := sBody [.inr 15, .inl 0] (sRet 3 (sIte (sAnd (sAnd (sCmp0 3 (sLoc 1)) (sCmp 2 (sLoc 1) (sFld 15 10))) (sCmp 2 (sLoc 1) (sLit 20))) (sLit 1) (sLit 0)))
theorem qX0_tied : MX0_tied.1 = fX0_tied := by
  show sBody [.inr 15, .inl 0] bX0_tied.1.2 = _
  unfold bX0_tied fX0_tied
  simp only [m_cAnd, m_cCmp, m_cCmp0, m_eFld, m_eIte, m_eLit, m_eLoc, m_pRet]
def fX0_tieFirst : FF := sBody [.inr 15, .inl 0] (sRet 0 (sIte (sCmp0 1 (sCall fX0_tied (sArgI (sLoc 1) sNil))) (sArr 20 20 (sLoc 1)) (sLit (-1))))
theorem qX0_tieFirst : MX0_tieFirst.1 = fX0_tieFirst := by
  show sBody [.inr 15, .inl 0] bX0_tieFirst.1.2 = _
  unfold bX0_tieFirst fX0_tieFirst
  simp only [m_aI, m_aNil, m_aR, m_cCmp0, m_eArr, m_eCall, m_eIte, m_eLit, m_eLoc, m_pRet, qX0_tied]
def fX0_tieSecond : FF := sBody [.inr 15, .inl 0] (sRet 0 (sIte (sCmp0 1 (sCall fX0_tied (sArgI (sLoc 1) sNil))) (sArr 21 20 (sLoc 1)) (sLit (-1))))
theorem qX0_tieSecond : MX0_tieSecond.1 = fX0_tieSecond := by
  show sBody [.inr 15, .inl 0] bX0_tieSecond.1.2 = _
  unfold bX0_tieSecond fX0_tieSecond
  simp only [m_aI, m_aNil, m_aR, m_cCmp0, m_eArr, m_eCall, m_eIte, m_eLit, m_eLoc, m_pRet, qX0_tied]
def fX0_tieSort : FF := sBody [.inr 15, .inl 0] (sRet 0 (sIte (sCmp0 1 (sCall fX0_tied (sArgI (sLoc 1) sNil))) (sArr 19 20 (sLoc 1)) (sLit 0)))
theorem qX0_tieSort : MX0_tieSort.1 = fX0_tieSort := by
  show sBody [.inr 15, .inl 0] bX0_tieSort.1.2 = _
  unfold bX0_tieSort fX0_tieSort
  simp only [m_aI, m_aNil, m_aR, m_cCmp0, m_eArr, m_eCall, m_eIte, m_eLit, m_eLoc, m_pRet, qX0_tied]
def fX6_mates : FF := sBody [.inr 6, .inl 0, .inl 0, .inl 0] (sSeq (sSet 4 (sIte (sCmp0 1 (sCall fX6_has (sArgI (sLoc 2) sNil))) (sBin 6 (sLit 1) (sLoc 2)) (sLit 0))) (sSeq (sIf (sCmp0 0 (sLoc 1)) (sRet 0 (sLoc 4)) sSkip) (sSeq (sIf (sCmp 0 (sLoc 1) (sLit 1)) (sRet 0 (sBin 5 (sLoc 4) (sLit (-1)))) sSkip) (sRet 0 (sIte (sCmp0 1 (sLoc 3)) (sBin 5 (sBin 4 (sCall fX6_ahead (sArgI (sLoc 2) sNil)) (sLoc 4)) (sLit (-1))) (sCall fX6_ahead (sArgI (sLoc 2) sNil)))))))
theorem qX6_mates : MX6_mates.1 = fX6_mates := by
  show sBody [.inr 6, .inl 0, .inl 0, .inl 0] bX6_mates.1.2 = _
  unfold bX6_mates fX6_mates
  simp only [m_aI, m_aNil, m_aR, m_cCmp, m_cCmp0, m_eBin, m_eCall, m_eIte, m_eLit, m_eLoc, m_pIf, m_pRet, m_pSeq, m_pSet, m_pSkip, qX6_ahead, qX6_has]
def fX11_tiesReason : FF := sBody [.inr 0] (sSeq (sSeq (sSet 1 (sLit 0)) (sWh (sCmp 2 (sLoc 1) (sCall fX0_ties sNil)) (sSeq (sSeq (sSet 2 (sCall fX0_tieFirst (sArgI (sLoc 1) sNil))) (sSeq (sSet 3 (sCall fX0_tieSecond (sArgI (sLoc 1) sNil))) (sIf (sOr (sOr (sNot (sCmp0 1 (sCall fX0_has (sArgI (sLoc 2) sNil)))) (sNot (sCmp0 1 (sCall fX0_has (sArgI (sLoc 3) sNil))))) (sNot (sCmp0 1 (sCall fX11_bit (sArgI (sCall fX6_mates (sArgI (sCall fX0_tieSort (sArgI (sLoc 1) sNil)) (sArgI (sArr 64 4 (sLoc 2)) (sArgI (sLit 1) sNil)))) (sArgI (sArr 64 4 (sLoc 3)) sNil)))))) (sRet 0 (sLit 16)) sSkip))) (sInc 1 1)) ik_fuel)) (sRet 0 (sLit 0)))
theorem qX11_tiesReason : MX11_tiesReason.1 = fX11_tiesReason := by
  show sBody [.inr 0] bX11_tiesReason.1.2 = _
  unfold bX11_tiesReason fX11_tiesReason
  simp only [m_aI, m_aNil, m_aR, m_cCmp, m_cCmp0, m_cNot, m_cOr, m_eArr, m_eCall, m_eLit, m_eLoc, m_pIf, m_pInc, m_pRet, m_pSeq, m_pSet, m_pSkip, m_pWh, qX0_has, qX0_tieFirst, qX0_tieSecond, qX0_tieSort, qX0_ties, qX11_bit, qX6_mates]
def fX8_count : FF := sBody [.inr 25] (sRet 0 (sFld 25 7))
theorem qX8_count : MX8_count.1 = fX8_count := by
  show sBody [.inr 25] bX8_count.1.2 = _
  unfold bX8_count fX8_count
  simp only [m_eFld, m_pRet]
def fX8_tokens : FF := sBody [.inr 25, .inl 0] (sRet 0 (sIte (sCmp0 1 (sCall fX8_has (sArgI (sLoc 1) sNil))) (sArr 33 6 (sLoc 1)) (sLit 0)))
theorem qX8_tokens : MX8_tokens.1 = fX8_tokens := by
  show sBody [.inr 25, .inl 0] bX8_tokens.1.2 = _
  unfold bX8_tokens fX8_tokens
  simp only [m_aI, m_aNil, m_aR, m_cCmp0, m_eArr, m_eCall, m_eIte, m_eLit, m_eLoc, m_pRet, qX8_has]
def fX10_wide_26 : FF := sBody [.inr 26, .inl 0, .inr 3] (sSeq (sSet 3 (sLit 0)) (sSeq (sSet 4 (sLit 0)) (sSeq (sSet 5 (sCall fX10_length_26 (sArgI (sLoc 1) sNil))) (sSeq (sSeq (sSet 6 (sLit 0)) (sWh (sCmp 2 (sLoc 6) (sLoc 5)) (sSeq (sSeq (sSet 7 (sCall fX10_letter_26 (sArgI (sLoc 1) (sArgI (sLoc 6) sNil)))) (sSeq (sSet 3 (sBin 0 (sLoc 3) (sBin 0 (sCall fX4_wideOf (sArgI (sLoc 7) sNil)) (sCall fX4_joinOf (sArgI (sLoc 4) (sArgI (sLoc 7) sNil)))))) (sSet 4 (sLoc 7)))) (sInc 6 1)) ik_fuel)) (sRet 0 (sLoc 3))))))
theorem qX10_wide_26 : MX10_wide_26.1 = fX10_wide_26 := by
  show sBody [.inr 26, .inl 0, .inr 3] bX10_wide_26.1.2 = _
  unfold bX10_wide_26 fX10_wide_26
  simp only [m_aI, m_aNil, m_aR, m_cCmp, m_eBin, m_eCall, m_eLit, m_eLoc, m_pInc, m_pRet, m_pSeq, m_pSet, m_pWh, qX10_length_26, qX10_letter_26, qX4_joinOf, qX4_wideOf]
def fX8_wordWide : FF := sBody [.inr 25, .inl 0, .inl 0, .inr 3] (sRet 0 (sIte (sCmp0 1 (sCall fX8_stands (sArgI (sLoc 1) (sArgI (sLoc 2) sNil)))) (sCall fX10_wide_26 (sArgI (sCall fX8_slot (sArgI (sLoc 1) (sArgI (sLoc 2) sNil))) sNil)) (sLit 0)))
theorem qX8_wordWide : MX8_wordWide.1 = fX8_wordWide := by
  show sBody [.inr 25, .inl 0, .inl 0, .inr 3] bX8_wordWide.1.2 = _
  unfold bX8_wordWide fX8_wordWide
  simp only [m_aI, m_aNil, m_aR, m_cCmp0, m_eCall, m_eIte, m_eLit, m_eLoc, m_pRet, qX10_wide_26, qX8_slot, qX8_stands]
def fX8_wide : FF := sBody [.inr 25, .inl 0] (sRet 0 (sIte (sCmp0 1 (sCall fX8_has (sArgI (sLoc 1) sNil))) (sArr 32 6 (sLoc 1)) (sLit 0)))
theorem qX8_wide : MX8_wide.1 = fX8_wide := by
  show sBody [.inr 25, .inl 0] bX8_wide.1.2 = _
  unfold bX8_wide fX8_wide
  simp only [m_aI, m_aNil, m_aR, m_cCmp0, m_eArr, m_eCall, m_eIte, m_eLit, m_eLoc, m_pRet, qX8_has]
def fX8_set : FF := sBody [.inr 25, .inl 0, .inr 65, .inr 3] (sSeq (sSeq (sSet 4 (sLit 0)) (sSeq (sSet 5 (sLit 0)) (sWh (sAnd (sCmp 2 (sLoc 5) (sCall fX8_tokens (sArgI (sLoc 1) sNil))) (sCmp 2 (sLoc 5) (sLit 24))) (sSeq (sSeq (sSet 6 (sCall fX8_barAt (sArgI (sLoc 1) (sArgI (sLoc 5) sNil)))) (sSeq (sSet 7 (sIte (sAnd (sCmp0 3 (sLoc 6)) (sCmp 2 (sLoc 6) (sLit (Int32.ofNat 4)))) (sArr 65 4 (sLoc 6)) (sCall fX8_wordWide (sArgI (sLoc 1) (sArgI (sLoc 5) sNil))))) (sSeq (sSet 8 (sBin 0 (sBin 0 (sLoc 4) (sCall fX4_wideOf (sArgI (sLit 0) sNil))) (sLoc 7))) (sSeq (sAst 31 3 24 (sLoc 5) (sIte (sOr (sCmp0 0 (sLoc 5)) (sCmp 4 (sLoc 8) (sCall fX8_wide (sArgI (sLoc 1) sNil)))) (sLit 1) (sLit 0))) (sSet 4 (sIte (sCmp0 1 (sArr 31 24 (sLoc 5))) (sLoc 7) (sLoc 8))))))) (sInc 5 1)) ik_fuel))) sRetV)
theorem qX8_set : MX8_set.1 = fX8_set := by
  show sBody [.inr 25, .inl 0, .inr 65, .inr 3] bX8_set.1.2 = _
  unfold bX8_set fX8_set
  simp only [m_aI, m_aNil, m_aR, m_cAnd, m_cCmp, m_cCmp0, m_cOr, m_eArr, m_eBin, m_eCall, m_eIte, m_eLen, m_eLit, m_eLoc, m_pAst, m_pInc, m_pRetV, m_pSeq, m_pSet, m_pWh, qX4_wideOf, qX8_barAt, qX8_tokens, qX8_wide, qX8_wordWide]
def fX8_begins : FF := sBody [.inr 25, .inl 0, .inl 0] (sRet 3 (sIte (sAnd (sCmp0 1 (sCall fX8_stands (sArgI (sLoc 1) (sArgI (sLoc 2) sNil)))) (sCmp0 1 (sArr 30 144 (sCall fX8_slot (sArgI (sLoc 1) (sArgI (sLoc 2) sNil)))))) (sLit 1) (sLit 0)))
theorem qX8_begins : MX8_begins.1 = fX8_begins := by
  show sBody [.inr 25, .inl 0, .inl 0] bX8_begins.1.2 = _
  unfold bX8_begins fX8_begins
  simp only [m_aI, m_aNil, m_aR, m_cAnd, m_cCmp0, m_eArr, m_eCall, m_eIte, m_eLit, m_eLoc, m_pRet, qX8_slot, qX8_stands]
def fX8_breaksOtherwise : FF := sBody [.inr 25, .inl 0] (sSeq (sSeq (sSet 2 (sLit 0)) (sWh (sAnd (sCmp 2 (sLoc 2) (sCall fX8_tokens (sArgI (sLoc 1) sNil))) (sCmp 2 (sLoc 2) (sLit 24))) (sSeq (sIf (sCmp 1 (sArr 31 24 (sLoc 2)) (sCall fX8_begins (sArgI (sLoc 1) (sArgI (sLoc 2) sNil)))) (sRet 3 (sLit 1)) sSkip) (sInc 2 1)) ik_fuel)) (sRet 3 (sLit 0)))
theorem qX8_breaksOtherwise : MX8_breaksOtherwise.1 = fX8_breaksOtherwise := by
  show sBody [.inr 25, .inl 0] bX8_breaksOtherwise.1.2 = _
  unfold bX8_breaksOtherwise fX8_breaksOtherwise
  simp only [m_aI, m_aNil, m_aR, m_cAnd, m_cCmp, m_eArr, m_eCall, m_eLit, m_eLoc, m_pIf, m_pInc, m_pRet, m_pSeq, m_pSet, m_pSkip, m_pWh, qX8_begins, qX8_tokens]
def fX11_linesReason : FF := sBody [.inr 0] (sSeq (sSeq (sSet 1 (sLit 0)) (sWh (sCmp 2 (sLoc 1) (sCall fX8_count sNil)) (sSeq (sSeq (sDo fX8_set (sArgI (sLoc 1) sNil)) (sIf (sCmp0 1 (sCall fX8_breaksOtherwise (sArgI (sLoc 1) sNil))) (sRet 0 (sLit 2)) sSkip)) (sInc 1 1)) ik_fuel)) (sRet 0 (sLit 0)))
theorem qX11_linesReason : MX11_linesReason.1 = fX11_linesReason := by
  show sBody [.inr 0] bX11_linesReason.1.2 = _
  unfold bX11_linesReason fX11_linesReason
  simp only [m_aI, m_aNil, m_aR, m_cCmp, m_cCmp0, m_eCall, m_eLit, m_eLoc, m_pDo, m_pIf, m_pInc, m_pRet, m_pSeq, m_pSet, m_pSkip, m_pWh, qX8_breaksOtherwise, qX8_count, qX8_set]
def fX11_judge : FF := sBody [.inr 0, .inl 0] (sSeq (sIf (sOr (sCmp0 0 (sCall fX0_count sNil)) (sNot (sCmp0 1 (sCall fX11_lay (sArgI (sLoc 1) sNil))))) (sRet 0 (sLit (-1))) sSkip) (sSeq (sSet 2 (sBin 4 (sCall fX11_tiesReason sNil) (sCall fX11_linesReason sNil))) (sSeq (sSeq (sSet 3 (sLit 0)) (sWh (sAnd (sCmp 2 (sLoc 3) (sCall fX0_count sNil)) (sCmp 2 (sLoc 3) (sLit 4))) (sSeq (sSet 2 (sBin 4 (sLoc 2) (sBin 4 (sCall fX11_reasonsButInk (sArgI (sLoc 3) (sArgI (sArr 64 4 (sLoc 3)) sNil))) (sCall fX11_inkReason (sArgI (sLoc 3) (sArgI (sArr 64 4 (sLoc 3)) sNil)))))) (sInc 3 1)) ik_fuel)) (sRet 0 (sLoc 2)))))
theorem qX11_judge : MX11_judge.1 = fX11_judge := by
  show sBody [.inr 0, .inl 0] bX11_judge.1.2 = _
  unfold bX11_judge fX11_judge
  simp only [m_aI, m_aNil, m_aR, m_cAnd, m_cCmp, m_cCmp0, m_cNot, m_cOr, m_eArr, m_eBin, m_eCall, m_eLit, m_eLoc, m_pIf, m_pInc, m_pRet, m_pSeq, m_pSet, m_pSkip, m_pWh, qX0_count, qX11_inkReason, qX11_lay, qX11_linesReason, qX11_reasonsButInk, qX11_tiesReason]
def fX8_setLine : FF := sBody [.inr 25, .inl 0, .inl 0] (sSeq (sSet 3 (sLit (-1))) (sSeq (sSeq (sSet 4 (sLit 0)) (sWh (sAnd (sCmp 2 (sLoc 4) (sCall fX8_tokens (sArgI (sLoc 1) sNil))) (sCmp 2 (sLoc 4) (sLit 24))) (sSeq (sIf (sCmp0 1 (sArr 31 24 (sLoc 4))) (sSeq (sInc 3 1) (sIf (sCmp 0 (sLoc 3) (sLoc 2)) (sRet 0 (sLoc 4)) sSkip)) sSkip) (sInc 4 1)) ik_fuel)) (sRet 0 (sLit (-1)))))
theorem qX8_setLine : MX8_setLine.1 = fX8_setLine := by
  show sBody [.inr 25, .inl 0, .inl 0] bX8_setLine.1.2 = _
  unfold bX8_setLine fX8_setLine
  simp only [m_aI, m_aNil, m_aR, m_cAnd, m_cCmp, m_cCmp0, m_eArr, m_eCall, m_eLit, m_eLoc, m_pIf, m_pInc, m_pRet, m_pSeq, m_pSet, m_pSkip, m_pWh, qX8_tokens]
def fX11_line : FF := sBody [.inr 0, .inl 0, .inl 0, .inl 0] (sSeq (sIf (sOr (sOr (sNot (sCmp0 1 (sCall fX8_has (sArgI (sLoc 1) sNil)))) (sCmp0 2 (sLoc 3))) (sNot (sCmp0 1 (sCall fX11_lay (sArgI (sLoc 2) sNil))))) (sRet 0 (sLit (-1))) sSkip) (sSeq (sDo fX8_set (sArgI (sLoc 1) sNil)) (sRet 0 (sCall fX8_setLine (sArgI (sLoc 1) (sArgI (sLoc 3) sNil))))))
theorem qX11_line : MX11_line.1 = fX11_line := by
  show sBody [.inr 0, .inl 0, .inl 0, .inl 0] bX11_line.1.2 = _
  unfold bX11_line fX11_line
  simp only [m_aI, m_aNil, m_aR, m_cCmp0, m_cNot, m_cOr, m_eCall, m_eLit, m_eLoc, m_pDo, m_pIf, m_pRet, m_pSeq, m_pSkip, qX11_lay, qX8_has, qX8_set, qX8_setLine]
def fX6_count : FF := sBody [.inr 6] (sRet 0 (sFld 6 6))
theorem qX6_count : MX6_count.1 = fX6_count := by
  show sBody [.inr 6] bX6_count.1.2 = _
  unfold bX6_count fX6_count
  simp only [m_eFld, m_pRet]
def fJ9_max_7cf53 : FF := sBody [.inl 0, .inl 0] (sRet 0 (sIte (sCmp 3 (sLoc 0) (sLoc 1)) (sLoc 0) (sLoc 1)))
theorem qJ9_max_7cf53 : MJ9_max_7cf53.1 = fJ9_max_7cf53 := by
  show sBody [.inl 0, .inl 0] bJ9_max_7cf53.1.2 = _
  unfold bJ9_max_7cf53 fJ9_max_7cf53
  simp only [m_cCmp, m_eIte, m_eLoc, m_pRet]
def fJ9_min_7cf53 : FF := sBody [.inl 0, .inl 0] (sRet 0 (sIte (sCmp 5 (sLoc 0) (sLoc 1)) (sLoc 0) (sLoc 1)))
theorem qJ9_min_7cf53 : MJ9_min_7cf53.1 = fJ9_min_7cf53 := by
  show sBody [.inl 0, .inl 0] bJ9_min_7cf53.1.2 = _
  unfold bJ9_min_7cf53 fJ9_min_7cf53
  simp only [m_cCmp, m_eIte, m_eLoc, m_pRet]
def fX2_begin : FF := sBody [.inr 48, .inl 0, .inl 0] (sSeq (sSeq (sPut 48 9 0 (sCall fJ9_min_7cf53 (sArgI (sCall fJ9_max_7cf53 (sArgI (sLoc 1) (sArgI (sLit 0) sNil))) (sArgI (sLit 4) sNil)))) (sSeq (sPut 48 10 0 (sCall fJ9_min_7cf53 (sArgI (sCall fJ9_max_7cf53 (sArgI (sLoc 2) (sArgI (sLit 0) sNil))) (sArgI (sLit 24) sNil)))) (sSeq (sSet 3 (sLit 0)) (sWh (sCmp 2 (sLoc 3) (sLit (Int32.ofNat 384))) (sSeq (sAst 56 0 384 (sLoc 3) (sLit (-1))) (sInc 3 1)) ik_fuel)))) sRetV)
theorem qX2_begin : MX2_begin.1 = fX2_begin := by
  show sBody [.inr 48, .inl 0, .inl 0] bX2_begin.1.2 = _
  unfold bX2_begin fX2_begin
  simp only [m_aI, m_aNil, m_cCmp, m_eCall, m_eLen, m_eLit, m_eLoc, m_pAst, m_pInc, m_pPut, m_pRetV, m_pSeq, m_pSet, m_pWh, qJ9_max_7cf53, qJ9_min_7cf53]
def fX6_weight : FF := sBody [.inr 6, .inl 0] (sRet 0 (sIte (sCmp0 1 (sCall fX6_has (sArgI (sLoc 1) sNil))) (sArr 13 24 (sLoc 1)) (sLit 0)))
theorem qX6_weight : MX6_weight.1 = fX6_weight := by
  show sBody [.inr 6, .inl 0] bX6_weight.1.2 = _
  unfold bX6_weight fX6_weight
  simp only [m_aI, m_aNil, m_aR, m_cCmp0, m_eArr, m_eCall, m_eIte, m_eLit, m_eLoc, m_pRet, qX6_has]
def fX2_isName : FF := sBody [.inl 0] (sRet 3 (sIte (sAnd (sCmp0 3 (sLoc 0)) (sCmp 2 (sLoc 0) (sLit 24))) (sLit 1) (sLit 0)))
theorem qX2_isName : MX2_isName.1 = fX2_isName := by
  show sBody [.inl 0] bX2_isName.1.2 = _
  unfold bX2_isName fX2_isName
  simp only [m_cAnd, m_cCmp, m_cCmp0, m_eIte, m_eLit, m_eLoc, m_pRet]
def fX2_setName : FF := sBody [.inr 48, .inl 0, .inl 0, .inl 0] (sSeq (sIf (sCmp0 1 (sCall fX2_isName (sArgI (sLoc 1) sNil))) (sSeq (sAst 57 0 24 (sLoc 1) (sLoc 2)) (sAst 58 0 24 (sLoc 1) (sLoc 3))) sSkip) sRetV)
theorem qX2_setName : MX2_setName.1 = fX2_setName := by
  show sBody [.inr 48, .inl 0, .inl 0, .inl 0] bX2_setName.1.2 = _
  unfold bX2_setName fX2_setName
  simp only [m_aI, m_aNil, m_cCmp0, m_eCall, m_eLoc, m_pAst, m_pIf, m_pRetV, m_pSeq, m_pSkip, qX2_isName]
def fX2_isBar : FF := sBody [.inl 0] (sRet 3 (sIte (sAnd (sCmp0 3 (sLoc 0)) (sCmp 2 (sLoc 0) (sLit 4))) (sLit 1) (sLit 0)))
theorem qX2_isBar : MX2_isBar.1 = fX2_isBar := by
  show sBody [.inl 0] bX2_isBar.1.2 = _
  unfold bX2_isBar fX2_isBar
  simp only [m_cAnd, m_cCmp, m_cCmp0, m_eIte, m_eLit, m_eLoc, m_pRet]
def fX2_pairPlace : FF := sBody [.inl 0, .inl 0, .inl 0] (sRet 0 (sBin 0 (sBin 2 (sBin 0 (sBin 2 (sLoc 0) (sLit 4)) (sLoc 2)) (sLit 24)) (sLoc 1)))
theorem qX2_pairPlace : MX2_pairPlace.1 = fX2_pairPlace := by
  show sBody [.inl 0, .inl 0, .inl 0] bX2_pairPlace.1.2 = _
  unfold bX2_pairPlace fX2_pairPlace
  simp only [m_eBin, m_eLit, m_eLoc, m_pRet]
def fX2_pair : FF := sBody [.inr 48, .inl 0, .inl 0, .inl 0, .inl 0] (sSeq (sIf (sAnd (sAnd (sCmp0 1 (sCall fX2_isBar (sArgI (sLoc 1) sNil))) (sCmp0 1 (sCall fX2_isBar (sArgI (sLoc 3) sNil)))) (sCmp0 1 (sCall fX2_isName (sArgI (sLoc 2) sNil)))) (sAop 56 384 3 (sCall fX2_pairPlace (sArgI (sLoc 1) (sArgI (sLoc 2) (sArgI (sLoc 3) sNil)))) (sLoc 4)) sSkip) sRetV)
theorem qX2_pair : MX2_pair.1 = fX2_pair := by
  show sBody [.inr 48, .inl 0, .inl 0, .inl 0, .inl 0] bX2_pair.1.2 = _
  unfold bX2_pair fX2_pair
  simp only [m_aI, m_aNil, m_cAnd, m_cCmp0, m_eCall, m_eLoc, m_pAop, m_pIf, m_pRetV, m_pSeq, m_pSkip, qX2_isBar, qX2_isName, qX2_pairPlace]
def fX5_stand : FF := sBody [.inr 49, .inl 0, .inl 0] (sSeq (sSeq (sSet 3 (sLit 0)) (sWh (sCmp 2 (sLoc 3) (sLit 4)) (sSeq (sAst 54 0 4 (sLoc 3) (sBin 0 (sIte (sCmp0 1 (sLoc 2)) (sLit 0) (sArr 54 4 (sLoc 3))) (sIte (sCmp 0 (sLoc 3) (sLoc 1)) (sLit 1) (sLit 0)))) (sInc 3 1)) ik_fuel)) sRetV)
theorem qX5_stand : MX5_stand.1 = fX5_stand := by
  show sBody [.inr 49, .inl 0, .inl 0] bX5_stand.1.2 = _
  unfold bX5_stand fX5_stand
  simp only [m_cCmp, m_cCmp0, m_eArr, m_eBin, m_eIte, m_eLit, m_eLoc, m_pAst, m_pInc, m_pRetV, m_pSeq, m_pSet, m_pWh]
def fX5_asksOfTheSame : FF := sBody [.inr 49, .inl 0] (sSeq (sSeq (sSet 2 (sLit 0)) (sWh (sCmp 2 (sLoc 2) (sLit 4)) (sSeq (sIf (sCmp 1 (sArr 53 2304 (sBin 0 (sBin 2 (sLoc 1) (sLit 4)) (sLoc 2))) (sArr 54 4 (sLoc 2))) (sRet 3 (sLit 0)) sSkip) (sInc 2 1)) ik_fuel)) (sRet 3 (sLit 1)))
theorem qX5_asksOfTheSame : MX5_asksOfTheSame.1 = fX5_asksOfTheSame := by
  show sBody [.inr 49, .inl 0] bX5_asksOfTheSame.1.2 = _
  unfold bX5_asksOfTheSame fX5_asksOfTheSame
  simp only [m_cCmp, m_eArr, m_eBin, m_eLit, m_eLoc, m_pIf, m_pInc, m_pRet, m_pSeq, m_pSet, m_pSkip, m_pWh]
def fX5_put : FF := sBody [.inr 49, .inl 0, .inl 0, .inl 0] (sSeq (sSeq (sAst 51 0 576 (sLoc 1) (sLoc 2)) (sSeq (sAst 52 3 576 (sLoc 1) (sLoc 3)) (sSeq (sSet 4 (sLit 0)) (sWh (sCmp 2 (sLoc 4) (sLit 4)) (sSeq (sAst 53 0 2304 (sBin 0 (sBin 2 (sLoc 1) (sLit 4)) (sLoc 4)) (sArr 54 4 (sLoc 4))) (sInc 4 1)) ik_fuel)))) sRetV)
theorem qX5_put : MX5_put.1 = fX5_put := by
  show sBody [.inr 49, .inl 0, .inl 0, .inl 0] bX5_put.1.2 = _
  unfold bX5_put fX5_put
  simp only [m_cCmp, m_eArr, m_eBin, m_eLit, m_eLoc, m_pAst, m_pInc, m_pRetV, m_pSeq, m_pSet, m_pWh]
def fX5_add : FF := sBody [.inr 49, .inl 0, .inl 0] (sSeq (sSeq (sSet 3 (sLit 3)) (sSeq (sSeq (sSet 4 (sLit 0)) (sWh (sAnd (sAnd (sCmp 2 (sLoc 4) (sLit 4)) (sCmp0 3 (sLoc 3))) (sCmp0 0 (sArr 54 4 (sLoc 3)))) (sSeq (sInc 3 (-1)) (sInc 4 1)) ik_fuel)) (sSeq (sIf (sCmp0 2 (sLoc 3)) (sSeq (sPut 49 5 3 (sIte (sOr (sCmp0 1 (sFld 49 5)) (sCmp 0 (sLoc 2) (sIte (sCmp0 3 (sLoc 1)) (sLit 1) (sLit 0)))) (sLit 1) (sLit 0))) sRetV) sSkip) (sSeq (sSeq (sSet 4 (sLit 0)) (sWh (sAnd (sCmp 2 (sLoc 4) (sArr 50 4 (sLoc 3))) (sCmp 2 (sLoc 4) (sLit 144))) (sSeq (sSeq (sSet 5 (sBin 0 (sBin 2 (sLoc 3) (sLit 144)) (sLoc 4))) (sIf (sAnd (sCmp 0 (sArr 52 576 (sLoc 5)) (sLoc 2)) (sCmp0 1 (sCall fX5_asksOfTheSame (sArgI (sLoc 5) sNil)))) (sSeq (sAst 51 0 576 (sLoc 5) (sIte (sCmp0 1 (sLoc 2)) (sCall fJ9_max_7cf53 (sArgI (sArr 51 576 (sLoc 5)) (sArgI (sLoc 1) sNil))) (sCall fJ9_min_7cf53 (sArgI (sArr 51 576 (sLoc 5)) (sArgI (sLoc 1) sNil))))) sRetV) sSkip)) (sInc 4 1)) ik_fuel)) (sIf (sAnd (sCmp0 3 (sArr 50 4 (sLoc 3))) (sCmp 2 (sArr 50 4 (sLoc 3)) (sLit 144))) (sSeq (sDo fX5_put (sArgI (sBin 0 (sBin 2 (sLoc 3) (sLit 144)) (sArr 50 4 (sLoc 3))) (sArgI (sLoc 1) (sArgI (sLoc 2) sNil)))) (sAop 50 4 0 (sLoc 3) (sLit 1))) sSkip))))) sRetV)
theorem qX5_add : MX5_add.1 = fX5_add := by
  show sBody [.inr 49, .inl 0, .inl 0] bX5_add.1.2 = _
  unfold bX5_add fX5_add
  simp only [m_aI, m_aNil, m_aR, m_cAnd, m_cCmp, m_cCmp0, m_cOr, m_eArr, m_eBin, m_eCall, m_eFld, m_eIte, m_eLit, m_eLoc, m_pAop, m_pAst, m_pDo, m_pIf, m_pInc, m_pPut, m_pRetV, m_pSeq, m_pSet, m_pSkip, m_pWh, qJ9_max_7cf53, qJ9_min_7cf53, qX5_asksOfTheSame, qX5_put]
def fX5_readSheet : FF := sBody [.inr 49, .inl 0, .inr 25, .inr 3] (sSeq (sSeq (sSet 4 (sLit 0)) (sSeq (sSet 5 (sLit 0)) (sWh (sCmp 2 (sLoc 5) (sCall fX8_tokens (sArgI (sLoc 1) sNil))) (sSeq (sSeq (sSet 6 (sCall fX8_barAt (sArgI (sLoc 1) (sArgI (sLoc 5) sNil)))) (sSeq (sSet 7 (sIte (sCmp 0 (sLoc 6) (sLit (-1))) (sCall fX8_wordWide (sArgI (sLoc 1) (sArgI (sLoc 5) sNil))) (sLit 0))) (sSeq (sSet 4 (sBin 0 (sLoc 4) (sBin 0 (sCall fX4_wideOf (sArgI (sLit 0) sNil)) (sLoc 7)))) (sSeq (sDo fX5_stand (sArgI (sLoc 6) (sArgI (sIte (sCmp0 0 (sLoc 5)) (sLit 1) (sLit 0)) sNil))) (sSeq (sIf (sCmp0 4 (sLoc 5)) (sDo fX5_add (sArgI (sBin 1 (sCall fX8_wide (sArgI (sLoc 1) sNil)) (sLoc 4)) (sArgI (sCall fX8_begins (sArgI (sLoc 1) (sArgI (sLoc 5) sNil))) sNil))) sSkip) (sIf (sCmp0 1 (sCall fX8_begins (sArgI (sLoc 1) (sArgI (sLoc 5) sNil)))) (sSeq (sSet 4 (sLoc 7)) (sDo fX5_stand (sArgI (sLoc 6) (sArgI (sLit 1) sNil)))) sSkip)))))) (sInc 5 1)) ik_fuel))) sRetV)
theorem qX5_readSheet : MX5_readSheet.1 = fX5_readSheet := by
  show sBody [.inr 49, .inl 0, .inr 25, .inr 3] bX5_readSheet.1.2 = _
  unfold bX5_readSheet fX5_readSheet
  simp only [m_aI, m_aNil, m_aR, m_cCmp, m_cCmp0, m_eBin, m_eCall, m_eIte, m_eLit, m_eLoc, m_pDo, m_pIf, m_pInc, m_pRetV, m_pSeq, m_pSet, m_pSkip, m_pWh, qX4_wideOf, qX5_add, qX5_stand, qX8_barAt, qX8_begins, qX8_tokens, qX8_wide, qX8_wordWide]
def fX5_read : FF := sBody [.inr 49, .inr 25, .inr 3] (sSeq (sSeq (sPut 49 5 3 (sLit 0)) (sSeq (sSeq (sSet 3 (sLit 0)) (sWh (sCmp 2 (sLoc 3) (sLit 4)) (sSeq (sAst 50 0 4 (sLoc 3) (sLit 0)) (sInc 3 1)) ik_fuel)) (sSeq (sSet 3 (sLit 0)) (sWh (sCmp 2 (sLoc 3) (sCall fX8_count sNil)) (sSeq (sDo fX5_readSheet (sArgI (sLoc 3) sNil)) (sInc 3 1)) ik_fuel)))) sRetV)
theorem qX5_read : MX5_read.1 = fX5_read := by
  show sBody [.inr 49, .inr 25, .inr 3] bX5_read.1.2 = _
  unfold bX5_read fX5_read
  simp only [m_aI, m_aNil, m_aR, m_cCmp, m_eCall, m_eLit, m_eLoc, m_pAst, m_pDo, m_pInc, m_pPut, m_pRetV, m_pSeq, m_pSet, m_pWh, qX5_readSheet, qX8_count]
def fX11_prepare : FF := sBody [.inr 0] (sSeq (sSeq (sIf (sCmp0 1 (sFld 0 13)) sRetV sSkip) (sSeq (sDo fX2_begin (sArgI (sCall fX0_count sNil) (sArgI (sCall fX6_count sNil) sNil))) (sSeq (sSeq (sSet 1 (sLit 0)) (sWh (sCmp 2 (sLoc 1) (sCall fX6_count sNil)) (sSeq (sDo fX2_setName (sArgI (sLoc 1) (sArgI (sCall fX6_wide (sArgI (sLoc 1) sNil)) (sArgI (sCall fX6_weight (sArgI (sLoc 1) sNil)) sNil)))) (sInc 1 1)) ik_fuel)) (sSeq (sSeq (sSet 1 (sLit 0)) (sWh (sCmp 2 (sLoc 1) (sCall fX0_ties sNil)) (sSeq (sSeq (sSet 2 (sCall fX0_tieFirst (sArgI (sLoc 1) sNil))) (sSeq (sSet 3 (sCall fX0_tieSecond (sArgI (sLoc 1) sNil))) (sSeq (sSet 4 (sLit 0)) (sWh (sCmp 2 (sLoc 4) (sCall fX6_count sNil)) (sSeq (sSeq (sDo fX2_pair (sArgI (sLoc 2) (sArgI (sLoc 4) (sArgI (sLoc 3) (sArgI (sCall fX6_mates (sArgI (sCall fX0_tieSort (sArgI (sLoc 1) sNil)) (sArgI (sLoc 4) (sArgI (sLit 1) sNil)))) sNil))))) (sDo fX2_pair (sArgI (sLoc 3) (sArgI (sLoc 4) (sArgI (sLoc 2) (sArgI (sCall fX6_mates (sArgI (sCall fX0_tieSort (sArgI (sLoc 1) sNil)) (sArgI (sLoc 4) (sArgI (sLit 0) sNil)))) sNil)))))) (sInc 4 1)) ik_fuel)))) (sInc 1 1)) ik_fuel)) (sSeq (sDo fX5_read sNil) (sSeq (sSeq (sSet 1 (sLit 0)) (sWh (sAnd (sCmp 2 (sLoc 1) (sCall fX0_count sNil)) (sCmp 2 (sLoc 1) (sLit 4))) (sSeq (sSeq (sSet 2 (sLit 0)) (sWh (sAnd (sCmp 2 (sLoc 2) (sCall fX6_count sNil)) (sCmp 2 (sLoc 2) (sLit 24))) (sSeq (sAst 63 0 96 (sBin 0 (sBin 2 (sLoc 1) (sLit 24)) (sLoc 2)) (sCall fX11_reasonsButInk (sArgI (sLoc 1) (sArgI (sLoc 2) sNil)))) (sInc 2 1)) ik_fuel)) (sInc 1 1)) ik_fuel)) (sSeq (sPut 0 13 3 (sLit 1)) (sPut 0 14 3 (sLit 0))))))))) sRetV)
theorem qX11_prepare : MX11_prepare.1 = fX11_prepare := by
  show sBody [.inr 0] bX11_prepare.1.2 = _
  unfold bX11_prepare fX11_prepare
  simp only [m_aI, m_aNil, m_aR, m_cAnd, m_cCmp, m_cCmp0, m_eBin, m_eCall, m_eFld, m_eLit, m_eLoc, m_pAst, m_pDo, m_pIf, m_pInc, m_pPut, m_pRetV, m_pSeq, m_pSet, m_pSkip, m_pWh, qX0_count, qX0_tieFirst, qX0_tieSecond, qX0_tieSort, qX0_ties, qX11_reasonsButInk, qX2_begin, qX2_pair, qX2_setName, qX5_read, qX6_count, qX6_mates, qX6_weight, qX6_wide]
def fX2_wide : FF := sBody [.inr 48, .inl 0] (sRet 0 (sIte (sCmp0 1 (sCall fX2_isName (sArgI (sLoc 1) sNil))) (sArr 57 24 (sLoc 1)) (sLit 0)))
theorem qX2_wide : MX2_wide.1 = fX2_wide := by
  show sBody [.inr 48, .inl 0] bX2_wide.1.2 = _
  unfold bX2_wide fX2_wide
  simp only [m_aI, m_aNil, m_cCmp0, m_eArr, m_eCall, m_eIte, m_eLit, m_eLoc, m_pRet, qX2_isName]
def fX2_setFits : FF := sBody [.inr 48, .inl 0, .inl 0] (sSeq (sIf (sCmp0 1 (sCall fX2_isBar (sArgI (sLoc 1) sNil))) (sAst 55 0 4 (sLoc 1) (sLoc 2)) sSkip) sRetV)
theorem qX2_setFits : MX2_setFits.1 = fX2_setFits := by
  show sBody [.inr 48, .inl 0, .inl 0] bX2_setFits.1.2 = _
  unfold bX2_setFits fX2_setFits
  simp only [m_aI, m_aNil, m_cCmp0, m_eCall, m_eLoc, m_pAst, m_pIf, m_pRetV, m_pSeq, m_pSkip, qX2_isBar]
def fX2_heed : FF := sBody [.inr 48, .inl 0, .inl 0] (sSeq (sSeq (sPut 48 11 3 (sLoc 1)) (sPut 48 12 3 (sLoc 2))) sRetV)
theorem qX2_heed : MX2_heed.1 = fX2_heed := by
  show sBody [.inr 48, .inl 0, .inl 0] bX2_heed.1.2 = _
  unfold bX2_heed fX2_heed
  simp only [m_eLoc, m_pPut, m_pRetV, m_pSeq]
def fX11_fit : FF := sBody [.inr 0, .inl 0, .inl 0, .inl 0] (sSeq (sSeq (sSeq (sSet 4 (sLit 0)) (sWh (sAnd (sCmp 2 (sLoc 4) (sCall fX0_count sNil)) (sCmp 2 (sLoc 4) (sLit 4))) (sSeq (sSeq (sSet 5 (sLit 0)) (sSeq (sSeq (sSet 6 (sLit 0)) (sWh (sAnd (sCmp 2 (sLoc 6) (sCall fX6_count sNil)) (sCmp 2 (sLoc 6) (sLit 24))) (sSeq (sSeq (sSet 7 (sBin 1 (sCall fX0_ink (sArgI (sLoc 4) sNil)) (sCall fX2_wide (sArgI (sLoc 6) sNil)))) (sSeq (sSet 8 (sBin 4 (sArr 63 96 (sBin 0 (sBin 2 (sLoc 4) (sLit 24)) (sLoc 6))) (sIte (sCmp0 1 (sCall fX11_within (sArgI (sLoc 7) (sArgI (sLoc 2) (sArgI (sLoc 3) sNil))))) (sLit 0) (sLit 1)))) (sIf (sCmp0 0 (sBin 3 (sLoc 8) (sBin 5 (sLoc 1) (sLit (-1))))) (sSet 5 (sBin 4 (sLoc 5) (sBin 6 (sLit 1) (sLoc 6)))) sSkip))) (sInc 6 1)) ik_fuel)) (sDo fX2_setFits (sArgI (sLoc 4) (sArgI (sLoc 5) sNil))))) (sInc 4 1)) ik_fuel)) (sDo fX2_heed (sArgI (sIte (sCmp0 0 (sBin 3 (sLoc 1) (sLit 16))) (sLit 1) (sLit 0)) (sArgI (sIte (sCmp0 0 (sBin 3 (sLoc 1) (sLit 2))) (sLit 1) (sLit 0)) sNil)))) sRetV)
theorem qX11_fit : MX11_fit.1 = fX11_fit := by
  show sBody [.inr 0, .inl 0, .inl 0, .inl 0] bX11_fit.1.2 = _
  unfold bX11_fit fX11_fit
  simp only [m_aI, m_aNil, m_aR, m_cAnd, m_cCmp, m_cCmp0, m_eArr, m_eBin, m_eCall, m_eIte, m_eLit, m_eLoc, m_pDo, m_pIf, m_pInc, m_pRetV, m_pSeq, m_pSet, m_pSkip, m_pWh, qX0_count, qX0_ink, qX11_within, qX2_heed, qX2_setFits, qX2_wide, qX6_count]
def fX5_broken : FF := sBody [.inr 49] (sRet 3 (sFld 49 5))
theorem qX5_broken : MX5_broken.1 = fX5_broken := by
  show sBody [.inr 49] bX5_broken.1.2 = _
  unfold bX5_broken fX5_broken
  simp only [m_eFld, m_pRet]
def fX2_hopeful : FF := sBody [.inr 48] (sRet 3 (sIte (sAnd (sCmp0 4 (sFld 48 9)) (sNot (sAnd (sCmp0 1 (sFld 48 12)) (sCmp0 1 (sCall fX5_broken sNil))))) (sLit 1) (sLit 0)))
theorem qX2_hopeful : MX2_hopeful.1 = fX2_hopeful := by
  show sBody [.inr 48] bX2_hopeful.1.2 = _
  unfold bX2_hopeful fX2_hopeful
  simp only [m_aNil, m_aR, m_cAnd, m_cCmp0, m_cNot, m_eCall, m_eFld, m_eIte, m_eLit, m_pRet, qX5_broken]
def fX2_mates : FF := sBody [.inr 48, .inl 0, .inl 0, .inl 0] (sRet 0 (sIte (sAnd (sAnd (sCmp0 1 (sCall fX2_isBar (sArgI (sLoc 1) sNil))) (sCmp0 1 (sCall fX2_isBar (sArgI (sLoc 3) sNil)))) (sCmp0 1 (sCall fX2_isName (sArgI (sLoc 2) sNil)))) (sArr 56 384 (sCall fX2_pairPlace (sArgI (sLoc 1) (sArgI (sLoc 2) (sArgI (sLoc 3) sNil))))) (sLit 0)))
theorem qX2_mates : MX2_mates.1 = fX2_mates := by
  show sBody [.inr 48, .inl 0, .inl 0, .inl 0] bX2_mates.1.2 = _
  unfold bX2_mates fX2_mates
  simp only [m_aI, m_aNil, m_cAnd, m_cCmp0, m_eArr, m_eCall, m_eIte, m_eLit, m_eLoc, m_pRet, qX2_isBar, qX2_isName, qX2_pairPlace]
def fX5_heeds : FF := sBody [.inr 49, .inl 0] (sRet 3 (sIte (sAnd (sAnd (sCmp0 3 (sLoc 1)) (sCmp 2 (sLoc 1) (sLit 4))) (sCmp0 4 (sArr 50 4 (sLoc 1)))) (sLit 1) (sLit 0)))
theorem qX5_heeds : MX5_heeds.1 = fX5_heeds := by
  show sBody [.inr 49, .inl 0] bX5_heeds.1.2 = _
  unfold bX5_heeds fX5_heeds
  simp only [m_cAnd, m_cCmp, m_cCmp0, m_eArr, m_eIte, m_eLit, m_eLoc, m_pRet]
def fJ9_floorDiv_7cf53 : FF := sBody [.inl 0, .inl 0] (sSeq (sSet 2 (sBin 9 (sLoc 0) (sLoc 1))) (sSeq (sIf (sAnd (sCmp0 2 (sBin 5 (sLoc 0) (sLoc 1))) (sCmp 1 (sBin 2 (sLoc 2) (sLoc 1)) (sLoc 0))) (sRet 0 (sBin 1 (sLoc 2) (sLit 1))) sSkip) (sRet 0 (sLoc 2))))
theorem qJ9_floorDiv_7cf53 : MJ9_floorDiv_7cf53.1 = fJ9_floorDiv_7cf53 := by
  show sBody [.inl 0, .inl 0] bJ9_floorDiv_7cf53.1.2 = _
  unfold bJ9_floorDiv_7cf53 fJ9_floorDiv_7cf53
  simp only [m_cAnd, m_cCmp, m_cCmp0, m_eBin, m_eLit, m_eLoc, m_pIf, m_pRet, m_pSeq, m_pSet, m_pSkip]
def fX5_narrow : FF := sBody [.inr 49, .inl 0, .inr 60] (sSeq (sSeq (sPut 49 6 0 (sLit (-1000000))) (sSeq (sPut 49 7 0 (sLit (1000000))) (sSeq (sSet 3 (sLit 0)) (sWh (sAnd (sAnd (sCmp0 1 (sCall fX5_heeds (sArgI (sLoc 1) sNil))) (sCmp 2 (sLoc 3) (sArr 50 4 (sLoc 1)))) (sCmp 2 (sLoc 3) (sLit 144))) (sSeq (sSeq (sSet 4 (sBin 0 (sBin 2 (sLoc 1) (sLit 144)) (sLoc 3))) (sSeq (sSet 5 (sArr 51 576 (sLoc 4))) (sSeq (sSeq (sSet 6 (sLit 0)) (sWh (sAnd (sCmp 2 (sLoc 6) (sLoc 1)) (sCmp 2 (sLoc 6) (sLit (Int32.ofNat 4)))) (sSeq (sSet 5 (sBin 1 (sLoc 5) (sBin 2 (sArr 53 2304 (sBin 0 (sBin 2 (sLoc 4) (sLit 4)) (sLoc 6))) (sArr 60 4 (sLoc 6))))) (sInc 6 1)) ik_fuel)) (sSeq (sSet 6 (sArr 53 2304 (sBin 0 (sBin 2 (sLoc 4) (sLit 4)) (sLoc 1)))) (sSeq (sSet 7 (sIte (sCmp0 4 (sLoc 6)) (sCall fJ9_floorDiv_7cf53 (sArgI (sLoc 5) (sArgI (sLoc 6) sNil))) (sLoc 5))) (sIf (sCmp0 1 (sArr 52 576 (sLoc 4))) (sPut 49 6 0 (sCall fJ9_max_7cf53 (sArgI (sFld 49 6) (sArgI (sBin 0 (sLoc 7) (sLit 1)) sNil)))) (sPut 49 7 0 (sCall fJ9_min_7cf53 (sArgI (sFld 49 7) (sArgI (sLoc 7) sNil)))))))))) (sInc 3 1)) ik_fuel)))) sRetV)
theorem qX5_narrow : MX5_narrow.1 = fX5_narrow := by
  show sBody [.inr 49, .inl 0, .inr 60] bX5_narrow.1.2 = _
  unfold bX5_narrow fX5_narrow
  simp only [m_aI, m_aNil, m_aR, m_cAnd, m_cCmp, m_cCmp0, m_eArr, m_eBin, m_eCall, m_eFld, m_eIte, m_eLdc, m_eLen, m_eLit, m_eLoc, m_pIf, m_pInc, m_pPut, m_pRetV, m_pSeq, m_pSet, m_pWh, qJ9_floorDiv_7cf53, qJ9_max_7cf53, qJ9_min_7cf53, qX5_heeds]
def fX5_least : FF := sBody [.inr 49] (sRet 0 (sFld 49 6))
theorem qX5_least : MX5_least.1 = fX5_least := by
  show sBody [.inr 49] bX5_least.1.2 = _
  unfold bX5_least fX5_least
  simp only [m_eFld, m_pRet]
def fX5_greatest : FF := sBody [.inr 49] (sRet 0 (sFld 49 7))
theorem qX5_greatest : MX5_greatest.1 = fX5_greatest := by
  show sBody [.inr 49] bX5_greatest.1.2 = _
  unfold bX5_greatest fX5_greatest
  simp only [m_eFld, m_pRet]
def fX2_candidates : FF := sBody [.inr 48, .inl 0] (sSeq (sSet 2 (sIte (sCmp0 1 (sCall fX2_isBar (sArgI (sLoc 1) sNil))) (sArr 55 4 (sLoc 1)) (sLit 0))) (sSeq (sIf (sCmp0 1 (sFld 48 11)) (sSeq (sSet 3 (sLit 0)) (sWh (sAnd (sCmp 2 (sLoc 3) (sLoc 1)) (sCmp 2 (sLoc 3) (sLit 4))) (sSeq (sSet 2 (sBin 3 (sLoc 2) (sCall fX2_mates (sArgI (sLoc 3) (sArgI (sArr 59 4 (sLoc 3)) (sArgI (sLoc 1) sNil)))))) (sInc 3 1)) ik_fuel)) sSkip) (sSeq (sIf (sAnd (sCmp0 1 (sFld 48 12)) (sCmp0 1 (sCall fX5_heeds (sArgI (sLoc 1) sNil)))) (sSeq (sDo fX5_narrow (sArgI (sLoc 1) sNil)) (sSeq (sSet 3 (sLit 0)) (sWh (sAnd (sCmp 2 (sLoc 3) (sFld 48 10)) (sCmp 2 (sLoc 3) (sLit 24))) (sSeq (sIf (sOr (sCmp 2 (sArr 57 24 (sLoc 3)) (sCall fX5_least sNil)) (sCmp 4 (sArr 57 24 (sLoc 3)) (sCall fX5_greatest sNil))) (sSet 2 (sBin 3 (sLoc 2) (sBin 5 (sBin 6 (sLit 1) (sLoc 3)) (sLit (-1))))) sSkip) (sInc 3 1)) ik_fuel))) sSkip) (sRet 0 (sLoc 2)))))
theorem qX2_candidates : MX2_candidates.1 = fX2_candidates := by
  show sBody [.inr 48, .inl 0] bX2_candidates.1.2 = _
  unfold bX2_candidates fX2_candidates
  simp only [m_aI, m_aNil, m_aR, m_cAnd, m_cCmp, m_cCmp0, m_cOr, m_eArr, m_eBin, m_eCall, m_eFld, m_eIte, m_eLit, m_eLoc, m_pDo, m_pIf, m_pInc, m_pRet, m_pSeq, m_pSet, m_pSkip, m_pWh, qX2_isBar, qX2_mates, qX5_greatest, qX5_heeds, qX5_least, qX5_narrow]
def fJ6_bitCount_0f7a4 : FF := sBody [.inl 0] (sSeq (sSet 0 (sBin 1 (sLoc 0) (sBin 3 (sBin 8 (sLoc 0) (sLit 1)) (sLit (1431655765))))) (sSeq (sSet 0 (sBin 0 (sBin 3 (sLoc 0) (sLit (858993459))) (sBin 3 (sBin 8 (sLoc 0) (sLit 2)) (sLit (858993459))))) (sSeq (sSet 0 (sBin 3 (sBin 0 (sLoc 0) (sBin 8 (sLoc 0) (sLit 4))) (sLit (252645135)))) (sSeq (sSet 0 (sBin 0 (sLoc 0) (sBin 8 (sLoc 0) (sLit 8)))) (sSeq (sSet 0 (sBin 0 (sLoc 0) (sBin 8 (sLoc 0) (sLit 16)))) (sRet 0 (sBin 3 (sLoc 0) (sLit 63))))))))
theorem qJ6_bitCount_0f7a4 : MJ6_bitCount_0f7a4.1 = fJ6_bitCount_0f7a4 := by
  show sBody [.inl 0] bJ6_bitCount_0f7a4.1.2 = _
  unfold bJ6_bitCount_0f7a4 fJ6_bitCount_0f7a4
  simp only [m_eBin, m_eLdc, m_eLit, m_eLoc, m_pRet, m_pSeq, m_pSet]
def fX2_put : FF := sBody [.inr 48, .inl 0, .inl 0] (sSeq (sIf (sAnd (sCmp0 1 (sCall fX2_isBar (sArgI (sLoc 1) sNil))) (sCmp0 1 (sCall fX2_isName (sArgI (sLoc 2) sNil)))) (sSeq (sAst 59 0 4 (sLoc 1) (sLoc 2)) (sAst 60 0 4 (sLoc 1) (sArr 57 24 (sLoc 2)))) sSkip) sRetV)
theorem qX2_put : MX2_put.1 = fX2_put := by
  show sBody [.inr 48, .inl 0, .inl 0] bX2_put.1.2 = _
  unfold bX2_put fX2_put
  simp only [m_aI, m_aNil, m_cAnd, m_cCmp0, m_eArr, m_eCall, m_eLoc, m_pAst, m_pIf, m_pRetV, m_pSeq, m_pSkip, qX2_isBar, qX2_isName]
def fX2_countBehind (countFrom : FF) : FF := sBody [.inr 48, .inl 0, .inl 0] (sSeq (sDo fX2_put (sArgI (sLoc 1) (sArgI (sLoc 2) sNil))) (sRet 0 (sCall countFrom (sArgI (sBin 0 (sLoc 1) (sLit 1)) sNil))))
theorem qX2_countBehind_f0 : MX2_countBehind_f0.1 = fX2_countBehind MX2_countFrom_x.1 := by
  show sBody [.inr 48, .inl 0, .inl 0] bX2_countBehind_f0.1.2 = _
  unfold bX2_countBehind_f0 fX2_countBehind
  simp only [m_aI, m_aNil, m_aR, m_eBin, m_eCall, m_eLit, m_eLoc, m_pDo, m_pRet, m_pSeq, qX2_put]
def fX2_countFrom (countBehind : FF) : FF := sBody [.inr 48, .inl 0] (sSeq (sIf (sNot (sCmp0 1 (sCall fX2_isBar (sArgI (sLoc 1) sNil)))) (sRet 0 (sLit 0)) sSkip) (sSeq (sSet 2 (sCall fX2_candidates (sArgI (sLoc 1) sNil))) (sSeq (sIf (sCmp 3 (sLoc 1) (sBin 1 (sFld 48 9) (sLit 1))) (sRet 0 (sCall fJ6_bitCount_0f7a4 (sArgI (sLoc 2) sNil))) sSkip) (sSeq (sSet 3 (sLit 0)) (sSeq (sSeq (sSet 4 (sLit 0)) (sWh (sAnd (sCmp 2 (sLoc 4) (sFld 48 10)) (sCmp 2 (sLoc 4) (sLit 24))) (sSeq (sIf (sCmp0 1 (sCall fX11_bit (sArgI (sLoc 2) (sArgI (sLoc 4) sNil)))) (sSet 3 (sBin 0 (sLoc 3) (sCall countBehind (sArgI (sLoc 1) (sArgI (sLoc 4) sNil))))) sSkip) (sInc 4 1)) ik_fuel)) (sRet 0 (sLoc 3)))))))
theorem qX2_countFrom_f0 : MX2_countFrom_f0.1 = fX2_countFrom MX2_countBehind_f0.1 := by
  show sBody [.inr 48, .inl 0] bX2_countFrom_f0.1.2 = _
  unfold bX2_countFrom_f0 fX2_countFrom
  simp only [m_aI, m_aNil, m_aR, m_cAnd, m_cCmp, m_cCmp0, m_cNot, m_eBin, m_eCall, m_eFld, m_eLit, m_eLoc, m_pIf, m_pInc, m_pRet, m_pSeq, m_pSet, m_pSkip, m_pWh, qJ6_bitCount_0f7a4, qX11_bit, qX2_candidates, qX2_isBar]
theorem qX2_countBehind_f1 : MX2_countBehind_f1.1 = fX2_countBehind MX2_countFrom_f0.1 := by
  show sBody [.inr 48, .inl 0, .inl 0] bX2_countBehind_f1.1.2 = _
  unfold bX2_countBehind_f1 fX2_countBehind
  simp only [m_aI, m_aNil, m_aR, m_eBin, m_eCall, m_eLit, m_eLoc, m_pDo, m_pRet, m_pSeq, qX2_put]
theorem qX2_countFrom_f1 : MX2_countFrom_f1.1 = fX2_countFrom MX2_countBehind_f1.1 := by
  show sBody [.inr 48, .inl 0] bX2_countFrom_f1.1.2 = _
  unfold bX2_countFrom_f1 fX2_countFrom
  simp only [m_aI, m_aNil, m_aR, m_cAnd, m_cCmp, m_cCmp0, m_cNot, m_eBin, m_eCall, m_eFld, m_eLit, m_eLoc, m_pIf, m_pInc, m_pRet, m_pSeq, m_pSet, m_pSkip, m_pWh, qJ6_bitCount_0f7a4, qX11_bit, qX2_candidates, qX2_isBar]
theorem qX2_countBehind_f2 : MX2_countBehind_f2.1 = fX2_countBehind MX2_countFrom_f1.1 := by
  show sBody [.inr 48, .inl 0, .inl 0] bX2_countBehind_f2.1.2 = _
  unfold bX2_countBehind_f2 fX2_countBehind
  simp only [m_aI, m_aNil, m_aR, m_eBin, m_eCall, m_eLit, m_eLoc, m_pDo, m_pRet, m_pSeq, qX2_put]
theorem qX2_countFrom_f2 : MX2_countFrom_f2.1 = fX2_countFrom MX2_countBehind_f2.1 := by
  show sBody [.inr 48, .inl 0] bX2_countFrom_f2.1.2 = _
  unfold bX2_countFrom_f2 fX2_countFrom
  simp only [m_aI, m_aNil, m_aR, m_cAnd, m_cCmp, m_cCmp0, m_cNot, m_eBin, m_eCall, m_eFld, m_eLit, m_eLoc, m_pIf, m_pInc, m_pRet, m_pSeq, m_pSet, m_pSkip, m_pWh, qJ6_bitCount_0f7a4, qX11_bit, qX2_candidates, qX2_isBar]
theorem qX2_countBehind_f3 : MX2_countBehind_f3.1 = fX2_countBehind MX2_countFrom_f2.1 := by
  show sBody [.inr 48, .inl 0, .inl 0] bX2_countBehind_f3.1.2 = _
  unfold bX2_countBehind_f3 fX2_countBehind
  simp only [m_aI, m_aNil, m_aR, m_eBin, m_eCall, m_eLit, m_eLoc, m_pDo, m_pRet, m_pSeq, qX2_put]
theorem qX2_countFrom_f3 : MX2_countFrom_f3.1 = fX2_countFrom MX2_countBehind_f3.1 := by
  show sBody [.inr 48, .inl 0] bX2_countFrom_f3.1.2 = _
  unfold bX2_countFrom_f3 fX2_countFrom
  simp only [m_aI, m_aNil, m_aR, m_cAnd, m_cCmp, m_cCmp0, m_cNot, m_eBin, m_eCall, m_eFld, m_eLit, m_eLoc, m_pIf, m_pInc, m_pRet, m_pSeq, m_pSet, m_pSkip, m_pWh, qJ6_bitCount_0f7a4, qX11_bit, qX2_candidates, qX2_isBar]
theorem qX2_countBehind_f4 : MX2_countBehind_f4.1 = fX2_countBehind MX2_countFrom_f3.1 := by
  show sBody [.inr 48, .inl 0, .inl 0] bX2_countBehind_f4.1.2 = _
  unfold bX2_countBehind_f4 fX2_countBehind
  simp only [m_aI, m_aNil, m_aR, m_eBin, m_eCall, m_eLit, m_eLoc, m_pDo, m_pRet, m_pSeq, qX2_put]
theorem qX2_countFrom_f4 : MX2_countFrom_f4.1 = fX2_countFrom MX2_countBehind_f4.1 := by
  show sBody [.inr 48, .inl 0] bX2_countFrom_f4.1.2 = _
  unfold bX2_countFrom_f4 fX2_countFrom
  simp only [m_aI, m_aNil, m_aR, m_cAnd, m_cCmp, m_cCmp0, m_cNot, m_eBin, m_eCall, m_eFld, m_eLit, m_eLoc, m_pIf, m_pInc, m_pRet, m_pSeq, m_pSet, m_pSkip, m_pWh, qJ6_bitCount_0f7a4, qX11_bit, qX2_candidates, qX2_isBar]
def g_countFrom : Nat → FF
  | 0 => fun _ _ => none
  | n + 1 => fX2_countFrom (fX2_countBehind (g_countFrom n))
def fX2_countFrom_f4 : FF := g_countFrom 5
theorem tX2_countFrom_f4 : MX2_countFrom_f4.1 = fX2_countFrom_f4 := by rw [qX2_countFrom_f4, qX2_countBehind_f4, qX2_countFrom_f3, qX2_countBehind_f3, qX2_countFrom_f2, qX2_countBehind_f2, qX2_countFrom_f1, qX2_countBehind_f1, qX2_countFrom_f0, qX2_countBehind_f0]; rfl
def fX2_number : FF := sBody [.inr 48] (sRet 0 (sIte (sCmp0 1 (sCall fX2_hopeful sNil)) (sCall fX2_countFrom_f4 (sArgI (sLit 0) sNil)) (sLit 0)))
theorem qX2_number : MX2_number.1 = fX2_number := by
  show sBody [.inr 48] bX2_number.1.2 = _
  unfold bX2_number fX2_number
  simp only [m_aI, m_aNil, m_aR, m_cCmp0, m_eCall, m_eIte, m_eLit, m_pRet, tX2_countFrom_f4, qX2_hopeful]
def fX11_countWithout : FF := sBody [.inr 0, .inl 0] (sSeq (sDo fX11_prepare sNil) (sSeq (sDo fX11_fit (sArgI (sLoc 1) (sArgI (sCall fX3_least (sArgI (sFld 0 12) sNil)) (sArgI (sCall fX3_greatest (sArgI (sFld 0 12) sNil)) sNil)))) (sRet 0 (sCall fX2_number sNil))))
theorem qX11_countWithout : MX11_countWithout.1 = fX11_countWithout := by
  show sBody [.inr 0, .inl 0] bX11_countWithout.1.2 = _
  unfold bX11_countWithout fX11_countWithout
  simp only [m_aI, m_aNil, m_aR, m_eCall, m_eFld, m_eLoc, m_pDo, m_pRet, m_pSeq, qX11_fit, qX11_prepare, qX2_number, qX3_greatest, qX3_least]
def fX11_fillings : FF := sBody [.inr 0, .inl 0] (sSeq (sIf (sOr (sCmp0 0 (sCall fX0_count sNil)) (sNot (sCmp0 1 (sCall fX11_within (sArgI (sLoc 1) (sArgI (sLit 0) (sArgI (sLit 63) sNil))))))) (sRet 0 (sLit (-1))) sSkip) (sRet 0 (sCall fX11_countWithout (sArgI (sLoc 1) sNil))))
theorem qX11_fillings : MX11_fillings.1 = fX11_fillings := by
  show sBody [.inr 0, .inl 0] bX11_fillings.1.2 = _
  unfold bX11_fillings fX11_fillings
  simp only [m_aI, m_aNil, m_aR, m_cCmp0, m_cNot, m_cOr, m_eCall, m_eLit, m_eLoc, m_pIf, m_pRet, m_pSeq, m_pSkip, qX0_count, qX11_countWithout, qX11_within]
def fX2_weighBehind (weighFrom : FF) : FF := sBody [.inr 48, .inl 0, .inl 0, .inl 1] (sSeq (sDo fX2_put (sArgI (sLoc 1) (sArgI (sLoc 2) sNil))) (sRetL (sCallL weighFrom (sArgI (sBin 0 (sLoc 1) (sLit 1)) (sArgL (sLocL 3) sNil)))))
theorem qX2_weighBehind_f0 : MX2_weighBehind_f0.1 = fX2_weighBehind MX2_weighFrom_x.1 := by
  show sBody [.inr 48, .inl 0, .inl 0, .inl 1] bX2_weighBehind_f0.1.2 = _
  unfold bX2_weighBehind_f0 fX2_weighBehind
  simp only [m_aI, m_aL, m_aNil, m_aR, m_eBin, m_eLit, m_eLoc, m_lCall, m_lLoc, m_pDo, m_pRetL, m_pSeq, qX2_put]
def fX2_weighFrom (weighBehind : FF) : FF := sBody [.inr 48, .inl 0, .inl 1] (sSeq (sIf (sNot (sCmp0 1 (sCall fX2_isBar (sArgI (sLoc 1) sNil)))) (sRetL (sLitL 0)) sSkip) (sSeq (sSet 4 (sCall fX2_candidates (sArgI (sLoc 1) sNil))) (sSeq (sSetL 5 (sLitL 0)) (sSeq (sSeq (sSet 7 (sLit 0)) (sWh (sAnd (sCmp 2 (sLoc 7) (sFld 48 10)) (sCmp 2 (sLoc 7) (sLit 24))) (sSeq (sIf (sCmp0 1 (sCall fX11_bit (sArgI (sLoc 4) (sArgI (sLoc 7) sNil)))) (sSeq (sSetL 8 (sBinL 1 (sLocL 2) (sI2l (sArr 58 24 (sLoc 7))))) (sSeq (sSetL 8 (sIteL (sCmp 2 (sLoc 1) (sBin 1 (sFld 48 9) (sLit 1))) (sCallL weighBehind (sArgI (sLoc 1) (sArgI (sLoc 7) (sArgL (sLocL 8) sNil)))) (sLocL 8))) (sSeq (sAopL 62 96 (sBin 0 (sBin 2 (sLoc 1) (sLit 24)) (sLoc 7)) (sLocL 8)) (sSetL 5 (sBinL 0 (sLocL 5) (sLocL 8)))))) sSkip) (sInc 7 1)) ik_fuel)) (sRetL (sLocL 5))))))
theorem qX2_weighFrom_f0 : MX2_weighFrom_f0.1 = fX2_weighFrom MX2_weighBehind_f0.1 := by
  show sBody [.inr 48, .inl 0, .inl 1] bX2_weighFrom_f0.1.2 = _
  unfold bX2_weighFrom_f0 fX2_weighFrom
  simp only [m_aI, m_aL, m_aNil, m_aR, m_cAnd, m_cCmp, m_cCmp0, m_cNot, m_eArr, m_eBin, m_eCall, m_eFld, m_eLit, m_eLoc, m_lBin, m_lCall, m_lI2l, m_lIte, m_lLit, m_lLoc, m_pAopL, m_pIf, m_pInc, m_pRetL, m_pSeq, m_pSet, m_pSetL, m_pSkip, m_pWh, qX11_bit, qX2_candidates, qX2_isBar]
theorem qX2_weighBehind_f1 : MX2_weighBehind_f1.1 = fX2_weighBehind MX2_weighFrom_f0.1 := by
  show sBody [.inr 48, .inl 0, .inl 0, .inl 1] bX2_weighBehind_f1.1.2 = _
  unfold bX2_weighBehind_f1 fX2_weighBehind
  simp only [m_aI, m_aL, m_aNil, m_aR, m_eBin, m_eLit, m_eLoc, m_lCall, m_lLoc, m_pDo, m_pRetL, m_pSeq, qX2_put]
theorem qX2_weighFrom_f1 : MX2_weighFrom_f1.1 = fX2_weighFrom MX2_weighBehind_f1.1 := by
  show sBody [.inr 48, .inl 0, .inl 1] bX2_weighFrom_f1.1.2 = _
  unfold bX2_weighFrom_f1 fX2_weighFrom
  simp only [m_aI, m_aL, m_aNil, m_aR, m_cAnd, m_cCmp, m_cCmp0, m_cNot, m_eArr, m_eBin, m_eCall, m_eFld, m_eLit, m_eLoc, m_lBin, m_lCall, m_lI2l, m_lIte, m_lLit, m_lLoc, m_pAopL, m_pIf, m_pInc, m_pRetL, m_pSeq, m_pSet, m_pSetL, m_pSkip, m_pWh, qX11_bit, qX2_candidates, qX2_isBar]
theorem qX2_weighBehind_f2 : MX2_weighBehind_f2.1 = fX2_weighBehind MX2_weighFrom_f1.1 := by
  show sBody [.inr 48, .inl 0, .inl 0, .inl 1] bX2_weighBehind_f2.1.2 = _
  unfold bX2_weighBehind_f2 fX2_weighBehind
  simp only [m_aI, m_aL, m_aNil, m_aR, m_eBin, m_eLit, m_eLoc, m_lCall, m_lLoc, m_pDo, m_pRetL, m_pSeq, qX2_put]
theorem qX2_weighFrom_f2 : MX2_weighFrom_f2.1 = fX2_weighFrom MX2_weighBehind_f2.1 := by
  show sBody [.inr 48, .inl 0, .inl 1] bX2_weighFrom_f2.1.2 = _
  unfold bX2_weighFrom_f2 fX2_weighFrom
  simp only [m_aI, m_aL, m_aNil, m_aR, m_cAnd, m_cCmp, m_cCmp0, m_cNot, m_eArr, m_eBin, m_eCall, m_eFld, m_eLit, m_eLoc, m_lBin, m_lCall, m_lI2l, m_lIte, m_lLit, m_lLoc, m_pAopL, m_pIf, m_pInc, m_pRetL, m_pSeq, m_pSet, m_pSetL, m_pSkip, m_pWh, qX11_bit, qX2_candidates, qX2_isBar]
theorem qX2_weighBehind_f3 : MX2_weighBehind_f3.1 = fX2_weighBehind MX2_weighFrom_f2.1 := by
  show sBody [.inr 48, .inl 0, .inl 0, .inl 1] bX2_weighBehind_f3.1.2 = _
  unfold bX2_weighBehind_f3 fX2_weighBehind
  simp only [m_aI, m_aL, m_aNil, m_aR, m_eBin, m_eLit, m_eLoc, m_lCall, m_lLoc, m_pDo, m_pRetL, m_pSeq, qX2_put]
theorem qX2_weighFrom_f3 : MX2_weighFrom_f3.1 = fX2_weighFrom MX2_weighBehind_f3.1 := by
  show sBody [.inr 48, .inl 0, .inl 1] bX2_weighFrom_f3.1.2 = _
  unfold bX2_weighFrom_f3 fX2_weighFrom
  simp only [m_aI, m_aL, m_aNil, m_aR, m_cAnd, m_cCmp, m_cCmp0, m_cNot, m_eArr, m_eBin, m_eCall, m_eFld, m_eLit, m_eLoc, m_lBin, m_lCall, m_lI2l, m_lIte, m_lLit, m_lLoc, m_pAopL, m_pIf, m_pInc, m_pRetL, m_pSeq, m_pSet, m_pSetL, m_pSkip, m_pWh, qX11_bit, qX2_candidates, qX2_isBar]
theorem qX2_weighBehind_f4 : MX2_weighBehind_f4.1 = fX2_weighBehind MX2_weighFrom_f3.1 := by
  show sBody [.inr 48, .inl 0, .inl 0, .inl 1] bX2_weighBehind_f4.1.2 = _
  unfold bX2_weighBehind_f4 fX2_weighBehind
  simp only [m_aI, m_aL, m_aNil, m_aR, m_eBin, m_eLit, m_eLoc, m_lCall, m_lLoc, m_pDo, m_pRetL, m_pSeq, qX2_put]
theorem qX2_weighFrom_f4 : MX2_weighFrom_f4.1 = fX2_weighFrom MX2_weighBehind_f4.1 := by
  show sBody [.inr 48, .inl 0, .inl 1] bX2_weighFrom_f4.1.2 = _
  unfold bX2_weighFrom_f4 fX2_weighFrom
  simp only [m_aI, m_aL, m_aNil, m_aR, m_cAnd, m_cCmp, m_cCmp0, m_cNot, m_eArr, m_eBin, m_eCall, m_eFld, m_eLit, m_eLoc, m_lBin, m_lCall, m_lI2l, m_lIte, m_lLit, m_lLoc, m_pAopL, m_pIf, m_pInc, m_pRetL, m_pSeq, m_pSet, m_pSetL, m_pSkip, m_pWh, qX11_bit, qX2_candidates, qX2_isBar]
def g_weighFrom : Nat → FF
  | 0 => fun _ _ => none
  | n + 1 => fX2_weighFrom (fX2_weighBehind (g_weighFrom n))
def fX2_weighFrom_f4 : FF := g_weighFrom 5
theorem tX2_weighFrom_f4 : MX2_weighFrom_f4.1 = fX2_weighFrom_f4 := by rw [qX2_weighFrom_f4, qX2_weighBehind_f4, qX2_weighFrom_f3, qX2_weighBehind_f3, qX2_weighFrom_f2, qX2_weighBehind_f2, qX2_weighFrom_f1, qX2_weighBehind_f1, qX2_weighFrom_f0, qX2_weighBehind_f0]; rfl
def fX2_weighAll : FF := sBody [.inr 48] (sSeq (sSeq (sSeq (sSet 1 (sLit 0)) (sWh (sCmp 2 (sLoc 1) (sLit (Int32.ofNat 96))) (sSeq (sAstL 62 96 (sLoc 1) (sLitL 0)) (sInc 1 1)) ik_fuel)) (sPutL 48 13 (sIteL (sCmp0 1 (sCall fX2_hopeful sNil)) (sCallL fX2_weighFrom_f4 (sArgI (sLit 0) (sArgL (sLitL 1) sNil))) (sLitL 0)))) sRetV)
theorem qX2_weighAll : MX2_weighAll.1 = fX2_weighAll := by
  refine (m_mkM scX2_weighAll yX2_weighAll [.inr 48] bX2_weighAll _ _ _ _ _).trans ?_
  unfold bX2_weighAll fX2_weighAll
  simp only [m_aI, m_aL, m_aNil, m_aR, m_cCmp, m_cCmp0, m_eCall, m_eLen, m_eLit, m_eLoc, m_lCall, m_lIte, m_lLit, m_pAstL, m_pInc, m_pPutL, m_pRetV, m_pSeq, m_pSet, m_pWh, qX2_hopeful, tX2_weighFrom_f4]
def fX11_weigh : FF := sBody [.inr 0] (sSeq (sSeq (sDo fX11_prepare sNil) (sIf (sNot (sCmp0 1 (sFld 0 14))) (sSeq (sDo fX11_fit (sArgI (sLit 0) (sArgI (sCall fX3_least (sArgI (sFld 0 12) sNil)) (sArgI (sCall fX3_greatest (sArgI (sFld 0 12) sNil)) sNil)))) (sSeq (sDo fX2_weighAll sNil) (sPut 0 14 3 (sLit 1)))) sSkip)) sRetV)
theorem qX11_weigh : MX11_weigh.1 = fX11_weigh := by
  show sBody [.inr 0] bX11_weigh.1.2 = _
  unfold bX11_weigh fX11_weigh
  simp only [m_aI, m_aNil, m_aR, m_cCmp0, m_cNot, m_eCall, m_eFld, m_eLit, m_pDo, m_pIf, m_pPut, m_pRetV, m_pSeq, m_pSkip, qX11_fit, qX11_prepare, qX2_weighAll, qX3_greatest, qX3_least]
def fX2_odds : FF := sBody [.inr 48, .inl 0, .inl 0] (sRetL (sIteL (sAnd (sCmp0 1 (sCall fX2_isBar (sArgI (sLoc 1) sNil))) (sCmp0 1 (sCall fX2_isName (sArgI (sLoc 2) sNil)))) (sArrL 62 96 (sBin 0 (sBin 2 (sLoc 1) (sLit 24)) (sLoc 2))) (sLitL 0)))
theorem qX2_odds : MX2_odds.1 = fX2_odds := by
  show sBody [.inr 48, .inl 0, .inl 0] bX2_odds.1.2 = _
  unfold bX2_odds fX2_odds
  simp only [m_aI, m_aNil, m_cAnd, m_cCmp0, m_eBin, m_eCall, m_eLit, m_eLoc, m_lArr, m_lIte, m_lLit, m_pRetL, qX2_isBar, qX2_isName]
def fX2_may : FF := sBody [.inr 48, .inl 0] (sSeq (sSet 2 (sLit 0)) (sSeq (sSeq (sSet 3 (sLit 0)) (sWh (sCmp 2 (sLoc 3) (sLit 24)) (sSeq (sIf (sCmpL 1 (sCallL fX2_odds (sArgI (sLoc 1) (sArgI (sLoc 3) sNil))) (sLitL 0)) (sSet 2 (sBin 4 (sLoc 2) (sBin 6 (sLit 1) (sLoc 3)))) sSkip) (sInc 3 1)) ik_fuel)) (sRet 0 (sLoc 2))))
theorem qX2_may : MX2_may.1 = fX2_may := by
  show sBody [.inr 48, .inl 0] bX2_may.1.2 = _
  unfold bX2_may fX2_may
  simp only [m_aI, m_aNil, m_aR, m_cCmp, m_cCmpL, m_eBin, m_eLit, m_eLoc, m_lCall, m_lLit, m_pIf, m_pInc, m_pRet, m_pSeq, m_pSet, m_pSkip, m_pWh, qX2_odds]
def fX11_may : FF := sBody [.inr 0, .inl 0] (sSeq (sIf (sNot (sCmp0 1 (sCall fX0_has (sArgI (sLoc 1) sNil)))) (sRet 0 (sLit (-1))) sSkip) (sSeq (sDo fX11_weigh sNil) (sRet 0 (sCall fX2_may (sArgI (sLoc 1) sNil)))))
theorem qX11_may : MX11_may.1 = fX11_may := by
  show sBody [.inr 0, .inl 0] bX11_may.1.2 = _
  unfold bX11_may fX11_may
  simp only [m_aI, m_aNil, m_aR, m_cCmp0, m_cNot, m_eCall, m_eLit, m_eLoc, m_pDo, m_pIf, m_pRet, m_pSeq, m_pSkip, qX0_has, qX11_weigh, qX2_may]
def fX2_all : FF := sBody [.inr 48] (sRetL (sFldL 48 13))
theorem qX2_all : MX2_all.1 = fX2_all := by
  show sBody [.inr 48] bX2_all.1.2 = _
  unfold bX2_all fX2_all
  simp only [m_lFld, m_pRetL]
def fX11_odds : FF := sBody [.inr 0, .inl 0, .inl 0] (sSeq (sIf (sOr (sNot (sCmp0 1 (sCall fX0_has (sArgI (sLoc 1) sNil)))) (sAnd (sCmp 1 (sLoc 2) (sLit (-1))) (sNot (sCmp0 1 (sCall fX6_has (sArgI (sLoc 2) sNil)))))) (sRetL (sLitL (-1))) sSkip) (sSeq (sDo fX11_weigh sNil) (sRetL (sIteL (sCmp 0 (sLoc 2) (sLit (-1))) (sCallL fX2_all sNil) (sCallL fX2_odds (sArgI (sLoc 1) (sArgI (sLoc 2) sNil)))))))
theorem qX11_odds : MX11_odds.1 = fX11_odds := by
  show sBody [.inr 0, .inl 0, .inl 0] bX11_odds.1.2 = _
  unfold bX11_odds fX11_odds
  simp only [m_aI, m_aNil, m_aR, m_cAnd, m_cCmp, m_cCmp0, m_cNot, m_cOr, m_eCall, m_eLit, m_eLoc, m_lCall, m_lIte, m_lLdc, m_pDo, m_pIf, m_pRetL, m_pSeq, m_pSkip, qX0_has, qX11_weigh, qX2_all, qX2_odds, qX6_has]
def fX11_given : FF := sBody [.inr 0] (sSeq (sIf (sCmp0 0 (sCall fX0_count sNil)) (sRet 0 (sLit (-1))) sSkip) (sSeq (sSet 1 (sLit 1)) (sSeq (sSet 2 (sCall fX11_countWithout (sArgI (sLit 1) sNil))) (sSeq (sSeq (sSet 3 (sLit 2)) (sWh (sCmp 5 (sLoc 3) (sLit 32)) (sSeq (sSeq (sSet 4 (sCall fX11_countWithout (sArgI (sLoc 3) sNil))) (sIf (sCmp 4 (sLoc 4) (sLoc 2)) (sSeq (sSet 2 (sLoc 4)) (sSet 1 (sLoc 3))) sSkip)) (sSet 3 (sBin 2 (sLoc 3) (sLit 2)))) ik_fuel)) (sRet 0 (sLoc 1))))))
theorem qX11_given : MX11_given.1 = fX11_given := by
  show sBody [.inr 0] bX11_given.1.2 = _
  unfold bX11_given fX11_given
  simp only [m_aI, m_aNil, m_aR, m_cCmp, m_cCmp0, m_eBin, m_eCall, m_eLit, m_eLoc, m_pIf, m_pRet, m_pSeq, m_pSet, m_pSkip, m_pWh, qX0_count, qX11_countWithout]
def fX2_reachBehind (reachFrom : FF) : FF := sBody [.inr 48, .inl 0, .inl 0] (sSeq (sDo fX2_put (sArgI (sLoc 1) (sArgI (sLoc 2) sNil))) (sRet 3 (sCall reachFrom (sArgI (sBin 0 (sLoc 1) (sLit 1)) sNil))))
theorem qX2_reachBehind_f0 : MX2_reachBehind_f0.1 = fX2_reachBehind MX2_reachFrom_x.1 := by
  show sBody [.inr 48, .inl 0, .inl 0] bX2_reachBehind_f0.1.2 = _
  unfold bX2_reachBehind_f0 fX2_reachBehind
  simp only [m_aI, m_aNil, m_aR, m_eBin, m_eCall, m_eLit, m_eLoc, m_pDo, m_pRet, m_pSeq, qX2_put]
def fX2_reachFrom (reachBehind : FF) : FF := sBody [.inr 48, .inl 0] (sSeq (sIf (sNot (sCmp0 1 (sCall fX2_isBar (sArgI (sLoc 1) sNil)))) (sRet 3 (sLit 0)) sSkip) (sSeq (sSet 2 (sCall fX2_candidates (sArgI (sLoc 1) sNil))) (sSeq (sIf (sCmp 2 (sLoc 1) (sBin 1 (sFld 48 9) (sLit 1))) (sSeq (sSet 3 (sLit 0)) (sWh (sAnd (sCmp 2 (sLoc 3) (sFld 48 10)) (sCmp 2 (sLoc 3) (sLit 24))) (sSeq (sIf (sAnd (sCmp0 1 (sCall fX11_bit (sArgI (sLoc 2) (sArgI (sLoc 3) sNil)))) (sNot (sCmp0 1 (sCall reachBehind (sArgI (sLoc 1) (sArgI (sLoc 3) sNil)))))) (sSet 2 (sBin 3 (sLoc 2) (sBin 5 (sBin 6 (sLit 1) (sLoc 3)) (sLit (-1))))) sSkip) (sInc 3 1)) ik_fuel)) sSkip) (sSeq (sAop 61 4 4 (sLoc 1) (sLoc 2)) (sRet 3 (sIte (sCmp0 1 (sLoc 2)) (sLit 1) (sLit 0)))))))
theorem qX2_reachFrom_f0 : MX2_reachFrom_f0.1 = fX2_reachFrom MX2_reachBehind_f0.1 := by
  show sBody [.inr 48, .inl 0] bX2_reachFrom_f0.1.2 = _
  unfold bX2_reachFrom_f0 fX2_reachFrom
  simp only [m_aI, m_aNil, m_aR, m_cAnd, m_cCmp, m_cCmp0, m_cNot, m_eBin, m_eCall, m_eFld, m_eIte, m_eLit, m_eLoc, m_pAop, m_pIf, m_pInc, m_pRet, m_pSeq, m_pSet, m_pSkip, m_pWh, qX11_bit, qX2_candidates, qX2_isBar]
theorem qX2_reachBehind_f1 : MX2_reachBehind_f1.1 = fX2_reachBehind MX2_reachFrom_f0.1 := by
  show sBody [.inr 48, .inl 0, .inl 0] bX2_reachBehind_f1.1.2 = _
  unfold bX2_reachBehind_f1 fX2_reachBehind
  simp only [m_aI, m_aNil, m_aR, m_eBin, m_eCall, m_eLit, m_eLoc, m_pDo, m_pRet, m_pSeq, qX2_put]
theorem qX2_reachFrom_f1 : MX2_reachFrom_f1.1 = fX2_reachFrom MX2_reachBehind_f1.1 := by
  show sBody [.inr 48, .inl 0] bX2_reachFrom_f1.1.2 = _
  unfold bX2_reachFrom_f1 fX2_reachFrom
  simp only [m_aI, m_aNil, m_aR, m_cAnd, m_cCmp, m_cCmp0, m_cNot, m_eBin, m_eCall, m_eFld, m_eIte, m_eLit, m_eLoc, m_pAop, m_pIf, m_pInc, m_pRet, m_pSeq, m_pSet, m_pSkip, m_pWh, qX11_bit, qX2_candidates, qX2_isBar]
theorem qX2_reachBehind_f2 : MX2_reachBehind_f2.1 = fX2_reachBehind MX2_reachFrom_f1.1 := by
  show sBody [.inr 48, .inl 0, .inl 0] bX2_reachBehind_f2.1.2 = _
  unfold bX2_reachBehind_f2 fX2_reachBehind
  simp only [m_aI, m_aNil, m_aR, m_eBin, m_eCall, m_eLit, m_eLoc, m_pDo, m_pRet, m_pSeq, qX2_put]
theorem qX2_reachFrom_f2 : MX2_reachFrom_f2.1 = fX2_reachFrom MX2_reachBehind_f2.1 := by
  show sBody [.inr 48, .inl 0] bX2_reachFrom_f2.1.2 = _
  unfold bX2_reachFrom_f2 fX2_reachFrom
  simp only [m_aI, m_aNil, m_aR, m_cAnd, m_cCmp, m_cCmp0, m_cNot, m_eBin, m_eCall, m_eFld, m_eIte, m_eLit, m_eLoc, m_pAop, m_pIf, m_pInc, m_pRet, m_pSeq, m_pSet, m_pSkip, m_pWh, qX11_bit, qX2_candidates, qX2_isBar]
theorem qX2_reachBehind_f3 : MX2_reachBehind_f3.1 = fX2_reachBehind MX2_reachFrom_f2.1 := by
  show sBody [.inr 48, .inl 0, .inl 0] bX2_reachBehind_f3.1.2 = _
  unfold bX2_reachBehind_f3 fX2_reachBehind
  simp only [m_aI, m_aNil, m_aR, m_eBin, m_eCall, m_eLit, m_eLoc, m_pDo, m_pRet, m_pSeq, qX2_put]
theorem qX2_reachFrom_f3 : MX2_reachFrom_f3.1 = fX2_reachFrom MX2_reachBehind_f3.1 := by
  show sBody [.inr 48, .inl 0] bX2_reachFrom_f3.1.2 = _
  unfold bX2_reachFrom_f3 fX2_reachFrom
  simp only [m_aI, m_aNil, m_aR, m_cAnd, m_cCmp, m_cCmp0, m_cNot, m_eBin, m_eCall, m_eFld, m_eIte, m_eLit, m_eLoc, m_pAop, m_pIf, m_pInc, m_pRet, m_pSeq, m_pSet, m_pSkip, m_pWh, qX11_bit, qX2_candidates, qX2_isBar]
theorem qX2_reachBehind_f4 : MX2_reachBehind_f4.1 = fX2_reachBehind MX2_reachFrom_f3.1 := by
  show sBody [.inr 48, .inl 0, .inl 0] bX2_reachBehind_f4.1.2 = _
  unfold bX2_reachBehind_f4 fX2_reachBehind
  simp only [m_aI, m_aNil, m_aR, m_eBin, m_eCall, m_eLit, m_eLoc, m_pDo, m_pRet, m_pSeq, qX2_put]
theorem qX2_reachFrom_f4 : MX2_reachFrom_f4.1 = fX2_reachFrom MX2_reachBehind_f4.1 := by
  show sBody [.inr 48, .inl 0] bX2_reachFrom_f4.1.2 = _
  unfold bX2_reachFrom_f4 fX2_reachFrom
  simp only [m_aI, m_aNil, m_aR, m_cAnd, m_cCmp, m_cCmp0, m_cNot, m_eBin, m_eCall, m_eFld, m_eIte, m_eLit, m_eLoc, m_pAop, m_pIf, m_pInc, m_pRet, m_pSeq, m_pSet, m_pSkip, m_pWh, qX11_bit, qX2_candidates, qX2_isBar]
def g_reachFrom : Nat → FF
  | 0 => fun _ _ => none
  | n + 1 => fX2_reachFrom (fX2_reachBehind (g_reachFrom n))
def fX2_reachFrom_f4 : FF := g_reachFrom 5
theorem tX2_reachFrom_f4 : MX2_reachFrom_f4.1 = fX2_reachFrom_f4 := by rw [qX2_reachFrom_f4, qX2_reachBehind_f4, qX2_reachFrom_f3, qX2_reachBehind_f3, qX2_reachFrom_f2, qX2_reachBehind_f2, qX2_reachFrom_f1, qX2_reachBehind_f1, qX2_reachFrom_f0, qX2_reachBehind_f0]; rfl
def fX2_fewest : FF := sBody [.inr 48] (sSeq (sSeq (sSet 1 (sLit 0)) (sWh (sCmp 2 (sLoc 1) (sLit 4)) (sSeq (sAst 61 0 4 (sLoc 1) (sLit 0)) (sInc 1 1)) ik_fuel)) (sSeq (sIf (sOr (sNot (sCmp0 1 (sCall fX2_hopeful sNil))) (sNot (sCmp0 1 (sCall fX2_reachFrom_f4 (sArgI (sLit 0) sNil))))) (sRet 0 (sLit 0)) sSkip) (sSeq (sSet 1 (sLit 24)) (sSeq (sSeq (sSet 2 (sLit 0)) (sWh (sAnd (sCmp 2 (sLoc 2) (sFld 48 9)) (sCmp 2 (sLoc 2) (sLit 4))) (sSeq (sSet 1 (sCall fJ9_min_7cf53 (sArgI (sLoc 1) (sArgI (sCall fJ6_bitCount_0f7a4 (sArgI (sArr 61 4 (sLoc 2)) sNil)) sNil)))) (sInc 2 1)) ik_fuel)) (sRet 0 (sLoc 1))))))
theorem qX2_fewest : MX2_fewest.1 = fX2_fewest := by
  show sBody [.inr 48] bX2_fewest.1.2 = _
  unfold bX2_fewest fX2_fewest
  simp only [m_aI, m_aNil, m_aR, m_cAnd, m_cCmp, m_cCmp0, m_cNot, m_cOr, m_eArr, m_eCall, m_eFld, m_eLit, m_eLoc, m_pAst, m_pIf, m_pInc, m_pRet, m_pSeq, m_pSet, m_pSkip, m_pWh, qJ6_bitCount_0f7a4, qJ9_min_7cf53, qX2_hopeful, tX2_reachFrom_f4]
def fX11_keeps : FF := sBody [.inr 0, .inl 0, .inl 0] (sSeq (sDo fX11_fit (sArgI (sLit 0) (sArgI (sLit 0) (sArgI (sLoc 2) sNil)))) (sRet 3 (sIte (sCmp 3 (sCall fX2_fewest sNil) (sLoc 1)) (sLit 1) (sLit 0))))
theorem qX11_keeps : MX11_keeps.1 = fX11_keeps := by
  show sBody [.inr 0, .inl 0, .inl 0] bX11_keeps.1.2 = _
  unfold bX11_keeps fX11_keeps
  simp only [m_aI, m_aNil, m_aR, m_cCmp, m_eCall, m_eIte, m_eLit, m_eLoc, m_pDo, m_pRet, m_pSeq, qX11_fit, qX2_fewest]
def fX11_kept : FF := sBody [.inr 0, .inl 0] (sSeq (sIf (sOr (sCmp0 0 (sCall fX0_count sNil)) (sNot (sCmp0 1 (sCall fX11_within (sArgI (sLoc 1) (sArgI (sLit 1) (sArgI (sLit 24) sNil))))))) (sRet 0 (sLit (-1))) sSkip) (sSeq (sDo fX11_prepare sNil) (sSeq (sIf (sNot (sCmp0 1 (sCall fX11_keeps (sArgI (sLoc 1) (sArgI (sLit 200) sNil))))) (sRet 0 (sLit (-1))) sSkip) (sSeq (sSet 2 (sLit 0)) (sSeq (sSet 3 (sLit 200)) (sSeq (sSeq (sSet 4 (sLit 0)) (sWh (sAnd (sCmp 2 (sLoc 4) (sLit 10)) (sCmp 2 (sLoc 2) (sLoc 3))) (sSeq (sSeq (sSet 5 (sBin 9 (sBin 0 (sLoc 2) (sLoc 3)) (sLit 2))) (sIf (sCmp0 1 (sCall fX11_keeps (sArgI (sLoc 1) (sArgI (sLoc 5) sNil)))) (sSet 3 (sLoc 5)) (sSet 2 (sBin 0 (sLoc 5) (sLit 1))))) (sInc 4 1)) ik_fuel)) (sRet 0 (sLoc 3))))))))
theorem qX11_kept : MX11_kept.1 = fX11_kept := by
  show sBody [.inr 0, .inl 0] bX11_kept.1.2 = _
  unfold bX11_kept fX11_kept
  simp only [m_aI, m_aNil, m_aR, m_cAnd, m_cCmp, m_cCmp0, m_cNot, m_cOr, m_eBin, m_eCall, m_eLit, m_eLoc, m_pDo, m_pIf, m_pInc, m_pRet, m_pSeq, m_pSet, m_pSkip, m_pWh, qX0_count, qX11_keeps, qX11_prepare, qX11_within]
def fX2_likeliest : FF := sBody [.inr 48, .inl 0] (sSeq (sSet 2 (sLit 0)) (sSeq (sSeq (sSet 3 (sLit 1)) (sWh (sCmp 2 (sLoc 3) (sLit 24)) (sSeq (sIf (sCmpL 4 (sCallL fX2_odds (sArgI (sLoc 1) (sArgI (sLoc 3) sNil))) (sCallL fX2_odds (sArgI (sLoc 1) (sArgI (sLoc 2) sNil)))) (sSet 2 (sLoc 3)) sSkip) (sInc 3 1)) ik_fuel)) (sRet 0 (sLoc 2))))
theorem qX2_likeliest : MX2_likeliest.1 = fX2_likeliest := by
  show sBody [.inr 48, .inl 0] bX2_likeliest.1.2 = _
  unfold bX2_likeliest fX2_likeliest
  simp only [m_aI, m_aNil, m_aR, m_cCmp, m_cCmpL, m_eLit, m_eLoc, m_lCall, m_pIf, m_pInc, m_pRet, m_pSeq, m_pSet, m_pSkip, m_pWh, qX2_odds]
def fX6_oneSort : FF := sBody [.inr 6, .inl 0] (sSeq (sSet 2 (sLit (-1))) (sSeq (sSeq (sSet 3 (sLit 0)) (sWh (sAnd (sCmp 2 (sLoc 3) (sFld 6 6)) (sCmp 2 (sLoc 3) (sLit 24))) (sSeq (sIf (sCmp0 1 (sCall fX11_bit (sArgI (sLoc 1) (sArgI (sLoc 3) sNil)))) (sSeq (sIf (sAnd (sCmp 1 (sLoc 2) (sLit (-1))) (sCmp 1 (sLoc 2) (sArr 10 24 (sLoc 3)))) (sRet 0 (sLit (-1))) sSkip) (sSet 2 (sArr 10 24 (sLoc 3)))) sSkip) (sInc 3 1)) ik_fuel)) (sRet 0 (sLoc 2))))
theorem qX6_oneSort : MX6_oneSort.1 = fX6_oneSort := by
  show sBody [.inr 6, .inl 0] bX6_oneSort.1.2 = _
  unfold bX6_oneSort fX6_oneSort
  simp only [m_aI, m_aNil, m_cAnd, m_cCmp, m_cCmp0, m_eArr, m_eCall, m_eFld, m_eLit, m_eLoc, m_pIf, m_pInc, m_pRet, m_pSeq, m_pSet, m_pSkip, m_pWh, qX11_bit]
def fX11_said : FF := sBody [.inr 0, .inl 0, .inl 0, .inl 0] (sSeq (sIf (sOr (sOr (sNot (sCmp0 1 (sCall fX0_has (sArgI (sLoc 1) sNil)))) (sNot (sCmp0 1 (sCall fX11_within (sArgI (sLoc 2) (sArgI (sLit 1) (sArgI (sLit 1000) sNil))))))) (sNot (sCmp0 1 (sCall fX11_within (sArgI (sLoc 3) (sArgI (sLit 0) (sArgI (sLit 1) sNil))))))) (sRet 0 (sLit (-1))) sSkip) (sSeq (sDo fX11_weigh sNil) (sSeq (sSet 4 (sCall fX2_may (sArgI (sLoc 1) sNil))) (sSeq (sIf (sCmp0 0 (sLoc 4)) (sRet 0 (sIte (sCmp0 0 (sLoc 3)) (sLit 0) (sLit (-1)))) sSkip) (sSeq (sSet 5 (sCall fX2_likeliest (sArgI (sLoc 1) sNil))) (sSeq (sIf (sCmp 0 (sCall fJ6_bitCount_0f7a4 (sArgI (sLoc 4) sNil)) (sLit 1)) (sRet 0 (sIte (sCmp0 0 (sLoc 3)) (sLit 1) (sLoc 5))) sSkip) (sSeq (sIf (sCmpL 3 (sBinL 1 (sCallL fX2_odds (sArgI (sLoc 1) (sArgI (sLoc 5) sNil))) (sLitL 1000)) (sBinL 1 (sCallL fX2_all sNil) (sI2l (sLoc 2)))) (sRet 0 (sIte (sCmp0 0 (sLoc 3)) (sLit 2) (sLoc 5))) sSkip) (sSeq (sSet 6 (sCall fX6_oneSort (sArgI (sLoc 4) sNil))) (sSeq (sIf (sCmp 1 (sLoc 6) (sLit (-1))) (sRet 0 (sIte (sCmp0 0 (sLoc 3)) (sLit 3) (sLoc 6))) sSkip) (sRet 0 (sIte (sCmp0 0 (sLoc 3)) (sLit 4) (sLit (-1)))))))))))))
theorem qX11_said : MX11_said.1 = fX11_said := by
  show sBody [.inr 0, .inl 0, .inl 0, .inl 0] bX11_said.1.2 = _
  unfold bX11_said fX11_said
  simp only [m_aI, m_aNil, m_aR, m_cCmp, m_cCmp0, m_cCmpL, m_cNot, m_cOr, m_eCall, m_eIte, m_eLit, m_eLoc, m_lBin, m_lCall, m_lI2l, m_lLdc, m_pDo, m_pIf, m_pRet, m_pSeq, m_pSet, m_pSkip, qJ6_bitCount_0f7a4, qX0_has, qX11_weigh, qX11_within, qX2_all, qX2_likeliest, qX2_may, qX2_odds, qX6_oneSort]
def fX11_isDay : FF := sBody [.inl 0] (sRet 3 (sCall fX11_within (sArgI (sLoc 0) (sArgI (sLit 0) (sArgI (sLit 9999) sNil)))))
theorem qX11_isDay : MX11_isDay.1 = fX11_isDay := by
  show sBody [.inl 0] bX11_isDay.1.2 = _
  unfold bX11_isDay fX11_isDay
  simp only [m_aI, m_aNil, m_eCall, m_eLit, m_eLoc, m_pRet, qX11_within]
def fX1_full : FF := sBody [.inr 43] (sRet 3 (sIte (sCmp 3 (sFld 43 4) (sLit 8)) (sLit 1) (sLit 0)))
theorem qX1_full : MX1_full.1 = fX1_full := by
  show sBody [.inr 43] bX1_full.1.2 = _
  unfold bX1_full fX1_full
  simp only [m_cCmp, m_eFld, m_eIte, m_eLit, m_pRet]
def fX8_allTokens : FF := sBody [.inr 25, .inl 0] (sRet 0 (sBin 1 (sBin 6 (sLit 1) (sCall fX8_tokens (sArgI (sLoc 1) sNil))) (sLit 1)))
theorem qX8_allTokens : MX8_allTokens.1 = fX8_allTokens := by
  show sBody [.inr 25, .inl 0] bX8_allTokens.1.2 = _
  unfold bX8_allTokens fX8_allTokens
  simp only [m_aI, m_aNil, m_aR, m_eBin, m_eCall, m_eLit, m_eLoc, m_pRet, qX8_tokens]
def fX1_add : FF := sBody [.inr 43, .inl 0, .inl 0, .inl 0, .inl 0] (sSeq (sIf (sOr (sCmp0 1 (sCall fX1_full sNil)) (sCmp0 2 (sFld 43 4))) (sRet 0 (sLit (-1))) sSkip) (sSeq (sAst 44 0 8 (sFld 43 4) (sLoc 1)) (sSeq (sAst 45 0 8 (sFld 43 4) (sLoc 2)) (sSeq (sAst 46 0 8 (sFld 43 4) (sLoc 3)) (sSeq (sAst 47 0 8 (sFld 43 4) (sLoc 4)) (sSeq (sPutOp 43 4 0 (sLit 1)) (sRet 0 (sBin 1 (sFld 43 4) (sLit 1)))))))))
theorem qX1_add : MX1_add.1 = fX1_add := by
  show sBody [.inr 43, .inl 0, .inl 0, .inl 0, .inl 0] bX1_add.1.2 = _
  unfold bX1_add fX1_add
  simp only [m_aNil, m_aR, m_cCmp0, m_cOr, m_eBin, m_eCall, m_eFld, m_eLit, m_eLoc, m_pAst, m_pIf, m_pPutOp, m_pRet, m_pSeq, m_pSkip, qX1_full]
def fX11_copy : FF := sBody [.inr 0, .inl 0, .inl 0, .inl 0, .inl 0] (sSeq (sIf (sOr (sOr (sOr (sNot (sCmp0 1 (sCall fX8_has (sArgI (sLoc 1) sNil)))) (sNot (sCmp0 1 (sCall fX11_isDay (sArgI (sLoc 2) sNil))))) (sNot (sCmp0 1 (sCall fX11_isHouse (sArgI (sLoc 3) sNil))))) (sCmp0 1 (sCall fX1_full sNil))) (sRet 0 (sLit (-1))) sSkip) (sSeq (sIf (sNot (sCmp0 1 (sCall fX11_within (sArgI (sLoc 4) (sArgI (sLit 0) (sArgI (sCall fX8_allTokens (sArgI (sLoc 1) sNil)) sNil)))))) (sRet 0 (sLit (-1))) sSkip) (sRet 0 (sCall fX1_add (sArgI (sLoc 1) (sArgI (sLoc 2) (sArgI (sLoc 3) (sArgI (sLoc 4) sNil))))))))
theorem qX11_copy : MX11_copy.1 = fX11_copy := by
  show sBody [.inr 0, .inl 0, .inl 0, .inl 0, .inl 0] bX11_copy.1.2 = _
  unfold bX11_copy fX11_copy
  simp only [m_aI, m_aNil, m_aR, m_cCmp0, m_cNot, m_cOr, m_eCall, m_eLit, m_eLoc, m_pIf, m_pRet, m_pSeq, m_pSkip, qX11_isDay, qX11_isHouse, qX11_within, qX1_add, qX1_full, qX8_allTokens, qX8_has]
def fX1_openBy : FF := sBody [.inr 43, .inl 0, .inl 0, .inl 0] (sSeq (sSet 4 (sLit 0)) (sSeq (sSeq (sSet 5 (sLit 0)) (sWh (sAnd (sCmp 2 (sLoc 5) (sFld 43 4)) (sCmp 2 (sLoc 5) (sLit 8))) (sSeq (sIf (sAnd (sCmp 0 (sArr 44 8 (sLoc 5)) (sLoc 1)) (sCmp 5 (sArr 45 8 (sLoc 5)) (sLoc 2))) (sSet 4 (sBin 4 (sLoc 4) (sBin 3 (sLoc 3) (sBin 5 (sArr 47 8 (sLoc 5)) (sLit (-1)))))) sSkip) (sInc 5 1)) ik_fuel)) (sRet 0 (sLoc 4))))
theorem qX1_openBy : MX1_openBy.1 = fX1_openBy := by
  show sBody [.inr 43, .inl 0, .inl 0, .inl 0] bX1_openBy.1.2 = _
  unfold bX1_openBy fX1_openBy
  simp only [m_cAnd, m_cCmp, m_eArr, m_eBin, m_eFld, m_eLit, m_eLoc, m_pIf, m_pInc, m_pRet, m_pSeq, m_pSet, m_pSkip, m_pWh]
def fX11_open : FF := sBody [.inr 0, .inl 0, .inl 0] (sRet 0 (sIte (sAnd (sCmp0 1 (sCall fX8_has (sArgI (sLoc 1) sNil))) (sCmp0 1 (sCall fX11_isDay (sArgI (sLoc 2) sNil)))) (sCall fX1_openBy (sArgI (sLoc 1) (sArgI (sLoc 2) (sArgI (sCall fX8_allTokens (sArgI (sLoc 1) sNil)) sNil)))) (sLit (-1))))
theorem qX11_open : MX11_open.1 = fX11_open := by
  show sBody [.inr 0, .inl 0, .inl 0] bX11_open.1.2 = _
  unfold bX11_open fX11_open
  simp only [m_aI, m_aNil, m_aR, m_cAnd, m_cCmp0, m_eCall, m_eIte, m_eLit, m_eLoc, m_pRet, qX11_isDay, qX1_openBy, qX8_allTokens, qX8_has]
def fX1_has : FF := sBody [.inr 43, .inl 0] (sRet 3 (sIte (sAnd (sAnd (sCmp0 3 (sLoc 1)) (sCmp 2 (sLoc 1) (sFld 43 4))) (sCmp 2 (sLoc 1) (sLit 8))) (sLit 1) (sLit 0)))
theorem qX1_has : MX1_has.1 = fX1_has := by
  show sBody [.inr 43, .inl 0] bX1_has.1.2 = _
  unfold bX1_has fX1_has
  simp only [m_cAnd, m_cCmp, m_cCmp0, m_eFld, m_eIte, m_eLit, m_eLoc, m_pRet]
def fX1_sheet : FF := sBody [.inr 43, .inl 0] (sRet 0 (sIte (sCmp0 1 (sCall fX1_has (sArgI (sLoc 1) sNil))) (sArr 44 8 (sLoc 1)) (sLit (-1))))
theorem qX1_sheet : MX1_sheet.1 = fX1_sheet := by
  show sBody [.inr 43, .inl 0] bX1_sheet.1.2 = _
  unfold bX1_sheet fX1_sheet
  simp only [m_aI, m_aNil, m_aR, m_cCmp0, m_eArr, m_eCall, m_eIte, m_eLit, m_eLoc, m_pRet, qX1_has]
def fX1_covered : FF := sBody [.inr 43, .inl 0] (sRet 0 (sIte (sCmp0 1 (sCall fX1_has (sArgI (sLoc 1) sNil))) (sArr 47 8 (sLoc 1)) (sLit 0)))
theorem qX1_covered : MX1_covered.1 = fX1_covered := by
  show sBody [.inr 43, .inl 0] bX1_covered.1.2 = _
  unfold bX1_covered fX1_covered
  simp only [m_aI, m_aNil, m_aR, m_cCmp0, m_eArr, m_eCall, m_eIte, m_eLit, m_eLoc, m_pRet, qX1_has]
def fX1_day : FF := sBody [.inr 43, .inl 0] (sRet 0 (sIte (sCmp0 1 (sCall fX1_has (sArgI (sLoc 1) sNil))) (sArr 45 8 (sLoc 1)) (sLit (-1))))
theorem qX1_day : MX1_day.1 = fX1_day := by
  show sBody [.inr 43, .inl 0] bX1_day.1.2 = _
  unfold bX1_day fX1_day
  simp only [m_aI, m_aNil, m_aR, m_cCmp0, m_eArr, m_eCall, m_eIte, m_eLit, m_eLoc, m_pRet, qX1_has]
def fX11_needless : FF := sBody [.inr 0, .inl 0] (sSeq (sIf (sNot (sCmp0 1 (sCall fX1_has (sArgI (sLoc 1) sNil)))) (sRet 0 (sLit (-1))) sSkip) (sSeq (sSet 2 (sCall fX1_sheet (sArgI (sLoc 1) sNil))) (sRet 0 (sBin 3 (sCall fX1_covered (sArgI (sLoc 1) sNil)) (sCall fX1_openBy (sArgI (sLoc 2) (sArgI (sBin 1 (sCall fX1_day (sArgI (sLoc 1) sNil)) (sLit 1)) (sArgI (sCall fX8_allTokens (sArgI (sLoc 2) sNil)) sNil))))))))
theorem qX11_needless : MX11_needless.1 = fX11_needless := by
  show sBody [.inr 0, .inl 0] bX11_needless.1.2 = _
  unfold bX11_needless fX11_needless
  simp only [m_aI, m_aNil, m_aR, m_cCmp0, m_cNot, m_eBin, m_eCall, m_eLit, m_eLoc, m_pIf, m_pRet, m_pSeq, m_pSet, m_pSkip, qX1_covered, qX1_day, qX1_has, qX1_openBy, qX1_sheet, qX8_allTokens]
def fX1_firstOpen : FF := sBody [.inr 43, .inl 0, .inl 0] (sSeq (sSet 3 (sLit (-1))) (sSeq (sSeq (sSet 4 (sLit 0)) (sWh (sAnd (sCmp 2 (sLoc 4) (sFld 43 4)) (sCmp 2 (sLoc 4) (sLit 8))) (sSeq (sIf (sAnd (sAnd (sCmp 0 (sArr 44 8 (sLoc 4)) (sLoc 1)) (sNot (sCmp0 1 (sCall fX11_bit (sArgI (sArr 47 8 (sLoc 4)) (sArgI (sLoc 2) sNil)))))) (sOr (sCmp 0 (sLoc 3) (sLit (-1))) (sCmp 2 (sArr 45 8 (sLoc 4)) (sLoc 3)))) (sSet 3 (sArr 45 8 (sLoc 4))) sSkip) (sInc 4 1)) ik_fuel)) (sRet 0 (sLoc 3))))
theorem qX1_firstOpen : MX1_firstOpen.1 = fX1_firstOpen := by
  show sBody [.inr 43, .inl 0, .inl 0] bX1_firstOpen.1.2 = _
  unfold bX1_firstOpen fX1_firstOpen
  simp only [m_aI, m_aNil, m_cAnd, m_cCmp, m_cCmp0, m_cNot, m_cOr, m_eArr, m_eCall, m_eFld, m_eLit, m_eLoc, m_pIf, m_pInc, m_pRet, m_pSeq, m_pSet, m_pSkip, m_pWh, qX11_bit]
def fX11_since : FF := sBody [.inr 0, .inl 0, .inl 0] (sRet 0 (sIte (sAnd (sCmp0 1 (sCall fX8_has (sArgI (sLoc 1) sNil))) (sCmp0 1 (sCall fX11_within (sArgI (sLoc 2) (sArgI (sLit 0) (sArgI (sBin 1 (sCall fX8_tokens (sArgI (sLoc 1) sNil)) (sLit 1)) sNil)))))) (sCall fX1_firstOpen (sArgI (sLoc 1) (sArgI (sLoc 2) sNil))) (sLit (-1))))
theorem qX11_since : MX11_since.1 = fX11_since := by
  show sBody [.inr 0, .inl 0, .inl 0] bX11_since.1.2 = _
  unfold bX11_since fX11_since
  simp only [m_aI, m_aNil, m_aR, m_cAnd, m_cCmp0, m_eBin, m_eCall, m_eIte, m_eLit, m_eLoc, m_pRet, qX11_within, qX1_firstOpen, qX8_has, qX8_tokens]
def fX11_twice : FF := sBody [.inr 0, .inl 0, .inl 0] (sSeq (sIf (sOr (sOr (sOr (sNot (sCmp0 1 (sCall fX1_has (sArgI (sLoc 1) sNil)))) (sNot (sCmp0 1 (sCall fX1_has (sArgI (sLoc 2) sNil))))) (sCmp 0 (sLoc 1) (sLoc 2))) (sCmp 1 (sCall fX1_sheet (sArgI (sLoc 1) sNil)) (sCall fX1_sheet (sArgI (sLoc 2) sNil)))) (sRet 0 (sLit (-1))) sSkip) (sRet 0 (sBin 3 (sCall fX1_covered (sArgI (sLoc 1) sNil)) (sCall fX1_covered (sArgI (sLoc 2) sNil)))))
theorem qX11_twice : MX11_twice.1 = fX11_twice := by
  show sBody [.inr 0, .inl 0, .inl 0] bX11_twice.1.2 = _
  unfold bX11_twice fX11_twice
  simp only [m_aI, m_aNil, m_aR, m_cCmp, m_cCmp0, m_cNot, m_cOr, m_eBin, m_eCall, m_eLit, m_eLoc, m_pIf, m_pRet, m_pSeq, m_pSkip, qX1_covered, qX1_has, qX1_sheet]
def fX1_copied : FF := sBody [.inr 43, .inl 0, .inl 0] (sSeq (sSeq (sSet 3 (sLit 0)) (sWh (sAnd (sCmp 2 (sLoc 3) (sFld 43 4)) (sCmp 2 (sLoc 3) (sLit 8))) (sSeq (sIf (sAnd (sCmp 0 (sArr 44 8 (sLoc 3)) (sLoc 2)) (sCmp 0 (sArr 46 8 (sLoc 3)) (sLoc 1))) (sRet 3 (sLit 1)) sSkip) (sInc 3 1)) ik_fuel)) (sRet 3 (sLit 0)))
theorem qX1_copied : MX1_copied.1 = fX1_copied := by
  show sBody [.inr 43, .inl 0, .inl 0] bX1_copied.1.2 = _
  unfold bX1_copied fX1_copied
  simp only [m_cAnd, m_cCmp, m_eArr, m_eFld, m_eLit, m_eLoc, m_pIf, m_pInc, m_pRet, m_pSeq, m_pSet, m_pSkip, m_pWh]
def fX1_coveredBy : FF := sBody [.inr 43, .inl 0, .inl 0] (sSeq (sSet 3 (sLit 0)) (sSeq (sSeq (sSet 4 (sLit 0)) (sWh (sAnd (sCmp 2 (sLoc 4) (sFld 43 4)) (sCmp 2 (sLoc 4) (sLit 8))) (sSeq (sIf (sAnd (sCmp 0 (sArr 44 8 (sLoc 4)) (sLoc 2)) (sCmp 0 (sArr 46 8 (sLoc 4)) (sLoc 1))) (sSet 3 (sBin 4 (sLoc 3) (sArr 47 8 (sLoc 4)))) sSkip) (sInc 4 1)) ik_fuel)) (sRet 0 (sLoc 3))))
theorem qX1_coveredBy : MX1_coveredBy.1 = fX1_coveredBy := by
  show sBody [.inr 43, .inl 0, .inl 0] bX1_coveredBy.1.2 = _
  unfold bX1_coveredBy fX1_coveredBy
  simp only [m_cAnd, m_cCmp, m_eArr, m_eBin, m_eFld, m_eLit, m_eLoc, m_pIf, m_pInc, m_pRet, m_pSeq, m_pSet, m_pSkip, m_pWh]
def fX1_compare : FF := sBody [.inr 43, .inl 0, .inl 0] (sSeq (sSet 3 (sLit 0)) (sSeq (sSet 4 (sLit 0)) (sSeq (sSet 5 (sLit 0)) (sSeq (sSeq (sSet 6 (sLit 0)) (sWh (sCmp 2 (sLoc 6) (sLit 6)) (sSeq (sIf (sAnd (sCmp0 1 (sCall fX1_copied (sArgI (sLoc 1) (sArgI (sLoc 6) sNil)))) (sCmp0 1 (sCall fX1_copied (sArgI (sLoc 2) (sArgI (sLoc 6) sNil))))) (sSeq (sSet 3 (sLit 1)) (sSeq (sSet 4 (sIte (sOr (sCmp0 1 (sLoc 4)) (sCmp0 1 (sBin 3 (sCall fX1_coveredBy (sArgI (sLoc 2) (sArgI (sLoc 6) sNil))) (sBin 5 (sCall fX1_coveredBy (sArgI (sLoc 1) (sArgI (sLoc 6) sNil))) (sLit (-1)))))) (sLit 1) (sLit 0))) (sSet 5 (sIte (sOr (sCmp0 1 (sLoc 5)) (sCmp0 1 (sBin 3 (sCall fX1_coveredBy (sArgI (sLoc 1) (sArgI (sLoc 6) sNil))) (sBin 5 (sCall fX1_coveredBy (sArgI (sLoc 2) (sArgI (sLoc 6) sNil))) (sLit (-1)))))) (sLit 1) (sLit 0))))) sSkip) (sInc 6 1)) ik_fuel)) (sSeq (sIf (sNot (sCmp0 1 (sLoc 3))) (sRet 0 (sLit (-1))) sSkip) (sRet 0 (sIte (sAnd (sCmp0 1 (sLoc 5)) (sNot (sCmp0 1 (sLoc 4)))) (sLit 1) (sLit 0))))))))
theorem qX1_compare : MX1_compare.1 = fX1_compare := by
  show sBody [.inr 43, .inl 0, .inl 0] bX1_compare.1.2 = _
  unfold bX1_compare fX1_compare
  simp only [m_aI, m_aNil, m_aR, m_cAnd, m_cCmp, m_cCmp0, m_cNot, m_cOr, m_eBin, m_eCall, m_eIte, m_eLit, m_eLoc, m_pIf, m_pInc, m_pRet, m_pSeq, m_pSet, m_pSkip, m_pWh, qX1_copied, qX1_coveredBy]
def fX11_stricter : FF := sBody [.inr 0, .inl 0, .inl 0] (sRet 0 (sIte (sAnd (sAnd (sCmp0 1 (sCall fX11_isHouse (sArgI (sLoc 1) sNil))) (sCmp0 1 (sCall fX11_isHouse (sArgI (sLoc 2) sNil)))) (sCmp 1 (sLoc 1) (sLoc 2))) (sCall fX1_compare (sArgI (sLoc 1) (sArgI (sLoc 2) sNil))) (sLit (-1))))
theorem qX11_stricter : MX11_stricter.1 = fX11_stricter := by
  show sBody [.inr 0, .inl 0, .inl 0] bX11_stricter.1.2 = _
  unfold bX11_stricter fX11_stricter
  simp only [m_aI, m_aNil, m_aR, m_cAnd, m_cCmp, m_cCmp0, m_eCall, m_eIte, m_eLit, m_eLoc, m_pRet, qX11_isHouse, qX1_compare]
def fX8_takesNote : FF := sBody [.inr 25, .inl 0, .inl 0] (sSeq (sSeq (sSet 3 (sLit 0)) (sWh (sAnd (sCmp 2 (sLoc 3) (sFld 25 7)) (sCmp 2 (sLoc 3) (sLit 6))) (sSeq (sSeq (sSet 4 (sArr 34 6 (sLoc 3))) (sIf (sAnd (sCmp0 1 (sLoc 4)) (sOr (sCmp 0 (sLoc 3) (sLoc 2)) (sIteC (sCmp 2 (sLoc 3) (sLoc 2)) (sCmp 3 (sLoc 4) (sLoc 1)) (sCmp 5 (sLoc 4) (sLoc 1))))) (sRet 3 (sLit 0)) sSkip)) (sInc 3 1)) ik_fuel)) (sRet 3 (sLit 1)))
theorem qX8_takesNote : MX8_takesNote.1 = fX8_takesNote := by
  show sBody [.inr 25, .inl 0, .inl 0] bX8_takesNote.1.2 = _
  unfold bX8_takesNote fX8_takesNote
  simp only [m_cAnd, m_cCmp, m_cCmp0, m_cIteC, m_cOr, m_eArr, m_eFld, m_eLit, m_eLoc, m_pIf, m_pInc, m_pRet, m_pSeq, m_pSet, m_pSkip, m_pWh]
def fX8_addNote : FF := sBody [.inr 25, .inl 0, .inl 0] (sSeq (sIf (sCmp0 1 (sCall fX8_has (sArgI (sLoc 2) sNil))) (sAst 34 0 6 (sLoc 2) (sLoc 1)) sSkip) sRetV)
theorem qX8_addNote : MX8_addNote.1 = fX8_addNote := by
  show sBody [.inr 25, .inl 0, .inl 0] bX8_addNote.1.2 = _
  unfold bX8_addNote fX8_addNote
  simp only [m_aI, m_aNil, m_aR, m_cCmp0, m_eCall, m_eLoc, m_pAst, m_pIf, m_pRetV, m_pSeq, m_pSkip, qX8_has]
def fX11_note : FF := sBody [.inr 0, .inl 0, .inl 0] (sSeq (sIf (sOr (sOr (sNot (sCmp0 1 (sCall fX11_within (sArgI (sLoc 1) (sArgI (sLit 1) (sArgI (sLit 40) sNil)))))) (sNot (sCmp0 1 (sCall fX8_has (sArgI (sLoc 2) sNil))))) (sNot (sCmp0 1 (sCall fX8_takesNote (sArgI (sLoc 1) (sArgI (sLoc 2) sNil)))))) (sRet 3 (sLit 0)) sSkip) (sSeq (sDo fX8_addNote (sArgI (sLoc 1) (sArgI (sLoc 2) sNil))) (sRet 3 (sLit 1))))
theorem qX11_note : MX11_note.1 = fX11_note := by
  show sBody [.inr 0, .inl 0, .inl 0] bX11_note.1.2 = _
  unfold bX11_note fX11_note
  simp only [m_aI, m_aNil, m_aR, m_cCmp0, m_cNot, m_cOr, m_eCall, m_eLit, m_eLoc, m_pDo, m_pIf, m_pRet, m_pSeq, m_pSkip, qX11_within, qX8_addNote, qX8_has, qX8_takesNote]
def fX8_misses : FF := sBody [.inr 25, .inl 0] (sSeq (sSet 2 (sLit 0)) (sSeq (sSeq (sSet 3 (sLit 0)) (sWh (sAnd (sCmp 2 (sLoc 3) (sFld 25 7)) (sCmp 2 (sLoc 3) (sLit 6))) (sSeq (sSeq (sIf (sCmp 0 (sArr 34 6 (sLoc 3)) (sLoc 1)) (sRet 3 (sLit 0)) sSkip) (sSet 2 (sIte (sOr (sCmp0 1 (sLoc 2)) (sCmp 4 (sArr 34 6 (sLoc 3)) (sLoc 1))) (sLit 1) (sLit 0)))) (sInc 3 1)) ik_fuel)) (sRet 3 (sLoc 2))))
theorem qX8_misses : MX8_misses.1 = fX8_misses := by
  show sBody [.inr 25, .inl 0] bX8_misses.1.2 = _
  unfold bX8_misses fX8_misses
  simp only [m_cAnd, m_cCmp, m_cCmp0, m_cOr, m_eArr, m_eFld, m_eIte, m_eLit, m_eLoc, m_pIf, m_pInc, m_pRet, m_pSeq, m_pSet, m_pSkip, m_pWh]
def fX8_noteBelow : FF := sBody [.inr 25, .inl 0] (sSeq (sSet 2 (sLit 0)) (sSeq (sSeq (sSet 3 (sLit 0)) (sWh (sAnd (sCmp 2 (sLoc 3) (sFld 25 7)) (sCmp 2 (sLoc 3) (sLit 6))) (sSeq (sIf (sAnd (sCmp0 1 (sArr 34 6 (sLoc 3))) (sCmp 2 (sArr 34 6 (sLoc 3)) (sLoc 1))) (sSet 2 (sLoc 3)) sSkip) (sInc 3 1)) ik_fuel)) (sRet 0 (sLoc 2))))
theorem qX8_noteBelow : MX8_noteBelow.1 = fX8_noteBelow := by
  show sBody [.inr 25, .inl 0] bX8_noteBelow.1.2 = _
  unfold bX8_noteBelow fX8_noteBelow
  simp only [m_cAnd, m_cCmp, m_cCmp0, m_eArr, m_eFld, m_eLit, m_eLoc, m_pIf, m_pInc, m_pRet, m_pSeq, m_pSet, m_pSkip, m_pWh]
def fX8_noteAbove : FF := sBody [.inr 25, .inl 0] (sSeq (sSeq (sSet 2 (sLit 0)) (sWh (sAnd (sCmp 2 (sLoc 2) (sFld 25 7)) (sCmp 2 (sLoc 2) (sLit 6))) (sSeq (sIf (sCmp 4 (sArr 34 6 (sLoc 2)) (sLoc 1)) (sRet 0 (sLoc 2)) sSkip) (sInc 2 1)) ik_fuel)) (sRet 0 (sLit (-1))))
theorem qX8_noteAbove : MX8_noteAbove.1 = fX8_noteAbove := by
  show sBody [.inr 25, .inl 0] bX8_noteAbove.1.2 = _
  unfold bX8_noteAbove fX8_noteAbove
  simp only [m_cAnd, m_cCmp, m_eArr, m_eFld, m_eLit, m_eLoc, m_pIf, m_pInc, m_pRet, m_pSeq, m_pSet, m_pSkip, m_pWh]
def fX11_missing : FF := sBody [.inr 0, .inl 0, .inl 0] (sSeq (sIf (sOr (sOr (sCmp 2 (sLoc 1) (sLit 1)) (sNot (sCmp0 1 (sCall fX11_within (sArgI (sLoc 2) (sArgI (sLit 0) (sArgI (sLit 1) sNil))))))) (sNot (sCmp0 1 (sCall fX8_misses (sArgI (sLoc 1) sNil))))) (sRet 0 (sLit (-1))) sSkip) (sRet 0 (sIte (sCmp0 0 (sLoc 2)) (sCall fX8_noteBelow (sArgI (sLoc 1) sNil)) (sCall fX8_noteAbove (sArgI (sLoc 1) sNil)))))
theorem qX11_missing : MX11_missing.1 = fX11_missing := by
  show sBody [.inr 0, .inl 0, .inl 0] bX11_missing.1.2 = _
  unfold bX11_missing fX11_missing
  simp only [m_aI, m_aNil, m_aR, m_cCmp, m_cCmp0, m_cNot, m_cOr, m_eCall, m_eIte, m_eLit, m_eLoc, m_pIf, m_pRet, m_pSeq, m_pSkip, qX11_within, qX8_misses, qX8_noteAbove, qX8_noteBelow]
def fX9_number : FF := sBody [.inr 1, .inl 0] (sSeq (sSet 2 (sBin 2 (sLit 4) (sLoc 1))) (sRet 0 (sBin 4 (sBin 4 (sBin 4 (sBin 6 (sCall fX9_at (sArgI (sLoc 2) sNil)) (sLit 24)) (sBin 6 (sCall fX9_at (sArgI (sBin 0 (sLoc 2) (sLit 1)) sNil)) (sLit 16))) (sBin 6 (sCall fX9_at (sArgI (sBin 0 (sLoc 2) (sLit 2)) sNil)) (sLit 8))) (sCall fX9_at (sArgI (sBin 0 (sLoc 2) (sLit 3)) sNil)))))
theorem qX9_number : MX9_number.1 = fX9_number := by
  show sBody [.inr 1, .inl 0] bX9_number.1.2 = _
  unfold bX9_number fX9_number
  simp only [m_aI, m_aNil, m_aR, m_eBin, m_eCall, m_eLit, m_eLoc, m_pRet, m_pSeq, m_pSet, qX9_at]
def fX11_firstWrong : FF := sBody [.inr 0, .inl 0, .inl 0] (sSeq (sSet 3 (sLit 0)) (sSeq (sSeq (sSet 4 (sLit 0)) (sWh (sCmp 2 (sLoc 4) (sCall fX6_count sNil)) (sSeq (sIf (sCmpL 1 (sCallL fX2_odds (sArgI (sLoc 1) (sArgI (sLoc 4) sNil))) (sLitL 0)) (sSeq (sIf (sCmp 3 (sLoc 3) (sBin 2 (sLit 2) (sLoc 2))) (sRet 0 (sBin 2 (sLit 2) (sLoc 2))) sSkip) (sSeq (sIf (sCmp 1 (sCall fX9_number (sArgI (sLoc 3) sNil)) (sLoc 4)) (sRet 0 (sLoc 3)) sSkip) (sSeq (sIf (sCmp 1 (sCall fX9_number (sArgI (sBin 0 (sLoc 3) (sLit 1)) sNil)) (sL2i (sCallL fX2_odds (sArgI (sLoc 1) (sArgI (sLoc 4) sNil))))) (sRet 0 (sBin 0 (sLoc 3) (sLit 1))) sSkip) (sInc 3 2)))) sSkip) (sInc 4 1)) ik_fuel)) (sRet 0 (sIte (sCmp 2 (sLoc 3) (sBin 2 (sLit 2) (sLoc 2))) (sLoc 3) (sLit (-1))))))
theorem qX11_firstWrong : MX11_firstWrong.1 = fX11_firstWrong := by
  show sBody [.inr 0, .inl 0, .inl 0] bX11_firstWrong.1.2 = _
  unfold bX11_firstWrong fX11_firstWrong
  simp only [m_aI, m_aNil, m_aR, m_cCmp, m_cCmpL, m_eBin, m_eCall, m_eIte, m_eL2i, m_eLit, m_eLoc, m_lCall, m_lLit, m_pIf, m_pInc, m_pRet, m_pSeq, m_pSet, m_pSkip, m_pWh, qX2_odds, qX6_count, qX9_number]
def fX11_check : FF := sBody [.inr 0, .inl 0, .inl 0] (sSeq (sIf (sOr (sOr (sNot (sCmp0 1 (sCall fX0_has (sArgI (sLoc 1) sNil)))) (sCmp0 2 (sLoc 2))) (sCmp 4 (sLoc 2) (sBin 9 (sCall fX9_length sNil) (sLit 8)))) (sRet 0 (sLit (-2))) sSkip) (sSeq (sDo fX11_weigh sNil) (sSeq (sSet 3 (sCall fX11_firstWrong (sArgI (sLoc 1) (sArgI (sLoc 2) sNil)))) (sSeq (sDo fX9_clear sNil) (sRet 0 (sLoc 3))))))
theorem qX11_check : MX11_check.1 = fX11_check := by
  show sBody [.inr 0, .inl 0, .inl 0] bX11_check.1.2 = _
  unfold bX11_check fX11_check
  simp only [m_aI, m_aNil, m_aR, m_cCmp, m_cCmp0, m_cNot, m_cOr, m_eBin, m_eCall, m_eLit, m_eLoc, m_pDo, m_pIf, m_pRet, m_pSeq, m_pSet, m_pSkip, qX0_has, qX11_firstWrong, qX11_weigh, qX9_clear, qX9_length]
def fX0_lists : FF := sBody [.inr 15] (sRet 0 (sFld 15 11))
theorem qX0_lists : MX0_lists.1 = fX0_lists := by
  show sBody [.inr 15] bX0_lists.1.2 = _
  unfold bX0_lists fX0_lists
  simp only [m_eFld, m_pRet]
def fX3_count : FF := sBody [.inr 39] (sRet 0 (sFld 39 3))
theorem qX3_count : MX3_count.1 = fX3_count := by
  show sBody [.inr 39] bX3_count.1.2 = _
  unfold bX3_count fX3_count
  simp only [m_eFld, m_pRet]
def fX1_count : FF := sBody [.inr 43] (sRet 0 (sFld 43 4))
theorem qX1_count : MX1_count.1 = fX1_count := by
  show sBody [.inr 43] bX1_count.1.2 = _
  unfold bX1_count fX1_count
  simp only [m_eFld, m_pRet]
def fX8_notes : FF := sBody [.inr 25] (sSeq (sSet 1 (sLit 0)) (sSeq (sSeq (sSet 2 (sLit 0)) (sWh (sAnd (sCmp 2 (sLoc 2) (sFld 25 7)) (sCmp 2 (sLoc 2) (sLit 6))) (sSeq (sIf (sCmp0 1 (sArr 34 6 (sLoc 2))) (sInc 1 1) sSkip) (sInc 2 1)) ik_fuel)) (sRet 0 (sLoc 1))))
theorem qX8_notes : MX8_notes.1 = fX8_notes := by
  show sBody [.inr 25] bX8_notes.1.2 = _
  unfold bX8_notes fX8_notes
  simp only [m_cAnd, m_cCmp, m_cCmp0, m_eArr, m_eFld, m_eLit, m_eLoc, m_pIf, m_pInc, m_pRet, m_pSeq, m_pSet, m_pSkip, m_pWh]
def fX8_lines : FF := sBody [.inr 25, .inl 0] (sSeq (sSet 2 (sLit 0)) (sSeq (sSeq (sSet 3 (sLit 0)) (sWh (sCmp 2 (sLoc 3) (sCall fX8_tokens (sArgI (sLoc 1) sNil))) (sSeq (sIf (sCmp0 1 (sCall fX8_begins (sArgI (sLoc 1) (sArgI (sLoc 3) sNil)))) (sInc 2 1) sSkip) (sInc 3 1)) ik_fuel)) (sRet 0 (sLoc 2))))
theorem qX8_lines : MX8_lines.1 = fX8_lines := by
  show sBody [.inr 25, .inl 0] bX8_lines.1.2 = _
  unfold bX8_lines fX8_lines
  simp only [m_aI, m_aNil, m_aR, m_cCmp, m_cCmp0, m_eCall, m_eLit, m_eLoc, m_pIf, m_pInc, m_pRet, m_pSeq, m_pSet, m_pSkip, m_pWh, qX8_begins, qX8_tokens]
def fX11_count : FF := sBody [.inr 0, .inl 0] (sSeq (sSw (sLoc 1) (ik_pickS [(0, (sDead (sRet 0 (sCall fX6_count sNil)))), (1, (sDead (sRet 0 (sCall fX0_count sNil)))), (2, (sDead (sRet 0 (sCall fX8_count sNil)))), (3, (sDead (sRet 0 (sCall fX7_clauses sNil)))), (4, (sDead (sRet 0 (sCall fX0_ties sNil)))), (5, (sDead (sRet 0 (sCall fX0_lists sNil)))), (6, (sDead (sRet 0 (sCall fX3_count sNil)))), (7, (sDead (sRet 0 (sCall fX1_count sNil)))), (8, (sDead (sRet 0 (sCall fX8_notes sNil)))), (9, (sDead (sRet 0 (sCall fX9_length sNil)))), (10, (sDead (sRet 0 (sFld 0 12))))] sSkip)) (sSeq (sIf (sAnd (sCmp 3 (sLoc 1) (sLit 20)) (sCmp0 1 (sCall fX8_has (sArgI (sBin 1 (sLoc 1) (sLit 20)) sNil)))) (sRet 0 (sCall fX8_tokens (sArgI (sBin 1 (sLoc 1) (sLit 20)) sNil))) sSkip) (sRet 0 (sIte (sAnd (sCmp 3 (sLoc 1) (sLit 30)) (sCmp0 1 (sCall fX8_has (sArgI (sBin 1 (sLoc 1) (sLit 30)) sNil)))) (sCall fX8_lines (sArgI (sBin 1 (sLoc 1) (sLit 30)) sNil)) (sLit (-1))))))
theorem qX11_count : MX11_count.1 = fX11_count := by
  show sBody [.inr 0, .inl 0] bX11_count.1.2 = _
  unfold bX11_count fX11_count
  simp only [m_aI, m_aNil, m_aR, m_cAnd, m_cCmp, m_cCmp0, m_eBin, m_eCall, m_eFld, m_eIte, m_eLit, m_eLoc, m_pDead, m_pIf, m_pRet, m_pSeq, m_pSkip, m_pSw, List.map_cons, List.map_nil, qX0_count, qX0_lists, qX0_ties, qX1_count, qX3_count, qX6_count, qX7_clauses, qX8_count, qX8_has, qX8_lines, qX8_notes, qX8_tokens, qX9_length]
def fX12_lies : FF := sBody [.inl 1, .inl 1, .inl 1] (sRet 3 (sIte (sAnd (sCmpL 3 (sLocL 0) (sLocL 2)) (sCmpL 5 (sLocL 0) (sLocL 4))) (sLit 1) (sLit 0)))
theorem qX12_lies : MX12_lies.1 = fX12_lies := by
  show sBody [.inl 1, .inl 1, .inl 1] bX12_lies.1.2 = _
  unfold bX12_lies fX12_lies
  simp only [m_cAnd, m_cCmpL, m_eIte, m_eLit, m_lLoc, m_pRet]
def fX12_width : FF := sBody [.inr 0, .inl 0, .inl 0] (sSeq (sIf (sOr (sNot (sCmp0 1 (sCall fX12_lies (sArgL (sI2l (sLoc 1)) (sArgL (sLitL 0) (sArgL (sLitL 26) sNil)))))) (sNot (sCmp0 1 (sCall fX12_lies (sArgL (sI2l (sLoc 2)) (sArgL (sLitL 1) (sArgL (sLitL 60) sNil))))))) (sRet 3 (sLit 0)) sSkip) (sSeq (sAst 2 0 27 (sLoc 1) (sLoc 2)) (sRet 3 (sLit 1))))
theorem qX12_width : MX12_width.1 = fX12_width := by
  show sBody [.inr 0, .inl 0, .inl 0] bX12_width.1.2 = _
  unfold bX12_width fX12_width
  simp only [m_aL, m_aNil, m_cCmp0, m_cNot, m_cOr, m_eCall, m_eLit, m_eLoc, m_lI2l, m_lLdc, m_lLit, m_pAst, m_pIf, m_pRet, m_pSeq, m_pSkip, qX12_lies]
def fX12_joined : FF := sBody [.inr 0, .inl 0, .inl 0, .inl 0] (sSeq (sIf (sOr (sOr (sNot (sCmp0 1 (sCall fX12_lies (sArgL (sI2l (sLoc 1)) (sArgL (sLitL 1) (sArgL (sLitL 26) sNil)))))) (sNot (sCmp0 1 (sCall fX12_lies (sArgL (sI2l (sLoc 2)) (sArgL (sLitL 1) (sArgL (sLitL 26) sNil))))))) (sNot (sCmp0 1 (sCall fX12_lies (sArgL (sI2l (sLoc 3)) (sArgL (sLitL (-20)) (sArgL (sLitL 20) sNil))))))) (sRet 3 (sLit 0)) sSkip) (sSeq (sAst 3 0 729 (sBin 0 (sBin 2 (sLit 27) (sLoc 1)) (sLoc 2)) (sLoc 3)) (sRet 3 (sLit 1))))
theorem qX12_joined : MX12_joined.1 = fX12_joined := by
  show sBody [.inr 0, .inl 0, .inl 0, .inl 0] bX12_joined.1.2 = _
  unfold bX12_joined fX12_joined
  simp only [m_aL, m_aNil, m_cCmp0, m_cNot, m_cOr, m_eBin, m_eCall, m_eLit, m_eLoc, m_lI2l, m_lLdc, m_lLit, m_pAst, m_pIf, m_pRet, m_pSeq, m_pSkip, qX12_lies]
def fX12_push : FF := sBody [.inr 0, .inl 0] (sSeq (sSeq (sSet 2 (sLit 24)) (sWh (sCmp0 3 (sLoc 2)) (sSeq (sSeq (sAst 1 2 400 (sFld 0 1) (sUn 1 (sBin 7 (sLoc 1) (sLoc 2)))) (sPutOp 0 1 0 (sLit 1))) (sInc 2 (-8))) ik_fuel)) sRetV)
theorem qX12_push : MX12_push.1 = fX12_push := by
  show sBody [.inr 0, .inl 0] bX12_push.1.2 = _
  unfold bX12_push fX12_push
  simp only [m_cCmp0, m_eBin, m_eFld, m_eLit, m_eLoc, m_eUn, m_pAst, m_pInc, m_pPutOp, m_pRetV, m_pSeq, m_pSet, m_pWh]
def fX12_feed : FF := sBody [.inr 0, .inl 0, .inl 0, .inl 0, .inl 0, .inl 0] (sSeq (sIf (sCmp 4 (sBin 0 (sFld 0 1) (sLit 20)) (sLit 400)) (sRet 0 (sLit (-1))) sSkip) (sSeq (sDo fX12_push (sArgI (sLoc 1) sNil)) (sSeq (sDo fX12_push (sArgI (sLoc 2) sNil)) (sSeq (sDo fX12_push (sArgI (sLoc 3) sNil)) (sSeq (sDo fX12_push (sArgI (sLoc 4) sNil)) (sSeq (sDo fX12_push (sArgI (sLoc 5) sNil)) (sRet 0 (sFld 0 1))))))))
theorem qX12_feed : MX12_feed.1 = fX12_feed := by
  show sBody [.inr 0, .inl 0, .inl 0, .inl 0, .inl 0, .inl 0] bX12_feed.1.2 = _
  unfold bX12_feed fX12_feed
  simp only [m_aI, m_aNil, m_aR, m_cCmp, m_eBin, m_eFld, m_eLit, m_eLoc, m_pDo, m_pIf, m_pRet, m_pSeq, m_pSkip, qX12_push]
def fX12_isLetter : FF := sBody [.inl 0] (sRet 3 (sIte (sAnd (sCmp 3 (sLoc 0) (sLit 97)) (sCmp 5 (sLoc 0) (sLit 122))) (sLit 1) (sLit 0)))
theorem qX12_isLetter : MX12_isLetter.1 = fX12_isLetter := by
  show sBody [.inl 0] bX12_isLetter.1.2 = _
  unfold bX12_isLetter fX12_isLetter
  simp only [m_cAnd, m_cCmp, m_eIte, m_eLit, m_eLoc, m_pRet]
def fX12_compared : FF := sBody [.inr 0, .inl 0, .inl 0] (sSeq (sSeq (sSet 3 (sLit 0)) (sWh (sCmp 2 (sLoc 3) (sLit 12)) (sSeq (sSeq (sSet 4 (sIte (sCmp 2 (sLoc 3) (sArr 5 24 (sLoc 1))) (sArr 4 288 (sBin 0 (sBin 2 (sLit 12) (sLoc 1)) (sLoc 3))) (sLit 0))) (sSeq (sSet 5 (sIte (sCmp 2 (sLoc 3) (sArr 5 24 (sLoc 2))) (sArr 4 288 (sBin 0 (sBin 2 (sLit 12) (sLoc 2)) (sLoc 3))) (sLit 0))) (sIf (sCmp 1 (sLoc 4) (sLoc 5)) (sRet 0 (sBin 1 (sLoc 4) (sLoc 5))) sSkip))) (sInc 3 1)) ik_fuel)) (sRet 0 (sLit 0)))
theorem qX12_compared : MX12_compared.1 = fX12_compared := by
  show sBody [.inr 0, .inl 0, .inl 0] bX12_compared.1.2 = _
  unfold bX12_compared fX12_compared
  simp only [m_cCmp, m_eArr, m_eBin, m_eIte, m_eLit, m_eLoc, m_pIf, m_pInc, m_pRet, m_pSeq, m_pSet, m_pSkip, m_pWh]
def fX12_name : FF := sBody [.inr 0, .inl 0, .inl 0, .inl 0, .inl 0, .inl 0] (sSeq (sIf (sOr (sOr (sOr (sOr (sOr (sOr (sCmp 0 (sFld 0 2) (sLit 24)) (sNot (sCmp0 1 (sCall fX12_lies (sArgL (sI2l (sLoc 1)) (sArgL (sLitL 1) (sArgL (sLitL 12) sNil))))))) (sCmp 4 (sLoc 1) (sFld 0 1))) (sNot (sCmp0 1 (sCall fX12_lies (sArgL (sI2l (sLoc 2)) (sArgL (sLitL 0) (sArgL (sLitL 7) sNil))))))) (sNot (sCmp0 1 (sCall fX12_lies (sArgL (sI2l (sLoc 3)) (sArgL (sLitL 0) (sArgL (sLitL 199) sNil))))))) (sNot (sCmp0 1 (sCall fX12_lies (sArgL (sI2l (sLoc 4)) (sArgL (sI2l (sLoc 3)) (sArgL (sLitL 199) sNil))))))) (sNot (sCmp0 1 (sCall fX12_lies (sArgL (sI2l (sLoc 5)) (sArgL (sLitL 1) (sArgL (sLitL 100) sNil))))))) (sRet 0 (sLit (-1))) sSkip) (sSeq (sPut 0 1 0 (sLit 0)) (sSeq (sAst 5 0 24 (sFld 0 2) (sLoc 1)) (sSeq (sSeq (sSet 6 (sLit 0)) (sWh (sCmp 2 (sLoc 6) (sLoc 1)) (sSeq (sSeq (sIf (sNot (sCmp0 1 (sCall fX12_isLetter (sArgI (sArr 1 400 (sLoc 6)) sNil)))) (sRet 0 (sLit (-2))) sSkip) (sAst 4 2 288 (sBin 0 (sBin 2 (sLit 12) (sFld 0 2)) (sLoc 6)) (sArr 1 400 (sLoc 6)))) (sInc 6 1)) ik_fuel)) (sSeq (sSeq (sSet 6 (sLit 0)) (sWh (sCmp 2 (sLoc 6) (sFld 0 2)) (sSeq (sIf (sCmp0 0 (sCall fX12_compared (sArgI (sLoc 6) (sArgI (sFld 0 2) sNil)))) (sRet 0 (sLit (-2))) sSkip) (sInc 6 1)) ik_fuel)) (sSeq (sAst 6 0 24 (sFld 0 2) (sLoc 2)) (sSeq (sAst 7 0 24 (sFld 0 2) (sLoc 3)) (sSeq (sAst 8 0 24 (sFld 0 2) (sLoc 4)) (sSeq (sAst 9 0 24 (sFld 0 2) (sLoc 5)) (sSeq (sPutOp 0 2 0 (sLit 1)) (sRet 0 (sBin 1 (sFld 0 2) (sLit 1)))))))))))))
theorem qX12_name : MX12_name.1 = fX12_name := by
  show sBody [.inr 0, .inl 0, .inl 0, .inl 0, .inl 0, .inl 0] bX12_name.1.2 = _
  unfold bX12_name fX12_name
  simp only [m_aI, m_aL, m_aNil, m_aR, m_cCmp, m_cCmp0, m_cNot, m_cOr, m_eArr, m_eBin, m_eCall, m_eFld, m_eLit, m_eLoc, m_lI2l, m_lLdc, m_lLit, m_pAst, m_pIf, m_pInc, m_pPut, m_pPutOp, m_pRet, m_pSeq, m_pSet, m_pSkip, m_pWh, qX12_compared, qX12_isLetter, qX12_lies]
def fX12_isName : FF := sBody [.inr 0, .inl 0] (sRet 3 (sCall fX12_lies (sArgL (sI2l (sLoc 1)) (sArgL (sLitL 0) (sArgL (sI2l (sBin 1 (sFld 0 2) (sLit 1))) sNil)))))
theorem qX12_isName : MX12_isName.1 = fX12_isName := by
  show sBody [.inr 0, .inl 0] bX12_isName.1.2 = _
  unfold bX12_isName fX12_isName
  simp only [m_aL, m_aNil, m_eBin, m_eCall, m_eFld, m_eLit, m_eLoc, m_lI2l, m_lLit, m_pRet, qX12_lies]
def fX12_wideOf : FF := sBody [.inr 0, .inl 0] (sSeq (sSet 2 (sLit 0)) (sSeq (sSet 3 (sLit 0)) (sSeq (sSeq (sSet 4 (sLit 0)) (sWh (sCmp 2 (sLoc 4) (sArr 5 24 (sLoc 1))) (sSeq (sSeq (sSet 5 (sBin 0 (sBin 1 (sArr 4 288 (sBin 0 (sBin 2 (sLit 12) (sLoc 1)) (sLoc 4))) (sLit 97)) (sLit 1))) (sSeq (sSet 2 (sBin 0 (sLoc 2) (sBin 0 (sArr 2 27 (sLoc 5)) (sArr 3 729 (sBin 0 (sBin 2 (sLit 27) (sLoc 3)) (sLoc 5)))))) (sSet 3 (sLoc 5)))) (sInc 4 1)) ik_fuel)) (sRet 0 (sLoc 2)))))
theorem qX12_wideOf : MX12_wideOf.1 = fX12_wideOf := by
  show sBody [.inr 0, .inl 0] bX12_wideOf.1.2 = _
  unfold bX12_wideOf fX12_wideOf
  simp only [m_cCmp, m_eArr, m_eBin, m_eLit, m_eLoc, m_pInc, m_pRet, m_pSeq, m_pSet, m_pWh]
def fX12_wide : FF := sBody [.inr 0, .inl 0] (sRet 0 (sIte (sCmp0 1 (sCall fX12_isName (sArgI (sLoc 1) sNil))) (sCall fX12_wideOf (sArgI (sLoc 1) sNil)) (sLit (-1))))
theorem qX12_wide : MX12_wide.1 = fX12_wide := by
  show sBody [.inr 0, .inl 0] bX12_wide.1.2 = _
  unfold bX12_wide fX12_wide
  simp only [m_aI, m_aNil, m_aR, m_cCmp0, m_eCall, m_eIte, m_eLit, m_eLoc, m_pRet, qX12_isName, qX12_wideOf]
def fX12_bar : FF := sBody [.inr 0, .inl 0, .inl 0, .inl 0] (sSeq (sIf (sOr (sOr (sOr (sCmp 0 (sFld 0 3) (sLit 4)) (sNot (sCmp0 1 (sCall fX12_lies (sArgL (sI2l (sLoc 1)) (sArgL (sLitL 1) (sArgL (sLitL 3000) sNil))))))) (sNot (sCmp0 1 (sCall fX12_lies (sArgL (sI2l (sLoc 2)) (sArgL (sLitL (-1)) (sArgL (sLitL 199) sNil))))))) (sNot (sCmp0 1 (sCall fX12_lies (sArgL (sI2l (sLoc 3)) (sArgL (sLitL 0) (sArgL (sLitL 255) sNil))))))) (sRet 0 (sLit (-1))) sSkip) (sSeq (sAst 10 0 4 (sFld 0 3) (sLoc 1)) (sSeq (sAst 11 0 4 (sFld 0 3) (sLoc 2)) (sSeq (sAst 12 0 4 (sFld 0 3) (sLoc 3)) (sSeq (sPutOp 0 3 0 (sLit 1)) (sRet 0 (sBin 1 (sFld 0 3) (sLit 1))))))))
theorem qX12_bar : MX12_bar.1 = fX12_bar := by
  show sBody [.inr 0, .inl 0, .inl 0, .inl 0] bX12_bar.1.2 = _
  unfold bX12_bar fX12_bar
  simp only [m_aL, m_aNil, m_cCmp, m_cCmp0, m_cNot, m_cOr, m_eBin, m_eCall, m_eFld, m_eLit, m_eLoc, m_lI2l, m_lLdc, m_lLit, m_pAst, m_pIf, m_pPutOp, m_pRet, m_pSeq, m_pSkip, qX12_lies]
def fX12_isGood : FF := sBody [.inr 0] (sRet 3 (sIte (sCmp0 0 (sFld 0 32)) (sLit 1) (sLit 0)))
theorem qX12_isGood : MX12_isGood.1 = fX12_isGood := by
  show sBody [.inr 0] bX12_isGood.1.2 = _
  unfold bX12_isGood fX12_isGood
  simp only [m_cCmp0, m_eFld, m_eIte, m_eLit, m_pRet]
def fX12_here : FF := sBody [.inr 0] (sRet 0 (sIte (sCmp 2 (sFld 0 30) (sFld 0 31)) (sBin 3 (sArr 1 400 (sFld 0 30)) (sLit 255)) (sLit 0)))
theorem qX12_here : MX12_here.1 = fX12_here := by
  show sBody [.inr 0] bX12_here.1.2 = _
  unfold bX12_here fX12_here
  simp only [m_cCmp, m_eArr, m_eBin, m_eFld, m_eIte, m_eLit, m_pRet]
def fX12_isDigit : FF := sBody [.inl 0] (sRet 3 (sIte (sAnd (sCmp 3 (sLoc 0) (sLit 48)) (sCmp 5 (sLoc 0) (sLit 57))) (sLit 1) (sLit 0)))
theorem qX12_isDigit : MX12_isDigit.1 = fX12_isDigit := by
  show sBody [.inl 0] bX12_isDigit.1.2 = _
  unfold bX12_isDigit fX12_isDigit
  simp only [m_cAnd, m_cCmp, m_eIte, m_eLit, m_eLoc, m_pRet]
def fX12_wrongs : FF := sBody [.inr 0, .inl 0, .inl 0] (sSeq (sPut 0 32 0 (sIte (sCmp0 2 (sFld 0 32)) (sFld 0 32) (sBin 1 (sBin 2 (sLit (-1000)) (sLoc 1)) (sLoc 2)))) sRetV)
theorem qX12_wrongs : MX12_wrongs.1 = fX12_wrongs := by
  show sBody [.inr 0, .inl 0, .inl 0] bX12_wrongs.1.2 = _
  unfold bX12_wrongs fX12_wrongs
  simp only [m_cCmp0, m_eBin, m_eFld, m_eIte, m_eLit, m_eLoc, m_pPut, m_pRetV, m_pSeq]
def fX12_token : FF := sBody [.inr 0, .inl 0, .inl 0] (sSeq (sSeq (sSet 3 (sCall fX12_here sNil)) (sSeq (sIf (sAnd (sNot (sCmp0 1 (sCall fX12_isLetter (sArgI (sLoc 3) sNil)))) (sNot (sCmp0 1 (sCall fX12_isDigit (sArgI (sLoc 3) sNil))))) (sDo fX12_wrongs (sArgI (sLit 1) (sArgI (sFld 0 30) sNil))) (sIf (sCmp 0 (sLoc 2) (sLit 24)) (sDo fX12_wrongs (sArgI (sLit 4) (sArgI (sFld 0 30) sNil))) (sIf (sAnd (sCmp0 1 (sCall fX12_isDigit (sArgI (sLoc 3) sNil))) (sCmp 3 (sBin 1 (sLoc 3) (sLit 48)) (sFld 0 3))) (sDo fX12_wrongs (sArgI (sLit 3) (sArgI (sFld 0 30) sNil))) sSkip))) (sSeq (sIf (sNot (sCmp0 1 (sCall fX12_isGood sNil))) sRetV sSkip) (sSeq (sSet 4 (sBin 0 (sBin 2 (sLit 24) (sLoc 1)) (sLoc 2))) (sSeq (sAst 16 0 144 (sLoc 4) (sIte (sCmp0 1 (sCall fX12_isDigit (sArgI (sLoc 3) sNil))) (sBin 1 (sLoc 3) (sLit 48)) (sLit 4))) (sSeq (sAst 17 0 144 (sLoc 4) (sFld 0 30)) (sSeq (sPutOp 0 30 0 (sLit 1)) (sSeq (sWh (sAnd (sAnd (sCmp0 1 (sCall fX12_isGood sNil)) (sCmp0 1 (sCall fX12_isLetter (sArgI (sLoc 3) sNil)))) (sCmp0 1 (sCall fX12_isLetter (sArgI (sCall fX12_here sNil) sNil)))) (sSeq (sIf (sCmp 0 (sFld 0 30) (sBin 0 (sArr 17 144 (sLoc 4)) (sLit 12))) (sDo fX12_wrongs (sArgI (sLit 2) (sArgI (sFld 0 30) sNil))) sSkip) (sPutOp 0 30 0 (sLit 1))) ik_fuel) (sAst 18 0 144 (sLoc 4) (sFld 0 30)))))))))) sRetV)
theorem qX12_token : MX12_token.1 = fX12_token := by
  show sBody [.inr 0, .inl 0, .inl 0] bX12_token.1.2 = _
  unfold bX12_token fX12_token
  simp only [m_aI, m_aNil, m_aR, m_cAnd, m_cCmp, m_cCmp0, m_cNot, m_eArr, m_eBin, m_eCall, m_eFld, m_eIte, m_eLit, m_eLoc, m_pAst, m_pDo, m_pIf, m_pPutOp, m_pRetV, m_pSeq, m_pSet, m_pSkip, m_pWh, qX12_here, qX12_isDigit, qX12_isGood, qX12_isLetter, qX12_wrongs]
def fX12_sheet : FF := sBody [.inr 0, .inl 0, .inl 0] (sSeq (sIf (sOr (sOr (sOr (sCmp 0 (sFld 0 4) (sLit 6)) (sNot (sCmp0 1 (sCall fX12_lies (sArgL (sI2l (sLoc 1)) (sArgL (sLitL 50) (sArgL (sLitL 5000) sNil))))))) (sNot (sCmp0 1 (sCall fX12_lies (sArgL (sI2l (sLoc 2)) (sArgL (sLitL 1) (sArgL (sLitL 160) sNil))))))) (sCmp 4 (sLoc 2) (sFld 0 1))) (sRet 0 (sLit (-1))) sSkip) (sSeq (sPut 0 1 0 (sLit 0)) (sSeq (sPut 0 30 0 (sLit 0)) (sSeq (sPut 0 31 0 (sLoc 2)) (sSeq (sPut 0 32 0 (sLit 0)) (sSeq (sSet 3 (sLit 0)) (sSeq (sSet 4 (sLit 1)) (sSeq (sSet 5 (sLit 0)) (sSeq (sWh (sAnd (sCmp0 1 (sLoc 4)) (sCmp0 1 (sCall fX12_isGood sNil))) (sSeq (sDo fX12_token (sArgI (sFld 0 4) (sArgI (sLoc 3) sNil))) (sSeq (sIf (sNot (sCmp0 1 (sCall fX12_isGood sNil))) (sRet 0 (sFld 0 32)) sSkip) (sSeq (sAst 19 3 144 (sBin 0 (sBin 2 (sLit 24) (sFld 0 4)) (sLoc 3)) (sLoc 5)) (sSeq (sInc 3 1) (sSeq (sSet 4 (sIte (sCmp 2 (sFld 0 30) (sFld 0 31)) (sLit 1) (sLit 0))) (sSeq (sSet 5 (sIte (sCmp 0 (sCall fX12_here sNil) (sLit 47)) (sLit 1) (sLit 0))) (sSeq (sIf (sAnd (sAnd (sCmp0 1 (sLoc 4)) (sCmp 1 (sCall fX12_here sNil) (sLit 32))) (sNot (sCmp0 1 (sLoc 5)))) (sDo fX12_wrongs (sArgI (sLit 1) (sArgI (sFld 0 30) sNil))) sSkip) (sPutOp 0 30 0 (sLit 1))))))))) ik_fuel) (sSeq (sIf (sCmp0 2 (sFld 0 32)) (sRet 0 (sFld 0 32)) sSkip) (sSeq (sSeq (sSet 6 (sLit 0)) (sWh (sCmp 2 (sLoc 6) (sLoc 2)) (sSeq (sAst 15 2 960 (sBin 0 (sBin 2 (sLit 160) (sFld 0 4)) (sLoc 6)) (sArr 1 400 (sLoc 6))) (sInc 6 1)) ik_fuel)) (sSeq (sAst 13 0 6 (sFld 0 4) (sLoc 1)) (sSeq (sAst 14 0 6 (sFld 0 4) (sLoc 3)) (sSeq (sPutOp 0 4 0 (sLit 1)) (sRet 0 (sBin 1 (sFld 0 4) (sLit 1)))))))))))))))))
theorem qX12_sheet : MX12_sheet.1 = fX12_sheet := by
  show sBody [.inr 0, .inl 0, .inl 0] bX12_sheet.1.2 = _
  unfold bX12_sheet fX12_sheet
  simp only [m_aI, m_aL, m_aNil, m_aR, m_cAnd, m_cCmp, m_cCmp0, m_cNot, m_cOr, m_eArr, m_eBin, m_eCall, m_eFld, m_eIte, m_eLit, m_eLoc, m_lI2l, m_lLdc, m_lLit, m_pAst, m_pDo, m_pIf, m_pInc, m_pPut, m_pPutOp, m_pRet, m_pSeq, m_pSet, m_pSkip, m_pWh, qX12_here, qX12_isGood, qX12_lies, qX12_token, qX12_wrongs]
def fX12_puts : FF := sBody [.inr 0, .inl 0] (sSeq (sSeq (sAst 32 0 200 (sFld 0 49) (sLoc 1)) (sSeq (sPutOp 0 49 0 (sLit 1)) (sPutOp 0 30 0 (sLit 1)))) sRetV)
theorem qX12_puts : MX12_puts.1 = fX12_puts := by
  show sBody [.inr 0, .inl 0] bX12_puts.1.2 = _
  unfold bX12_puts fX12_puts
  simp only [m_eFld, m_eLit, m_eLoc, m_pAst, m_pPutOp, m_pRetV, m_pSeq]
def fX12_opens : FF := sBody [.inr 0] (sSeq (sSeq (sIf (sCmp 0 (sFld 0 48) (sLit 6)) (sDo fX12_wrongs (sArgI (sLit 5) (sArgI (sFld 0 30) sNil))) sSkip) (sSeq (sPutOp 0 48 0 (sLit 1)) (sDo fX12_puts (sArgI (sCall fX12_here sNil) sNil)))) sRetV)
theorem qX12_opens : MX12_opens.1 = fX12_opens := by
  show sBody [.inr 0] bX12_opens.1.2 = _
  unfold bX12_opens fX12_opens
  simp only [m_aI, m_aNil, m_aR, m_cCmp, m_eCall, m_eFld, m_eLit, m_pDo, m_pIf, m_pPutOp, m_pRetV, m_pSeq, m_pSkip, qX12_here, qX12_puts, qX12_wrongs]
def fX12_reads : FF := sBody [.inr 0] (sSeq (sSet 1 (sFld 0 30)) (sSeq (sSet 2 (sLit 0)) (sSeq (sWh (sAnd (sCmp0 1 (sCall fX12_isGood sNil)) (sCmp0 1 (sCall fX12_isDigit (sArgI (sCall fX12_here sNil) sNil)))) (sSeq (sIf (sCmp 0 (sFld 0 30) (sBin 0 (sLoc 1) (sLit 5))) (sDo fX12_wrongs (sArgI (sLit 2) (sArgI (sFld 0 30) sNil))) sSkip) (sSeq (sSet 2 (sBin 1 (sBin 0 (sBin 2 (sLit 10) (sLoc 2)) (sCall fX12_here sNil)) (sLit 48))) (sPutOp 0 30 0 (sLit 1)))) ik_fuel) (sRet 0 (sLoc 2)))))
theorem qX12_reads : MX12_reads.1 = fX12_reads := by
  show sBody [.inr 0] bX12_reads.1.2 = _
  unfold bX12_reads fX12_reads
  simp only [m_aI, m_aNil, m_aR, m_cAnd, m_cCmp, m_cCmp0, m_eBin, m_eCall, m_eFld, m_eLit, m_eLoc, m_pDo, m_pIf, m_pPutOp, m_pRet, m_pSeq, m_pSet, m_pSkip, m_pWh, qX12_here, qX12_isDigit, qX12_isGood, qX12_wrongs]
def fX12_emit : FF := sBody [.inr 0, .inl 0, .inl 0] (sSeq (sSeq (sIf (sNot (sCmp0 1 (sCall fX12_isGood sNil))) sRetV sSkip) (sSeq (sAst 30 0 160 (sFld 0 47) (sLoc 1)) (sSeq (sAst 31 0 160 (sFld 0 47) (sLoc 2)) (sPutOp 0 47 0 (sLit 1))))) sRetV)
theorem qX12_emit : MX12_emit.1 = fX12_emit := by
  show sBody [.inr 0, .inl 0, .inl 0] bX12_emit.1.2 = _
  unfold bX12_emit fX12_emit
  simp only [m_aNil, m_aR, m_cCmp0, m_cNot, m_eCall, m_eFld, m_eLit, m_eLoc, m_pAst, m_pIf, m_pPutOp, m_pRetV, m_pSeq, m_pSkip, qX12_isGood]
def fX12_isValue : FF := sBody [.inl 0] (sRet 3 (sIte (sOr (sOr (sOr (sOr (sOr (sOr (sOr (sOr (sCmp 0 (sLoc 0) (sLit 105)) (sCmp 0 (sLoc 0) (sLit 119))) (sCmp 0 (sLoc 0) (sLit 110))) (sCmp 0 (sLoc 0) (sLit 115))) (sCmp 0 (sLoc 0) (sLit 121))) (sCmp 0 (sLoc 0) (sLit 122))) (sCmp 0 (sLoc 0) (sLit 118))) (sCmp 0 (sLoc 0) (sLit 97))) (sCmp 0 (sLoc 0) (sLit 98))) (sLit 1) (sLit 0)))
theorem qX12_isValue : MX12_isValue.1 = fX12_isValue := by
  show sBody [.inl 0] bX12_isValue.1.2 = _
  unfold bX12_isValue fX12_isValue
  simp only [m_cCmp, m_cOr, m_eIte, m_eLit, m_eLoc, m_pRet]
def fX12_factor : FF := sBody [.inr 0] (sSeq (sSeq (sWh (sAnd (sCmp0 1 (sCall fX12_isGood sNil)) (sCmp 0 (sCall fX12_here sNil) (sLit 91))) (sDo fX12_opens sNil) ik_fuel) (sSeq (sIf (sNot (sCmp0 1 (sCall fX12_isGood sNil))) sRetV sSkip) (sIf (sCmp0 1 (sCall fX12_isDigit (sArgI (sCall fX12_here sNil) sNil))) (sDo fX12_emit (sArgI (sLit 0) (sArgI (sCall fX12_reads sNil) sNil))) (sIf (sCmp0 1 (sCall fX12_isValue (sArgI (sCall fX12_here sNil) sNil))) (sSeq (sDo fX12_emit (sArgI (sLit 1) (sArgI (sCall fX12_here sNil) sNil))) (sPutOp 0 30 0 (sLit 1))) (sDo fX12_wrongs (sArgI (sLit 1) (sArgI (sFld 0 30) sNil))))))) sRetV)
theorem qX12_factor : MX12_factor.1 = fX12_factor := by
  show sBody [.inr 0] bX12_factor.1.2 = _
  unfold bX12_factor fX12_factor
  simp only [m_aI, m_aNil, m_aR, m_cAnd, m_cCmp, m_cCmp0, m_cNot, m_eCall, m_eFld, m_eLit, m_pDo, m_pIf, m_pPutOp, m_pRetV, m_pSeq, m_pSkip, m_pWh, qX12_emit, qX12_here, qX12_isDigit, qX12_isGood, qX12_isValue, qX12_opens, qX12_reads, qX12_wrongs]
def fX12_isTimes : FF := sBody [.inl 0] (sRet 3 (sIte (sOr (sOr (sCmp 0 (sLoc 0) (sLit 42)) (sCmp 0 (sLoc 0) (sLit 47))) (sCmp 0 (sLoc 0) (sLit 37))) (sLit 1) (sLit 0)))
theorem qX12_isTimes : MX12_isTimes.1 = fX12_isTimes := by
  show sBody [.inl 0] bX12_isTimes.1.2 = _
  unfold bX12_isTimes fX12_isTimes
  simp only [m_cCmp, m_cOr, m_eIte, m_eLit, m_eLoc, m_pRet]
def fX12_isPlus : FF := sBody [.inl 0] (sRet 3 (sIte (sOr (sCmp 0 (sLoc 0) (sLit 43)) (sCmp 0 (sLoc 0) (sLit 45))) (sLit 1) (sLit 0)))
theorem qX12_isPlus : MX12_isPlus.1 = fX12_isPlus := by
  show sBody [.inl 0] bX12_isPlus.1.2 = _
  unfold bX12_isPlus fX12_isPlus
  simp only [m_cCmp, m_cOr, m_eIte, m_eLit, m_eLoc, m_pRet]
def fX12_top : FF := sBody [.inr 0] (sRet 0 (sIte (sCmp0 4 (sFld 0 49)) (sArr 32 200 (sBin 1 (sFld 0 49) (sLit 1))) (sLit 0)))
theorem qX12_top : MX12_top.1 = fX12_top := by
  show sBody [.inr 0] bX12_top.1.2 = _
  unfold bX12_top fX12_top
  simp only [m_cCmp0, m_eArr, m_eBin, m_eFld, m_eIte, m_eLit, m_pRet]
def fX12_sums : FF := sBody [.inr 0, .inl 0] (sSeq (sWh (sOr (sCmp0 1 (sCall fX12_isTimes (sArgI (sCall fX12_top sNil) sNil))) (sAnd (sCmp0 1 (sLoc 1)) (sCmp0 1 (sCall fX12_isPlus (sArgI (sCall fX12_top sNil) sNil))))) (sSeq (sDo fX12_emit (sArgI (sCall fX12_top sNil) (sArgI (sLit 0) sNil))) (sPutOp 0 49 1 (sLit 1))) ik_fuel) sRetV)
theorem qX12_sums : MX12_sums.1 = fX12_sums := by
  show sBody [.inr 0, .inl 0] bX12_sums.1.2 = _
  unfold bX12_sums fX12_sums
  simp only [m_aI, m_aNil, m_aR, m_cAnd, m_cCmp0, m_cOr, m_eCall, m_eLit, m_eLoc, m_pDo, m_pPutOp, m_pRetV, m_pSeq, m_pWh, qX12_emit, qX12_isPlus, qX12_isTimes, qX12_top]
def fX12_isSign : FF := sBody [.inl 0] (sRet 3 (sIte (sOr (sOr (sCmp 0 (sLoc 0) (sLit 60)) (sCmp 0 (sLoc 0) (sLit 62))) (sCmp 0 (sLoc 0) (sLit 61))) (sLit 1) (sLit 0)))
theorem qX12_isSign : MX12_isSign.1 = fX12_isSign := by
  show sBody [.inl 0] bX12_isSign.1.2 = _
  unfold bX12_isSign fX12_isSign
  simp only [m_cCmp, m_cOr, m_eIte, m_eLit, m_eLoc, m_pRet]
def fX12_goesOn : FF := sBody [.inr 0] (sSeq (sSet 1 (sCall fX12_here sNil)) (sSeq (sIf (sOr (sCmp0 1 (sCall fX12_isTimes (sArgI (sLoc 1) sNil))) (sCmp0 1 (sCall fX12_isPlus (sArgI (sLoc 1) sNil)))) (sSeq (sDo fX12_sums (sArgI (sCall fX12_isPlus (sArgI (sLoc 1) sNil)) sNil)) (sSeq (sDo fX12_puts (sArgI (sLoc 1) sNil)) (sRet 3 (sLit 1)))) sSkip) (sSeq (sDo fX12_sums (sArgI (sLit 1) sNil)) (sSeq (sIf (sCmp 0 (sLoc 1) (sLit 93)) (sSeq (sIf (sCmp 1 (sCall fX12_top sNil) (sLit 91)) (sSeq (sDo fX12_wrongs (sArgI (sLit 1) (sArgI (sFld 0 30) sNil))) (sRet 3 (sLit 0))) sSkip) (sSeq (sPutOp 0 49 1 (sLit 1)) (sSeq (sPutOp 0 48 1 (sLit 1)) (sSeq (sPutOp 0 30 0 (sLit 1)) (sSeq (sPut 0 51 3 (sLit 1)) (sRet 3 (sLit 1))))))) sSkip) (sSeq (sIf (sCmp0 1 (sCall fX12_isSign (sArgI (sLoc 1) sNil))) (sSeq (sIf (sOr (sCmp 0 (sCall fX12_top sNil) (sLit 91)) (sCmp0 1 (sCall fX12_isSign (sArgI (sCall fX12_top sNil) sNil)))) (sDo fX12_wrongs (sArgI (sLit 1) (sArgI (sFld 0 30) sNil))) sSkip) (sSeq (sDo fX12_puts (sArgI (sLoc 1) sNil)) (sRet 3 (sLit 1)))) sSkip) (sSeq (sIf (sCmp0 1 (sCall fX12_isSign (sArgI (sCall fX12_top sNil) sNil))) (sSeq (sDo fX12_emit (sArgI (sCall fX12_top sNil) (sArgI (sLit 0) sNil))) (sPutOp 0 49 1 (sLit 1))) (sDo fX12_wrongs (sArgI (sLit 1) (sArgI (sFld 0 30) sNil)))) (sRet 3 (sLit 0))))))))
theorem qX12_goesOn : MX12_goesOn.1 = fX12_goesOn := by
  show sBody [.inr 0] bX12_goesOn.1.2 = _
  unfold bX12_goesOn fX12_goesOn
  simp only [m_aI, m_aNil, m_aR, m_cCmp, m_cCmp0, m_cOr, m_eCall, m_eFld, m_eLit, m_eLoc, m_pDo, m_pIf, m_pPut, m_pPutOp, m_pRet, m_pSeq, m_pSet, m_pSkip, qX12_emit, qX12_here, qX12_isPlus, qX12_isSign, qX12_isTimes, qX12_puts, qX12_sums, qX12_top, qX12_wrongs]
def fX12_ends : FF := sBody [.inr 0] (sSeq (sWh (sCmp 0 (sCall fX12_top sNil) (sLit 33)) (sSeq (sDo fX12_emit (sArgI (sLit 2) (sArgI (sLit 0) sNil))) (sSeq (sPutOp 0 49 1 (sLit 1)) (sPutOp 0 48 1 (sLit 1)))) ik_fuel) sRetV)
theorem qX12_ends : MX12_ends.1 = fX12_ends := by
  show sBody [.inr 0] bX12_ends.1.2 = _
  unfold bX12_ends fX12_ends
  simp only [m_aI, m_aNil, m_aR, m_cCmp, m_eCall, m_eLit, m_pDo, m_pPutOp, m_pRetV, m_pSeq, m_pWh, qX12_emit, qX12_top]
def fX12_pieceOfC : FF := sBody [.inr 0] (sSeq (sSeq (sWh (sAnd (sCmp0 1 (sCall fX12_isGood sNil)) (sOr (sCmp 0 (sCall fX12_here sNil) (sLit 33)) (sCmp 0 (sCall fX12_here sNil) (sLit 40)))) (sDo fX12_opens sNil) ik_fuel) (sSeq (sSet 1 (sLit 1)) (sSeq (sPut 0 51 3 (sLit 0)) (sSeq (sWh (sAnd (sCmp0 1 (sLoc 1)) (sCmp0 1 (sCall fX12_isGood sNil))) (sSeq (sIf (sNot (sCmp0 1 (sFld 0 51))) (sDo fX12_factor sNil) sSkip) (sSeq (sPut 0 51 3 (sLit 0)) (sSet 1 (sIte (sAnd (sCmp0 1 (sCall fX12_isGood sNil)) (sCmp0 1 (sCall fX12_goesOn sNil))) (sLit 1) (sLit 0))))) ik_fuel) (sIf (sCmp0 1 (sCall fX12_isGood sNil)) (sDo fX12_ends sNil) sSkip))))) sRetV)
theorem qX12_pieceOfC : MX12_pieceOfC.1 = fX12_pieceOfC := by
  show sBody [.inr 0] bX12_pieceOfC.1.2 = _
  unfold bX12_pieceOfC fX12_pieceOfC
  simp only [m_aNil, m_aR, m_cAnd, m_cCmp, m_cCmp0, m_cNot, m_cOr, m_eCall, m_eFld, m_eIte, m_eLit, m_eLoc, m_pDo, m_pIf, m_pPut, m_pRetV, m_pSeq, m_pSet, m_pSkip, m_pWh, qX12_ends, qX12_factor, qX12_goesOn, qX12_here, qX12_isGood, qX12_opens]
def fX12_joins : FF := sBody [.inr 0, .inl 0] (sSeq (sWh (sOr (sCmp 0 (sCall fX12_top sNil) (sLit 38)) (sAnd (sCmp0 1 (sLoc 1)) (sCmp 0 (sCall fX12_top sNil) (sLit 124)))) (sSeq (sDo fX12_emit (sArgI (sCall fX12_top sNil) (sArgI (sLit 0) sNil))) (sPutOp 0 49 1 (sLit 1))) ik_fuel) sRetV)
theorem qX12_joins : MX12_joins.1 = fX12_joins := by
  show sBody [.inr 0, .inl 0] bX12_joins.1.2 = _
  unfold bX12_joins fX12_joins
  simp only [m_aI, m_aNil, m_aR, m_cAnd, m_cCmp, m_cCmp0, m_cOr, m_eCall, m_eLit, m_eLoc, m_pDo, m_pPutOp, m_pRetV, m_pSeq, m_pWh, qX12_emit, qX12_top]
def fX12_goesBehind : FF := sBody [.inr 0] (sSeq (sSet 1 (sCall fX12_here sNil)) (sSeq (sIf (sOr (sCmp 0 (sLoc 1) (sLit 38)) (sCmp 0 (sLoc 1) (sLit 124))) (sSeq (sDo fX12_joins (sArgI (sIte (sCmp 0 (sLoc 1) (sLit 124)) (sLit 1) (sLit 0)) sNil)) (sSeq (sDo fX12_puts (sArgI (sLoc 1) sNil)) (sRet 3 (sLit 1)))) sSkip) (sSeq (sIf (sCmp 1 (sLoc 1) (sLit 41)) (sSeq (sDo fX12_wrongs (sArgI (sLit 1) (sArgI (sFld 0 30) sNil))) (sRet 3 (sLit 0))) sSkip) (sSeq (sDo fX12_joins (sArgI (sLit 1) sNil)) (sSeq (sPutOp 0 49 1 (sLit 1)) (sSeq (sPutOp 0 48 1 (sLit 1)) (sSeq (sPutOp 0 30 0 (sLit 1)) (sSeq (sPut 0 50 3 (sIte (sCmp0 0 (sFld 0 49)) (sLit 1) (sLit 0))) (sSeq (sIf (sNot (sCmp0 1 (sFld 0 50))) (sDo fX12_ends sNil) sSkip) (sRet 3 (sLit 0)))))))))))
theorem qX12_goesBehind : MX12_goesBehind.1 = fX12_goesBehind := by
  show sBody [.inr 0] bX12_goesBehind.1.2 = _
  unfold bX12_goesBehind fX12_goesBehind
  simp only [m_aI, m_aNil, m_aR, m_cCmp, m_cCmp0, m_cNot, m_cOr, m_eCall, m_eFld, m_eIte, m_eLit, m_eLoc, m_pDo, m_pIf, m_pPut, m_pPutOp, m_pRet, m_pSeq, m_pSet, m_pSkip, qX12_ends, qX12_here, qX12_joins, qX12_puts, qX12_wrongs]
def fX12_condition : FF := sBody [.inr 0] (sSeq (sSeq (sPut 0 49 0 (sLit 0)) (sSeq (sPut 0 48 0 (sLit 0)) (sSeq (sPut 0 50 3 (sLit 0)) (sSeq (sIf (sCmp 1 (sCall fX12_here sNil) (sLit 40)) (sDo fX12_wrongs (sArgI (sLit 1) (sArgI (sFld 0 30) sNil))) sSkip) (sSeq (sIf (sNot (sCmp0 1 (sCall fX12_isGood sNil))) sRetV sSkip) (sSeq (sDo fX12_opens sNil) (sSeq (sSet 1 (sLit 1)) (sWh (sAnd (sCmp0 1 (sCall fX12_isGood sNil)) (sNot (sCmp0 1 (sFld 0 50)))) (sSeq (sIf (sCmp0 1 (sLoc 1)) (sDo fX12_pieceOfC sNil) sSkip) (sIf (sCmp0 1 (sCall fX12_isGood sNil)) (sSet 1 (sCall fX12_goesBehind sNil)) sSkip)) ik_fuel)))))))) sRetV)
theorem qX12_condition : MX12_condition.1 = fX12_condition := by
  show sBody [.inr 0] bX12_condition.1.2 = _
  unfold bX12_condition fX12_condition
  simp only [m_aI, m_aNil, m_aR, m_cAnd, m_cCmp, m_cCmp0, m_cNot, m_eCall, m_eFld, m_eLit, m_eLoc, m_pDo, m_pIf, m_pPut, m_pRetV, m_pSeq, m_pSet, m_pSkip, m_pWh, qX12_goesBehind, qX12_here, qX12_isGood, qX12_opens, qX12_pieceOfC, qX12_wrongs]
def fX12_clause : FF := sBody [.inr 0] (sSeq (sSeq (sSet 1 (sCall fX12_here sNil)) (sSeq (sIf (sNot (sCmp0 1 (sCall fX12_isDigit (sArgI (sLoc 1) sNil)))) (sDo fX12_wrongs (sArgI (sLit 1) (sArgI (sFld 0 30) sNil))) (sIf (sCmp 0 (sFld 0 46) (sLit 12)) (sDo fX12_wrongs (sArgI (sLit 4) (sArgI (sFld 0 30) sNil))) (sIf (sCmp 3 (sBin 1 (sLoc 1) (sLit 48)) (sLit 4)) (sDo fX12_wrongs (sArgI (sLit 3) (sArgI (sFld 0 30) sNil))) sSkip))) (sSeq (sIf (sNot (sCmp0 1 (sCall fX12_isGood sNil))) sRetV sSkip) (sSeq (sAst 27 0 12 (sFld 0 46) (sBin 1 (sLoc 1) (sLit 48))) (sSeq (sAst 28 0 12 (sFld 0 46) (sFld 0 47)) (sSeq (sPutOp 0 30 0 (sLit 1)) (sSeq (sDo fX12_condition sNil) (sSeq (sAst 29 0 12 (sFld 0 46) (sFld 0 47)) (sPutOp 0 46 0 (sLit 1)))))))))) sRetV)
theorem qX12_clause : MX12_clause.1 = fX12_clause := by
  show sBody [.inr 0] bX12_clause.1.2 = _
  unfold bX12_clause fX12_clause
  simp only [m_aI, m_aNil, m_aR, m_cCmp, m_cCmp0, m_cNot, m_eBin, m_eCall, m_eFld, m_eLit, m_eLoc, m_pAst, m_pDo, m_pIf, m_pPutOp, m_pRetV, m_pSeq, m_pSet, m_pSkip, qX12_condition, qX12_here, qX12_isDigit, qX12_isGood, qX12_wrongs]
def fX12_rules : FF := sBody [.inr 0, .inl 0] (sSeq (sIf (sOr (sNot (sCmp0 1 (sCall fX12_lies (sArgL (sI2l (sLoc 1)) (sArgL (sLitL 1) (sArgL (sLitL 160) sNil)))))) (sCmp 4 (sLoc 1) (sFld 0 1))) (sRet 0 (sLit (-1))) sSkip) (sSeq (sPut 0 1 0 (sLit 0)) (sSeq (sPut 0 30 0 (sLit 0)) (sSeq (sPut 0 31 0 (sLoc 1)) (sSeq (sPut 0 32 0 (sLit 0)) (sSeq (sPut 0 46 0 (sLit 0)) (sSeq (sPut 0 47 0 (sLit 0)) (sSeq (sSet 2 (sLit 1)) (sSeq (sWh (sAnd (sCmp0 1 (sLoc 2)) (sCmp0 1 (sCall fX12_isGood sNil))) (sSeq (sDo fX12_clause sNil) (sSeq (sSet 2 (sIte (sAnd (sCmp0 1 (sCall fX12_isGood sNil)) (sCmp 2 (sFld 0 30) (sFld 0 31))) (sLit 1) (sLit 0))) (sIf (sCmp0 1 (sLoc 2)) (sSeq (sIf (sCmp 1 (sCall fX12_here sNil) (sLit 59)) (sDo fX12_wrongs (sArgI (sLit 1) (sArgI (sFld 0 30) sNil))) sSkip) (sPutOp 0 30 0 (sLit 1))) sSkip))) ik_fuel) (sSeq (sIf (sCmp0 2 (sFld 0 32)) (sRet 0 (sFld 0 32)) sSkip) (sSeq (sSeq (sSet 3 (sLit 0)) (sWh (sCmp 2 (sLoc 3) (sFld 0 46)) (sSeq (sSeq (sAst 22 0 12 (sLoc 3) (sArr 27 12 (sLoc 3))) (sSeq (sAst 23 0 12 (sLoc 3) (sArr 28 12 (sLoc 3))) (sAst 24 0 12 (sLoc 3) (sArr 29 12 (sLoc 3))))) (sInc 3 1)) ik_fuel)) (sSeq (sSeq (sSet 3 (sLit 0)) (sWh (sCmp 2 (sLoc 3) (sFld 0 47)) (sSeq (sSeq (sAst 25 0 160 (sLoc 3) (sArr 30 160 (sLoc 3))) (sAst 26 0 160 (sLoc 3) (sArr 31 160 (sLoc 3)))) (sInc 3 1)) ik_fuel)) (sSeq (sPut 0 5 0 (sFld 0 46)) (sRet 0 (sFld 0 46)))))))))))))))
theorem qX12_rules : MX12_rules.1 = fX12_rules := by
  show sBody [.inr 0, .inl 0] bX12_rules.1.2 = _
  unfold bX12_rules fX12_rules
  simp only [m_aI, m_aL, m_aNil, m_aR, m_cAnd, m_cCmp, m_cCmp0, m_cNot, m_cOr, m_eArr, m_eCall, m_eFld, m_eIte, m_eLit, m_eLoc, m_lI2l, m_lLdc, m_lLit, m_pAst, m_pDo, m_pIf, m_pInc, m_pPut, m_pPutOp, m_pRet, m_pSeq, m_pSet, m_pSkip, m_pWh, qX12_clause, qX12_here, qX12_isGood, qX12_lies, qX12_wrongs]
def fX12_isBar : FF := sBody [.inr 0, .inl 0] (sRet 3 (sCall fX12_lies (sArgL (sI2l (sLoc 1)) (sArgL (sLitL 0) (sArgL (sI2l (sBin 1 (sFld 0 3) (sLit 1))) sNil)))))
theorem qX12_isBar : MX12_isBar.1 = fX12_isBar := by
  show sBody [.inr 0, .inl 0] bX12_isBar.1.2 = _
  unfold bX12_isBar fX12_isBar
  simp only [m_aL, m_aNil, m_eBin, m_eCall, m_eFld, m_eLit, m_eLoc, m_lI2l, m_lLit, m_pRet, qX12_lies]
def fX12_tie : FF := sBody [.inr 0, .inl 0, .inl 0, .inl 0] (sSeq (sIf (sOr (sOr (sOr (sOr (sCmp 0 (sFld 0 6) (sLit 20)) (sNot (sCmp0 1 (sCall fX12_lies (sArgL (sI2l (sLoc 1)) (sArgL (sLitL 0) (sArgL (sLitL 2) sNil))))))) (sNot (sCmp0 1 (sCall fX12_isBar (sArgI (sLoc 2) sNil))))) (sNot (sCmp0 1 (sCall fX12_isBar (sArgI (sLoc 3) sNil))))) (sCmp 0 (sLoc 2) (sLoc 3))) (sRet 3 (sLit 0)) sSkip) (sSeq (sAst 35 0 20 (sFld 0 6) (sLoc 1)) (sSeq (sAst 36 0 20 (sFld 0 6) (sLoc 2)) (sSeq (sAst 37 0 20 (sFld 0 6) (sLoc 3)) (sSeq (sPutOp 0 6 0 (sLit 1)) (sRet 3 (sLit 1)))))))
theorem qX12_tie : MX12_tie.1 = fX12_tie := by
  show sBody [.inr 0, .inl 0, .inl 0, .inl 0] bX12_tie.1.2 = _
  unfold bX12_tie fX12_tie
  simp only [m_aI, m_aL, m_aNil, m_aR, m_cCmp, m_cCmp0, m_cNot, m_cOr, m_eCall, m_eFld, m_eLit, m_eLoc, m_lI2l, m_lLdc, m_lLit, m_pAst, m_pIf, m_pPutOp, m_pRet, m_pSeq, m_pSkip, qX12_isBar, qX12_lies]
def fX12_listed : FF := sBody [.inr 0, .inl 0, .inl 0, .inl 0] (sSeq (sIf (sOr (sOr (sOr (sCmp 0 (sFld 0 7) (sLit 20)) (sNot (sCmp0 1 (sCall fX12_isBar (sArgI (sLoc 1) sNil))))) (sAnd (sCmp 1 (sLoc 2) (sLit (-1))) (sNot (sCmp0 1 (sCall fX12_isName (sArgI (sLoc 2) sNil)))))) (sAnd (sCmp 1 (sLoc 3) (sLit (-1))) (sNot (sCmp0 1 (sCall fX12_isName (sArgI (sLoc 3) sNil)))))) (sRet 3 (sLit 0)) sSkip) (sSeq (sAst 38 0 20 (sFld 0 7) (sLoc 1)) (sSeq (sAst 39 0 20 (sFld 0 7) (sLoc 2)) (sSeq (sAst 40 0 20 (sFld 0 7) (sLoc 3)) (sSeq (sPutOp 0 7 0 (sLit 1)) (sRet 3 (sLit 1)))))))
theorem qX12_listed : MX12_listed.1 = fX12_listed := by
  show sBody [.inr 0, .inl 0, .inl 0, .inl 0] bX12_listed.1.2 = _
  unfold bX12_listed fX12_listed
  simp only [m_aI, m_aNil, m_aR, m_cAnd, m_cCmp, m_cCmp0, m_cNot, m_cOr, m_eCall, m_eFld, m_eLit, m_eLoc, m_pAst, m_pIf, m_pPutOp, m_pRet, m_pSeq, m_pSkip, qX12_isBar, qX12_isName]
def fX12_isHouse : FF := sBody [.inl 0] (sRet 3 (sCall fX12_lies (sArgL (sI2l (sLoc 0)) (sArgL (sLitL 0) (sArgL (sLitL 3) sNil)))))
theorem qX12_isHouse : MX12_isHouse.1 = fX12_isHouse := by
  show sBody [.inl 0] bX12_isHouse.1.2 = _
  unfold bX12_isHouse fX12_isHouse
  simp only [m_aL, m_aNil, m_eCall, m_eLoc, m_lI2l, m_lLdc, m_lLit, m_pRet, qX12_lies]
def fX12_lifted : FF := sBody [.inr 0, .inl 0, .inl 0, .inl 0] (sSeq (sIf (sOr (sOr (sOr (sCmp 0 (sFld 0 8) (sLit 60)) (sNot (sCmp0 1 (sCall fX12_isHouse (sArgI (sLoc 1) sNil))))) (sNot (sCmp0 1 (sCall fX12_isName (sArgI (sLoc 2) sNil))))) (sNot (sCmp0 1 (sCall fX12_lies (sArgL (sI2l (sLoc 3)) (sArgL (sLitL 1) (sArgL (sLitL 3000) sNil))))))) (sRet 3 (sLit 0)) sSkip) (sSeq (sAst 41 0 60 (sFld 0 8) (sLoc 1)) (sSeq (sAst 42 0 60 (sFld 0 8) (sLoc 2)) (sSeq (sAst 43 0 60 (sFld 0 8) (sLoc 3)) (sSeq (sPutOp 0 8 0 (sLit 1)) (sRet 3 (sLit 1)))))))
theorem qX12_lifted : MX12_lifted.1 = fX12_lifted := by
  show sBody [.inr 0, .inl 0, .inl 0, .inl 0] bX12_lifted.1.2 = _
  unfold bX12_lifted fX12_lifted
  simp only [m_aI, m_aL, m_aNil, m_aR, m_cCmp, m_cCmp0, m_cNot, m_cOr, m_eCall, m_eFld, m_eLit, m_eLoc, m_lI2l, m_lLdc, m_lLit, m_pAst, m_pIf, m_pPutOp, m_pRet, m_pSeq, m_pSkip, qX12_isHouse, qX12_isName, qX12_lies]
def fX12_habitOf : FF := sBody [.inr 0, .inl 0, .inl 0] (sSeq (sSet 3 (sLit 0)) (sSeq (sSet 4 (sIte (sCmp0 1 (sLoc 2)) (sLit 20) (sLit 0))) (sSeq (sSeq (sSet 5 (sLit 0)) (sWh (sCmp 2 (sLoc 5) (sFld 0 8)) (sSeq (sIf (sCmp 1 (sArr 41 60 (sLoc 5)) (sLoc 1)) sSkip (sSeq (sSet 6 (sBin 1 (sArr 43 60 (sLoc 5)) (sCall fX12_wideOf (sArgI (sArr 42 60 (sLoc 5)) sNil)))) (sSeq (sSet 4 (sIte (sOr (sNot (sCmp0 1 (sLoc 3))) (sIteC (sCmp0 1 (sLoc 2)) (sCmp 4 (sLoc 6) (sLoc 4)) (sCmp 2 (sLoc 6) (sLoc 4)))) (sLoc 6) (sLoc 4))) (sSet 3 (sLit 1))))) (sInc 5 1)) ik_fuel)) (sRet 0 (sLoc 4)))))
theorem qX12_habitOf : MX12_habitOf.1 = fX12_habitOf := by
  show sBody [.inr 0, .inl 0, .inl 0] bX12_habitOf.1.2 = _
  unfold bX12_habitOf fX12_habitOf
  simp only [m_aI, m_aNil, m_aR, m_cCmp, m_cCmp0, m_cIteC, m_cNot, m_cOr, m_eArr, m_eBin, m_eCall, m_eFld, m_eIte, m_eLit, m_eLoc, m_pIf, m_pInc, m_pRet, m_pSeq, m_pSet, m_pSkip, m_pWh, qX12_wideOf]
def fX12_habit : FF := sBody [.inr 0, .inl 0, .inl 0] (sRet 0 (sIte (sAnd (sCmp0 1 (sCall fX12_isHouse (sArgI (sLoc 1) sNil))) (sCmp0 1 (sCall fX12_lies (sArgL (sI2l (sLoc 2)) (sArgL (sLitL 0) (sArgL (sLitL 1) sNil)))))) (sCall fX12_habitOf (sArgI (sLoc 1) (sArgI (sIte (sCmp 0 (sLoc 2) (sLit 1)) (sLit 1) (sLit 0)) sNil))) (sLit (-10000))))
theorem qX12_habit : MX12_habit.1 = fX12_habit := by
  show sBody [.inr 0, .inl 0, .inl 0] bX12_habit.1.2 = _
  unfold bX12_habit fX12_habit
  simp only [m_aI, m_aL, m_aNil, m_aR, m_cAnd, m_cCmp, m_cCmp0, m_eCall, m_eIte, m_eLit, m_eLoc, m_lI2l, m_lLit, m_pRet, qX12_habitOf, qX12_isHouse, qX12_lies]
def fX12_house : FF := sBody [.inr 0, .inl 0] (sSeq (sIf (sNot (sCmp0 1 (sCall fX12_isHouse (sArgI (sLoc 1) sNil)))) (sRet 3 (sLit 0)) sSkip) (sSeq (sPut 0 11 0 (sLoc 1)) (sRet 3 (sLit 1))))
theorem qX12_house : MX12_house.1 = fX12_house := by
  show sBody [.inr 0, .inl 0] bX12_house.1.2 = _
  unfold bX12_house fX12_house
  simp only [m_aI, m_aNil, m_cCmp0, m_cNot, m_eCall, m_eLit, m_eLoc, m_pIf, m_pPut, m_pRet, m_pSeq, m_pSkip, qX12_isHouse]
def fX12_isWord : FF := sBody [.inr 0, .inl 0, .inl 0, .inl 0] (sSeq (sIf (sOr (sCmp 2 (sArr 16 144 (sLoc 1)) (sLit 4)) (sCmp 1 (sBin 1 (sArr 18 144 (sLoc 1)) (sArr 17 144 (sLoc 1))) (sIte (sCmp0 1 (sLoc 3)) (sLit 2) (sLit 1)))) (sRet 3 (sLit 0)) sSkip) (sSeq (sSet 4 (sBin 0 (sBin 2 (sLit 160) (sLoc 2)) (sArr 17 144 (sLoc 1)))) (sRet 3 (sIte (sAnd (sCmp 0 (sArr 15 960 (sLoc 4)) (sLit 97)) (sOr (sNot (sCmp0 1 (sLoc 3))) (sCmp 0 (sArr 15 960 (sBin 0 (sLoc 4) (sLit 1))) (sLit 110)))) (sLit 1) (sLit 0)))))
theorem qX12_isWord : MX12_isWord.1 = fX12_isWord := by
  show sBody [.inr 0, .inl 0, .inl 0, .inl 0] bX12_isWord.1.2 = _
  unfold bX12_isWord fX12_isWord
  simp only [m_cAnd, m_cCmp, m_cCmp0, m_cNot, m_cOr, m_eArr, m_eBin, m_eIte, m_eLit, m_eLoc, m_pIf, m_pRet, m_pSeq, m_pSet, m_pSkip]
def fX12_isVowel : FF := sBody [.inr 0, .inl 0] (sSeq (sSet 2 (sArr 4 288 (sBin 2 (sLit 12) (sLoc 1)))) (sRet 3 (sIte (sOr (sOr (sOr (sOr (sCmp 0 (sLoc 2) (sLit 97)) (sCmp 0 (sLoc 2) (sLit 101))) (sCmp 0 (sLoc 2) (sLit 105))) (sCmp 0 (sLoc 2) (sLit 111))) (sCmp 0 (sLoc 2) (sLit 117))) (sLit 1) (sLit 0))))
theorem qX12_isVowel : MX12_isVowel.1 = fX12_isVowel := by
  show sBody [.inr 0, .inl 0] bX12_isVowel.1.2 = _
  unfold bX12_isVowel fX12_isVowel
  simp only [m_cCmp, m_cOr, m_eArr, m_eBin, m_eIte, m_eLit, m_eLoc, m_pRet, m_pSeq, m_pSet]
def fX12_isAgainstGrammar : FF := sBody [.inr 0, .inl 0, .inl 0] (sSeq (sSeq (sSet 3 (sLit 0)) (sWh (sCmp 2 (sLoc 3) (sFld 0 4)) (sSeq (sSeq (sSet 4 (sLit 1)) (sWh (sCmp 2 (sLoc 4) (sArr 14 6 (sLoc 3))) (sSeq (sSeq (sSet 5 (sBin 0 (sBin 2 (sLit 24) (sLoc 3)) (sLoc 4))) (sIf (sCmp 1 (sArr 16 144 (sLoc 5)) (sLoc 1)) sSkip (sIf (sOr (sAnd (sCmp0 1 (sCall fX12_isWord (sArgI (sBin 1 (sLoc 5) (sLit 1)) (sArgI (sLoc 3) (sArgI (sLit 0) sNil))))) (sCmp0 1 (sCall fX12_isVowel (sArgI (sLoc 2) sNil)))) (sAnd (sCmp0 1 (sCall fX12_isWord (sArgI (sBin 1 (sLoc 5) (sLit 1)) (sArgI (sLoc 3) (sArgI (sLit 1) sNil))))) (sNot (sCmp0 1 (sCall fX12_isVowel (sArgI (sLoc 2) sNil)))))) (sRet 3 (sLit 1)) sSkip))) (sInc 4 1)) ik_fuel)) (sInc 3 1)) ik_fuel)) (sRet 3 (sLit 0)))
theorem qX12_isAgainstGrammar : MX12_isAgainstGrammar.1 = fX12_isAgainstGrammar := by
  show sBody [.inr 0, .inl 0, .inl 0] bX12_isAgainstGrammar.1.2 = _
  unfold bX12_isAgainstGrammar fX12_isAgainstGrammar
  simp only [m_aI, m_aNil, m_aR, m_cAnd, m_cCmp, m_cCmp0, m_cNot, m_cOr, m_eArr, m_eBin, m_eCall, m_eFld, m_eLit, m_eLoc, m_pIf, m_pInc, m_pRet, m_pSeq, m_pSet, m_pSkip, m_pWh, qX12_isVowel, qX12_isWord]
def fX12_worked : FF := sBody [.inl 0, .inl 0, .inl 0] (sSw (sLoc 0) (ik_pickS [(43, (sDead (sRet 0 (sBin 0 (sLoc 1) (sLoc 2))))), (45, (sDead (sRet 0 (sBin 1 (sLoc 1) (sLoc 2))))), (42, (sDead (sRet 0 (sBin 2 (sLoc 1) (sLoc 2))))), (47, (sDead (sRet 0 (sIte (sCmp0 0 (sLoc 2)) (sLit 0) (sBin 9 (sLoc 1) (sLoc 2)))))), (37, (sDead (sRet 0 (sIte (sCmp0 0 (sLoc 2)) (sLit 0) (sBin 10 (sLoc 1) (sLoc 2)))))), (60, (sDead (sRet 0 (sIte (sCmp 2 (sLoc 1) (sLoc 2)) (sLit 1) (sLit 0))))), (62, (sDead (sRet 0 (sIte (sCmp 4 (sLoc 1) (sLoc 2)) (sLit 1) (sLit 0)))))] (sDead (sRet 0 (sIte (sCmp 0 (sLoc 1) (sLoc 2)) (sLit 1) (sLit 0))))))
theorem qX12_worked : MX12_worked.1 = fX12_worked := by
  show sBody [.inl 0, .inl 0, .inl 0] bX12_worked.1.2 = _
  unfold bX12_worked fX12_worked
  simp only [m_cCmp, m_cCmp0, m_eBin, m_eIte, m_eLit, m_eLoc, m_pDead, m_pRet, m_pSw, List.map_cons, List.map_nil]
def fX12_does : FF := sBody [.inr 0, .inl 0, .inl 0] (sSeq (sSeq (sSet 3 (sBin 0 (sLoc 2) (sLit 1))) (sSeq (sIf (sOr (sCmp 0 (sLoc 1) (sLit 38)) (sCmp 0 (sLoc 1) (sLit 124))) (sSeq (sIf (sOr (sCmp0 1 (sArr 34 200 (sLoc 2))) (sCmp 1 (sArr 33 200 (sLoc 2)) (sIte (sCmp 0 (sLoc 1) (sLit 38)) (sLit 1) (sLit 0)))) sRetV sSkip) (sSeq (sAst 33 0 200 (sLoc 2) (sArr 33 200 (sLoc 3))) (sSeq (sAst 34 3 200 (sLoc 2) (sArr 34 200 (sLoc 3))) sRetV))) sSkip) (sSeq (sAst 34 3 200 (sLoc 2) (sIte (sOr (sOr (sCmp0 1 (sArr 34 200 (sLoc 2))) (sCmp0 1 (sArr 34 200 (sLoc 3)))) (sAnd (sOr (sCmp 0 (sLoc 1) (sLit 47)) (sCmp 0 (sLoc 1) (sLit 37))) (sCmp0 0 (sArr 33 200 (sLoc 3))))) (sLit 1) (sLit 0))) (sAst 33 0 200 (sLoc 2) (sCall fX12_worked (sArgI (sLoc 1) (sArgI (sArr 33 200 (sLoc 2)) (sArgI (sArr 33 200 (sLoc 3)) sNil)))))))) sRetV)
theorem qX12_does : MX12_does.1 = fX12_does := by
  show sBody [.inr 0, .inl 0, .inl 0] bX12_does.1.2 = _
  unfold bX12_does fX12_does
  simp only [m_aI, m_aNil, m_cAnd, m_cCmp, m_cCmp0, m_cOr, m_eArr, m_eBin, m_eCall, m_eIte, m_eLit, m_eLoc, m_pAst, m_pIf, m_pRetV, m_pSeq, m_pSet, m_pSkip, qX12_worked]
def fX12_valueOf : FF := sBody [.inr 0, .inl 0] (sSeq (sSet 2 (sFld 0 54)) (sSw (sLoc 1) (ik_pickS [(105, (sDead (sRet 0 (sLoc 2)))), (119, (sDead (sRet 0 (sCall fX12_wideOf (sArgI (sLoc 2) sNil))))), (110, (sDead (sRet 0 (sArr 5 24 (sLoc 2))))), (115, (sDead (sRet 0 (sArr 6 24 (sLoc 2))))), (121, (sDead (sRet 0 (sArr 7 24 (sLoc 2))))), (122, (sDead (sRet 0 (sArr 8 24 (sLoc 2))))), (118, (sDead (sRet 0 (sIte (sCmp0 1 (sCall fX12_isVowel (sArgI (sLoc 2) sNil))) (sLit 1) (sLit 0))))), (97, (sDead (sRet 0 (sBin 0 (sBin 1 (sArr 4 288 (sBin 2 (sLit 12) (sLoc 2))) (sLit 97)) (sLit 1)))))] (sDead (sRet 0 (sArr 10 4 (sFld 0 53)))))))
theorem qX12_valueOf : MX12_valueOf.1 = fX12_valueOf := by
  show sBody [.inr 0, .inl 0] bX12_valueOf.1.2 = _
  unfold bX12_valueOf fX12_valueOf
  simp only [m_aI, m_aNil, m_aR, m_cCmp0, m_eArr, m_eBin, m_eCall, m_eFld, m_eIte, m_eLit, m_eLoc, m_pDead, m_pRet, m_pSeq, m_pSet, m_pSw, List.map_cons, List.map_nil, qX12_isVowel, qX12_wideOf]
def fX12_holds : FF := sBody [.inr 0, .inl 0] (sSeq (sSet 2 (sLit 0)) (sSeq (sSeq (sSet 3 (sArr 23 12 (sLoc 1))) (sWh (sCmp 2 (sLoc 3) (sArr 24 12 (sLoc 1))) (sSeq (sIf (sCmp 4 (sArr 25 160 (sLoc 3)) (sLit 2)) (sSeq (sInc 2 (-1)) (sDo fX12_does (sArgI (sArr 25 160 (sLoc 3)) (sArgI (sBin 1 (sLoc 2) (sLit 1)) sNil)))) (sIf (sCmp 0 (sArr 25 160 (sLoc 3)) (sLit 2)) (sAst 33 0 200 (sBin 1 (sLoc 2) (sLit 1)) (sBin 1 (sLit 1) (sArr 33 200 (sBin 1 (sLoc 2) (sLit 1))))) (sSeq (sAst 34 3 200 (sLoc 2) (sLit 0)) (sSeq (sAst 33 0 200 (sLoc 2) (sIte (sCmp0 0 (sArr 25 160 (sLoc 3))) (sArr 26 160 (sLoc 3)) (sCall fX12_valueOf (sArgI (sArr 26 160 (sLoc 3)) sNil)))) (sInc 2 1))))) (sInc 3 1)) ik_fuel)) (sRet 3 (sIte (sAnd (sNot (sCmp0 1 (sArr 34 200 (sLit 0)))) (sCmp 0 (sArr 33 200 (sLit 0)) (sLit 1))) (sLit 1) (sLit 0)))))
theorem qX12_holds : MX12_holds.1 = fX12_holds := by
  show sBody [.inr 0, .inl 0] bX12_holds.1.2 = _
  unfold bX12_holds fX12_holds
  simp only [m_aI, m_aNil, m_aR, m_cAnd, m_cCmp, m_cCmp0, m_cNot, m_eArr, m_eBin, m_eCall, m_eIte, m_eLit, m_eLoc, m_pAst, m_pDo, m_pIf, m_pInc, m_pRet, m_pSeq, m_pSet, m_pWh, qX12_does, qX12_valueOf]
def fX12_isAgainstRules : FF := sBody [.inr 0, .inl 0, .inl 0] (sSeq (sPut 0 53 0 (sLoc 1)) (sSeq (sPut 0 54 0 (sLoc 2)) (sSeq (sSeq (sSet 3 (sLit 0)) (sWh (sCmp 2 (sLoc 3) (sFld 0 5)) (sSeq (sIf (sAnd (sCmp 0 (sArr 22 12 (sLoc 3)) (sLoc 1)) (sNot (sCmp0 1 (sCall fX12_holds (sArgI (sLoc 3) sNil))))) (sRet 3 (sLit 1)) sSkip) (sInc 3 1)) ik_fuel)) (sRet 3 (sLit 0)))))
theorem qX12_isAgainstRules : MX12_isAgainstRules.1 = fX12_isAgainstRules := by
  show sBody [.inr 0, .inl 0, .inl 0] bX12_isAgainstRules.1.2 = _
  unfold bX12_isAgainstRules fX12_isAgainstRules
  simp only [m_aI, m_aNil, m_aR, m_cAnd, m_cCmp, m_cCmp0, m_cNot, m_eArr, m_eCall, m_eFld, m_eLit, m_eLoc, m_pIf, m_pInc, m_pPut, m_pRet, m_pSeq, m_pSet, m_pSkip, m_pWh, qX12_holds]
def fX12_isAgainstLists : FF := sBody [.inr 0, .inl 0, .inl 0] (sSeq (sSeq (sSet 3 (sLit 0)) (sWh (sCmp 2 (sLoc 3) (sFld 0 7)) (sSeq (sIf (sCmp 1 (sArr 38 20 (sLoc 3)) (sLoc 1)) sSkip (sIf (sOr (sAnd (sCmp 1 (sArr 39 20 (sLoc 3)) (sLit (-1))) (sCmp0 3 (sCall fX12_compared (sArgI (sArr 39 20 (sLoc 3)) (sArgI (sLoc 2) sNil))))) (sAnd (sCmp 1 (sArr 40 20 (sLoc 3)) (sLit (-1))) (sCmp0 3 (sCall fX12_compared (sArgI (sLoc 2) (sArgI (sArr 40 20 (sLoc 3)) sNil)))))) (sRet 3 (sLit 1)) sSkip)) (sInc 3 1)) ik_fuel)) (sRet 3 (sLit 0)))
theorem qX12_isAgainstLists : MX12_isAgainstLists.1 = fX12_isAgainstLists := by
  show sBody [.inr 0, .inl 0, .inl 0] bX12_isAgainstLists.1.2 = _
  unfold bX12_isAgainstLists fX12_isAgainstLists
  simp only [m_aI, m_aNil, m_aR, m_cAnd, m_cCmp, m_cCmp0, m_cOr, m_eArr, m_eCall, m_eFld, m_eLit, m_eLoc, m_pIf, m_pInc, m_pRet, m_pSeq, m_pSet, m_pSkip, m_pWh, qX12_compared]
def fX12_has : FF := sBody [.inl 0, .inl 0] (sRet 3 (sIte (sCmp 0 (sBin 3 (sBin 7 (sLoc 0) (sLoc 1)) (sLit 1)) (sLit 1)) (sLit 1) (sLit 0)))
theorem qX12_has : MX12_has.1 = fX12_has := by
  show sBody [.inl 0, .inl 0] bX12_has.1.2 = _
  unfold bX12_has fX12_has
  simp only [m_cCmp, m_eBin, m_eIte, m_eLit, m_eLoc, m_pRet]
def fX12_againstOf : FF := sBody [.inr 0, .inl 0, .inl 0] (sSeq (sSet 3 (sBin 1 (sArr 10 4 (sLoc 1)) (sCall fX12_wideOf (sArgI (sLoc 2) sNil)))) (sSeq (sSet 4 (sIte (sOr (sCmp 2 (sLoc 3) (sCall fX12_habitOf (sArgI (sFld 0 11) (sArgI (sLit 0) sNil)))) (sCmp 4 (sLoc 3) (sCall fX12_habitOf (sArgI (sFld 0 11) (sArgI (sLit 1) sNil))))) (sLit 1) (sLit 0))) (sSeq (sSet 4 (sBin 4 (sLoc 4) (sIte (sCmp0 1 (sCall fX12_isAgainstGrammar (sArgI (sLoc 1) (sArgI (sLoc 2) sNil)))) (sLit 4) (sLit 0)))) (sSeq (sSet 4 (sBin 4 (sLoc 4) (sIte (sCmp0 1 (sCall fX12_isAgainstRules (sArgI (sLoc 1) (sArgI (sLoc 2) sNil)))) (sLit 8) (sLit 0)))) (sSeq (sSet 4 (sBin 4 (sLoc 4) (sIte (sCmp0 1 (sCall fX12_isAgainstLists (sArgI (sLoc 1) (sArgI (sLoc 2) sNil)))) (sLit 16) (sLit 0)))) (sSeq (sSet 5 (sIte (sAnd (sCmp 1 (sArr 11 4 (sLoc 1)) (sLit (-1))) (sNot (sCmp0 1 (sCall fX12_lies (sArgL (sI2l (sArr 11 4 (sLoc 1))) (sArgL (sI2l (sArr 7 24 (sLoc 2))) (sArgL (sI2l (sArr 8 24 (sLoc 2))) sNil))))))) (sLit 1) (sLit 0))) (sRet 0 (sBin 4 (sLoc 4) (sIte (sOr (sCmp0 1 (sLoc 5)) (sNot (sCmp0 1 (sCall fX12_has (sArgI (sArr 12 4 (sLoc 1)) (sArgI (sArr 6 24 (sLoc 2)) sNil)))))) (sLit 32) (sLit 0))))))))))
theorem qX12_againstOf : MX12_againstOf.1 = fX12_againstOf := by
  show sBody [.inr 0, .inl 0, .inl 0] bX12_againstOf.1.2 = _
  unfold bX12_againstOf fX12_againstOf
  simp only [m_aI, m_aL, m_aNil, m_aR, m_cAnd, m_cCmp, m_cCmp0, m_cNot, m_cOr, m_eArr, m_eBin, m_eCall, m_eFld, m_eIte, m_eLit, m_eLoc, m_lI2l, m_pRet, m_pSeq, m_pSet, qX12_habitOf, qX12_has, qX12_isAgainstGrammar, qX12_isAgainstLists, qX12_isAgainstRules, qX12_lies, qX12_wideOf]
def fX12_against : FF := sBody [.inr 0, .inl 0, .inl 0] (sRet 0 (sIte (sAnd (sCmp0 1 (sCall fX12_isBar (sArgI (sLoc 1) sNil))) (sCmp0 1 (sCall fX12_isName (sArgI (sLoc 2) sNil)))) (sCall fX12_againstOf (sArgI (sLoc 1) (sArgI (sLoc 2) sNil))) (sLit (-1))))
theorem qX12_against : MX12_against.1 = fX12_against := by
  show sBody [.inr 0, .inl 0, .inl 0] bX12_against.1.2 = _
  unfold bX12_against fX12_against
  simp only [m_aI, m_aNil, m_aR, m_cAnd, m_cCmp0, m_eCall, m_eIte, m_eLit, m_eLoc, m_pRet, qX12_againstOf, qX12_isBar, qX12_isName]
def fX12_rowsOf : FF := sBody [.inr 0] (sSeq (sSet 1 (sLit 1)) (sSeq (sSeq (sSet 2 (sLit 0)) (sWh (sCmp 2 (sLoc 2) (sFld 0 3)) (sSeq (sSet 1 (sBin 2 (sLoc 1) (sLit 24))) (sInc 2 1)) ik_fuel)) (sRet 0 (sLoc 1))))
theorem qX12_rowsOf : MX12_rowsOf.1 = fX12_rowsOf := by
  show sBody [.inr 0] bX12_rowsOf.1.2 = _
  unfold bX12_rowsOf fX12_rowsOf
  simp only [m_cCmp, m_eBin, m_eFld, m_eLit, m_eLoc, m_pInc, m_pRet, m_pSeq, m_pSet, m_pWh]
def fX12_takes : FF := sBody [.inr 0, .inl 0] (sSeq (sSet 2 (sLoc 1)) (sSeq (sSeq (sSet 3 (sLit 0)) (sWh (sCmp 2 (sLoc 3) (sFld 0 3)) (sSeq (sSeq (sAst 20 0 4 (sLoc 3) (sBin 10 (sLoc 2) (sLit 24))) (sSeq (sSet 2 (sBin 9 (sLoc 2) (sLit 24))) (sIf (sCmp 3 (sArr 20 4 (sLoc 3)) (sFld 0 2)) (sRet 3 (sLit 0)) sSkip))) (sInc 3 1)) ik_fuel)) (sRet 3 (sLit 1))))
theorem qX12_takes : MX12_takes.1 = fX12_takes := by
  show sBody [.inr 0, .inl 0] bX12_takes.1.2 = _
  unfold bX12_takes fX12_takes
  simp only [m_cCmp, m_eArr, m_eBin, m_eFld, m_eLit, m_eLoc, m_pAst, m_pIf, m_pInc, m_pRet, m_pSeq, m_pSet, m_pSkip, m_pWh]
def fX12_asks : FF := sBody [.inr 0] (sSeq (sSeq (sSet 1 (sLit 0)) (sWh (sCmp 2 (sLoc 1) (sFld 0 3)) (sSeq (sSeq (sSet 2 (sLit 0)) (sWh (sCmp 2 (sLoc 2) (sFld 0 2)) (sSeq (sAst 44 0 96 (sBin 0 (sBin 2 (sLit 24) (sLoc 1)) (sLoc 2)) (sCall fX12_againstOf (sArgI (sLoc 1) (sArgI (sLoc 2) sNil)))) (sInc 2 1)) ik_fuel)) (sInc 1 1)) ik_fuel)) sRetV)
theorem qX12_asks : MX12_asks.1 = fX12_asks := by
  show sBody [.inr 0] bX12_asks.1.2 = _
  unfold bX12_asks fX12_asks
  simp only [m_aI, m_aNil, m_aR, m_cCmp, m_eBin, m_eCall, m_eFld, m_eLit, m_eLoc, m_pAst, m_pInc, m_pRetV, m_pSeq, m_pSet, m_pWh, qX12_againstOf]
def fX12_wideOfToken : FF := sBody [.inr 0, .inl 0, .inl 0] (sSeq (sSet 3 (sBin 0 (sBin 2 (sLit 24) (sLoc 1)) (sLoc 2))) (sSeq (sIf (sCmp 2 (sArr 16 144 (sLoc 3)) (sLit 4)) (sRet 0 (sCall fX12_wideOf (sArgI (sArr 20 4 (sArr 16 144 (sLoc 3))) sNil))) sSkip) (sSeq (sSet 4 (sLit 0)) (sSeq (sSet 5 (sLit 0)) (sSeq (sSeq (sSet 6 (sArr 17 144 (sLoc 3))) (sWh (sCmp 2 (sLoc 6) (sArr 18 144 (sLoc 3))) (sSeq (sSeq (sSet 7 (sBin 0 (sBin 1 (sArr 15 960 (sBin 0 (sBin 2 (sLit 160) (sLoc 1)) (sLoc 6))) (sLit 97)) (sLit 1))) (sSeq (sSet 4 (sBin 0 (sLoc 4) (sBin 0 (sArr 2 27 (sLoc 7)) (sArr 3 729 (sBin 0 (sBin 2 (sLit 27) (sLoc 5)) (sLoc 7)))))) (sSet 5 (sLoc 7)))) (sInc 6 1)) ik_fuel)) (sRet 0 (sLoc 4)))))))
theorem qX12_wideOfToken : MX12_wideOfToken.1 = fX12_wideOfToken := by
  show sBody [.inr 0, .inl 0, .inl 0] bX12_wideOfToken.1.2 = _
  unfold bX12_wideOfToken fX12_wideOfToken
  simp only [m_aI, m_aNil, m_aR, m_cCmp, m_eArr, m_eBin, m_eCall, m_eLit, m_eLoc, m_pIf, m_pInc, m_pRet, m_pSeq, m_pSet, m_pSkip, m_pWh, qX12_wideOf]
def fX12_sets : FF := sBody [.inr 0, .inl 0] (sSeq (sSeq (sPut 0 34 0 (sLit 0)) (sSeq (sSet 2 (sLit 0)) (sSeq (sSet 3 (sLit 0)) (sWh (sCmp 2 (sLoc 3) (sArr 14 6 (sLoc 1))) (sSeq (sSeq (sSet 4 (sCall fX12_wideOfToken (sArgI (sLoc 1) (sArgI (sLoc 3) sNil)))) (sIf (sAnd (sCmp0 4 (sLoc 3)) (sCmp 5 (sBin 0 (sBin 0 (sLoc 2) (sArr 2 27 (sLit 0))) (sLoc 4)) (sArr 13 6 (sLoc 1)))) (sSet 2 (sBin 0 (sLoc 2) (sBin 0 (sArr 2 27 (sLit 0)) (sLoc 4)))) (sSeq (sAst 21 0 24 (sFld 0 34) (sLoc 3)) (sSeq (sPutOp 0 34 0 (sLit 1)) (sSet 2 (sLoc 4)))))) (sInc 3 1)) ik_fuel)))) sRetV)
theorem qX12_sets : MX12_sets.1 = fX12_sets := by
  show sBody [.inr 0, .inl 0] bX12_sets.1.2 = _
  unfold bX12_sets fX12_sets
  simp only [m_aI, m_aNil, m_aR, m_cAnd, m_cCmp, m_cCmp0, m_eArr, m_eBin, m_eCall, m_eFld, m_eLit, m_eLoc, m_pAst, m_pIf, m_pInc, m_pPut, m_pPutOp, m_pRetV, m_pSeq, m_pSet, m_pWh, qX12_wideOfToken]
def fX12_breaksSo : FF := sBody [.inr 0, .inl 0] (sSeq (sDo fX12_sets (sArgI (sLoc 1) sNil)) (sSeq (sSet 2 (sLit 1)) (sSeq (sSeq (sSet 3 (sLit 1)) (sWh (sCmp 2 (sLoc 3) (sArr 14 6 (sLoc 1))) (sSeq (sSeq (sSet 4 (sIte (sAnd (sCmp 2 (sLoc 2) (sFld 0 34)) (sCmp 0 (sArr 21 24 (sLoc 2)) (sLoc 3))) (sLit 1) (sLit 0))) (sSeq (sIf (sCmp 1 (sLoc 4) (sArr 19 144 (sBin 0 (sBin 2 (sLit 24) (sLoc 1)) (sLoc 3)))) (sRet 3 (sLit 0)) sSkip) (sSet 2 (sBin 0 (sLoc 2) (sIte (sCmp0 1 (sLoc 4)) (sLit 1) (sLit 0)))))) (sInc 3 1)) ik_fuel)) (sRet 3 (sLit 1)))))
theorem qX12_breaksSo : MX12_breaksSo.1 = fX12_breaksSo := by
  show sBody [.inr 0, .inl 0] bX12_breaksSo.1.2 = _
  unfold bX12_breaksSo fX12_breaksSo
  simp only [m_aI, m_aNil, m_aR, m_cAnd, m_cCmp, m_cCmp0, m_eArr, m_eBin, m_eFld, m_eIte, m_eLit, m_eLoc, m_pDo, m_pIf, m_pInc, m_pRet, m_pSeq, m_pSet, m_pSkip, m_pWh, qX12_sets]
def fX12_speaks : FF := sBody [.inr 0, .inl 0, .inl 0] (sSeq (sSet 3 (sLoc 2)) (sSeq (sSeq (sSet 4 (sLit 0)) (sWh (sCmp 2 (sLoc 4) (sFld 0 6)) (sSeq (sSeq (sSet 5 (sCall fX12_compared (sArgI (sArr 20 4 (sArr 36 20 (sLoc 4))) (sArgI (sArr 20 4 (sArr 37 20 (sLoc 4))) sNil)))) (sSeq (sSet 6 (sIte (sCmp0 0 (sArr 35 20 (sLoc 4))) (sIte (sCmp0 0 (sLoc 5)) (sLit 1) (sLit 0)) (sIte (sCmp 0 (sArr 35 20 (sLoc 4)) (sLit 1)) (sIte (sCmp0 1 (sLoc 5)) (sLit 1) (sLit 0)) (sIte (sCmp0 2 (sLoc 5)) (sLit 1) (sLit 0))))) (sSet 3 (sBin 4 (sLoc 3) (sIte (sCmp0 1 (sLoc 6)) (sLit 0) (sLit 16)))))) (sInc 4 1)) ik_fuel)) (sSeq (sIf (sCmp0 1 (sBin 3 (sLoc 3) (sBin 5 (sLoc 1) (sLit (-1))))) (sRet 0 (sLoc 3)) sSkip) (sSeq (sSeq (sSet 4 (sLit 0)) (sWh (sAnd (sCmp 2 (sLoc 4) (sFld 0 4)) (sNot (sCmp0 1 (sCall fX12_has (sArgI (sLoc 3) (sArgI (sLit 1) sNil)))))) (sSeq (sSet 3 (sBin 4 (sLoc 3) (sIte (sCmp0 1 (sCall fX12_breaksSo (sArgI (sLoc 4) sNil))) (sLit 0) (sLit 2)))) (sInc 4 1)) ik_fuel)) (sRet 0 (sLoc 3))))))
theorem qX12_speaks : MX12_speaks.1 = fX12_speaks := by
  show sBody [.inr 0, .inl 0, .inl 0] bX12_speaks.1.2 = _
  unfold bX12_speaks fX12_speaks
  simp only [m_aI, m_aNil, m_aR, m_cAnd, m_cCmp, m_cCmp0, m_cNot, m_eArr, m_eBin, m_eCall, m_eFld, m_eIte, m_eLit, m_eLoc, m_pIf, m_pInc, m_pRet, m_pSeq, m_pSet, m_pSkip, m_pWh, qX12_breaksSo, qX12_compared, qX12_has]
def fX12_judge : FF := sBody [.inr 0, .inl 0] (sSeq (sIf (sOr (sOr (sCmp0 0 (sFld 0 3)) (sNot (sCmp0 1 (sCall fX12_lies (sArgL (sI2l (sLoc 1)) (sArgL (sLitL 0) (sArgL (sI2l (sBin 1 (sCall fX12_rowsOf sNil) (sLit 1))) sNil))))))) (sNot (sCmp0 1 (sCall fX12_takes (sArgI (sLoc 1) sNil))))) (sRet 0 (sLit (-1))) sSkip) (sSeq (sDo fX12_asks sNil) (sSeq (sSet 2 (sLit 0)) (sSeq (sSeq (sSet 3 (sLit 0)) (sWh (sCmp 2 (sLoc 3) (sFld 0 3)) (sSeq (sSet 2 (sBin 4 (sLoc 2) (sArr 44 96 (sBin 0 (sBin 2 (sLit 24) (sLoc 3)) (sArr 20 4 (sLoc 3)))))) (sInc 3 1)) ik_fuel)) (sRet 0 (sCall fX12_speaks (sArgI (sLit 63) (sArgI (sLoc 2) sNil))))))))
theorem qX12_judge : MX12_judge.1 = fX12_judge := by
  show sBody [.inr 0, .inl 0] bX12_judge.1.2 = _
  unfold bX12_judge fX12_judge
  simp only [m_aI, m_aL, m_aNil, m_aR, m_cCmp, m_cCmp0, m_cNot, m_cOr, m_eArr, m_eBin, m_eCall, m_eFld, m_eLit, m_eLoc, m_lI2l, m_lLit, m_pDo, m_pIf, m_pInc, m_pRet, m_pSeq, m_pSet, m_pSkip, m_pWh, qX12_asks, qX12_lies, qX12_rowsOf, qX12_speaks, qX12_takes]
def fX12_isSheet : FF := sBody [.inr 0, .inl 0] (sRet 3 (sCall fX12_lies (sArgL (sI2l (sLoc 1)) (sArgL (sLitL 0) (sArgL (sI2l (sBin 1 (sFld 0 4) (sLit 1))) sNil)))))
theorem qX12_isSheet : MX12_isSheet.1 = fX12_isSheet := by
  show sBody [.inr 0, .inl 0] bX12_isSheet.1.2 = _
  unfold bX12_isSheet fX12_isSheet
  simp only [m_aL, m_aNil, m_eBin, m_eCall, m_eFld, m_eLit, m_eLoc, m_lI2l, m_lLit, m_pRet, qX12_lies]
def fX12_line : FF := sBody [.inr 0, .inl 0, .inl 0, .inl 0] (sSeq (sIf (sOr (sOr (sNot (sCmp0 1 (sCall fX12_isSheet (sArgI (sLoc 1) sNil)))) (sNot (sCmp0 1 (sCall fX12_lies (sArgL (sI2l (sLoc 2)) (sArgL (sLitL 0) (sArgL (sI2l (sBin 1 (sCall fX12_rowsOf sNil) (sLit 1))) sNil))))))) (sNot (sCmp0 1 (sCall fX12_takes (sArgI (sLoc 2) sNil))))) (sRet 0 (sLit (-1))) sSkip) (sSeq (sDo fX12_sets (sArgI (sLoc 1) sNil)) (sRet 0 (sIte (sCmp0 1 (sCall fX12_lies (sArgL (sI2l (sLoc 3)) (sArgL (sLitL 0) (sArgL (sI2l (sBin 1 (sFld 0 34) (sLit 1))) sNil))))) (sArr 21 24 (sLoc 3)) (sLit (-1))))))
theorem qX12_line : MX12_line.1 = fX12_line := by
  show sBody [.inr 0, .inl 0, .inl 0, .inl 0] bX12_line.1.2 = _
  unfold bX12_line fX12_line
  simp only [m_aI, m_aL, m_aNil, m_aR, m_cCmp0, m_cNot, m_cOr, m_eArr, m_eBin, m_eCall, m_eFld, m_eIte, m_eLit, m_eLoc, m_lI2l, m_lLit, m_pDo, m_pIf, m_pRet, m_pSeq, m_pSkip, qX12_isSheet, qX12_lies, qX12_rowsOf, qX12_sets, qX12_takes]
def fX12_begins : FF := sBody [.inr 0] (sSeq (sSeq (sSet 1 (sLit 0)) (sWh (sCmp 2 (sLoc 1) (sLit 4)) (sSeq (sAst 20 0 4 (sLoc 1) (sLit 0)) (sInc 1 1)) ik_fuel)) (sRet 3 (sIte (sAnd (sCmp0 4 (sFld 0 3)) (sCmp0 4 (sFld 0 2))) (sLit 1) (sLit 0))))
theorem qX12_begins : MX12_begins.1 = fX12_begins := by
  show sBody [.inr 0] bX12_begins.1.2 = _
  unfold bX12_begins fX12_begins
  simp only [m_cAnd, m_cCmp, m_cCmp0, m_eFld, m_eIte, m_eLit, m_eLoc, m_pAst, m_pInc, m_pRet, m_pSeq, m_pSet, m_pWh]
def fX12_tableOf : FF := sBody [.inr 0] (sSeq (sSet 1 (sLit 0)) (sSeq (sSeq (sSet 2 (sLit 0)) (sWh (sCmp 2 (sLoc 2) (sFld 0 3)) (sSeq (sSet 1 (sBin 4 (sLoc 1) (sArr 44 96 (sBin 0 (sBin 2 (sLit 24) (sLoc 2)) (sArr 20 4 (sLoc 2)))))) (sInc 2 1)) ik_fuel)) (sRet 0 (sLoc 1))))
theorem qX12_tableOf : MX12_tableOf.1 = fX12_tableOf := by
  show sBody [.inr 0] bX12_tableOf.1.2 = _
  unfold bX12_tableOf fX12_tableOf
  simp only [m_cCmp, m_eArr, m_eBin, m_eFld, m_eLit, m_eLoc, m_pInc, m_pRet, m_pSeq, m_pSet, m_pWh]
def fX12_goesOnNames : FF := sBody [.inr 0] (sSeq (sSet 1 (sBin 1 (sFld 0 3) (sLit 1))) (sSeq (sWh (sAnd (sCmp0 3 (sLoc 1)) (sCmp 0 (sArr 20 4 (sLoc 1)) (sBin 1 (sFld 0 2) (sLit 1)))) (sSeq (sAst 20 0 4 (sLoc 1) (sLit 0)) (sInc 1 (-1))) ik_fuel) (sSeq (sIf (sCmp0 2 (sLoc 1)) (sRet 3 (sLit 0)) sSkip) (sSeq (sAop 20 4 0 (sLoc 1) (sLit 1)) (sRet 3 (sLit 1))))))
theorem qX12_goesOnNames : MX12_goesOnNames.1 = fX12_goesOnNames := by
  show sBody [.inr 0] bX12_goesOnNames.1.2 = _
  unfold bX12_goesOnNames fX12_goesOnNames
  simp only [m_cAnd, m_cCmp, m_cCmp0, m_eArr, m_eBin, m_eFld, m_eLit, m_eLoc, m_pAop, m_pAst, m_pIf, m_pInc, m_pRet, m_pSeq, m_pSet, m_pSkip, m_pWh]
def fX12_fills : FF := sBody [.inr 0, .inl 0] (sSeq (sSeq (sDo fX12_asks sNil) (sSeq (sPut 0 67 0 (sLit 0)) (sSeq (sPutL 0 69 (sLitL 0)) (sSeq (sSeq (sSet 2 (sLit 0)) (sWh (sCmp 2 (sLoc 2) (sLit 96)) (sSeq (sAstL 45 96 (sLoc 2) (sLitL 0)) (sInc 2 1)) ik_fuel)) (sSeq (sSet 2 (sCall fX12_begins sNil)) (sWh (sCmp0 1 (sLoc 2)) (sSeq (sSet 3 (sCall fX12_tableOf sNil)) (sSeq (sIf (sAnd (sCmp0 0 (sBin 3 (sLoc 3) (sBin 5 (sLoc 1) (sLit (-1))))) (sCmp0 0 (sBin 3 (sCall fX12_speaks (sArgI (sLoc 1) (sArgI (sLoc 3) sNil))) (sBin 5 (sLoc 1) (sLit (-1)))))) (sSeq (sPutOp 0 67 0 (sLit 1)) (sSeq (sSetL 4 (sLitL 1)) (sSeq (sSeq (sSet 6 (sLit 0)) (sWh (sCmp 2 (sLoc 6) (sFld 0 3)) (sSeq (sSetL 4 (sBinL 1 (sLocL 4) (sI2l (sArr 9 24 (sArr 20 4 (sLoc 6)))))) (sInc 6 1)) ik_fuel)) (sSeq (sPutOpL 0 69 (sLocL 4)) (sSeq (sSet 6 (sLit 0)) (sWh (sCmp 2 (sLoc 6) (sFld 0 3)) (sSeq (sAopL 45 96 (sBin 0 (sBin 2 (sLit 24) (sLoc 6)) (sArr 20 4 (sLoc 6))) (sLocL 4)) (sInc 6 1)) ik_fuel)))))) sSkip) (sSet 2 (sCall fX12_goesOnNames sNil)))) ik_fuel)))))) sRetV)
theorem qX12_fills : MX12_fills.1 = fX12_fills := by
  show sBody [.inr 0, .inl 0] bX12_fills.1.2 = _
  unfold bX12_fills fX12_fills
  simp only [m_aI, m_aNil, m_aR, m_cAnd, m_cCmp, m_cCmp0, m_eArr, m_eBin, m_eCall, m_eFld, m_eLit, m_eLoc, m_lBin, m_lI2l, m_lLit, m_lLoc, m_pAopL, m_pAstL, m_pDo, m_pIf, m_pInc, m_pPut, m_pPutL, m_pPutOp, m_pPutOpL, m_pRetV, m_pSeq, m_pSet, m_pSetL, m_pSkip, m_pWh, qX12_asks, qX12_begins, qX12_goesOnNames, qX12_speaks, qX12_tableOf]
def fX12_fillings : FF := sBody [.inr 0, .inl 0] (sSeq (sIf (sOr (sCmp0 0 (sFld 0 3)) (sNot (sCmp0 1 (sCall fX12_lies (sArgL (sI2l (sLoc 1)) (sArgL (sLitL 0) (sArgL (sLitL 63) sNil))))))) (sRet 0 (sLit (-1))) sSkip) (sSeq (sDo fX12_fills (sArgI (sLoc 1) sNil)) (sRet 0 (sFld 0 67))))
theorem qX12_fillings : MX12_fillings.1 = fX12_fillings := by
  show sBody [.inr 0, .inl 0] bX12_fillings.1.2 = _
  unfold bX12_fillings fX12_fillings
  simp only [m_aI, m_aL, m_aNil, m_aR, m_cCmp0, m_cNot, m_cOr, m_eCall, m_eFld, m_eLit, m_eLoc, m_lI2l, m_lLdc, m_lLit, m_pDo, m_pIf, m_pRet, m_pSeq, m_pSkip, qX12_fills, qX12_lies]
def fX12_mayOf : FF := sBody [.inr 0, .inl 0] (sSeq (sSet 2 (sLit 0)) (sSeq (sSeq (sSet 3 (sLit 0)) (sWh (sCmp 2 (sLoc 3) (sFld 0 2)) (sSeq (sSet 2 (sBin 4 (sLoc 2) (sIte (sCmpL 4 (sArrL 45 96 (sBin 0 (sBin 2 (sLit 24) (sLoc 1)) (sLoc 3))) (sLitL 0)) (sBin 6 (sLit 1) (sLoc 3)) (sLit 0)))) (sInc 3 1)) ik_fuel)) (sRet 0 (sLoc 2))))
theorem qX12_mayOf : MX12_mayOf.1 = fX12_mayOf := by
  show sBody [.inr 0, .inl 0] bX12_mayOf.1.2 = _
  unfold bX12_mayOf fX12_mayOf
  simp only [m_cCmp, m_cCmpL, m_eBin, m_eFld, m_eIte, m_eLit, m_eLoc, m_lArr, m_lLit, m_pInc, m_pRet, m_pSeq, m_pSet, m_pWh]
def fX12_may : FF := sBody [.inr 0, .inl 0] (sSeq (sIf (sNot (sCmp0 1 (sCall fX12_isBar (sArgI (sLoc 1) sNil)))) (sRet 0 (sLit (-1))) sSkip) (sSeq (sDo fX12_fills (sArgI (sLit 0) sNil)) (sRet 0 (sCall fX12_mayOf (sArgI (sLoc 1) sNil)))))
theorem qX12_may : MX12_may.1 = fX12_may := by
  show sBody [.inr 0, .inl 0] bX12_may.1.2 = _
  unfold bX12_may fX12_may
  simp only [m_aI, m_aNil, m_aR, m_cCmp0, m_cNot, m_eCall, m_eLit, m_eLoc, m_pDo, m_pIf, m_pRet, m_pSeq, m_pSkip, qX12_fills, qX12_isBar, qX12_mayOf]
def fX12_odds : FF := sBody [.inr 0, .inl 0, .inl 0] (sSeq (sIf (sOr (sNot (sCmp0 1 (sCall fX12_isBar (sArgI (sLoc 1) sNil)))) (sAnd (sCmp 1 (sLoc 2) (sLit (-1))) (sNot (sCmp0 1 (sCall fX12_isName (sArgI (sLoc 2) sNil)))))) (sRetL (sLitL (-1))) sSkip) (sSeq (sDo fX12_fills (sArgI (sLit 0) sNil)) (sRetL (sIteL (sCmp 0 (sLoc 2) (sLit (-1))) (sFldL 0 69) (sArrL 45 96 (sBin 0 (sBin 2 (sLit 24) (sLoc 1)) (sLoc 2)))))))
theorem qX12_odds : MX12_odds.1 = fX12_odds := by
  show sBody [.inr 0, .inl 0, .inl 0] bX12_odds.1.2 = _
  unfold bX12_odds fX12_odds
  simp only [m_aI, m_aNil, m_aR, m_cAnd, m_cCmp, m_cCmp0, m_cNot, m_cOr, m_eBin, m_eCall, m_eLit, m_eLoc, m_lArr, m_lFld, m_lIte, m_lLdc, m_pDo, m_pIf, m_pRetL, m_pSeq, m_pSkip, qX12_fills, qX12_isBar, qX12_isName]
def fX12_given : FF := sBody [.inr 0] (sSeq (sIf (sCmp0 0 (sFld 0 3)) (sRet 0 (sLit (-1))) sSkip) (sSeq (sSet 1 (sLit 0)) (sSeq (sSet 2 (sLit (-1))) (sSeq (sSeq (sSet 3 (sLit 1)) (sWh (sCmp 5 (sLoc 3) (sLit 32)) (sSeq (sSeq (sDo fX12_fills (sArgI (sLoc 3) sNil)) (sIf (sCmp 5 (sFld 0 67) (sLoc 2)) sSkip (sSeq (sSet 1 (sLoc 3)) (sSet 2 (sFld 0 67))))) (sSet 3 (sBin 2 (sLoc 3) (sLit 2)))) ik_fuel)) (sRet 0 (sLoc 1))))))
theorem qX12_given : MX12_given.1 = fX12_given := by
  show sBody [.inr 0] bX12_given.1.2 = _
  unfold bX12_given fX12_given
  simp only [m_aI, m_aNil, m_aR, m_cCmp, m_cCmp0, m_eBin, m_eFld, m_eLit, m_eLoc, m_pDo, m_pIf, m_pRet, m_pSeq, m_pSet, m_pSkip, m_pWh, qX12_fills]
def fX12_habits : FF := sBody [.inr 0] (sSeq (sSeq (sDo fX12_asks sNil) (sSeq (sSeq (sSet 1 (sLit 0)) (sWh (sCmp 2 (sLoc 1) (sLit 96)) (sSeq (sAst 46 0 96 (sLoc 1) (sLit 201)) (sInc 1 1)) ik_fuel)) (sSeq (sSet 1 (sCall fX12_begins sNil)) (sWh (sCmp0 1 (sLoc 1)) (sSeq (sSet 2 (sBin 3 (sCall fX12_tableOf sNil) (sLit (-2)))) (sSeq (sSet 3 (sLit 0)) (sSeq (sSet 4 (sIte (sCmp0 0 (sLoc 2)) (sLit 1) (sLit 0))) (sSeq (sSeq (sSet 5 (sLit 0)) (sWh (sCmp 2 (sLoc 5) (sFld 0 3)) (sSeq (sSeq (sSet 6 (sBin 1 (sArr 10 4 (sLoc 5)) (sCall fX12_wideOf (sArgI (sArr 20 4 (sLoc 5)) sNil)))) (sSeq (sSet 4 (sIte (sAnd (sCmp0 1 (sLoc 4)) (sCmp0 3 (sLoc 6))) (sLit 1) (sLit 0))) (sSet 3 (sIte (sCmp 4 (sLoc 6) (sLoc 3)) (sLoc 6) (sLoc 3))))) (sInc 5 1)) ik_fuel)) (sSeq (sIf (sAnd (sAnd (sCmp0 1 (sLoc 4)) (sCmp 5 (sLoc 3) (sLit 200))) (sCmp0 0 (sCall fX12_speaks (sArgI (sLit 0) (sArgI (sLit 0) sNil))))) (sSeq (sSet 5 (sLit 0)) (sWh (sCmp 2 (sLoc 5) (sFld 0 3)) (sSeq (sSeq (sSet 6 (sBin 0 (sBin 2 (sLit 24) (sLoc 5)) (sArr 20 4 (sLoc 5)))) (sAst 46 0 96 (sLoc 6) (sIte (sCmp 2 (sLoc 3) (sArr 46 96 (sLoc 6))) (sLoc 3) (sArr 46 96 (sLoc 6))))) (sInc 5 1)) ik_fuel)) sSkip) (sSet 1 (sCall fX12_goesOnNames sNil))))))) ik_fuel)))) sRetV)
theorem qX12_habits : MX12_habits.1 = fX12_habits := by
  show sBody [.inr 0] bX12_habits.1.2 = _
  unfold bX12_habits fX12_habits
  simp only [m_aI, m_aNil, m_aR, m_cAnd, m_cCmp, m_cCmp0, m_eArr, m_eBin, m_eCall, m_eFld, m_eIte, m_eLit, m_eLoc, m_pAst, m_pDo, m_pIf, m_pInc, m_pRetV, m_pSeq, m_pSet, m_pSkip, m_pWh, qX12_asks, qX12_begins, qX12_goesOnNames, qX12_speaks, qX12_tableOf, qX12_wideOf]
def fX12_haveAll : FF := sBody [.inr 0, .inl 0, .inl 0] (sSeq (sSeq (sSet 3 (sLit 0)) (sWh (sCmp 2 (sLoc 3) (sFld 0 3)) (sSeq (sSeq (sSet 4 (sLit 0)) (sSeq (sSeq (sSet 5 (sLit 0)) (sWh (sCmp 2 (sLoc 5) (sFld 0 2)) (sSeq (sSet 4 (sBin 0 (sLoc 4) (sIte (sCmp 5 (sArr 46 96 (sBin 0 (sBin 2 (sLit 24) (sLoc 3)) (sLoc 5))) (sLoc 2)) (sLit 1) (sLit 0)))) (sInc 5 1)) ik_fuel)) (sIf (sCmp 2 (sLoc 4) (sLoc 1)) (sRet 3 (sLit 0)) sSkip))) (sInc 3 1)) ik_fuel)) (sRet 3 (sLit 1)))
theorem qX12_haveAll : MX12_haveAll.1 = fX12_haveAll := by
  show sBody [.inr 0, .inl 0, .inl 0] bX12_haveAll.1.2 = _
  unfold bX12_haveAll fX12_haveAll
  simp only [m_cCmp, m_eArr, m_eBin, m_eFld, m_eIte, m_eLit, m_eLoc, m_pIf, m_pInc, m_pRet, m_pSeq, m_pSet, m_pSkip, m_pWh]
def fX12_kept : FF := sBody [.inr 0, .inl 0] (sSeq (sIf (sOr (sCmp0 0 (sFld 0 3)) (sNot (sCmp0 1 (sCall fX12_lies (sArgL (sI2l (sLoc 1)) (sArgL (sLitL 1) (sArgL (sLitL 24) sNil))))))) (sRet 0 (sLit (-1))) sSkip) (sSeq (sDo fX12_habits sNil) (sSeq (sSeq (sSet 2 (sLit 0)) (sWh (sCmp 5 (sLoc 2) (sLit 200)) (sSeq (sIf (sCmp0 1 (sCall fX12_haveAll (sArgI (sLoc 1) (sArgI (sLoc 2) sNil)))) (sRet 0 (sLoc 2)) sSkip) (sInc 2 1)) ik_fuel)) (sRet 0 (sLit (-1))))))
theorem qX12_kept : MX12_kept.1 = fX12_kept := by
  show sBody [.inr 0, .inl 0] bX12_kept.1.2 = _
  unfold bX12_kept fX12_kept
  simp only [m_aI, m_aL, m_aNil, m_aR, m_cCmp, m_cCmp0, m_cNot, m_cOr, m_eCall, m_eFld, m_eLit, m_eLoc, m_lI2l, m_lLdc, m_lLit, m_pDo, m_pIf, m_pInc, m_pRet, m_pSeq, m_pSet, m_pSkip, m_pWh, qX12_habits, qX12_haveAll, qX12_lies]
def fX12_sizeOf : FF := sBody [.inl 0] (sSeq (sSet 1 (sLit 0)) (sSeq (sSeq (sSet 2 (sLoc 0)) (sWh (sCmp0 1 (sLoc 2)) (sSeq (sInc 1 1) (sSet 2 (sBin 3 (sLoc 2) (sBin 1 (sLoc 2) (sLit 1))))) ik_fuel)) (sRet 0 (sLoc 1))))
theorem qX12_sizeOf : MX12_sizeOf.1 = fX12_sizeOf := by
  show sBody [.inl 0] bX12_sizeOf.1.2 = _
  unfold bX12_sizeOf fX12_sizeOf
  simp only [m_cCmp0, m_eBin, m_eLit, m_eLoc, m_pInc, m_pRet, m_pSeq, m_pSet, m_pWh]
def fX12_says : FF := sBody [.inr 0, .inl 0, .inl 0] (sSeq (sDo fX12_fills (sArgI (sLit 0) sNil)) (sSeq (sSet 3 (sCall fX12_mayOf (sArgI (sLoc 1) sNil))) (sSeq (sPut 0 68 0 (sLit (-1))) (sSeq (sIf (sCmp0 0 (sLoc 3)) (sRet 0 (sLit 0)) sSkip) (sSeq (sSet 4 (sLit 0)) (sSeq (sWh (sNot (sCmp0 1 (sCall fX12_has (sArgI (sLoc 3) (sArgI (sLoc 4) sNil))))) (sInc 4 1) ik_fuel) (sSeq (sPut 0 68 0 (sLoc 4)) (sSeq (sIf (sCmp 0 (sCall fX12_sizeOf (sArgI (sLoc 3) sNil)) (sLit 1)) (sRet 0 (sLit 1)) sSkip) (sSeq (sSet 5 (sLoc 4)) (sSeq (sSet 6 (sLit 1)) (sSeq (sSeq (sSet 7 (sLit 0)) (sWh (sCmp 2 (sLoc 7) (sFld 0 2)) (sSeq (sIf (sNot (sCmp0 1 (sCall fX12_has (sArgI (sLoc 3) (sArgI (sLoc 7) sNil))))) sSkip (sSeq (sIf (sCmpL 4 (sArrL 45 96 (sBin 0 (sBin 2 (sLit 24) (sLoc 1)) (sLoc 7))) (sArrL 45 96 (sBin 0 (sBin 2 (sLit 24) (sLoc 1)) (sLoc 5)))) (sSet 5 (sLoc 7)) sSkip) (sSet 6 (sIte (sAnd (sCmp0 1 (sLoc 6)) (sCmp 0 (sArr 6 24 (sLoc 7)) (sArr 6 24 (sLoc 4)))) (sLit 1) (sLit 0))))) (sInc 7 1)) ik_fuel)) (sSeq (sPut 0 68 0 (sLoc 5)) (sSeq (sIf (sCmpL 3 (sBinL 1 (sArrL 45 96 (sBin 0 (sBin 2 (sLit 24) (sLoc 1)) (sLoc 5))) (sLitL 1000)) (sBinL 1 (sI2l (sLoc 2)) (sFldL 0 69))) (sRet 0 (sLit 2)) sSkip) (sSeq (sPut 0 68 0 (sIte (sCmp0 1 (sLoc 6)) (sArr 6 24 (sLoc 4)) (sLit (-1)))) (sRet 0 (sIte (sCmp0 1 (sLoc 6)) (sLit 3) (sLit 4)))))))))))))))))
theorem qX12_says : MX12_says.1 = fX12_says := by
  show sBody [.inr 0, .inl 0, .inl 0] bX12_says.1.2 = _
  unfold bX12_says fX12_says
  simp only [m_aI, m_aNil, m_aR, m_cAnd, m_cCmp, m_cCmp0, m_cCmpL, m_cNot, m_eArr, m_eBin, m_eCall, m_eFld, m_eIte, m_eLit, m_eLoc, m_lArr, m_lBin, m_lFld, m_lI2l, m_lLdc, m_pDo, m_pIf, m_pInc, m_pPut, m_pRet, m_pSeq, m_pSet, m_pSkip, m_pWh, qX12_fills, qX12_has, qX12_mayOf, qX12_sizeOf]
def fX12_said : FF := sBody [.inr 0, .inl 0, .inl 0, .inl 0] (sSeq (sIf (sOr (sOr (sNot (sCmp0 1 (sCall fX12_isBar (sArgI (sLoc 1) sNil)))) (sNot (sCmp0 1 (sCall fX12_lies (sArgL (sI2l (sLoc 2)) (sArgL (sLitL 1) (sArgL (sLitL 1000) sNil))))))) (sNot (sCmp0 1 (sCall fX12_lies (sArgL (sI2l (sLoc 3)) (sArgL (sLitL 0) (sArgL (sLitL 1) sNil))))))) (sRet 0 (sLit (-1))) sSkip) (sSeq (sSet 4 (sCall fX12_says (sArgI (sLoc 1) (sArgI (sLoc 2) sNil)))) (sRet 0 (sIte (sCmp0 0 (sLoc 3)) (sLoc 4) (sFld 0 68)))))
theorem qX12_said : MX12_said.1 = fX12_said := by
  show sBody [.inr 0, .inl 0, .inl 0, .inl 0] bX12_said.1.2 = _
  unfold bX12_said fX12_said
  simp only [m_aI, m_aL, m_aNil, m_aR, m_cCmp0, m_cNot, m_cOr, m_eCall, m_eFld, m_eIte, m_eLit, m_eLoc, m_lI2l, m_lLdc, m_lLit, m_pIf, m_pRet, m_pSeq, m_pSet, m_pSkip, qX12_isBar, qX12_lies, qX12_says]
def fX12_isDay : FF := sBody [.inl 0] (sRet 3 (sCall fX12_lies (sArgL (sI2l (sLoc 0)) (sArgL (sLitL 0) (sArgL (sLitL 9999) sNil)))))
theorem qX12_isDay : MX12_isDay.1 = fX12_isDay := by
  show sBody [.inl 0] bX12_isDay.1.2 = _
  unfold bX12_isDay fX12_isDay
  simp only [m_aL, m_aNil, m_eCall, m_eLoc, m_lI2l, m_lLdc, m_lLit, m_pRet, qX12_lies]
def fX12_copy : FF := sBody [.inr 0, .inl 0, .inl 0, .inl 0, .inl 0] (sSeq (sIf (sOr (sOr (sOr (sOr (sCmp 0 (sFld 0 9) (sLit 8)) (sNot (sCmp0 1 (sCall fX12_isSheet (sArgI (sLoc 1) sNil))))) (sNot (sCmp0 1 (sCall fX12_isDay (sArgI (sLoc 2) sNil))))) (sNot (sCmp0 1 (sCall fX12_isHouse (sArgI (sLoc 3) sNil))))) (sNot (sCmp0 1 (sCall fX12_lies (sArgL (sI2l (sLoc 4)) (sArgL (sLitL 0) (sArgL (sI2l (sBin 1 (sBin 6 (sLit 1) (sArr 14 6 (sLoc 1))) (sLit 1))) sNil))))))) (sRet 0 (sLit (-1))) sSkip) (sSeq (sAst 47 0 8 (sFld 0 9) (sLoc 1)) (sSeq (sAst 48 0 8 (sFld 0 9) (sLoc 2)) (sSeq (sAst 49 0 8 (sFld 0 9) (sLoc 3)) (sSeq (sAst 50 0 8 (sFld 0 9) (sLoc 4)) (sSeq (sPutOp 0 9 0 (sLit 1)) (sRet 0 (sBin 1 (sFld 0 9) (sLit 1)))))))))
theorem qX12_copy : MX12_copy.1 = fX12_copy := by
  show sBody [.inr 0, .inl 0, .inl 0, .inl 0, .inl 0] bX12_copy.1.2 = _
  unfold bX12_copy fX12_copy
  simp only [m_aI, m_aL, m_aNil, m_aR, m_cCmp, m_cCmp0, m_cNot, m_cOr, m_eArr, m_eBin, m_eCall, m_eFld, m_eLit, m_eLoc, m_lI2l, m_lLit, m_pAst, m_pIf, m_pPutOp, m_pRet, m_pSeq, m_pSkip, qX12_isDay, qX12_isHouse, qX12_isSheet, qX12_lies]
def fX12_openOf : FF := sBody [.inr 0, .inl 0, .inl 0] (sSeq (sSet 3 (sLit 0)) (sSeq (sSeq (sSet 4 (sLit 0)) (sWh (sCmp 2 (sLoc 4) (sFld 0 9)) (sSeq (sSet 3 (sBin 4 (sLoc 3) (sIte (sAnd (sCmp 0 (sArr 47 8 (sLoc 4)) (sLoc 1)) (sCmp 5 (sArr 48 8 (sLoc 4)) (sLoc 2))) (sBin 3 (sBin 1 (sBin 6 (sLit 1) (sArr 14 6 (sLoc 1))) (sLit 1)) (sBin 5 (sArr 50 8 (sLoc 4)) (sLit (-1)))) (sLit 0)))) (sInc 4 1)) ik_fuel)) (sRet 0 (sLoc 3))))
theorem qX12_openOf : MX12_openOf.1 = fX12_openOf := by
  show sBody [.inr 0, .inl 0, .inl 0] bX12_openOf.1.2 = _
  unfold bX12_openOf fX12_openOf
  simp only [m_cAnd, m_cCmp, m_eArr, m_eBin, m_eFld, m_eIte, m_eLit, m_eLoc, m_pInc, m_pRet, m_pSeq, m_pSet, m_pWh]
def fX12_open : FF := sBody [.inr 0, .inl 0, .inl 0] (sRet 0 (sIte (sAnd (sCmp0 1 (sCall fX12_isSheet (sArgI (sLoc 1) sNil))) (sCmp0 1 (sCall fX12_isDay (sArgI (sLoc 2) sNil)))) (sCall fX12_openOf (sArgI (sLoc 1) (sArgI (sLoc 2) sNil))) (sLit (-1))))
theorem qX12_open : MX12_open.1 = fX12_open := by
  show sBody [.inr 0, .inl 0, .inl 0] bX12_open.1.2 = _
  unfold bX12_open fX12_open
  simp only [m_aI, m_aNil, m_aR, m_cAnd, m_cCmp0, m_eCall, m_eIte, m_eLit, m_eLoc, m_pRet, qX12_isDay, qX12_isSheet, qX12_openOf]
def fX12_isCopy : FF := sBody [.inr 0, .inl 0] (sRet 3 (sCall fX12_lies (sArgL (sI2l (sLoc 1)) (sArgL (sLitL 0) (sArgL (sI2l (sBin 1 (sFld 0 9) (sLit 1))) sNil)))))
theorem qX12_isCopy : MX12_isCopy.1 = fX12_isCopy := by
  show sBody [.inr 0, .inl 0] bX12_isCopy.1.2 = _
  unfold bX12_isCopy fX12_isCopy
  simp only [m_aL, m_aNil, m_eBin, m_eCall, m_eFld, m_eLit, m_eLoc, m_lI2l, m_lLit, m_pRet, qX12_lies]
def fX12_needless : FF := sBody [.inr 0, .inl 0] (sRet 0 (sIte (sCmp0 1 (sCall fX12_isCopy (sArgI (sLoc 1) sNil))) (sBin 3 (sArr 50 8 (sLoc 1)) (sCall fX12_openOf (sArgI (sArr 47 8 (sLoc 1)) (sArgI (sBin 1 (sArr 48 8 (sLoc 1)) (sLit 1)) sNil)))) (sLit (-1))))
theorem qX12_needless : MX12_needless.1 = fX12_needless := by
  show sBody [.inr 0, .inl 0] bX12_needless.1.2 = _
  unfold bX12_needless fX12_needless
  simp only [m_aI, m_aNil, m_aR, m_cCmp0, m_eArr, m_eBin, m_eCall, m_eIte, m_eLit, m_eLoc, m_pRet, qX12_isCopy, qX12_openOf]
def fX12_since : FF := sBody [.inr 0, .inl 0, .inl 0] (sSeq (sIf (sOr (sNot (sCmp0 1 (sCall fX12_isSheet (sArgI (sLoc 1) sNil)))) (sNot (sCmp0 1 (sCall fX12_lies (sArgL (sI2l (sLoc 2)) (sArgL (sLitL 0) (sArgL (sI2l (sBin 1 (sArr 14 6 (sLoc 1)) (sLit 1))) sNil))))))) (sRet 0 (sLit (-1))) sSkip) (sSeq (sSet 3 (sLit (-1))) (sSeq (sSeq (sSet 4 (sLit 0)) (sWh (sCmp 2 (sLoc 4) (sFld 0 9)) (sSeq (sIf (sAnd (sAnd (sCmp 0 (sArr 47 8 (sLoc 4)) (sLoc 1)) (sNot (sCmp0 1 (sCall fX12_has (sArgI (sArr 50 8 (sLoc 4)) (sArgI (sLoc 2) sNil)))))) (sOr (sCmp 0 (sLoc 3) (sLit (-1))) (sCmp 2 (sArr 48 8 (sLoc 4)) (sLoc 3)))) (sSet 3 (sArr 48 8 (sLoc 4))) sSkip) (sInc 4 1)) ik_fuel)) (sRet 0 (sLoc 3)))))
theorem qX12_since : MX12_since.1 = fX12_since := by
  show sBody [.inr 0, .inl 0, .inl 0] bX12_since.1.2 = _
  unfold bX12_since fX12_since
  simp only [m_aI, m_aL, m_aNil, m_aR, m_cAnd, m_cCmp, m_cCmp0, m_cNot, m_cOr, m_eArr, m_eBin, m_eCall, m_eFld, m_eLit, m_eLoc, m_lI2l, m_lLit, m_pIf, m_pInc, m_pRet, m_pSeq, m_pSet, m_pSkip, m_pWh, qX12_has, qX12_isSheet, qX12_lies]
def fX12_twice : FF := sBody [.inr 0, .inl 0, .inl 0] (sRet 0 (sIte (sAnd (sAnd (sAnd (sCmp0 1 (sCall fX12_isCopy (sArgI (sLoc 1) sNil))) (sCmp0 1 (sCall fX12_isCopy (sArgI (sLoc 2) sNil)))) (sCmp 1 (sLoc 1) (sLoc 2))) (sCmp 0 (sArr 47 8 (sLoc 1)) (sArr 47 8 (sLoc 2)))) (sBin 3 (sArr 50 8 (sLoc 1)) (sArr 50 8 (sLoc 2))) (sLit (-1))))
theorem qX12_twice : MX12_twice.1 = fX12_twice := by
  show sBody [.inr 0, .inl 0, .inl 0] bX12_twice.1.2 = _
  unfold bX12_twice fX12_twice
  simp only [m_aI, m_aNil, m_aR, m_cAnd, m_cCmp, m_cCmp0, m_eArr, m_eBin, m_eCall, m_eIte, m_eLit, m_eLoc, m_pRet, qX12_isCopy]
def fX12_hasCopy : FF := sBody [.inr 0, .inl 0, .inl 0] (sSeq (sSeq (sSet 3 (sLit 0)) (sWh (sCmp 2 (sLoc 3) (sFld 0 9)) (sSeq (sIf (sAnd (sCmp 0 (sArr 47 8 (sLoc 3)) (sLoc 1)) (sCmp 0 (sArr 49 8 (sLoc 3)) (sLoc 2))) (sRet 3 (sLit 1)) sSkip) (sInc 3 1)) ik_fuel)) (sRet 3 (sLit 0)))
theorem qX12_hasCopy : MX12_hasCopy.1 = fX12_hasCopy := by
  show sBody [.inr 0, .inl 0, .inl 0] bX12_hasCopy.1.2 = _
  unfold bX12_hasCopy fX12_hasCopy
  simp only [m_cAnd, m_cCmp, m_eArr, m_eFld, m_eLit, m_eLoc, m_pIf, m_pInc, m_pRet, m_pSeq, m_pSet, m_pSkip, m_pWh]
def fX12_coversOf : FF := sBody [.inr 0, .inl 0, .inl 0] (sSeq (sSet 3 (sLit 0)) (sSeq (sSeq (sSet 4 (sLit 0)) (sWh (sCmp 2 (sLoc 4) (sFld 0 9)) (sSeq (sSet 3 (sBin 4 (sLoc 3) (sIte (sAnd (sCmp 0 (sArr 47 8 (sLoc 4)) (sLoc 1)) (sCmp 0 (sArr 49 8 (sLoc 4)) (sLoc 2))) (sArr 50 8 (sLoc 4)) (sLit 0)))) (sInc 4 1)) ik_fuel)) (sRet 0 (sLoc 3))))
theorem qX12_coversOf : MX12_coversOf.1 = fX12_coversOf := by
  show sBody [.inr 0, .inl 0, .inl 0] bX12_coversOf.1.2 = _
  unfold bX12_coversOf fX12_coversOf
  simp only [m_cAnd, m_cCmp, m_eArr, m_eBin, m_eFld, m_eIte, m_eLit, m_eLoc, m_pInc, m_pRet, m_pSeq, m_pSet, m_pWh]
def fX12_stricter : FF := sBody [.inr 0, .inl 0, .inl 0] (sSeq (sIf (sOr (sOr (sNot (sCmp0 1 (sCall fX12_isHouse (sArgI (sLoc 1) sNil)))) (sNot (sCmp0 1 (sCall fX12_isHouse (sArgI (sLoc 2) sNil))))) (sCmp 0 (sLoc 1) (sLoc 2))) (sRet 0 (sLit (-1))) sSkip) (sSeq (sSet 3 (sLit 0)) (sSeq (sSet 4 (sLit 1)) (sSeq (sSet 5 (sLit 0)) (sSeq (sSeq (sSet 6 (sLit 0)) (sWh (sCmp 2 (sLoc 6) (sFld 0 4)) (sSeq (sIf (sOr (sNot (sCmp0 1 (sCall fX12_hasCopy (sArgI (sLoc 6) (sArgI (sLoc 1) sNil))))) (sNot (sCmp0 1 (sCall fX12_hasCopy (sArgI (sLoc 6) (sArgI (sLoc 2) sNil)))))) sSkip (sSeq (sSet 3 (sLit 1)) (sSeq (sSet 4 (sIte (sAnd (sCmp0 1 (sLoc 4)) (sCmp0 0 (sBin 3 (sCall fX12_coversOf (sArgI (sLoc 6) (sArgI (sLoc 2) sNil))) (sBin 5 (sCall fX12_coversOf (sArgI (sLoc 6) (sArgI (sLoc 1) sNil))) (sLit (-1)))))) (sLit 1) (sLit 0))) (sSet 5 (sIte (sOr (sCmp0 1 (sLoc 5)) (sCmp0 1 (sBin 3 (sCall fX12_coversOf (sArgI (sLoc 6) (sArgI (sLoc 1) sNil))) (sBin 5 (sCall fX12_coversOf (sArgI (sLoc 6) (sArgI (sLoc 2) sNil))) (sLit (-1)))))) (sLit 1) (sLit 0)))))) (sInc 6 1)) ik_fuel)) (sRet 0 (sIte (sNot (sCmp0 1 (sLoc 3))) (sLit (-1)) (sIte (sAnd (sCmp0 1 (sLoc 4)) (sCmp0 1 (sLoc 5))) (sLit 1) (sLit 0)))))))))
theorem qX12_stricter : MX12_stricter.1 = fX12_stricter := by
  show sBody [.inr 0, .inl 0, .inl 0] bX12_stricter.1.2 = _
  unfold bX12_stricter fX12_stricter
  simp only [m_aI, m_aNil, m_aR, m_cAnd, m_cCmp, m_cCmp0, m_cNot, m_cOr, m_eBin, m_eCall, m_eFld, m_eIte, m_eLit, m_eLoc, m_pIf, m_pInc, m_pRet, m_pSeq, m_pSet, m_pSkip, m_pWh, qX12_coversOf, qX12_hasCopy, qX12_isHouse]
def fX12_note : FF := sBody [.inr 0, .inl 0, .inl 0] (sSeq (sIf (sOr (sOr (sNot (sCmp0 1 (sCall fX12_lies (sArgL (sI2l (sLoc 1)) (sArgL (sLitL 1) (sArgL (sLitL 40) sNil)))))) (sNot (sCmp0 1 (sCall fX12_isSheet (sArgI (sLoc 2) sNil))))) (sCmp0 4 (sArr 51 6 (sLoc 2)))) (sRet 3 (sLit 0)) sSkip) (sSeq (sSeq (sSet 3 (sLit 0)) (sWh (sCmp 2 (sLoc 3) (sFld 0 4)) (sSeq (sIf (sAnd (sCmp0 4 (sArr 51 6 (sLoc 3))) (sOr (sCmp 0 (sArr 51 6 (sLoc 3)) (sLoc 1)) (sCmp 1 (sIte (sCmp 2 (sArr 51 6 (sLoc 3)) (sLoc 1)) (sLit 1) (sLit 0)) (sIte (sCmp 2 (sLoc 3) (sLoc 2)) (sLit 1) (sLit 0))))) (sRet 3 (sLit 0)) sSkip) (sInc 3 1)) ik_fuel)) (sSeq (sAst 51 0 6 (sLoc 2) (sLoc 1)) (sSeq (sPutOp 0 10 0 (sLit 1)) (sRet 3 (sLit 1))))))
theorem qX12_note : MX12_note.1 = fX12_note := by
  show sBody [.inr 0, .inl 0, .inl 0] bX12_note.1.2 = _
  unfold bX12_note fX12_note
  simp only [m_aI, m_aL, m_aNil, m_aR, m_cAnd, m_cCmp, m_cCmp0, m_cNot, m_cOr, m_eArr, m_eCall, m_eFld, m_eIte, m_eLit, m_eLoc, m_lI2l, m_lLdc, m_lLit, m_pAst, m_pIf, m_pInc, m_pPutOp, m_pRet, m_pSeq, m_pSet, m_pSkip, m_pWh, qX12_isSheet, qX12_lies]
def fX12_missing : FF := sBody [.inr 0, .inl 0, .inl 0] (sSeq (sIf (sOr (sNot (sCmp0 1 (sCall fX12_lies (sArgL (sI2l (sLoc 1)) (sArgL (sLitL 1) (sArgL (sLitL 40) sNil)))))) (sNot (sCmp0 1 (sCall fX12_lies (sArgL (sI2l (sLoc 2)) (sArgL (sLitL 0) (sArgL (sLitL 1) sNil))))))) (sRet 0 (sLit (-1))) sSkip) (sSeq (sSet 3 (sLit 0)) (sSeq (sSet 4 (sLit (-1))) (sSeq (sSeq (sSet 5 (sLit 0)) (sWh (sCmp 2 (sLoc 5) (sFld 0 4)) (sSeq (sSeq (sIf (sCmp 0 (sArr 51 6 (sLoc 5)) (sLoc 1)) (sRet 0 (sLit (-1))) sSkip) (sSeq (sIf (sAnd (sCmp0 4 (sArr 51 6 (sLoc 5))) (sCmp 2 (sArr 51 6 (sLoc 5)) (sLoc 1))) (sSet 3 (sLoc 5)) sSkip) (sIf (sAnd (sCmp 4 (sArr 51 6 (sLoc 5)) (sLoc 1)) (sCmp 0 (sLoc 4) (sLit (-1)))) (sSet 4 (sLoc 5)) sSkip))) (sInc 5 1)) ik_fuel)) (sRet 0 (sIte (sCmp 0 (sLoc 4) (sLit (-1))) (sLit (-1)) (sIte (sCmp0 0 (sLoc 2)) (sLoc 3) (sLoc 4))))))))
theorem qX12_missing : MX12_missing.1 = fX12_missing := by
  show sBody [.inr 0, .inl 0, .inl 0] bX12_missing.1.2 = _
  unfold bX12_missing fX12_missing
  simp only [m_aL, m_aNil, m_cAnd, m_cCmp, m_cCmp0, m_cNot, m_cOr, m_eArr, m_eCall, m_eFld, m_eIte, m_eLit, m_eLoc, m_lI2l, m_lLdc, m_lLit, m_pIf, m_pInc, m_pRet, m_pSeq, m_pSet, m_pSkip, m_pWh, qX12_lies]
def fX12_numberAt : FF := sBody [.inr 0, .inl 0] (sSeq (sSet 2 (sLit 0)) (sSeq (sSeq (sSet 3 (sLit 0)) (sWh (sCmp 2 (sLoc 3) (sLit 4)) (sSeq (sSet 2 (sBin 4 (sBin 6 (sLoc 2) (sLit 8)) (sBin 3 (sArr 1 400 (sBin 0 (sBin 2 (sLit 4) (sLoc 1)) (sLoc 3))) (sLit 255)))) (sInc 3 1)) ik_fuel)) (sRet 0 (sLoc 2))))
theorem qX12_numberAt : MX12_numberAt.1 = fX12_numberAt := by
  show sBody [.inr 0, .inl 0] bX12_numberAt.1.2 = _
  unfold bX12_numberAt fX12_numberAt
  simp only [m_cCmp, m_eArr, m_eBin, m_eLit, m_eLoc, m_pInc, m_pRet, m_pSeq, m_pSet, m_pWh]
def fX12_check : FF := sBody [.inr 0, .inl 0, .inl 0] (sSeq (sIf (sOr (sOr (sNot (sCmp0 1 (sCall fX12_isBar (sArgI (sLoc 1) sNil)))) (sCmp0 2 (sLoc 2))) (sCmp 4 (sLoc 2) (sBin 9 (sFld 0 1) (sLit 8)))) (sRet 0 (sLit (-2))) sSkip) (sSeq (sPut 0 1 0 (sLit 0)) (sSeq (sDo fX12_fills (sArgI (sLit 0) sNil)) (sSeq (sSet 3 (sLit 0)) (sSeq (sSeq (sSet 4 (sLit 0)) (sWh (sCmp 2 (sLoc 4) (sFld 0 2)) (sSeq (sIf (sCmpL 0 (sArrL 45 96 (sBin 0 (sBin 2 (sLit 24) (sLoc 1)) (sLoc 4))) (sLitL 0)) sSkip (sSeq (sIf (sCmp 0 (sLoc 3) (sLoc 2)) (sRet 0 (sBin 2 (sLit 2) (sLoc 2))) sSkip) (sSeq (sIf (sCmp 1 (sCall fX12_numberAt (sArgI (sBin 2 (sLit 2) (sLoc 3)) sNil)) (sLoc 4)) (sRet 0 (sBin 2 (sLit 2) (sLoc 3))) sSkip) (sSeq (sIf (sCmp 1 (sCall fX12_numberAt (sArgI (sBin 0 (sBin 2 (sLit 2) (sLoc 3)) (sLit 1)) sNil)) (sL2i (sArrL 45 96 (sBin 0 (sBin 2 (sLit 24) (sLoc 1)) (sLoc 4))))) (sRet 0 (sBin 0 (sBin 2 (sLit 2) (sLoc 3)) (sLit 1))) sSkip) (sInc 3 1))))) (sInc 4 1)) ik_fuel)) (sRet 0 (sIte (sCmp 0 (sLoc 3) (sLoc 2)) (sLit (-1)) (sBin 2 (sLit 2) (sLoc 3)))))))))
theorem qX12_check : MX12_check.1 = fX12_check := by
  show sBody [.inr 0, .inl 0, .inl 0] bX12_check.1.2 = _
  unfold bX12_check fX12_check
  simp only [m_aI, m_aNil, m_aR, m_cCmp, m_cCmp0, m_cCmpL, m_cNot, m_cOr, m_eBin, m_eCall, m_eFld, m_eIte, m_eL2i, m_eLit, m_eLoc, m_lArr, m_lLit, m_pDo, m_pIf, m_pInc, m_pPut, m_pRet, m_pSeq, m_pSet, m_pSkip, m_pWh, qX12_fills, qX12_isBar, qX12_numberAt]
def fX12_linesOf : FF := sBody [.inr 0, .inl 0] (sSeq (sSet 2 (sLit 1)) (sSeq (sSeq (sSet 3 (sLit 1)) (sWh (sCmp 2 (sLoc 3) (sArr 14 6 (sLoc 1))) (sSeq (sSet 2 (sBin 0 (sLoc 2) (sIte (sCmp0 1 (sArr 19 144 (sBin 0 (sBin 2 (sLit 24) (sLoc 1)) (sLoc 3)))) (sLit 1) (sLit 0)))) (sInc 3 1)) ik_fuel)) (sRet 0 (sLoc 2))))
theorem qX12_linesOf : MX12_linesOf.1 = fX12_linesOf := by
  show sBody [.inr 0, .inl 0] bX12_linesOf.1.2 = _
  unfold bX12_linesOf fX12_linesOf
  simp only [m_cCmp, m_cCmp0, m_eArr, m_eBin, m_eIte, m_eLit, m_eLoc, m_pInc, m_pRet, m_pSeq, m_pSet, m_pWh]
def fX12_count : FF := sBody [.inr 0, .inl 0] (sSeq (sIf (sCmp0 1 (sCall fX12_lies (sArgL (sI2l (sLoc 1)) (sArgL (sLitL 20) (sArgL (sI2l (sBin 0 (sLit 19) (sFld 0 4))) sNil))))) (sRet 0 (sArr 14 6 (sBin 1 (sLoc 1) (sLit 20)))) sSkip) (sSeq (sIf (sCmp0 1 (sCall fX12_lies (sArgL (sI2l (sLoc 1)) (sArgL (sLitL 30) (sArgL (sI2l (sBin 0 (sLit 29) (sFld 0 4))) sNil))))) (sRet 0 (sCall fX12_linesOf (sArgI (sBin 1 (sLoc 1) (sLit 30)) sNil))) sSkip) (sSw (sLoc 1) (ik_pickS [(0, (sDead (sRet 0 (sFld 0 2)))), (1, (sDead (sRet 0 (sFld 0 3)))), (2, (sDead (sRet 0 (sFld 0 4)))), (3, (sDead (sRet 0 (sFld 0 5)))), (4, (sDead (sRet 0 (sFld 0 6)))), (5, (sDead (sRet 0 (sFld 0 7)))), (6, (sDead (sRet 0 (sFld 0 8)))), (7, (sDead (sRet 0 (sFld 0 9)))), (8, (sDead (sRet 0 (sFld 0 10)))), (9, (sDead (sRet 0 (sFld 0 1)))), (10, (sDead (sRet 0 (sFld 0 11))))] (sDead (sRet 0 (sLit (-1))))))))
theorem qX12_count : MX12_count.1 = fX12_count := by
  show sBody [.inr 0, .inl 0] bX12_count.1.2 = _
  unfold bX12_count fX12_count
  simp only [m_aI, m_aL, m_aNil, m_aR, m_cCmp0, m_eArr, m_eBin, m_eCall, m_eFld, m_eLit, m_eLoc, m_lI2l, m_lLdc, m_pDead, m_pIf, m_pRet, m_pSeq, m_pSkip, m_pSw, List.map_cons, List.map_nil, qX12_lies, qX12_linesOf]
