-- the meaning of each piece, by its name
section SM
variable {sc : ik_SC} {T F : Nat} {id : Nat} {sig : ik_sg} {y : MethodName} {cc : ByteArray} {mL : Nat} {rt : Option FieldType} {k : Nat}
theorem m_eLit (v : Int32) : (eLit v : EP sc).1.2 = sLit v := rfl
theorem m_eLdc (i : Nat) (v : Int32) (h) : (eLdc i v h : EP sc).1.2 = sLit v := rfl
theorem m_lLit (v : Int64) : (lLit v : JP sc).1.2 = sLitL v := rfl
theorem m_lLdc (i : Nat) (v : Int64) (h) : (lLdc i v h : JP sc).1.2 = sLitL v := rfl
theorem m_eLoc (n : Nat) : (eLoc n : EP sc).1.2 = sLoc n := rfl
theorem m_lLoc (n : Nat) : (lLoc n : JP sc).1.2 = sLocL n := rfl
theorem m_eBin (o : Nat) (a b : EP sc) : (eBin o a b).1.2 = sBin o a.1.2 b.1.2 := rfl
theorem m_eUn (o : Nat) (a : EP sc) : (eUn o a).1.2 = sUn o a.1.2 := rfl
theorem m_eL2i (a : JP sc) : (eL2i a).1.2 = sL2i a.1.2 := rfl
theorem m_lI2l (a : EP sc) : (lI2l a).1.2 = sI2l a.1.2 := rfl
theorem m_lBin (o : Nat) (a b : JP sc) : (lBin o a b).1.2 = sBinL o a.1.2 b.1.2 := rfl
theorem m_eFld {o : Nat} (r : RP sc o) (i c j t : Nat) (h) : (eFld r i c j t h).1.2 = sFld o j := rfl
theorem m_lFld {o : Nat} (r : RP sc o) (i c j : Nat) (h) : (lFld r i c j h).1.2 = sFldL o j := rfl
theorem m_eArr (j n : Nat) {a : Nat} (r : RP sc a) (i : EP sc) : (eArr j n r i).1.2 = sArr a n i.1.2 := rfl
theorem m_lArr (n : Nat) {a : Nat} (r : RP sc a) (i : EP sc) : (lArr n r i).1.2 = sArrL a n i.1.2 := rfl
theorem m_eLen (j n : Nat) {a : Nat} (r : RP sc a) : (eLen j n r).1.2 = sLit (Int32.ofNat n) := rfl
theorem m_cCmp (o : Nat) (a b : EP sc) : (cCmp o a b : CP sc T F).1.2 = sCmp o a.1.2 b.1.2 := rfl
theorem m_cCmp0 (o : Nat) (a : EP sc) : (cCmp0 o a : CP sc T F).1.2 = sCmp0 o a.1.2 := rfl
theorem m_cCmpL (o : Nat) (a b : JP sc) : (cCmpL o a b : CP sc T F).1.2 = sCmpL o a.1.2 b.1.2 := rfl
theorem m_cAnd (M : Nat) (a : CP sc M F) (b : CP sc T F) : (cAnd M a b).1.2 = sAnd a.1.2 b.1.2 := rfl
theorem m_cOr (M : Nat) (a : CP sc T M) (b : CP sc T F) : (cOr M a b).1.2 = sOr a.1.2 b.1.2 := rfl
theorem m_cNot (a : CP sc F T) : (cNot a).1.2 = sNot a.1.2 := rfl
theorem m_cIteC (m1 m2 t1 : Nat) (c : CP sc m1 m2) (a : CP sc t1 F) (b : CP sc T F) : (cIteC m1 m2 t1 c a b).1.2 = sIteC c.1.2 a.1.2 b.1.2 := rfl
theorem m_eIte (m1 m2 E : Nat) (c : CP sc m1 m2) (a b : EP sc) : (eIte m1 m2 E c a b).1.2 = sIte c.1.2 a.1.2 b.1.2 := rfl
theorem m_lIte (m1 m2 E : Nat) (c : CP sc m1 m2) (a b : JP sc) : (lIte m1 m2 E c a b).1.2 = sIteL c.1.2 a.1.2 b.1.2 := rfl
theorem m_pSkip : (pSkip : SP sc).1.2 = sSkip := rfl
theorem m_pSeq (a b : SP sc) : (pSeq a b).1.2 = sSeq a.1.2 b.1.2 := rfl
theorem m_pSet (n : Nat) (e : EP sc) : (pSet n e).1.2 = sSet n e.1.2 := rfl
theorem m_pSetL (n : Nat) (e : JP sc) : (pSetL n e).1.2 = sSetL n e.1.2 := rfl
theorem m_pInc (n : Nat) (v : Int32) : (pInc n v : SP sc).1.2 = sInc n v := rfl
theorem m_pIf (t f E : Nat) (c : CP sc t f) (a b : SP sc) : (pIf t f E c a b).1.2 = sIf c.1.2 a.1.2 b.1.2 := rfl
theorem m_pWh (t f E : Nat) (c : CP sc t f) (b : SP sc) : (pWh t f E c b).1.2 = sWh c.1.2 b.1.2 ik_fuel := rfl
theorem m_pWhB (t f tb fb E : Nat) (c : CP sc t f) (a : SP sc) (x : CP sc tb fb) (b : SP sc) : (pWhB t f tb fb E c a x b).1.2 = sWhB c.1.2 a.1.2 x.1.2 b.1.2 ik_fuel := rfl
theorem m_pPut {o : Nat} (r : RP sc o) (i c j t : Nat) (h) (e : EP sc) : (pPut r i c j t h e).1.2 = sPut o j t e.1.2 := rfl
theorem m_pPutL {o : Nat} (r : RP sc o) (i c j : Nat) (h) (e : JP sc) : (pPutL r i c j h e).1.2 = sPutL o j e.1.2 := rfl
theorem m_pPutOp {o : Nat} (r : RP sc o) (i c j w : Nat) (h) (e : EP sc) : (pPutOp r i c j w h e).1.2 = sPutOp o j w e.1.2 := rfl
theorem m_pPutOpL {o : Nat} (r : RP sc o) (i c j : Nat) (h) (e : JP sc) : (pPutOpL r i c j h e).1.2 = sPutOpL o j e.1.2 := rfl
theorem m_pAst (j n : Nat) {a : Nat} (r : RP sc a) (i e : EP sc) : (pAst j n r i e).1.2 = sAst a j n i.1.2 e.1.2 := rfl
theorem m_pAstL (n : Nat) {a : Nat} (r : RP sc a) (i : EP sc) (e : JP sc) : (pAstL n r i e).1.2 = sAstL a n i.1.2 e.1.2 := rfl
theorem m_pAop (n w : Nat) {a : Nat} (r : RP sc a) (i e : EP sc) : (pAop n w r i e).1.2 = sAop a n w i.1.2 e.1.2 := rfl
theorem m_pAopL (n : Nat) {a : Nat} (r : RP sc a) (i : EP sc) (e : JP sc) : (pAopL n r i e).1.2 = sAopL a n i.1.2 e.1.2 := rfl
theorem m_pRet (t nx : Nat) (e : EP sc) : (pRet t nx e).1.2 = sRet t e.1.2 := rfl
theorem m_pRetL (nx : Nat) (e : JP sc) : (pRetL nx e).1.2 = sRetL e.1.2 := rfl
theorem m_pRetV (nx : Nat) : (pRetV nx : SP sc).1.2 = sRetV := rfl
theorem m_eCall (i : Instr) (h : ik_LK sc y cc mL rt k sig i) (M : MP sc.1 y cc mL rt k sig) (a : AP sc sig) : (eCall i h M a).1.2 = sCall M.1 a.1.2 := rfl
theorem m_lCall (i : Instr) (h : ik_LK sc y cc mL rt k sig i) (M : MP sc.1 y cc mL rt k sig) (a : AP sc sig) : (lCall i h M a).1.2 = sCallL M.1 a.1.2 := rfl
theorem m_pDo (i : Instr) (h : ik_LK sc y cc mL rt k sig i) (M : MP sc.1 y cc mL rt k sig) (a : AP sc sig) : (pDo i h M a).1.2 = sDo M.1 a.1.2 := rfl
theorem m_pPop (e : EP sc) : (pPop e).1.2 = sPop e.1.2 := rfl
theorem m_aNil : (aNil : AP sc []).1.2 = sNil := rfl
theorem m_aI (e : EP sc) (r : AP sc sig) : (aI e r).1.2 = sArgI e.1.2 r.1.2 := rfl
theorem m_aL (e : JP sc) (r : AP sc sig) : (aL e r).1.2 = sArgL e.1.2 r.1.2 := rfl
theorem m_aR {i : Nat} (e : RP sc i) (r : AP sc sig) : (aR e r).1.2 = r.1.2 := rfl
theorem m_pDead (E : Nat) (b : SP sc) : (pDead E b).1.2 = sDead b.1.2 := rfl
theorem m_pSw (e : EP sc) (cs : List (Int32 × Nat × SP sc)) (dp : Nat) (D : SP sc) (E : Nat) : (pSw e cs dp D E).1.2 = sSw e.1.2 (ik_pickS (cs.map (fun c => (c.1, c.2.2.1.2))) D.1.2) := rfl
theorem m_pCopy {a b : Nat} (idx n0 n1 : Nat) (n : Int32) (h hlv) (r1 : RP sc a) (r2 : RP sc b) (z1 z2 e : EP sc) (hz1 hz2 he hr) : (pCopy idx n0 n1 n h hlv r1 r2 z1 z2 e hz1 hz2 he hr).1.2 = sCopy a b n0 n1 n := rfl
theorem m_mkM (sc : ik_SC) (y : MethodName) (sig : ik_sg) (body : SP sc) (h1 h2 h3 h4 h5) : (mkM sc y sig body h1 h2 h3 h4 h5).1 = sBody sig body.1.2 := rfl
end SM
abbrev FF : Type := List Value → GG → Option (Value × GG)
