/-! one call of both, on the same cells -/
theorem sShow {F : zFt} {m : Nat} (h : RI F F (400 + m)) (x1 x2 : Int32) : RI F (pShow F x1 x2).2 (400 + m) ∧ (qShow (pShow F x1 x2).2 x1 x2).1 = (pShow F x1 x2).1 ∧ RI (qShow (pShow F x1 x2).2 x1 x2).2 (qShow (pShow F x1 x2).2 x1 x2).2 m ∧ ∀ j, (pShow F x1 x2).2 0 j = F 0 j := by
  have h1 := RI_G h (hPShow h x1 x2)
  have r := rShow x1 x2 h1
  exact ⟨h1, r.1, RI_F r.2 (lQShow _ x1 x2), fun j => hPShow h x1 x2 0 j (Or.inr rfl)⟩
theorem sEntry {F : zFt} {m : Nat} (h : RI F F (400 + m)) (x1 : Int32) : RI F (pEntry F x1).2 (400 + m) ∧ (qEntry (pEntry F x1).2 x1).1 = (pEntry F x1).1 ∧ RI (qEntry (pEntry F x1).2 x1).2 (qEntry (pEntry F x1).2 x1).2 m ∧ ∀ j, (pEntry F x1).2 0 j = F 0 j := by
  have h1 := RI_G h (hPEntry h x1)
  have r := rEntry x1 h1
  exact ⟨h1, r.1, RI_F r.2 (lQEntry _ x1), fun j => hPEntry h x1 0 j (Or.inr rfl)⟩
theorem sPrizes {F : zFt} {m : Nat} (h : RI F F (400 + m)) (x1 x2 x3 x4 : Int32) : RI F (pPrizes F x1 x2 x3 x4).2 (400 + m) ∧ (qPrizes (pPrizes F x1 x2 x3 x4).2 x1 x2 x3 x4).1 = (pPrizes F x1 x2 x3 x4).1 ∧ RI (qPrizes (pPrizes F x1 x2 x3 x4).2 x1 x2 x3 x4).2 (qPrizes (pPrizes F x1 x2 x3 x4).2 x1 x2 x3 x4).2 m ∧ ∀ j, (pPrizes F x1 x2 x3 x4).2 0 j = F 0 j := by
  have h1 := RI_G h (hPPrizes h x1 x2 x3 x4)
  have r := rPrizes x1 x2 x3 x4 h1
  exact ⟨h1, r.1, RI_F r.2 (lQPrizes _ x1 x2 x3 x4), fun j => hPPrizes h x1 x2 x3 x4 0 j (Or.inr rfl)⟩
theorem sRule {F : zFt} {m : Nat} (h : RI F F (400 + m)) (x1 x2 x3 : Int32) : RI F (pRule F x1 x2 x3).2 (400 + m) ∧ (qRule (pRule F x1 x2 x3).2 x1 x2 x3).1 = (pRule F x1 x2 x3).1 ∧ RI (qRule (pRule F x1 x2 x3).2 x1 x2 x3).2 (qRule (pRule F x1 x2 x3).2 x1 x2 x3).2 m ∧ ∀ j, (pRule F x1 x2 x3).2 0 j = F 0 j := by
  have h1 := RI_G h (hPRule h x1 x2 x3)
  have r := rRule x1 x2 x3 h1
  exact ⟨h1, r.1, RI_F r.2 (lQRule _ x1 x2 x3), fun j => hPRule h x1 x2 x3 0 j (Or.inr rfl)⟩
theorem sClear {F : zFt} {m : Nat} (h : RI F F (400 + m)) : RI F (pClear F).2 (400 + m) ∧ (qClear (pClear F).2).1 = (pClear F).1 ∧ RI (qClear (pClear F).2).2 (qClear (pClear F).2).2 m ∧ ∀ j, (pClear F).2 0 j = F 0 j := by
  have h1 := RI_G h (hPClear h)
  have r := rClear h1
  exact ⟨h1, r.1, RI_F r.2 (lQClear _), fun j => hPClear h 0 j (Or.inr rfl)⟩
theorem sObs {F : zFt} {m : Nat} (h : RI F F (400 + m)) (x1 : Int32) : RI F (pObs F x1).2 (400 + m) ∧ (qObs (pObs F x1).2 x1).1 = (pObs F x1).1 ∧ RI (qObs (pObs F x1).2 x1).2 (qObs (pObs F x1).2 x1).2 m ∧ ∀ j, (pObs F x1).2 0 j = F 0 j := by
  have h1 := RI_G h (hPObs h x1)
  have r := rObs x1 h1
  exact ⟨h1, r.1, RI_F r.2 (lQObs _ x1), fun j => hPObs h x1 0 j (Or.inr rfl)⟩
theorem sBegin {F : zFt} {m : Nat} (h : RI F F (400 + m)) (x1 x2 : Int32) : RI F (pBegin F x1 x2).2 (400 + m) ∧ (qBegin (pBegin F x1 x2).2 x1 x2).1 = (pBegin F x1 x2).1 ∧ RI (qBegin (pBegin F x1 x2).2 x1 x2).2 (qBegin (pBegin F x1 x2).2 x1 x2).2 m ∧ ∀ j, (pBegin F x1 x2).2 0 j = F 0 j := by
  have h1 := RI_G h (hPBegin h x1 x2)
  have r := rBegin x1 x2 h1
  exact ⟨h1, r.1, RI_F r.2 (lQBegin _ x1 x2), fun j => hPBegin h x1 x2 0 j (Or.inr rfl)⟩
theorem sPoints {F : zFt} {m : Nat} (h : RI F F (400 + m)) (x1 : Int32) : RI F (pPoints F x1).2 (400 + m) ∧ (qPoints (pPoints F x1).2 x1).1 = (pPoints F x1).1 ∧ RI (qPoints (pPoints F x1).2 x1).2 (qPoints (pPoints F x1).2 x1).2 m ∧ ∀ j, (pPoints F x1).2 0 j = F 0 j := by
  have h1 := RI_G h (hPPoints h x1)
  have r := rPoints x1 h1
  exact ⟨h1, r.1, RI_F r.2 (lQPoints _ x1), fun j => hPPoints h x1 0 j (Or.inr rfl)⟩
theorem sDeduct {F : zFt} {m : Nat} (h : RI F F (400 + m)) (x1 : Int32) : RI F (pDeduct F x1).2 (400 + m) ∧ (qDeduct (pDeduct F x1).2 x1).1 = (pDeduct F x1).1 ∧ RI (qDeduct (pDeduct F x1).2 x1).2 (qDeduct (pDeduct F x1).2 x1).2 m ∧ ∀ j, (pDeduct F x1).2 0 j = F 0 j := by
  have h1 := RI_G h (hPDeduct h x1)
  have r := rDeduct x1 h1
  exact ⟨h1, r.1, RI_F r.2 (lQDeduct _ x1), fun j => hPDeduct h x1 0 j (Or.inr rfl)⟩
theorem sRemark {F : zFt} {m : Nat} (h : RI F F (400 + m)) (x1 : Int32) : RI F (pRemark F x1).2 (400 + m) ∧ (qRemark (pRemark F x1).2 x1).1 = (pRemark F x1).1 ∧ RI (qRemark (pRemark F x1).2 x1).2 (qRemark (pRemark F x1).2 x1).2 m ∧ ∀ j, (pRemark F x1).2 0 j = F 0 j := by
  have h1 := RI_G h (hPRemark h x1)
  have r := rRemark x1 h1
  exact ⟨h1, r.1, RI_F r.2 (lQRemark _ x1), fun j => hPRemark h x1 0 j (Or.inr rfl)⟩
theorem sSave {F : zFt} {m : Nat} (h : RI F F (400 + m)) (x1 : Int32) : RI F (pSave F x1).2 (400 + m) ∧ (qSave (pSave F x1).2 x1).1 = (pSave F x1).1 ∧ RI (qSave (pSave F x1).2 x1).2 (qSave (pSave F x1).2 x1).2 m ∧ ∀ j, (pSave F x1).2 0 j = F 0 j := by
  have h1 := RI_G h (hPSave h x1)
  have r := rSave x1 h1
  exact ⟨h1, r.1, RI_F r.2 (lQSave _ x1), fun j => hPSave h x1 0 j (Or.inr rfl)⟩
theorem sBack {F : zFt} {m : Nat} (h : RI F F (400 + m)) (x1 : Int32) : RI F (pBack F x1).2 (400 + m) ∧ (qBack (pBack F x1).2 x1).1 = (pBack F x1).1 ∧ RI (qBack (pBack F x1).2 x1).2 (qBack (pBack F x1).2 x1).2 m ∧ ∀ j, (pBack F x1).2 0 j = F 0 j := by
  have h1 := RI_G h (hPBack h x1)
  have r := rBack x1 h1
  exact ⟨h1, r.1, RI_F r.2 (lQBack _ x1), fun j => hPBack h x1 0 j (Or.inr rfl)⟩
theorem sRelease {F : zFt} {m : Nat} (h : RI F F (400 + m)) (x1 : Int32) : RI F (pRelease F x1).2 (400 + m) ∧ (qRelease (pRelease F x1).2 x1).1 = (pRelease F x1).1 ∧ RI (qRelease (pRelease F x1).2 x1).2 (qRelease (pRelease F x1).2 x1).2 m ∧ ∀ j, (pRelease F x1).2 0 j = F 0 j := by
  have h1 := RI_G h (hPRelease h x1)
  have r := rRelease x1 h1
  exact ⟨h1, r.1, RI_F r.2 (lQRelease _ x1), fun j => hPRelease h x1 0 j (Or.inr rfl)⟩
theorem sGuard {F : zFt} {m : Nat} (h : RI F F (400 + m)) (x1 x2 : Int32) : RI F (pGuard F x1 x2).2 (400 + m) ∧ (qGuard (pGuard F x1 x2).2 x1 x2).1 = (pGuard F x1 x2).1 ∧ RI (qGuard (pGuard F x1 x2).2 x1 x2).2 (qGuard (pGuard F x1 x2).2 x1 x2).2 m ∧ ∀ j, (pGuard F x1 x2).2 0 j = F 0 j := by
  have h1 := RI_G h (hPGuard h x1 x2)
  have r := rGuard x1 x2 h1
  exact ⟨h1, r.1, RI_F r.2 (lQGuard _ x1 x2), fun j => hPGuard h x1 x2 0 j (Or.inr rfl)⟩
theorem sEnd {F : zFt} {m : Nat} (h : RI F F (400 + m)) : RI F (pEnd F).2 (400 + m) ∧ (qEnd (pEnd F).2).1 = (pEnd F).1 ∧ RI (qEnd (pEnd F).2).2 (qEnd (pEnd F).2).2 m ∧ ∀ j, (pEnd F).2 0 j = F 0 j := by
  have h1 := RI_G h (hPEnd h)
  have r := rEnd h1
  exact ⟨h1, r.1, RI_F r.2 (lQEnd _), fun j => hPEnd h 0 j (Or.inr rfl)⟩
theorem sDrop {F : zFt} {m : Nat} (h : RI F F (400 + m)) : RI F (pDrop F).2 (400 + m) ∧ (qDrop (pDrop F).2).1 = (pDrop F).1 ∧ RI (qDrop (pDrop F).2).2 (qDrop (pDrop F).2).2 m ∧ ∀ j, (pDrop F).2 0 j = F 0 j := by
  have h1 := RI_G h (hPDrop h)
  have r := rDrop h1
  exact ⟨h1, r.1, RI_F r.2 (lQDrop _), fun j => hPDrop h 0 j (Or.inr rfl)⟩
theorem sDepth {F : zFt} {m : Nat} (h : RI F F (400 + m)) : RI F (pDepth F).2 (400 + m) ∧ (qDepth (pDepth F).2).1 = (pDepth F).1 ∧ RI (qDepth (pDepth F).2).2 (qDepth (pDepth F).2).2 m ∧ ∀ j, (pDepth F).2 0 j = F 0 j := by
  have h1 := RI_G h (hPDepth h)
  have r := rDepth h1
  exact ⟨h1, r.1, RI_F r.2 (lQDepth _), fun j => hPDepth h 0 j (Or.inr rfl)⟩
theorem sScoring {F : zFt} {m : Nat} (h : RI F F (400 + m)) (x1 x2 : Int32) : RI F (pScoring F x1 x2).2 (400 + m) ∧ (qScoring (pScoring F x1 x2).2 x1 x2).1 = (pScoring F x1 x2).1 ∧ RI (qScoring (pScoring F x1 x2).2 x1 x2).2 (qScoring (pScoring F x1 x2).2 x1 x2).2 m ∧ ∀ j, (pScoring F x1 x2).2 0 j = F 0 j := by
  have h1 := RI_G h (hPScoring h x1 x2)
  have r := rScoring x1 x2 h1
  exact ⟨h1, r.1, RI_F r.2 (lQScoring _ x1 x2), fun j => hPScoring h x1 x2 0 j (Or.inr rfl)⟩
theorem sTold {F : zFt} {m : Nat} (h : RI F F (400 + m)) (x1 x2 : Int32) : RI F (pTold F x1 x2).2 (400 + m) ∧ (qTold (pTold F x1 x2).2 x1 x2).1 = (pTold F x1 x2).1 ∧ RI (qTold (pTold F x1 x2).2 x1 x2).2 (qTold (pTold F x1 x2).2 x1 x2).2 m ∧ ∀ j, (pTold F x1 x2).2 0 j = F 0 j := by
  have h1 := RI_G h (hPTold h x1 x2)
  have r := rTold x1 x2 h1
  exact ⟨h1, r.1, RI_F r.2 (lQTold _ x1 x2), fun j => hPTold h x1 x2 0 j (Or.inr rfl)⟩
theorem sMark {F : zFt} {m : Nat} (h : RI F F (400 + m)) (x1 x2 : Int32) : RI F (pMark F x1 x2).2 (400 + m) ∧ (qMark (pMark F x1 x2).2 x1 x2).1 = (pMark F x1 x2).1 ∧ RI (qMark (pMark F x1 x2).2 x1 x2).2 (qMark (pMark F x1 x2).2 x1 x2).2 m ∧ ∀ j, (pMark F x1 x2).2 0 j = F 0 j := by
  have h1 := RI_G h (hPMark h x1 x2)
  have r := rMark x1 x2 h1
  exact ⟨h1, r.1, RI_F r.2 (lQMark _ x1 x2), fun j => hPMark h x1 x2 0 j (Or.inr rfl)⟩
theorem sPlace {F : zFt} {m : Nat} (h : RI F F (400 + m)) (x1 x2 : Int32) : RI F (pPlace F x1 x2).2 (400 + m) ∧ (qPlace (pPlace F x1 x2).2 x1 x2).1 = (pPlace F x1 x2).1 ∧ RI (qPlace (pPlace F x1 x2).2 x1 x2).2 (qPlace (pPlace F x1 x2).2 x1 x2).2 m ∧ ∀ j, (pPlace F x1 x2).2 0 j = F 0 j := by
  have h1 := RI_G h (hPPlace h x1 x2)
  have r := rPlace x1 x2 h1
  exact ⟨h1, r.1, RI_F r.2 (lQPlace _ x1 x2), fun j => hPPlace h x1 x2 0 j (Or.inr rfl)⟩
theorem sClose {F : zFt} {m : Nat} (h : RI F F (400 + m)) (x1 : Int32) : RI F (pClose F x1).2 (400 + m) ∧ (qClose (pClose F x1).2 x1).1 = (pClose F x1).1 ∧ RI (qClose (pClose F x1).2 x1).2 (qClose (pClose F x1).2 x1).2 m ∧ ∀ j, (pClose F x1).2 0 j = F 0 j := by
  have h1 := RI_G h (hPClose h x1)
  have r := rClose x1 h1
  exact ⟨h1, r.1, RI_F r.2 (lQClose _ x1), fun j => hPClose h x1 0 j (Or.inr rfl)⟩
theorem sAbout {F : zFt} {m : Nat} (h : RI F F (400 + m)) (x1 x2 : Int32) : RI F (pAbout F x1 x2).2 (400 + m) ∧ (qAbout (pAbout F x1 x2).2 x1 x2).1 = (pAbout F x1 x2).1 ∧ RI (qAbout (pAbout F x1 x2).2 x1 x2).2 (qAbout (pAbout F x1 x2).2 x1 x2).2 m ∧ ∀ j, (pAbout F x1 x2).2 0 j = F 0 j := by
  have h1 := RI_G h (hPAbout h x1 x2)
  have r := rAbout x1 x2 h1
  exact ⟨h1, r.1, RI_F r.2 (lQAbout _ x1 x2), fun j => hPAbout h x1 x2 0 j (Or.inr rfl)⟩
theorem sUphold {F : zFt} {m : Nat} (h : RI F F (400 + m)) (x1 : Int32) : RI F (pUphold F x1).2 (400 + m) ∧ (qUphold (pUphold F x1).2 x1).1 = (pUphold F x1).1 ∧ RI (qUphold (pUphold F x1).2 x1).2 (qUphold (pUphold F x1).2 x1).2 m ∧ ∀ j, (pUphold F x1).2 0 j = F 0 j := by
  have h1 := RI_G h (hPUphold h x1)
  have r := rUphold x1 h1
  exact ⟨h1, r.1, RI_F r.2 (lQUphold _ x1), fun j => hPUphold h x1 0 j (Or.inr rfl)⟩
theorem sEvent {F : zFt} {m : Nat} (h : RI F F (400 + m)) (x1 x2 : Int32) : RI F (pEvent F x1 x2).2 (400 + m) ∧ (qEvent (pEvent F x1 x2).2 x1 x2).1 = (pEvent F x1 x2).1 ∧ RI (qEvent (pEvent F x1 x2).2 x1 x2).2 (qEvent (pEvent F x1 x2).2 x1 x2).2 m ∧ ∀ j, (pEvent F x1 x2).2 0 j = F 0 j := by
  have h1 := RI_G h (hPEvent h x1 x2)
  have r := rEvent x1 x2 h1
  exact ⟨h1, r.1, RI_F r.2 (lQEvent _ x1 x2), fun j => hPEvent h x1 x2 0 j (Or.inr rfl)⟩
theorem sFailure {F : zFt} {m : Nat} (h : RI F F (400 + m)) (x1 x2 : Int32) : RI F (pFailure F x1 x2).2 (400 + m) ∧ (qFailure (pFailure F x1 x2).2 x1 x2).1 = (pFailure F x1 x2).1 ∧ RI (qFailure (pFailure F x1 x2).2 x1 x2).2 (qFailure (pFailure F x1 x2).2 x1 x2).2 m ∧ ∀ j, (pFailure F x1 x2).2 0 j = F 0 j := by
  have h1 := RI_G h (hPFailure h x1 x2)
  have r := rFailure x1 x2 h1
  exact ⟨h1, r.1, RI_F r.2 (lQFailure _ x1 x2), fun j => hPFailure h x1 x2 0 j (Or.inr rfl)⟩
theorem sIs {F : zFt} {m : Nat} (h : RI F F (400 + m)) (x1 x2 : Int32) : RI F (pIs F x1 x2).2 (400 + m) ∧ (qIs (pIs F x1 x2).2 x1 x2).1 = (pIs F x1 x2).1 ∧ RI (qIs (pIs F x1 x2).2 x1 x2).2 (qIs (pIs F x1 x2).2 x1 x2).2 m ∧ ∀ j, (pIs F x1 x2).2 0 j = F 0 j := by
  have h1 := RI_G h (hPIs h x1 x2)
  have r := rIs x1 x2 h1
  exact ⟨h1, r.1, RI_F r.2 (lQIs _ x1 x2), fun j => hPIs h x1 x2 0 j (Or.inr rfl)⟩
theorem sUndo {F : zFt} {m : Nat} (h : RI F F (400 + m)) : RI F (pUndo F).2 (400 + m) ∧ (qUndo (pUndo F).2).1 = (pUndo F).1 ∧ RI (qUndo (pUndo F).2).2 (qUndo (pUndo F).2).2 m ∧ ∀ j, (pUndo F).2 0 j = F 0 j := by
  have h1 := RI_G h (hPUndo h)
  have r := rUndo h1
  exact ⟨h1, r.1, RI_F r.2 (lQUndo _), fun j => hPUndo h 0 j (Or.inr rfl)⟩
theorem sCount {F : zFt} {m : Nat} (h : RI F F (400 + m)) (x1 : Int32) : RI F (pCount F x1).2 (400 + m) ∧ (qCount (pCount F x1).2 x1).1 = (pCount F x1).1 ∧ RI (qCount (pCount F x1).2 x1).2 (qCount (pCount F x1).2 x1).2 m ∧ ∀ j, (pCount F x1).2 0 j = F 0 j := by
  have h1 := RI_G h (hPCount h x1)
  have r := rCount x1 h1
  exact ⟨h1, r.1, RI_F r.2 (lQCount _ x1), fun j => hPCount h x1 0 j (Or.inr rfl)⟩
/-! the law -/
def R_law : String := "JudgesLedgerLaw"
def lw_P (b : Addr) (xs : List Int32) (args : Array Value) (s : State) : Prop := args = #[.ref b] ∧ s.IntsAt b xs ∧ xs.length ≤ 2560 ∧ (Jvm.Cond.and given_1 narrow_1).before args s = true
def lw_Q (_ : Array Value) (s : State) (o : Outcome) (t : State) : Prop := o = .returned (some (.int 1)) ∧ Framed s o t [] 600000 7302250
def lw_Z (below : List Frame) (a : Array Value) (s : State) : State → Prop := fun t => ∃ o, t.status = .running ∧ Ended t below o ∧ lw_Q a s o t
def lZ : zZt := fun below args s _ _ H0 t => H0 = s.heap → lw_Z below args s t
theorem zE_0 (L : Nat) (F : zFt) : zE L F 0 = (1000, L, fun i => .int (F 0 i)) := by
  have h : ∀ i, zfv 0 i (F 0 i) = .int (F 0 i) := fun i => rfl
  show ((1000 : Nat), (L : Nat), fun i => zfv 0 i (F 0 i)) = _
  rw [funext h]
theorem e_sld {M : zM} {R : Room} {Z : zZt} {pc pc' : Nat} {lo : List (Option Value)} {st : List Value} {L : Nat} {F : zFt} {k n : Nat} {i x : Int32} (hi : zIs M pc .iaload 1 pc') (hin : vp_in i L) (hx : F 0 (zn i) = x) (kk : zEV M R Z pc' lo (.int x :: st) 111 (zE L F) k n) : zEV M R Z pc lo (.int i :: .ref 0 :: st) 111 (zE L F) k n := by
  subst hx
  exact z_sld hi (zE_0 L F) hin kk
theorem e_slen {M : zM} {R : Room} {Z : zZt} {pc pc' : Nat} {lo : List (Option Value)} {st : List Value} {L : Nat} {F : zFt} {k n : Nat} (hi : zIs M pc .arraylength 1 pc') (kk : zEV M R Z pc' lo (.int (nI L) :: st) 111 (zE L F) k n) : zEV M R Z pc lo (.ref 0 :: st) 111 (zE L F) k n := z_slen hi (zE_0 L F) kk
abbrev lwL (a : Nat) : List (Option Value) := [some (.ref 0), some (.ref 2), some (.ref 75), some (.int (nI a))]
theorem ixs {a L j : Nat} (hL : L ≤ 2560) (ha : a + 5 ≤ L) (hj : j < 5) : vp_in (nI a + nI j) L := by
  rw [nI_add]
  exact vin_mk (by omega) (by omega)
theorem lgc (x : Int64) : lg_cmp x x = 0 := by
  simp [lg_cmp]
theorem wShow {L : Nat} {F : zFt} {m a k n : Nat} (h : RI F F (400 + m)) (hL : L ≤ 2560) (ha : a + 5 ≤ L) (hf : k ≤ room_1.cells ∧ n ≤ room_1.slots) (kk : ∀ F', RI F' F' m → zEV mL_law room_1 lZ 959 (lwL a) [] 111 (zE L F') k n) : zEV mL_law room_1 lZ 168 (lwL a) [] 111 (zE L F) k n := by
  obtain ⟨x1, e1⟩ : ∃ x, F 0 (zn (nI a + 1)) = x := ⟨_, rfl⟩
  obtain ⟨x2, e2⟩ : ∃ x, F 0 (zn (nI a + 2)) = x := ⟨_, rfl⟩
  have s := sShow h x1 x2
  refine z_aload iL_law_168 rfl ?_
  refine z_aload iL_law_169 rfl ?_
  refine z_iload iL_law_170 rfl ?_
  refine z_push iL_law_171 ?_
  refine z_iadd iL_law_172 ?_
  refine e_sld iL_law_173 (ixs hL ha (j := 1) (by omega)) e1 ?_
  refine z_aload iL_law_174 rfl ?_
  refine z_iload iL_law_175 rfl ?_
  refine z_push iL_law_176 ?_
  refine z_iadd iL_law_177 ?_
  refine e_sld iL_law_178 (ixs hL ha (j := 2) (by omega)) e2 ?_
  refine e_callV iL_law_179 kL_13 (tX7_show F x1 x2 h.1) rfl rfl rfl ⟨Nat.le_of_ble_eq_true rfl, Nat.le_of_ble_eq_true rfl⟩ hf (Nat.le_of_ble_eq_true rfl) ?_
  dsimp only [Option.toList, List.cons_append, List.nil_append]
  refine z_aload iL_law_182 rfl ?_
  refine z_aload iL_law_183 rfl ?_
  refine z_iload iL_law_184 rfl ?_
  refine z_push iL_law_185 ?_
  refine z_iadd iL_law_186 ?_
  refine e_sld iL_law_187 (ixs hL ha (j := 1) (by omega)) ((s.2.2.2 _).trans e1) ?_
  refine z_aload iL_law_188 rfl ?_
  refine z_iload iL_law_189 rfl ?_
  refine z_push iL_law_190 ?_
  refine z_iadd iL_law_191 ?_
  refine e_sld iL_law_192 (ixs hL ha (j := 2) (by omega)) ((s.2.2.2 _).trans e2) ?_
  refine e_callV iL_law_193 kL_17 (uShow s.1 x1 x2) rfl rfl rfl ⟨Nat.le_of_ble_eq_true rfl, Nat.le_of_ble_eq_true rfl⟩ hf (Nat.le_of_ble_eq_true rfl) ?_
  dsimp only [Option.toList, List.cons_append, List.nil_append]
  refine z_icmp_eq iL_law_196 (fun _ => kk _ s.2.2.1) (fun c => absurd s.2.1.symm c)
theorem wEntry {L : Nat} {F : zFt} {m a k n : Nat} (h : RI F F (400 + m)) (hL : L ≤ 2560) (ha : a + 5 ≤ L) (hf : k ≤ room_1.cells ∧ n ≤ room_1.slots) (kk : ∀ F', RI F' F' m → zEV mL_law room_1 lZ 959 (lwL a) [] 111 (zE L F') k n) : zEV mL_law room_1 lZ 201 (lwL a) [] 111 (zE L F) k n := by
  obtain ⟨x1, e1⟩ : ∃ x, F 0 (zn (nI a + 1)) = x := ⟨_, rfl⟩
  have s := sEntry h x1
  refine z_aload iL_law_201 rfl ?_
  refine z_aload iL_law_202 rfl ?_
  refine z_iload iL_law_203 rfl ?_
  refine z_push iL_law_204 ?_
  refine z_iadd iL_law_205 ?_
  refine e_sld iL_law_206 (ixs hL ha (j := 1) (by omega)) e1 ?_
  refine e_callV iL_law_207 kL_18 (tX7_entry F x1 h.1) rfl rfl rfl ⟨Nat.le_of_ble_eq_true rfl, Nat.le_of_ble_eq_true rfl⟩ hf (Nat.le_of_ble_eq_true rfl) ?_
  dsimp only [Option.toList, List.cons_append, List.nil_append]
  refine z_aload iL_law_210 rfl ?_
  refine z_aload iL_law_211 rfl ?_
  refine z_iload iL_law_212 rfl ?_
  refine z_push iL_law_213 ?_
  refine z_iadd iL_law_214 ?_
  refine e_sld iL_law_215 (ixs hL ha (j := 1) (by omega)) ((s.2.2.2 _).trans e1) ?_
  refine e_callV iL_law_216 kL_22 (uEntry s.1 x1) rfl rfl rfl ⟨Nat.le_of_ble_eq_true rfl, Nat.le_of_ble_eq_true rfl⟩ hf (Nat.le_of_ble_eq_true rfl) ?_
  dsimp only [Option.toList, List.cons_append, List.nil_append]
  refine z_icmp_eq iL_law_219 (fun _ => kk _ s.2.2.1) (fun c => absurd s.2.1.symm c)
theorem wPrizes {L : Nat} {F : zFt} {m a k n : Nat} (h : RI F F (400 + m)) (hL : L ≤ 2560) (ha : a + 5 ≤ L) (hf : k ≤ room_1.cells ∧ n ≤ room_1.slots) (kk : ∀ F', RI F' F' m → zEV mL_law room_1 lZ 959 (lwL a) [] 111 (zE L F') k n) : zEV mL_law room_1 lZ 224 (lwL a) [] 111 (zE L F) k n := by
  obtain ⟨x1, e1⟩ : ∃ x, F 0 (zn (nI a + 1)) = x := ⟨_, rfl⟩
  obtain ⟨x2, e2⟩ : ∃ x, F 0 (zn (nI a + 2)) = x := ⟨_, rfl⟩
  obtain ⟨x3, e3⟩ : ∃ x, F 0 (zn (nI a + 3)) = x := ⟨_, rfl⟩
  obtain ⟨x4, e4⟩ : ∃ x, F 0 (zn (nI a + 4)) = x := ⟨_, rfl⟩
  have s := sPrizes h x1 x2 x3 x4
  refine z_aload iL_law_224 rfl ?_
  refine z_aload iL_law_225 rfl ?_
  refine z_iload iL_law_226 rfl ?_
  refine z_push iL_law_227 ?_
  refine z_iadd iL_law_228 ?_
  refine e_sld iL_law_229 (ixs hL ha (j := 1) (by omega)) e1 ?_
  refine z_aload iL_law_230 rfl ?_
  refine z_iload iL_law_231 rfl ?_
  refine z_push iL_law_232 ?_
  refine z_iadd iL_law_233 ?_
  refine e_sld iL_law_234 (ixs hL ha (j := 2) (by omega)) e2 ?_
  refine z_aload iL_law_235 rfl ?_
  refine z_iload iL_law_236 rfl ?_
  refine z_push iL_law_237 ?_
  refine z_iadd iL_law_238 ?_
  refine e_sld iL_law_239 (ixs hL ha (j := 3) (by omega)) e3 ?_
  refine z_aload iL_law_240 rfl ?_
  refine z_iload iL_law_241 rfl ?_
  refine z_push iL_law_242 ?_
  refine z_iadd iL_law_243 ?_
  refine e_sld iL_law_244 (ixs hL ha (j := 4) (by omega)) e4 ?_
  refine e_callV iL_law_245 kL_23 (tX7_prizes F x1 x2 x3 x4 h.1) rfl rfl rfl ⟨Nat.le_of_ble_eq_true rfl, Nat.le_of_ble_eq_true rfl⟩ hf (Nat.le_of_ble_eq_true rfl) ?_
  dsimp only [Option.toList, List.cons_append, List.nil_append]
  refine z_aload iL_law_248 rfl ?_
  refine z_aload iL_law_249 rfl ?_
  refine z_iload iL_law_250 rfl ?_
  refine z_push iL_law_251 ?_
  refine z_iadd iL_law_252 ?_
  refine e_sld iL_law_253 (ixs hL ha (j := 1) (by omega)) ((s.2.2.2 _).trans e1) ?_
  refine z_aload iL_law_254 rfl ?_
  refine z_iload iL_law_255 rfl ?_
  refine z_push iL_law_256 ?_
  refine z_iadd iL_law_257 ?_
  refine e_sld iL_law_258 (ixs hL ha (j := 2) (by omega)) ((s.2.2.2 _).trans e2) ?_
  refine z_aload iL_law_259 rfl ?_
  refine z_iload iL_law_260 rfl ?_
  refine z_push iL_law_261 ?_
  refine z_iadd iL_law_262 ?_
  refine e_sld iL_law_263 (ixs hL ha (j := 3) (by omega)) ((s.2.2.2 _).trans e3) ?_
  refine z_aload iL_law_264 rfl ?_
  refine z_iload iL_law_265 rfl ?_
  refine z_push iL_law_266 ?_
  refine z_iadd iL_law_267 ?_
  refine e_sld iL_law_268 (ixs hL ha (j := 4) (by omega)) ((s.2.2.2 _).trans e4) ?_
  refine e_callV iL_law_269 kL_27 (uPrizes s.1 x1 x2 x3 x4) rfl rfl rfl ⟨Nat.le_of_ble_eq_true rfl, Nat.le_of_ble_eq_true rfl⟩ hf (Nat.le_of_ble_eq_true rfl) ?_
  dsimp only [Option.toList, List.cons_append, List.nil_append]
  refine z_icmp_eq iL_law_272 (fun _ => kk _ s.2.2.1) (fun c => absurd s.2.1.symm c)
theorem wRule {L : Nat} {F : zFt} {m a k n : Nat} (h : RI F F (400 + m)) (hL : L ≤ 2560) (ha : a + 5 ≤ L) (hf : k ≤ room_1.cells ∧ n ≤ room_1.slots) (kk : ∀ F', RI F' F' m → zEV mL_law room_1 lZ 959 (lwL a) [] 111 (zE L F') k n) : zEV mL_law room_1 lZ 277 (lwL a) [] 111 (zE L F) k n := by
  obtain ⟨x1, e1⟩ : ∃ x, F 0 (zn (nI a + 1)) = x := ⟨_, rfl⟩
  obtain ⟨x2, e2⟩ : ∃ x, F 0 (zn (nI a + 2)) = x := ⟨_, rfl⟩
  obtain ⟨x3, e3⟩ : ∃ x, F 0 (zn (nI a + 3)) = x := ⟨_, rfl⟩
  have s := sRule h x1 x2 x3
  refine z_aload iL_law_277 rfl ?_
  refine z_aload iL_law_278 rfl ?_
  refine z_iload iL_law_279 rfl ?_
  refine z_push iL_law_280 ?_
  refine z_iadd iL_law_281 ?_
  refine e_sld iL_law_282 (ixs hL ha (j := 1) (by omega)) e1 ?_
  refine z_aload iL_law_283 rfl ?_
  refine z_iload iL_law_284 rfl ?_
  refine z_push iL_law_285 ?_
  refine z_iadd iL_law_286 ?_
  refine e_sld iL_law_287 (ixs hL ha (j := 2) (by omega)) e2 ?_
  refine z_aload iL_law_288 rfl ?_
  refine z_iload iL_law_289 rfl ?_
  refine z_push iL_law_290 ?_
  refine z_iadd iL_law_291 ?_
  refine e_sld iL_law_292 (ixs hL ha (j := 3) (by omega)) e3 ?_
  refine e_callV iL_law_293 kL_28 (tX7_rule F x1 x2 x3 h.1) rfl rfl rfl ⟨Nat.le_of_ble_eq_true rfl, Nat.le_of_ble_eq_true rfl⟩ hf (Nat.le_of_ble_eq_true rfl) ?_
  dsimp only [Option.toList, List.cons_append, List.nil_append]
  refine z_aload iL_law_296 rfl ?_
  refine z_aload iL_law_297 rfl ?_
  refine z_iload iL_law_298 rfl ?_
  refine z_push iL_law_299 ?_
  refine z_iadd iL_law_300 ?_
  refine e_sld iL_law_301 (ixs hL ha (j := 1) (by omega)) ((s.2.2.2 _).trans e1) ?_
  refine z_aload iL_law_302 rfl ?_
  refine z_iload iL_law_303 rfl ?_
  refine z_push iL_law_304 ?_
  refine z_iadd iL_law_305 ?_
  refine e_sld iL_law_306 (ixs hL ha (j := 2) (by omega)) ((s.2.2.2 _).trans e2) ?_
  refine z_aload iL_law_307 rfl ?_
  refine z_iload iL_law_308 rfl ?_
  refine z_push iL_law_309 ?_
  refine z_iadd iL_law_310 ?_
  refine e_sld iL_law_311 (ixs hL ha (j := 3) (by omega)) ((s.2.2.2 _).trans e3) ?_
  refine e_callV iL_law_312 kL_32 (uRule s.1 x1 x2 x3) rfl rfl rfl ⟨Nat.le_of_ble_eq_true rfl, Nat.le_of_ble_eq_true rfl⟩ hf (Nat.le_of_ble_eq_true rfl) ?_
  dsimp only [Option.toList, List.cons_append, List.nil_append]
  refine z_icmp_eq iL_law_315 (fun _ => kk _ s.2.2.1) (fun c => absurd s.2.1.symm c)
theorem wClear {L : Nat} {F : zFt} {m a k n : Nat} (h : RI F F (400 + m)) (hL : L ≤ 2560) (ha : a + 5 ≤ L) (hf : k ≤ room_1.cells ∧ n ≤ room_1.slots) (kk : ∀ F', RI F' F' m → zEV mL_law room_1 lZ 959 (lwL a) [] 111 (zE L F') k n) : zEV mL_law room_1 lZ 320 (lwL a) [] 111 (zE L F) k n := by
  have s := sClear h
  refine z_aload iL_law_320 rfl ?_
  refine e_callV iL_law_321 kL_33 (tX7_clearRules F) rfl rfl rfl ⟨Nat.le_of_ble_eq_true rfl, Nat.le_of_ble_eq_true rfl⟩ hf (Nat.le_of_ble_eq_true rfl) ?_
  dsimp only [Option.toList, List.cons_append, List.nil_append]
  refine z_aload iL_law_324 rfl ?_
  refine e_callV iL_law_325 kL_37 (uClear s.1) rfl rfl rfl ⟨Nat.le_of_ble_eq_true rfl, Nat.le_of_ble_eq_true rfl⟩ hf (Nat.le_of_ble_eq_true rfl) ?_
  dsimp only [Option.toList, List.cons_append, List.nil_append]
  refine z_icmp_eq iL_law_328 (fun _ => kk _ s.2.2.1) (fun c => absurd s.2.1.symm c)
theorem wObs {L : Nat} {F : zFt} {m a k n : Nat} (h : RI F F (400 + m)) (hL : L ≤ 2560) (ha : a + 5 ≤ L) (hf : k ≤ room_1.cells ∧ n ≤ room_1.slots) (kk : ∀ F', RI F' F' m → zEV mL_law room_1 lZ 959 (lwL a) [] 111 (zE L F') k n) : zEV mL_law room_1 lZ 333 (lwL a) [] 111 (zE L F) k n := by
  obtain ⟨x1, e1⟩ : ∃ x, F 0 (zn (nI a + 1)) = x := ⟨_, rfl⟩
  have s := sObs h x1
  refine z_aload iL_law_333 rfl ?_
  refine z_aload iL_law_334 rfl ?_
  refine z_iload iL_law_335 rfl ?_
  refine z_push iL_law_336 ?_
  refine z_iadd iL_law_337 ?_
  refine e_sld iL_law_338 (ixs hL ha (j := 1) (by omega)) e1 ?_
  refine e_callV iL_law_339 kL_38 (tX7_observe F x1 h.1) rfl rfl rfl ⟨Nat.le_of_ble_eq_true rfl, Nat.le_of_ble_eq_true rfl⟩ hf (Nat.le_of_ble_eq_true rfl) ?_
  dsimp only [Option.toList, List.cons_append, List.nil_append]
  refine z_aload iL_law_342 rfl ?_
  refine z_aload iL_law_343 rfl ?_
  refine z_iload iL_law_344 rfl ?_
  refine z_push iL_law_345 ?_
  refine z_iadd iL_law_346 ?_
  refine e_sld iL_law_347 (ixs hL ha (j := 1) (by omega)) ((s.2.2.2 _).trans e1) ?_
  refine e_callV iL_law_348 kL_41 (uObs s.1 x1) rfl rfl rfl ⟨Nat.le_of_ble_eq_true rfl, Nat.le_of_ble_eq_true rfl⟩ hf (Nat.le_of_ble_eq_true rfl) ?_
  dsimp only [Option.toList, List.cons_append, List.nil_append]
  refine z_icmp_eq iL_law_351 (fun _ => kk _ s.2.2.1) (fun c => absurd s.2.1.symm c)
theorem wBegin {L : Nat} {F : zFt} {m a k n : Nat} (h : RI F F (400 + m)) (hL : L ≤ 2560) (ha : a + 5 ≤ L) (hf : k ≤ room_1.cells ∧ n ≤ room_1.slots) (kk : ∀ F', RI F' F' m → zEV mL_law room_1 lZ 959 (lwL a) [] 111 (zE L F') k n) : zEV mL_law room_1 lZ 356 (lwL a) [] 111 (zE L F) k n := by
  obtain ⟨x1, e1⟩ : ∃ x, F 0 (zn (nI a + 1)) = x := ⟨_, rfl⟩
  obtain ⟨x2, e2⟩ : ∃ x, F 0 (zn (nI a + 2)) = x := ⟨_, rfl⟩
  have s := sBegin h x1 x2
  refine z_aload iL_law_356 rfl ?_
  refine z_aload iL_law_357 rfl ?_
  refine z_iload iL_law_358 rfl ?_
  refine z_push iL_law_359 ?_
  refine z_iadd iL_law_360 ?_
  refine e_sld iL_law_361 (ixs hL ha (j := 1) (by omega)) e1 ?_
  refine z_aload iL_law_362 rfl ?_
  refine z_iload iL_law_363 rfl ?_
  refine z_push iL_law_364 ?_
  refine z_iadd iL_law_365 ?_
  refine e_sld iL_law_366 (ixs hL ha (j := 2) (by omega)) e2 ?_
  refine e_callV iL_law_367 kL_42 (tX7_begin F x1 x2 h.1) rfl rfl rfl ⟨Nat.le_of_ble_eq_true rfl, Nat.le_of_ble_eq_true rfl⟩ hf (Nat.le_of_ble_eq_true rfl) ?_
  dsimp only [Option.toList, List.cons_append, List.nil_append]
  refine z_aload iL_law_370 rfl ?_
  refine z_aload iL_law_371 rfl ?_
  refine z_iload iL_law_372 rfl ?_
  refine z_push iL_law_373 ?_
  refine z_iadd iL_law_374 ?_
  refine e_sld iL_law_375 (ixs hL ha (j := 1) (by omega)) ((s.2.2.2 _).trans e1) ?_
  refine z_aload iL_law_376 rfl ?_
  refine z_iload iL_law_377 rfl ?_
  refine z_push iL_law_378 ?_
  refine z_iadd iL_law_379 ?_
  refine e_sld iL_law_380 (ixs hL ha (j := 2) (by omega)) ((s.2.2.2 _).trans e2) ?_
  refine e_callV iL_law_381 kL_45 (uBegin s.1 x1 x2) rfl rfl rfl ⟨Nat.le_of_ble_eq_true rfl, Nat.le_of_ble_eq_true rfl⟩ hf (Nat.le_of_ble_eq_true rfl) ?_
  dsimp only [Option.toList, List.cons_append, List.nil_append]
  refine z_icmp_eq iL_law_384 (fun _ => kk _ s.2.2.1) (fun c => absurd s.2.1.symm c)
theorem wPoints {L : Nat} {F : zFt} {m a k n : Nat} (h : RI F F (400 + m)) (hL : L ≤ 2560) (ha : a + 5 ≤ L) (hf : k ≤ room_1.cells ∧ n ≤ room_1.slots) (kk : ∀ F', RI F' F' m → zEV mL_law room_1 lZ 959 (lwL a) [] 111 (zE L F') k n) : zEV mL_law room_1 lZ 389 (lwL a) [] 111 (zE L F) k n := by
  obtain ⟨x1, e1⟩ : ∃ x, F 0 (zn (nI a + 1)) = x := ⟨_, rfl⟩
  have s := sPoints h x1
  refine z_aload iL_law_389 rfl ?_
  refine z_aload iL_law_390 rfl ?_
  refine z_iload iL_law_391 rfl ?_
  refine z_push iL_law_392 ?_
  refine z_iadd iL_law_393 ?_
  refine e_sld iL_law_394 (ixs hL ha (j := 1) (by omega)) e1 ?_
  refine e_callV iL_law_395 kL_46 (tX7_points F x1 h.1 (h.2.2.2.2.2.2.2.2.2.1.2.2.2 _ (Nat.le_refl _))) rfl rfl rfl ⟨Nat.le_of_ble_eq_true rfl, Nat.le_of_ble_eq_true rfl⟩ hf (Nat.le_of_ble_eq_true rfl) ?_
  dsimp only [Option.toList, List.cons_append, List.nil_append]
  refine z_aload iL_law_398 rfl ?_
  refine z_aload iL_law_399 rfl ?_
  refine z_iload iL_law_400 rfl ?_
  refine z_push iL_law_401 ?_
  refine z_iadd iL_law_402 ?_
  refine e_sld iL_law_403 (ixs hL ha (j := 1) (by omega)) ((s.2.2.2 _).trans e1) ?_
  refine e_callV iL_law_404 kL_49 (uPoints s.1 x1) rfl rfl rfl ⟨Nat.le_of_ble_eq_true rfl, Nat.le_of_ble_eq_true rfl⟩ hf (Nat.le_of_ble_eq_true rfl) ?_
  dsimp only [Option.toList, List.cons_append, List.nil_append]
  refine z_icmp_eq iL_law_407 (fun _ => kk _ s.2.2.1) (fun c => absurd s.2.1.symm c)
theorem wDeduct {L : Nat} {F : zFt} {m a k n : Nat} (h : RI F F (400 + m)) (hL : L ≤ 2560) (ha : a + 5 ≤ L) (hf : k ≤ room_1.cells ∧ n ≤ room_1.slots) (kk : ∀ F', RI F' F' m → zEV mL_law room_1 lZ 959 (lwL a) [] 111 (zE L F') k n) : zEV mL_law room_1 lZ 412 (lwL a) [] 111 (zE L F) k n := by
  obtain ⟨x1, e1⟩ : ∃ x, F 0 (zn (nI a + 1)) = x := ⟨_, rfl⟩
  have s := sDeduct h x1
  refine z_aload iL_law_412 rfl ?_
  refine z_aload iL_law_413 rfl ?_
  refine z_iload iL_law_414 rfl ?_
  refine z_push iL_law_415 ?_
  refine z_iadd iL_law_416 ?_
  refine e_sld iL_law_417 (ixs hL ha (j := 1) (by omega)) e1 ?_
  refine e_callV iL_law_418 kL_50 (tX7_deduct F x1 h.1 (h.2.2.2.2.2.2.2.2.2.1.2.2.2 _ (Nat.le_refl _))) rfl rfl rfl ⟨Nat.le_of_ble_eq_true rfl, Nat.le_of_ble_eq_true rfl⟩ hf (Nat.le_of_ble_eq_true rfl) ?_
  dsimp only [Option.toList, List.cons_append, List.nil_append]
  refine z_aload iL_law_421 rfl ?_
  refine z_aload iL_law_422 rfl ?_
  refine z_iload iL_law_423 rfl ?_
  refine z_push iL_law_424 ?_
  refine z_iadd iL_law_425 ?_
  refine e_sld iL_law_426 (ixs hL ha (j := 1) (by omega)) ((s.2.2.2 _).trans e1) ?_
  refine e_callV iL_law_427 kL_53 (uDeduct s.1 x1) rfl rfl rfl ⟨Nat.le_of_ble_eq_true rfl, Nat.le_of_ble_eq_true rfl⟩ hf (Nat.le_of_ble_eq_true rfl) ?_
  dsimp only [Option.toList, List.cons_append, List.nil_append]
  refine z_icmp_eq iL_law_430 (fun _ => kk _ s.2.2.1) (fun c => absurd s.2.1.symm c)
theorem wRemark {L : Nat} {F : zFt} {m a k n : Nat} (h : RI F F (400 + m)) (hL : L ≤ 2560) (ha : a + 5 ≤ L) (hf : k ≤ room_1.cells ∧ n ≤ room_1.slots) (kk : ∀ F', RI F' F' m → zEV mL_law room_1 lZ 959 (lwL a) [] 111 (zE L F') k n) : zEV mL_law room_1 lZ 435 (lwL a) [] 111 (zE L F) k n := by
  obtain ⟨x1, e1⟩ : ∃ x, F 0 (zn (nI a + 1)) = x := ⟨_, rfl⟩
  have s := sRemark h x1
  refine z_aload iL_law_435 rfl ?_
  refine z_aload iL_law_436 rfl ?_
  refine z_iload iL_law_437 rfl ?_
  refine z_push iL_law_438 ?_
  refine z_iadd iL_law_439 ?_
  refine e_sld iL_law_440 (ixs hL ha (j := 1) (by omega)) e1 ?_
  refine e_callV iL_law_441 kL_54 (tX7_remark F x1 h.1 (h.2.2.2.2.2.2.2.2.2.1.2.2.2 _ (Nat.le_refl _))) rfl rfl rfl ⟨Nat.le_of_ble_eq_true rfl, Nat.le_of_ble_eq_true rfl⟩ hf (Nat.le_of_ble_eq_true rfl) ?_
  dsimp only [Option.toList, List.cons_append, List.nil_append]
  refine z_aload iL_law_444 rfl ?_
  refine z_aload iL_law_445 rfl ?_
  refine z_iload iL_law_446 rfl ?_
  refine z_push iL_law_447 ?_
  refine z_iadd iL_law_448 ?_
  refine e_sld iL_law_449 (ixs hL ha (j := 1) (by omega)) ((s.2.2.2 _).trans e1) ?_
  refine e_callV iL_law_450 kL_57 (uRemark s.1 x1) rfl rfl rfl ⟨Nat.le_of_ble_eq_true rfl, Nat.le_of_ble_eq_true rfl⟩ hf (Nat.le_of_ble_eq_true rfl) ?_
  dsimp only [Option.toList, List.cons_append, List.nil_append]
  refine z_icmp_eq iL_law_453 (fun _ => kk _ s.2.2.1) (fun c => absurd s.2.1.symm c)
theorem wSave {L : Nat} {F : zFt} {m a k n : Nat} (h : RI F F (400 + m)) (hL : L ≤ 2560) (ha : a + 5 ≤ L) (hf : k ≤ room_1.cells ∧ n ≤ room_1.slots) (kk : ∀ F', RI F' F' m → zEV mL_law room_1 lZ 959 (lwL a) [] 111 (zE L F') k n) : zEV mL_law room_1 lZ 458 (lwL a) [] 111 (zE L F) k n := by
  obtain ⟨x1, e1⟩ : ∃ x, F 0 (zn (nI a + 1)) = x := ⟨_, rfl⟩
  have s := sSave h x1
  refine z_aload iL_law_458 rfl ?_
  refine z_aload iL_law_459 rfl ?_
  refine z_iload iL_law_460 rfl ?_
  refine z_push iL_law_461 ?_
  refine z_iadd iL_law_462 ?_
  refine e_sld iL_law_463 (ixs hL ha (j := 1) (by omega)) e1 ?_
  refine e_callV iL_law_464 kL_58 (tX7_save F x1 h.1) rfl rfl rfl ⟨Nat.le_of_ble_eq_true rfl, Nat.le_of_ble_eq_true rfl⟩ hf (Nat.le_of_ble_eq_true rfl) ?_
  dsimp only [Option.toList, List.cons_append, List.nil_append]
  refine z_aload iL_law_467 rfl ?_
  refine z_aload iL_law_468 rfl ?_
  refine z_iload iL_law_469 rfl ?_
  refine z_push iL_law_470 ?_
  refine z_iadd iL_law_471 ?_
  refine e_sld iL_law_472 (ixs hL ha (j := 1) (by omega)) ((s.2.2.2 _).trans e1) ?_
  refine e_callV iL_law_473 kL_61 (uSave s.1 x1) rfl rfl rfl ⟨Nat.le_of_ble_eq_true rfl, Nat.le_of_ble_eq_true rfl⟩ hf (Nat.le_of_ble_eq_true rfl) ?_
  dsimp only [Option.toList, List.cons_append, List.nil_append]
  refine z_icmp_eq iL_law_476 (fun _ => kk _ s.2.2.1) (fun c => absurd s.2.1.symm c)
theorem wBack {L : Nat} {F : zFt} {m a k n : Nat} (h : RI F F (400 + m)) (hL : L ≤ 2560) (ha : a + 5 ≤ L) (hf : k ≤ room_1.cells ∧ n ≤ room_1.slots) (kk : ∀ F', RI F' F' m → zEV mL_law room_1 lZ 959 (lwL a) [] 111 (zE L F') k n) : zEV mL_law room_1 lZ 481 (lwL a) [] 111 (zE L F) k n := by
  obtain ⟨x1, e1⟩ : ∃ x, F 0 (zn (nI a + 1)) = x := ⟨_, rfl⟩
  have s := sBack h x1
  refine z_aload iL_law_481 rfl ?_
  refine z_aload iL_law_482 rfl ?_
  refine z_iload iL_law_483 rfl ?_
  refine z_push iL_law_484 ?_
  refine z_iadd iL_law_485 ?_
  refine e_sld iL_law_486 (ixs hL ha (j := 1) (by omega)) e1 ?_
  refine e_callV iL_law_487 kL_62 (tX7_back F x1 h.1) rfl rfl rfl ⟨Nat.le_of_ble_eq_true rfl, Nat.le_of_ble_eq_true rfl⟩ hf (Nat.le_of_ble_eq_true rfl) ?_
  dsimp only [Option.toList, List.cons_append, List.nil_append]
  refine z_aload iL_law_490 rfl ?_
  refine z_aload iL_law_491 rfl ?_
  refine z_iload iL_law_492 rfl ?_
  refine z_push iL_law_493 ?_
  refine z_iadd iL_law_494 ?_
  refine e_sld iL_law_495 (ixs hL ha (j := 1) (by omega)) ((s.2.2.2 _).trans e1) ?_
  refine e_callV iL_law_496 kL_65 (uBack s.1 x1) rfl rfl rfl ⟨Nat.le_of_ble_eq_true rfl, Nat.le_of_ble_eq_true rfl⟩ hf (Nat.le_of_ble_eq_true rfl) ?_
  dsimp only [Option.toList, List.cons_append, List.nil_append]
  refine z_icmp_eq iL_law_499 (fun _ => kk _ s.2.2.1) (fun c => absurd s.2.1.symm c)
theorem wRelease {L : Nat} {F : zFt} {m a k n : Nat} (h : RI F F (400 + m)) (hL : L ≤ 2560) (ha : a + 5 ≤ L) (hf : k ≤ room_1.cells ∧ n ≤ room_1.slots) (kk : ∀ F', RI F' F' m → zEV mL_law room_1 lZ 959 (lwL a) [] 111 (zE L F') k n) : zEV mL_law room_1 lZ 504 (lwL a) [] 111 (zE L F) k n := by
  obtain ⟨x1, e1⟩ : ∃ x, F 0 (zn (nI a + 1)) = x := ⟨_, rfl⟩
  have s := sRelease h x1
  refine z_aload iL_law_504 rfl ?_
  refine z_aload iL_law_505 rfl ?_
  refine z_iload iL_law_506 rfl ?_
  refine z_push iL_law_507 ?_
  refine z_iadd iL_law_508 ?_
  refine e_sld iL_law_509 (ixs hL ha (j := 1) (by omega)) e1 ?_
  refine e_callV iL_law_510 kL_66 (tX7_release F x1 h.1) rfl rfl rfl ⟨Nat.le_of_ble_eq_true rfl, Nat.le_of_ble_eq_true rfl⟩ hf (Nat.le_of_ble_eq_true rfl) ?_
  dsimp only [Option.toList, List.cons_append, List.nil_append]
  refine z_aload iL_law_513 rfl ?_
  refine z_aload iL_law_514 rfl ?_
  refine z_iload iL_law_515 rfl ?_
  refine z_push iL_law_516 ?_
  refine z_iadd iL_law_517 ?_
  refine e_sld iL_law_518 (ixs hL ha (j := 1) (by omega)) ((s.2.2.2 _).trans e1) ?_
  refine e_callV iL_law_519 kL_69 (uRelease s.1 x1) rfl rfl rfl ⟨Nat.le_of_ble_eq_true rfl, Nat.le_of_ble_eq_true rfl⟩ hf (Nat.le_of_ble_eq_true rfl) ?_
  dsimp only [Option.toList, List.cons_append, List.nil_append]
  refine z_icmp_eq iL_law_522 (fun _ => kk _ s.2.2.1) (fun c => absurd s.2.1.symm c)
theorem wGuard {L : Nat} {F : zFt} {m a k n : Nat} (h : RI F F (400 + m)) (hL : L ≤ 2560) (ha : a + 5 ≤ L) (hf : k ≤ room_1.cells ∧ n ≤ room_1.slots) (kk : ∀ F', RI F' F' m → zEV mL_law room_1 lZ 959 (lwL a) [] 111 (zE L F') k n) : zEV mL_law room_1 lZ 527 (lwL a) [] 111 (zE L F) k n := by
  obtain ⟨x1, e1⟩ : ∃ x, F 0 (zn (nI a + 1)) = x := ⟨_, rfl⟩
  obtain ⟨x2, e2⟩ : ∃ x, F 0 (zn (nI a + 2)) = x := ⟨_, rfl⟩
  have s := sGuard h x1 x2
  refine z_aload iL_law_527 rfl ?_
  refine z_aload iL_law_528 rfl ?_
  refine z_iload iL_law_529 rfl ?_
  refine z_push iL_law_530 ?_
  refine z_iadd iL_law_531 ?_
  refine e_sld iL_law_532 (ixs hL ha (j := 1) (by omega)) e1 ?_
  refine z_aload iL_law_533 rfl ?_
  refine z_iload iL_law_534 rfl ?_
  refine z_push iL_law_535 ?_
  refine z_iadd iL_law_536 ?_
  refine e_sld iL_law_537 (ixs hL ha (j := 2) (by omega)) e2 ?_
  refine e_callV iL_law_538 kL_70 (tX7_guard F x1 x2 h.1) rfl rfl rfl ⟨Nat.le_of_ble_eq_true rfl, Nat.le_of_ble_eq_true rfl⟩ hf (Nat.le_of_ble_eq_true rfl) ?_
  dsimp only [Option.toList, List.cons_append, List.nil_append]
  refine z_aload iL_law_541 rfl ?_
  refine z_aload iL_law_542 rfl ?_
  refine z_iload iL_law_543 rfl ?_
  refine z_push iL_law_544 ?_
  refine z_iadd iL_law_545 ?_
  refine e_sld iL_law_546 (ixs hL ha (j := 1) (by omega)) ((s.2.2.2 _).trans e1) ?_
  refine z_aload iL_law_547 rfl ?_
  refine z_iload iL_law_548 rfl ?_
  refine z_push iL_law_549 ?_
  refine z_iadd iL_law_550 ?_
  refine e_sld iL_law_551 (ixs hL ha (j := 2) (by omega)) ((s.2.2.2 _).trans e2) ?_
  refine e_callV iL_law_552 kL_73 (uGuard s.1 x1 x2) rfl rfl rfl ⟨Nat.le_of_ble_eq_true rfl, Nat.le_of_ble_eq_true rfl⟩ hf (Nat.le_of_ble_eq_true rfl) ?_
  dsimp only [Option.toList, List.cons_append, List.nil_append]
  refine z_icmp_eq iL_law_555 (fun _ => kk _ s.2.2.1) (fun c => absurd s.2.1.symm c)
theorem wEnd {L : Nat} {F : zFt} {m a k n : Nat} (h : RI F F (400 + m)) (hL : L ≤ 2560) (ha : a + 5 ≤ L) (hf : k ≤ room_1.cells ∧ n ≤ room_1.slots) (kk : ∀ F', RI F' F' m → zEV mL_law room_1 lZ 959 (lwL a) [] 111 (zE L F') k n) : zEV mL_law room_1 lZ 560 (lwL a) [] 111 (zE L F) k n := by
  have s := sEnd h
  refine z_aload iL_law_560 rfl ?_
  refine e_callV iL_law_561 kL_74 (tX7_end F h.1) rfl rfl rfl ⟨Nat.le_of_ble_eq_true rfl, Nat.le_of_ble_eq_true rfl⟩ hf (Nat.le_of_ble_eq_true rfl) ?_
  dsimp only [Option.toList, List.cons_append, List.nil_append]
  refine z_aload iL_law_564 rfl ?_
  refine e_callV iL_law_565 kL_77 (uEnd s.1) rfl rfl rfl ⟨Nat.le_of_ble_eq_true rfl, Nat.le_of_ble_eq_true rfl⟩ hf (Nat.le_of_ble_eq_true rfl) ?_
  dsimp only [Option.toList, List.cons_append, List.nil_append]
  refine z_icmp_eq iL_law_568 (fun _ => kk _ s.2.2.1) (fun c => absurd s.2.1.symm c)
theorem wDrop {L : Nat} {F : zFt} {m a k n : Nat} (h : RI F F (400 + m)) (hL : L ≤ 2560) (ha : a + 5 ≤ L) (hf : k ≤ room_1.cells ∧ n ≤ room_1.slots) (kk : ∀ F', RI F' F' m → zEV mL_law room_1 lZ 959 (lwL a) [] 111 (zE L F') k n) : zEV mL_law room_1 lZ 573 (lwL a) [] 111 (zE L F) k n := by
  have s := sDrop h
  refine z_aload iL_law_573 rfl ?_
  refine e_callV iL_law_574 kL_78 (tX7_drop F h.1) rfl rfl rfl ⟨Nat.le_of_ble_eq_true rfl, Nat.le_of_ble_eq_true rfl⟩ hf (Nat.le_of_ble_eq_true rfl) ?_
  dsimp only [Option.toList, List.cons_append, List.nil_append]
  refine z_aload iL_law_577 rfl ?_
  refine e_callV iL_law_578 kL_81 (uDrop s.1) rfl rfl rfl ⟨Nat.le_of_ble_eq_true rfl, Nat.le_of_ble_eq_true rfl⟩ hf (Nat.le_of_ble_eq_true rfl) ?_
  dsimp only [Option.toList, List.cons_append, List.nil_append]
  refine z_icmp_eq iL_law_581 (fun _ => kk _ s.2.2.1) (fun c => absurd s.2.1.symm c)
theorem wDepth {L : Nat} {F : zFt} {m a k n : Nat} (h : RI F F (400 + m)) (hL : L ≤ 2560) (ha : a + 5 ≤ L) (hf : k ≤ room_1.cells ∧ n ≤ room_1.slots) (kk : ∀ F', RI F' F' m → zEV mL_law room_1 lZ 959 (lwL a) [] 111 (zE L F') k n) : zEV mL_law room_1 lZ 586 (lwL a) [] 111 (zE L F) k n := by
  have s := sDepth h
  refine z_aload iL_law_586 rfl ?_
  refine e_callV iL_law_587 kL_82 (tX7_depth F) rfl rfl rfl ⟨Nat.le_of_ble_eq_true rfl, Nat.le_of_ble_eq_true rfl⟩ hf (Nat.le_of_ble_eq_true rfl) ?_
  dsimp only [Option.toList, List.cons_append, List.nil_append]
  refine z_aload iL_law_590 rfl ?_
  refine e_callV iL_law_591 kL_85 (uDepth s.1) rfl rfl rfl ⟨Nat.le_of_ble_eq_true rfl, Nat.le_of_ble_eq_true rfl⟩ hf (Nat.le_of_ble_eq_true rfl) ?_
  dsimp only [Option.toList, List.cons_append, List.nil_append]
  refine z_icmp_eq iL_law_594 (fun _ => kk _ s.2.2.1) (fun c => absurd s.2.1.symm c)
theorem wScoring {L : Nat} {F : zFt} {m a k n : Nat} (h : RI F F (400 + m)) (hL : L ≤ 2560) (ha : a + 5 ≤ L) (hf : k ≤ room_1.cells ∧ n ≤ room_1.slots) (kk : ∀ F', RI F' F' m → zEV mL_law room_1 lZ 959 (lwL a) [] 111 (zE L F') k n) : zEV mL_law room_1 lZ 599 (lwL a) [] 111 (zE L F) k n := by
  obtain ⟨x1, e1⟩ : ∃ x, F 0 (zn (nI a + 1)) = x := ⟨_, rfl⟩
  obtain ⟨x2, e2⟩ : ∃ x, F 0 (zn (nI a + 2)) = x := ⟨_, rfl⟩
  have s := sScoring h x1 x2
  refine z_aload iL_law_599 rfl ?_
  refine z_aload iL_law_600 rfl ?_
  refine z_iload iL_law_601 rfl ?_
  refine z_push iL_law_602 ?_
  refine z_iadd iL_law_603 ?_
  refine e_sld iL_law_604 (ixs hL ha (j := 1) (by omega)) e1 ?_
  refine z_aload iL_law_605 rfl ?_
  refine z_iload iL_law_606 rfl ?_
  refine z_push iL_law_607 ?_
  refine z_iadd iL_law_608 ?_
  refine e_sld iL_law_609 (ixs hL ha (j := 2) (by omega)) e2 ?_
  refine e_callV iL_law_610 kL_86 (tX7_scoring F x1 x2 h.1) rfl rfl rfl ⟨Nat.le_of_ble_eq_true rfl, Nat.le_of_ble_eq_true rfl⟩ hf (Nat.le_of_ble_eq_true rfl) ?_
  dsimp only [Option.toList, List.cons_append, List.nil_append]
  refine z_aload iL_law_613 rfl ?_
  refine z_aload iL_law_614 rfl ?_
  refine z_iload iL_law_615 rfl ?_
  refine z_push iL_law_616 ?_
  refine z_iadd iL_law_617 ?_
  refine e_sld iL_law_618 (ixs hL ha (j := 1) (by omega)) ((s.2.2.2 _).trans e1) ?_
  refine z_aload iL_law_619 rfl ?_
  refine z_iload iL_law_620 rfl ?_
  refine z_push iL_law_621 ?_
  refine z_iadd iL_law_622 ?_
  refine e_sld iL_law_623 (ixs hL ha (j := 2) (by omega)) ((s.2.2.2 _).trans e2) ?_
  refine e_callV iL_law_624 kL_89 (uScoring s.1 x1 x2) rfl rfl rfl ⟨Nat.le_of_ble_eq_true rfl, Nat.le_of_ble_eq_true rfl⟩ hf (Nat.le_of_ble_eq_true rfl) ?_
  dsimp only [Option.toList, List.cons_append, List.nil_append]
  refine z_icmp_eq iL_law_627 (fun _ => kk _ s.2.2.1) (fun c => absurd s.2.1.symm c)
theorem wTold {L : Nat} {F : zFt} {m a k n : Nat} (h : RI F F (400 + m)) (hL : L ≤ 2560) (ha : a + 5 ≤ L) (hf : k ≤ room_1.cells ∧ n ≤ room_1.slots) (kk : ∀ F', RI F' F' m → zEV mL_law room_1 lZ 959 (lwL a) [] 111 (zE L F') k n) : zEV mL_law room_1 lZ 632 (lwL a) [] 111 (zE L F) k n := by
  obtain ⟨x1, e1⟩ : ∃ x, F 0 (zn (nI a + 1)) = x := ⟨_, rfl⟩
  obtain ⟨x2, e2⟩ : ∃ x, F 0 (zn (nI a + 2)) = x := ⟨_, rfl⟩
  have s := sTold h x1 x2
  refine z_aload iL_law_632 rfl ?_
  refine z_aload iL_law_633 rfl ?_
  refine z_iload iL_law_634 rfl ?_
  refine z_push iL_law_635 ?_
  refine z_iadd iL_law_636 ?_
  refine e_sld iL_law_637 (ixs hL ha (j := 1) (by omega)) e1 ?_
  refine z_aload iL_law_638 rfl ?_
  refine z_iload iL_law_639 rfl ?_
  refine z_push iL_law_640 ?_
  refine z_iadd iL_law_641 ?_
  refine e_sld iL_law_642 (ixs hL ha (j := 2) (by omega)) e2 ?_
  refine e_callV iL_law_643 kL_90 (tX7_told F x1 x2 h.1) rfl rfl rfl ⟨Nat.le_of_ble_eq_true rfl, Nat.le_of_ble_eq_true rfl⟩ hf (Nat.le_of_ble_eq_true rfl) ?_
  dsimp only [Option.toList, List.cons_append, List.nil_append]
  refine z_aload iL_law_646 rfl ?_
  refine z_aload iL_law_647 rfl ?_
  refine z_iload iL_law_648 rfl ?_
  refine z_push iL_law_649 ?_
  refine z_iadd iL_law_650 ?_
  refine e_sld iL_law_651 (ixs hL ha (j := 1) (by omega)) ((s.2.2.2 _).trans e1) ?_
  refine z_aload iL_law_652 rfl ?_
  refine z_iload iL_law_653 rfl ?_
  refine z_push iL_law_654 ?_
  refine z_iadd iL_law_655 ?_
  refine e_sld iL_law_656 (ixs hL ha (j := 2) (by omega)) ((s.2.2.2 _).trans e2) ?_
  refine e_callV iL_law_657 kL_93 (uTold s.1 x1 x2) rfl rfl rfl ⟨Nat.le_of_ble_eq_true rfl, Nat.le_of_ble_eq_true rfl⟩ hf (Nat.le_of_ble_eq_true rfl) ?_
  dsimp only [Option.toList, List.cons_append, List.nil_append]
  refine z_icmp_eq iL_law_660 (fun _ => kk _ s.2.2.1) (fun c => absurd s.2.1.symm c)
theorem wMark {L : Nat} {F : zFt} {m a k n : Nat} (h : RI F F (400 + m)) (hL : L ≤ 2560) (ha : a + 5 ≤ L) (hf : k ≤ room_1.cells ∧ n ≤ room_1.slots) (kk : ∀ F', RI F' F' m → zEV mL_law room_1 lZ 959 (lwL a) [] 111 (zE L F') k n) : zEV mL_law room_1 lZ 665 (lwL a) [] 111 (zE L F) k n := by
  obtain ⟨x1, e1⟩ : ∃ x, F 0 (zn (nI a + 1)) = x := ⟨_, rfl⟩
  obtain ⟨x2, e2⟩ : ∃ x, F 0 (zn (nI a + 2)) = x := ⟨_, rfl⟩
  have s := sMark h x1 x2
  refine z_aload iL_law_665 rfl ?_
  refine z_aload iL_law_666 rfl ?_
  refine z_iload iL_law_667 rfl ?_
  refine z_push iL_law_668 ?_
  refine z_iadd iL_law_669 ?_
  refine e_sld iL_law_670 (ixs hL ha (j := 1) (by omega)) e1 ?_
  refine z_aload iL_law_671 rfl ?_
  refine z_iload iL_law_672 rfl ?_
  refine z_push iL_law_673 ?_
  refine z_iadd iL_law_674 ?_
  refine e_sld iL_law_675 (ixs hL ha (j := 2) (by omega)) e2 ?_
  refine e_callV iL_law_676 kL_94 (tX7_mark F x1 x2 h.1) rfl rfl rfl ⟨Nat.le_of_ble_eq_true rfl, Nat.le_of_ble_eq_true rfl⟩ hf (Nat.le_of_ble_eq_true rfl) ?_
  dsimp only [Option.toList, List.cons_append, List.nil_append]
  refine z_aload iL_law_679 rfl ?_
  refine z_aload iL_law_680 rfl ?_
  refine z_iload iL_law_681 rfl ?_
  refine z_push iL_law_682 ?_
  refine z_iadd iL_law_683 ?_
  refine e_sld iL_law_684 (ixs hL ha (j := 1) (by omega)) ((s.2.2.2 _).trans e1) ?_
  refine z_aload iL_law_685 rfl ?_
  refine z_iload iL_law_686 rfl ?_
  refine z_push iL_law_687 ?_
  refine z_iadd iL_law_688 ?_
  refine e_sld iL_law_689 (ixs hL ha (j := 2) (by omega)) ((s.2.2.2 _).trans e2) ?_
  refine e_callV iL_law_690 kL_97 (uMark s.1 x1 x2) rfl rfl rfl ⟨Nat.le_of_ble_eq_true rfl, Nat.le_of_ble_eq_true rfl⟩ hf (Nat.le_of_ble_eq_true rfl) ?_
  dsimp only [Option.toList, List.cons_append, List.nil_append]
  refine z_icmp_eq iL_law_693 (fun _ => kk _ s.2.2.1) (fun c => absurd s.2.1.symm c)
theorem wPlace {L : Nat} {F : zFt} {m a k n : Nat} (h : RI F F (400 + m)) (hL : L ≤ 2560) (ha : a + 5 ≤ L) (hf : k ≤ room_1.cells ∧ n ≤ room_1.slots) (kk : ∀ F', RI F' F' m → zEV mL_law room_1 lZ 959 (lwL a) [] 111 (zE L F') k n) : zEV mL_law room_1 lZ 698 (lwL a) [] 111 (zE L F) k n := by
  obtain ⟨x1, e1⟩ : ∃ x, F 0 (zn (nI a + 1)) = x := ⟨_, rfl⟩
  obtain ⟨x2, e2⟩ : ∃ x, F 0 (zn (nI a + 2)) = x := ⟨_, rfl⟩
  have s := sPlace h x1 x2
  refine z_aload iL_law_698 rfl ?_
  refine z_aload iL_law_699 rfl ?_
  refine z_iload iL_law_700 rfl ?_
  refine z_push iL_law_701 ?_
  refine z_iadd iL_law_702 ?_
  refine e_sld iL_law_703 (ixs hL ha (j := 1) (by omega)) e1 ?_
  refine z_aload iL_law_704 rfl ?_
  refine z_iload iL_law_705 rfl ?_
  refine z_push iL_law_706 ?_
  refine z_iadd iL_law_707 ?_
  refine e_sld iL_law_708 (ixs hL ha (j := 2) (by omega)) e2 ?_
  refine e_callV iL_law_709 kL_98 (tX7_place F x1 x2 h.1) rfl rfl rfl ⟨Nat.le_of_ble_eq_true rfl, Nat.le_of_ble_eq_true rfl⟩ hf (Nat.le_of_ble_eq_true rfl) ?_
  dsimp only [Option.toList, List.cons_append, List.nil_append]
  refine z_aload iL_law_712 rfl ?_
  refine z_aload iL_law_713 rfl ?_
  refine z_iload iL_law_714 rfl ?_
  refine z_push iL_law_715 ?_
  refine z_iadd iL_law_716 ?_
  refine e_sld iL_law_717 (ixs hL ha (j := 1) (by omega)) ((s.2.2.2 _).trans e1) ?_
  refine z_aload iL_law_718 rfl ?_
  refine z_iload iL_law_719 rfl ?_
  refine z_push iL_law_720 ?_
  refine z_iadd iL_law_721 ?_
  refine e_sld iL_law_722 (ixs hL ha (j := 2) (by omega)) ((s.2.2.2 _).trans e2) ?_
  refine e_callV iL_law_723 kL_101 (uPlace s.1 x1 x2) rfl rfl rfl ⟨Nat.le_of_ble_eq_true rfl, Nat.le_of_ble_eq_true rfl⟩ hf (Nat.le_of_ble_eq_true rfl) ?_
  dsimp only [Option.toList, List.cons_append, List.nil_append]
  refine z_icmp_eq iL_law_726 (fun _ => kk _ s.2.2.1) (fun c => absurd s.2.1.symm c)
theorem wClose {L : Nat} {F : zFt} {m a k n : Nat} (h : RI F F (400 + m)) (hL : L ≤ 2560) (ha : a + 5 ≤ L) (hf : k ≤ room_1.cells ∧ n ≤ room_1.slots) (kk : ∀ F', RI F' F' m → zEV mL_law room_1 lZ 959 (lwL a) [] 111 (zE L F') k n) : zEV mL_law room_1 lZ 731 (lwL a) [] 111 (zE L F) k n := by
  obtain ⟨x1, e1⟩ : ∃ x, F 0 (zn (nI a + 1)) = x := ⟨_, rfl⟩
  have s := sClose h x1
  refine z_aload iL_law_731 rfl ?_
  refine z_aload iL_law_732 rfl ?_
  refine z_iload iL_law_733 rfl ?_
  refine z_push iL_law_734 ?_
  refine z_iadd iL_law_735 ?_
  refine e_sld iL_law_736 (ixs hL ha (j := 1) (by omega)) e1 ?_
  refine e_callV iL_law_737 kL_102 (tX7_close F x1 h.1) rfl rfl rfl ⟨Nat.le_of_ble_eq_true rfl, Nat.le_of_ble_eq_true rfl⟩ hf (Nat.le_of_ble_eq_true rfl) ?_
  dsimp only [Option.toList, List.cons_append, List.nil_append]
  refine z_aload iL_law_740 rfl ?_
  refine z_aload iL_law_741 rfl ?_
  refine z_iload iL_law_742 rfl ?_
  refine z_push iL_law_743 ?_
  refine z_iadd iL_law_744 ?_
  refine e_sld iL_law_745 (ixs hL ha (j := 1) (by omega)) ((s.2.2.2 _).trans e1) ?_
  refine e_callV iL_law_746 kL_105 (uClose s.1 x1) rfl rfl rfl ⟨Nat.le_of_ble_eq_true rfl, Nat.le_of_ble_eq_true rfl⟩ hf (Nat.le_of_ble_eq_true rfl) ?_
  dsimp only [Option.toList, List.cons_append, List.nil_append]
  refine z_icmp_eq iL_law_749 (fun _ => kk _ s.2.2.1) (fun c => absurd s.2.1.symm c)
theorem wAbout {L : Nat} {F : zFt} {m a k n : Nat} (h : RI F F (400 + m)) (hL : L ≤ 2560) (ha : a + 5 ≤ L) (hf : k ≤ room_1.cells ∧ n ≤ room_1.slots) (kk : ∀ F', RI F' F' m → zEV mL_law room_1 lZ 959 (lwL a) [] 111 (zE L F') k n) : zEV mL_law room_1 lZ 754 (lwL a) [] 111 (zE L F) k n := by
  obtain ⟨x1, e1⟩ : ∃ x, F 0 (zn (nI a + 1)) = x := ⟨_, rfl⟩
  obtain ⟨x2, e2⟩ : ∃ x, F 0 (zn (nI a + 2)) = x := ⟨_, rfl⟩
  have s := sAbout h x1 x2
  refine z_aload iL_law_754 rfl ?_
  refine z_aload iL_law_755 rfl ?_
  refine z_iload iL_law_756 rfl ?_
  refine z_push iL_law_757 ?_
  refine z_iadd iL_law_758 ?_
  refine e_sld iL_law_759 (ixs hL ha (j := 1) (by omega)) e1 ?_
  refine z_aload iL_law_760 rfl ?_
  refine z_iload iL_law_761 rfl ?_
  refine z_push iL_law_762 ?_
  refine z_iadd iL_law_763 ?_
  refine e_sld iL_law_764 (ixs hL ha (j := 2) (by omega)) e2 ?_
  refine e_callV iL_law_765 kL_106 (tX7_about F x1 x2 h.1) rfl rfl rfl ⟨Nat.le_of_ble_eq_true rfl, Nat.le_of_ble_eq_true rfl⟩ hf (Nat.le_of_ble_eq_true rfl) ?_
  dsimp only [Option.toList, List.cons_append, List.nil_append]
  refine z_aload iL_law_768 rfl ?_
  refine z_aload iL_law_769 rfl ?_
  refine z_iload iL_law_770 rfl ?_
  refine z_push iL_law_771 ?_
  refine z_iadd iL_law_772 ?_
  refine e_sld iL_law_773 (ixs hL ha (j := 1) (by omega)) ((s.2.2.2 _).trans e1) ?_
  refine z_aload iL_law_774 rfl ?_
  refine z_iload iL_law_775 rfl ?_
  refine z_push iL_law_776 ?_
  refine z_iadd iL_law_777 ?_
  refine e_sld iL_law_778 (ixs hL ha (j := 2) (by omega)) ((s.2.2.2 _).trans e2) ?_
  refine e_callV iL_law_779 kL_109 (uAbout s.1 x1 x2) rfl rfl rfl ⟨Nat.le_of_ble_eq_true rfl, Nat.le_of_ble_eq_true rfl⟩ hf (Nat.le_of_ble_eq_true rfl) ?_
  dsimp only [Option.toList, List.cons_append, List.nil_append]
  refine z_icmp_eq iL_law_782 (fun _ => kk _ s.2.2.1) (fun c => absurd s.2.1.symm c)
theorem wUphold {L : Nat} {F : zFt} {m a k n : Nat} (h : RI F F (400 + m)) (hL : L ≤ 2560) (ha : a + 5 ≤ L) (hf : k ≤ room_1.cells ∧ n ≤ room_1.slots) (kk : ∀ F', RI F' F' m → zEV mL_law room_1 lZ 959 (lwL a) [] 111 (zE L F') k n) : zEV mL_law room_1 lZ 787 (lwL a) [] 111 (zE L F) k n := by
  obtain ⟨x1, e1⟩ : ∃ x, F 0 (zn (nI a + 1)) = x := ⟨_, rfl⟩
  have s := sUphold h x1
  refine z_aload iL_law_787 rfl ?_
  refine z_aload iL_law_788 rfl ?_
  refine z_iload iL_law_789 rfl ?_
  refine z_push iL_law_790 ?_
  refine z_iadd iL_law_791 ?_
  refine e_sld iL_law_792 (ixs hL ha (j := 1) (by omega)) e1 ?_
  refine e_callV iL_law_793 kL_110 (tX7_uphold F x1 h.1) rfl rfl rfl ⟨Nat.le_of_ble_eq_true rfl, Nat.le_of_ble_eq_true rfl⟩ hf (Nat.le_of_ble_eq_true rfl) ?_
  dsimp only [Option.toList, List.cons_append, List.nil_append]
  refine z_aload iL_law_796 rfl ?_
  refine z_aload iL_law_797 rfl ?_
  refine z_iload iL_law_798 rfl ?_
  refine z_push iL_law_799 ?_
  refine z_iadd iL_law_800 ?_
  refine e_sld iL_law_801 (ixs hL ha (j := 1) (by omega)) ((s.2.2.2 _).trans e1) ?_
  refine e_callV iL_law_802 kL_113 (uUphold s.1 x1) rfl rfl rfl ⟨Nat.le_of_ble_eq_true rfl, Nat.le_of_ble_eq_true rfl⟩ hf (Nat.le_of_ble_eq_true rfl) ?_
  dsimp only [Option.toList, List.cons_append, List.nil_append]
  refine z_icmp_eq iL_law_805 (fun _ => kk _ s.2.2.1) (fun c => absurd s.2.1.symm c)
theorem wEvent {L : Nat} {F : zFt} {m a k n : Nat} (h : RI F F (400 + m)) (hL : L ≤ 2560) (ha : a + 5 ≤ L) (hf : k ≤ room_1.cells ∧ n ≤ room_1.slots) (kk : ∀ F', RI F' F' m → zEV mL_law room_1 lZ 959 (lwL a) [] 111 (zE L F') k n) : zEV mL_law room_1 lZ 810 (lwL a) [] 111 (zE L F) k n := by
  obtain ⟨x1, e1⟩ : ∃ x, F 0 (zn (nI a + 1)) = x := ⟨_, rfl⟩
  obtain ⟨x2, e2⟩ : ∃ x, F 0 (zn (nI a + 2)) = x := ⟨_, rfl⟩
  have s := sEvent h x1 x2
  refine z_aload iL_law_810 rfl ?_
  refine z_aload iL_law_811 rfl ?_
  refine z_iload iL_law_812 rfl ?_
  refine z_push iL_law_813 ?_
  refine z_iadd iL_law_814 ?_
  refine e_sld iL_law_815 (ixs hL ha (j := 1) (by omega)) e1 ?_
  refine z_aload iL_law_816 rfl ?_
  refine z_iload iL_law_817 rfl ?_
  refine z_push iL_law_818 ?_
  refine z_iadd iL_law_819 ?_
  refine e_sld iL_law_820 (ixs hL ha (j := 2) (by omega)) e2 ?_
  refine e_callV iL_law_821 kL_114 (tX7_event F x1 x2 h.1) rfl rfl rfl ⟨Nat.le_of_ble_eq_true rfl, Nat.le_of_ble_eq_true rfl⟩ hf (Nat.le_of_ble_eq_true rfl) ?_
  dsimp only [Option.toList, List.cons_append, List.nil_append]
  refine z_aload iL_law_824 rfl ?_
  refine z_aload iL_law_825 rfl ?_
  refine z_iload iL_law_826 rfl ?_
  refine z_push iL_law_827 ?_
  refine z_iadd iL_law_828 ?_
  refine e_sld iL_law_829 (ixs hL ha (j := 1) (by omega)) ((s.2.2.2 _).trans e1) ?_
  refine z_aload iL_law_830 rfl ?_
  refine z_iload iL_law_831 rfl ?_
  refine z_push iL_law_832 ?_
  refine z_iadd iL_law_833 ?_
  refine e_sld iL_law_834 (ixs hL ha (j := 2) (by omega)) ((s.2.2.2 _).trans e2) ?_
  refine e_callV iL_law_835 kL_117 (uEvent s.1 x1 x2) rfl rfl rfl ⟨Nat.le_of_ble_eq_true rfl, Nat.le_of_ble_eq_true rfl⟩ hf (Nat.le_of_ble_eq_true rfl) ?_
  dsimp only [Option.toList, List.cons_append, List.nil_append]
  refine z_icmp_eq iL_law_838 (fun _ => kk _ s.2.2.1) (fun c => absurd s.2.1.symm c)
theorem wFailure {L : Nat} {F : zFt} {m a k n : Nat} (h : RI F F (400 + m)) (hL : L ≤ 2560) (ha : a + 5 ≤ L) (hf : k ≤ room_1.cells ∧ n ≤ room_1.slots) (kk : ∀ F', RI F' F' m → zEV mL_law room_1 lZ 959 (lwL a) [] 111 (zE L F') k n) : zEV mL_law room_1 lZ 843 (lwL a) [] 111 (zE L F) k n := by
  obtain ⟨x1, e1⟩ : ∃ x, F 0 (zn (nI a + 1)) = x := ⟨_, rfl⟩
  obtain ⟨x2, e2⟩ : ∃ x, F 0 (zn (nI a + 2)) = x := ⟨_, rfl⟩
  have s := sFailure h x1 x2
  refine z_aload iL_law_843 rfl ?_
  refine z_aload iL_law_844 rfl ?_
  refine z_iload iL_law_845 rfl ?_
  refine z_push iL_law_846 ?_
  refine z_iadd iL_law_847 ?_
  refine e_sld iL_law_848 (ixs hL ha (j := 1) (by omega)) e1 ?_
  refine z_aload iL_law_849 rfl ?_
  refine z_iload iL_law_850 rfl ?_
  refine z_push iL_law_851 ?_
  refine z_iadd iL_law_852 ?_
  refine e_sld iL_law_853 (ixs hL ha (j := 2) (by omega)) e2 ?_
  refine e_callV iL_law_854 kL_118 (tX7_failure F x1 x2) rfl rfl rfl ⟨Nat.le_of_ble_eq_true rfl, Nat.le_of_ble_eq_true rfl⟩ hf (Nat.le_of_ble_eq_true rfl) ?_
  dsimp only [Option.toList, List.cons_append, List.nil_append]
  refine z_aload iL_law_857 rfl ?_
  refine z_aload iL_law_858 rfl ?_
  refine z_iload iL_law_859 rfl ?_
  refine z_push iL_law_860 ?_
  refine z_iadd iL_law_861 ?_
  refine e_sld iL_law_862 (ixs hL ha (j := 1) (by omega)) ((s.2.2.2 _).trans e1) ?_
  refine z_aload iL_law_863 rfl ?_
  refine z_iload iL_law_864 rfl ?_
  refine z_push iL_law_865 ?_
  refine z_iadd iL_law_866 ?_
  refine e_sld iL_law_867 (ixs hL ha (j := 2) (by omega)) ((s.2.2.2 _).trans e2) ?_
  refine e_callV iL_law_868 kL_121 (uFailure s.1 x1 x2) rfl rfl rfl ⟨Nat.le_of_ble_eq_true rfl, Nat.le_of_ble_eq_true rfl⟩ hf (Nat.le_of_ble_eq_true rfl) ?_
  dsimp only [Option.toList, List.cons_append, List.nil_append]
  refine z_icmp_eq iL_law_871 (fun _ => kk _ s.2.2.1) (fun c => absurd s.2.1.symm c)
theorem wIs {L : Nat} {F : zFt} {m a k n : Nat} (h : RI F F (400 + m)) (hL : L ≤ 2560) (ha : a + 5 ≤ L) (hf : k ≤ room_1.cells ∧ n ≤ room_1.slots) (kk : ∀ F', RI F' F' m → zEV mL_law room_1 lZ 959 (lwL a) [] 111 (zE L F') k n) : zEV mL_law room_1 lZ 876 (lwL a) [] 111 (zE L F) k n := by
  obtain ⟨x1, e1⟩ : ∃ x, F 0 (zn (nI a + 1)) = x := ⟨_, rfl⟩
  obtain ⟨x2, e2⟩ : ∃ x, F 0 (zn (nI a + 2)) = x := ⟨_, rfl⟩
  have s := sIs h x1 x2
  refine z_aload iL_law_876 rfl ?_
  refine z_aload iL_law_877 rfl ?_
  refine z_iload iL_law_878 rfl ?_
  refine z_push iL_law_879 ?_
  refine z_iadd iL_law_880 ?_
  refine e_sld iL_law_881 (ixs hL ha (j := 1) (by omega)) e1 ?_
  refine z_aload iL_law_882 rfl ?_
  refine z_iload iL_law_883 rfl ?_
  refine z_push iL_law_884 ?_
  refine z_iadd iL_law_885 ?_
  refine e_sld iL_law_886 (ixs hL ha (j := 2) (by omega)) e2 ?_
  refine e_callV iL_law_887 kL_122 (tX7_is F x1 x2) rfl rfl rfl ⟨Nat.le_of_ble_eq_true rfl, Nat.le_of_ble_eq_true rfl⟩ hf (Nat.le_of_ble_eq_true rfl) ?_
  dsimp only [Option.toList, List.cons_append, List.nil_append]
  refine z_aload iL_law_890 rfl ?_
  refine z_aload iL_law_891 rfl ?_
  refine z_iload iL_law_892 rfl ?_
  refine z_push iL_law_893 ?_
  refine z_iadd iL_law_894 ?_
  refine e_sld iL_law_895 (ixs hL ha (j := 1) (by omega)) ((s.2.2.2 _).trans e1) ?_
  refine z_aload iL_law_896 rfl ?_
  refine z_iload iL_law_897 rfl ?_
  refine z_push iL_law_898 ?_
  refine z_iadd iL_law_899 ?_
  refine e_sld iL_law_900 (ixs hL ha (j := 2) (by omega)) ((s.2.2.2 _).trans e2) ?_
  refine e_callV iL_law_901 kL_125 (uIs s.1 x1 x2) rfl rfl rfl ⟨Nat.le_of_ble_eq_true rfl, Nat.le_of_ble_eq_true rfl⟩ hf (Nat.le_of_ble_eq_true rfl) ?_
  dsimp only [Option.toList, List.cons_append, List.nil_append]
  refine z_icmp_eq iL_law_904 (fun _ => kk _ s.2.2.1) (fun c => absurd s.2.1.symm c)
theorem wUndo {L : Nat} {F : zFt} {m a k n : Nat} (h : RI F F (400 + m)) (hL : L ≤ 2560) (ha : a + 5 ≤ L) (hf : k ≤ room_1.cells ∧ n ≤ room_1.slots) (kk : ∀ F', RI F' F' m → zEV mL_law room_1 lZ 959 (lwL a) [] 111 (zE L F') k n) : zEV mL_law room_1 lZ 909 (lwL a) [] 111 (zE L F) k n := by
  have s := sUndo h
  refine z_aload iL_law_909 rfl ?_
  refine e_callV iL_law_910 kL_126 (tX7_undo F h.1) rfl rfl rfl ⟨Nat.le_of_ble_eq_true rfl, Nat.le_of_ble_eq_true rfl⟩ hf (Nat.le_of_ble_eq_true rfl) ?_
  dsimp only [Option.toList, List.cons_append, List.nil_append]
  refine z_aload iL_law_913 rfl ?_
  refine e_callV iL_law_914 kL_129 (uUndo s.1) rfl rfl rfl ⟨Nat.le_of_ble_eq_true rfl, Nat.le_of_ble_eq_true rfl⟩ hf (Nat.le_of_ble_eq_true rfl) ?_
  dsimp only [Option.toList, List.cons_append, List.nil_append]
  refine z_icmp_eq iL_law_917 (fun _ => kk _ s.2.2.1) (fun c => absurd s.2.1.symm c)
theorem wCount {L : Nat} {F : zFt} {m a k n : Nat} (h : RI F F (400 + m)) (hL : L ≤ 2560) (ha : a + 5 ≤ L) (hf : k ≤ room_1.cells ∧ n ≤ room_1.slots) (kk : ∀ F', RI F' F' m → zEV mL_law room_1 lZ 959 (lwL a) [] 111 (zE L F') k n) : zEV mL_law room_1 lZ 922 (lwL a) [] 111 (zE L F) k n := by
  obtain ⟨x1, e1⟩ : ∃ x, F 0 (zn (nI a + 1)) = x := ⟨_, rfl⟩
  have s := sCount h x1
  refine z_aload iL_law_922 rfl ?_
  refine z_aload iL_law_923 rfl ?_
  refine z_iload iL_law_924 rfl ?_
  refine z_push iL_law_925 ?_
  refine z_iadd iL_law_926 ?_
  refine e_sld iL_law_927 (ixs hL ha (j := 1) (by omega)) e1 ?_
  refine e_callV iL_law_928 kL_130 (tX7_count F x1) rfl rfl rfl ⟨Nat.le_of_ble_eq_true rfl, Nat.le_of_ble_eq_true rfl⟩ hf (Nat.le_of_ble_eq_true rfl) ?_
  dsimp only [Option.toList, List.cons_append, List.nil_append]
  refine z_aload iL_law_931 rfl ?_
  refine z_aload iL_law_932 rfl ?_
  refine z_iload iL_law_933 rfl ?_
  refine z_push iL_law_934 ?_
  refine z_iadd iL_law_935 ?_
  refine e_sld iL_law_936 (ixs hL ha (j := 1) (by omega)) ((s.2.2.2 _).trans e1) ?_
  refine e_callV iL_law_937 kL_133 (uCount s.1 x1) rfl rfl rfl ⟨Nat.le_of_ble_eq_true rfl, Nat.le_of_ble_eq_true rfl⟩ hf (Nat.le_of_ble_eq_true rfl) ?_
  dsimp only [Option.toList, List.cons_append, List.nil_append]
  refine z_icmp_eq iL_law_940 (fun _ => kk _ s.2.2.1) (fun c => absurd s.2.1.symm c)
theorem wDigest {L : Nat} {F : zFt} {m a k n : Nat} (h : RI F F (400 + m)) (hL : L ≤ 2560) (ha : a + 5 ≤ L) (hf : k ≤ room_1.cells ∧ n ≤ room_1.slots) (kk : ∀ F', RI F' F' m → zEV mL_law room_1 lZ 959 (lwL a) [] 111 (zE L F') k n) : zEV mL_law room_1 lZ 945 (lwL a) [] 111 (zE L F) k n := by
  refine z_aload iL_law_945 rfl ?_
  refine e_callV iL_law_946 kL_134 (tX7_digest F h.1) rfl rfl rfl ⟨Nat.le_of_ble_eq_true rfl, Nat.le_of_ble_eq_true rfl⟩ hf (Nat.le_of_ble_eq_true rfl) ?_
  dsimp only [Option.toList, List.cons_append, List.nil_append]
  refine z_aload iL_law_949 rfl ?_
  refine e_callV iL_law_950 kL_138 (uDigest h) rfl rfl rfl ⟨Nat.le_of_ble_eq_true rfl, Nat.le_of_ble_eq_true rfl⟩ hf (Nat.le_of_ble_eq_true rfl) ?_
  dsimp only [Option.toList, List.cons_append, List.nil_append]
  refine z_lcmp iL_law_953 ?_
  refine z_if_eq iL_law_954 (fun _ => kk _ (RI_le h (by omega))) (fun c => absurd (by rw [rDigest h]; exact lgc _) c)
theorem lw_end {L : Nat} {F : zFt} {a k n : Nat} (hf : k ≤ 600000 ∧ n ≤ 7302250) : zEV mL_law room_1 lZ 965 (lwL a) [] 111 (zE L F) k n := by
  refine z_push iL_law_965 ?_
  intro p l e s m args below meth c D q H0 C H locs ls HW HC HL
  by_cases hH : H0 = s.heap
  · obtain ⟨hx, hb, hr, -, -, -, hlocks, -, hK⟩ := C
    refine va_forget (fun y hy => ?_) ?_
    · have h1 := HC y hy
      have h2 := hK.2.2.2.1
      rw [← hH, ← h2]
      exact h1
    refine W.widen (k := 600000) (n := 7302250) hf.1 hf.2 ?_
    refine W.eq (g2 := F0 m 966 ls [.int 1]) rfl ?_
    intro T hT X
    obtain ⟨fs, hret, hrun, hended, hW, hframe⟩ := X.leave (v := some (.int 1)) (hlocks := hlocks) (fun h => by rw [hr] at h; cases h)
    have hmeth' : T.vm.method? m = some meth := X.method'
    have hdg : decode code 966 = .ok (.ireturn, 1) := iL_law_966.1
    have hb : c.code = code := hb
    have hr : meth.sig.returnType = ret := hr
    refine ⟨T.setFrames fs, ?_, fun _ => ⟨.returned (some (.int 1)), hrun, hended, rfl, ⟨_, rfl⟩, hW, hframe⟩⟩
    jvm_step X.here [X.here.top, hx, hb, hdg, hmeth', hr, ret, narrow_b1]
    (try refine ⟨rfl, ?_⟩); (try refine ⟨rfl, ?_⟩)
    first | (intro acts; rw [hret _ acts rfl rfl rfl]) | rw [hret _ _ rfl rfl rfl]
    exact Steps.refl _
  · intro T hT X
    exact ⟨_, Steps.refl _, fun h => absurd h hH⟩
