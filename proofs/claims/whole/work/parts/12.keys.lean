/-! the equations of the instructions: written by wip/whole/gen_rows.py -/
set_option maxRecDepth 20000 in
theorem k_X0_init : xm_mts[m_X0_init]? = some q_X0_init := rfl
set_option maxRecDepth 20000 in
theorem k_X0_size : xm_mts[m_X0_size]? = some q_X0_size := rfl
set_option maxRecDepth 20000 in
theorem k_X0_forget : xm_mts[m_X0_forget]? = some q_X0_forget := rfl
set_option maxRecDepth 20000 in
theorem k_X0_remember : xm_mts[m_X0_remember]? = some q_X0_remember := rfl
set_option maxRecDepth 20000 in
theorem k_X0_latestPlace : xm_mts[m_X0_latestPlace]? = some q_X0_latestPlace := rfl
set_option maxRecDepth 20000 in
theorem k_X0_latestSign : xm_mts[m_X0_latestSign]? = some q_X0_latestSign := rfl
set_option maxRecDepth 20000 in
theorem k_X0_dropLatest : xm_mts[m_X0_dropLatest]? = some q_X0_dropLatest := rfl
set_option maxRecDepth 20000 in
theorem k_X0_latest : xm_mts[m_X0_latest]? = some q_X0_latest := rfl
set_option maxRecDepth 20000 in
theorem k_X1_init : xm_mts[m_X1_init]? = some q_X1_init := rfl
set_option maxRecDepth 20000 in
theorem k_X1_setLetter : xm_mts[m_X1_setLetter]? = some q_X1_setLetter := rfl
set_option maxRecDepth 20000 in
theorem k_X1_worth : xm_mts[m_X1_worth]? = some q_X1_worth := rfl
set_option maxRecDepth 20000 in
theorem k_X1_faultOf : xm_mts[m_X1_faultOf]? = some q_X1_faultOf := rfl
set_option maxRecDepth 20000 in
theorem k_X1_readClause : xm_mts[m_X1_readClause]? = some q_X1_readClause := rfl
set_option maxRecDepth 20000 in
theorem k_X1_anyTruth : xm_mts[m_X1_anyTruth]? = some q_X1_anyTruth := rfl
set_option maxRecDepth 20000 in
theorem k_X1_allUnits : xm_mts[m_X1_allUnits]? = some q_X1_allUnits := rfl
set_option maxRecDepth 20000 in
theorem k_X1_unit : xm_mts[m_X1_unit]? = some q_X1_unit := rfl
set_option maxRecDepth 20000 in
theorem k_X1_compares : xm_mts[m_X1_compares]? = some q_X1_compares := rfl
set_option maxRecDepth 20000 in
theorem k_X1_goesDeeper : xm_mts[m_X1_goesDeeper]? = some q_X1_goesDeeper := rfl
set_option maxRecDepth 20000 in
theorem k_X1_sum : xm_mts[m_X1_sum]? = some q_X1_sum := rfl
set_option maxRecDepth 20000 in
theorem k_X1_term : xm_mts[m_X1_term]? = some q_X1_term := rfl
set_option maxRecDepth 20000 in
theorem k_X1_atom : xm_mts[m_X1_atom]? = some q_X1_atom := rfl
set_option maxRecDepth 20000 in
theorem k_X1_letterOf : xm_mts[m_X1_letterOf]? = some q_X1_letterOf := rfl
set_option maxRecDepth 20000 in
theorem k_X1_quotient : xm_mts[m_X1_quotient]? = some q_X1_quotient := rfl
set_option maxRecDepth 20000 in
theorem k_X1_within : xm_mts[m_X1_within]? = some q_X1_within := rfl
set_option maxRecDepth 20000 in
theorem k_X2_init : xm_mts[m_X2_init]? = some q_X2_init := rfl
set_option maxRecDepth 20000 in
theorem k_X2_refresh : xm_mts[m_X2_refresh]? = some q_X2_refresh := rfl
set_option maxRecDepth 20000 in
theorem k_X2_nextThatStays : xm_mts[m_X2_nextThatStays]? = some q_X2_nextThatStays := rfl
set_option maxRecDepth 20000 in
theorem k_X2_lastUnlike : xm_mts[m_X2_lastUnlike]? = some q_X2_lastUnlike := rfl
set_option maxRecDepth 20000 in
theorem k_X2_lastUnlikeIn : xm_mts[m_X2_lastUnlikeIn]? = some q_X2_lastUnlikeIn := rfl
set_option maxRecDepth 20000 in
theorem k_X2_total : xm_mts[m_X2_total]? = some q_X2_total := rfl
set_option maxRecDepth 20000 in
theorem k_X2_leftAt : xm_mts[m_X2_leftAt]? = some q_X2_leftAt := rfl
set_option maxRecDepth 20000 in
theorem k_X3_init : xm_mts[m_X3_init]? = some q_X3_init := rfl
set_option maxRecDepth 20000 in
theorem k_X3_settles : xm_mts[m_X3_settles]? = some q_X3_settles := rfl
set_option maxRecDepth 20000 in
theorem k_X3_gather : xm_mts[m_X3_gather]? = some q_X3_gather := rfl
set_option maxRecDepth 20000 in
theorem k_X3_twoLooksSettle : xm_mts[m_X3_twoLooksSettle]? = some q_X3_twoLooksSettle := rfl
set_option maxRecDepth 20000 in
theorem k_X3_settlesAfter : xm_mts[m_X3_settlesAfter]? = some q_X3_settlesAfter := rfl
set_option maxRecDepth 20000 in
theorem k_X3_oneLookSettles : xm_mts[m_X3_oneLookSettles]? = some q_X3_oneLookSettles := rfl
set_option maxRecDepth 20000 in
theorem k_X3_allUnlikeAt : xm_mts[m_X3_allUnlikeAt]? = some q_X3_allUnlikeAt := rfl
set_option maxRecDepth 20000 in
theorem k_X3_figureOf : xm_mts[m_X3_figureOf]? = some q_X3_figureOf := rfl
set_option maxRecDepth 20000 in
theorem k_X4_init : xm_mts[m_X4_init]? = some q_X4_init := rfl
set_option maxRecDepth 20000 in
theorem k_X4_total : xm_mts[m_X4_total]? = some q_X4_total := rfl
set_option maxRecDepth 20000 in
theorem k_X4_refresh : xm_mts[m_X4_refresh]? = some q_X4_refresh := rfl
set_option maxRecDepth 20000 in
theorem k_X4_addFigures : xm_mts[m_X4_addFigures]? = some q_X4_addFigures := rfl
set_option maxRecDepth 20000 in
theorem k_X4_answer : xm_mts[m_X4_answer]? = some q_X4_answer := rfl
set_option maxRecDepth 20000 in
theorem k_X4_leftBy : xm_mts[m_X4_leftBy]? = some q_X4_leftBy := rfl
set_option maxRecDepth 20000 in
theorem k_X4_figuresAt : xm_mts[m_X4_figuresAt]? = some q_X4_figuresAt := rfl
set_option maxRecDepth 20000 in
theorem k_X4_mostLeftAt : xm_mts[m_X4_mostLeftAt]? = some q_X4_mostLeftAt := rfl
set_option maxRecDepth 20000 in
theorem k_X4_squaresAt : xm_mts[m_X4_squaresAt]? = some q_X4_squaresAt := rfl
set_option maxRecDepth 20000 in
theorem k_X4_bestPlace : xm_mts[m_X4_bestPlace]? = some q_X4_bestPlace := rfl
set_option maxRecDepth 20000 in
theorem k_X4_totalUnder : xm_mts[m_X4_totalUnder]? = some q_X4_totalUnder := rfl
set_option maxRecDepth 20000 in
theorem k_X4_totalLost : xm_mts[m_X4_totalLost]? = some q_X4_totalLost := rfl
set_option maxRecDepth 20000 in
theorem k_X4_refreshCovered : xm_mts[m_X4_refreshCovered]? = some q_X4_refreshCovered := rfl
set_option maxRecDepth 20000 in
theorem k_X4_found : xm_mts[m_X4_found]? = some q_X4_found := rfl
set_option maxRecDepth 20000 in
theorem k_X5_init : xm_mts[m_X5_init]? = some q_X5_init := rfl
set_option maxRecDepth 20000 in
theorem k_X5_askAsTold : xm_mts[m_X5_askAsTold]? = some q_X5_askAsTold := rfl
set_option maxRecDepth 20000 in
theorem k_X5_askNothing : xm_mts[m_X5_askNothing]? = some q_X5_askNothing := rfl
set_option maxRecDepth 20000 in
theorem k_X5_ask : xm_mts[m_X5_ask]? = some q_X5_ask := rfl
set_option maxRecDepth 20000 in
theorem k_X5_coverRow : xm_mts[m_X5_coverRow]? = some q_X5_coverRow := rfl
set_option maxRecDepth 20000 in
theorem k_X5_begin : xm_mts[m_X5_begin]? = some q_X5_begin := rfl
set_option maxRecDepth 20000 in
theorem k_X5_beginAt : xm_mts[m_X5_beginAt]? = some q_X5_beginAt := rfl
set_option maxRecDepth 20000 in
theorem k_X5_next : xm_mts[m_X5_next]? = some q_X5_next := rfl
set_option maxRecDepth 20000 in
theorem k_X5_fits : xm_mts[m_X5_fits]? = some q_X5_fits := rfl
set_option maxRecDepth 20000 in
theorem k_X5_lengthsFit : xm_mts[m_X5_lengthsFit]? = some q_X5_lengthsFit := rfl
set_option maxRecDepth 20000 in
theorem k_X5_missesIn : xm_mts[m_X5_missesIn]? = some q_X5_missesIn := rfl
set_option maxRecDepth 20000 in
theorem k_X5_spell : xm_mts[m_X5_spell]? = some q_X5_spell := rfl
set_option maxRecDepth 20000 in
theorem k_X5_lettersFit : xm_mts[m_X5_lettersFit]? = some q_X5_lettersFit := rfl
set_option maxRecDepth 20000 in
theorem k_X5_isPossible : xm_mts[m_X5_isPossible]? = some q_X5_isPossible := rfl
set_option maxRecDepth 20000 in
theorem k_X5_reckon : xm_mts[m_X5_reckon]? = some q_X5_reckon := rfl
set_option maxRecDepth 20000 in
theorem k_X5_reckonDivided : xm_mts[m_X5_reckonDivided]? = some q_X5_reckonDivided := rfl
set_option maxRecDepth 20000 in
theorem k_X5_figureAt : xm_mts[m_X5_figureAt]? = some q_X5_figureAt := rfl
set_option maxRecDepth 20000 in
theorem k_X5_valueOf : xm_mts[m_X5_valueOf]? = some q_X5_valueOf := rfl
set_option maxRecDepth 20000 in
theorem k_X5_firstWrong : xm_mts[m_X5_firstWrong]? = some q_X5_firstWrong := rfl
set_option maxRecDepth 20000 in
theorem k_X5_beginsWithNought : xm_mts[m_X5_beginsWithNought]? = some q_X5_beginsWithNought := rfl
set_option maxRecDepth 20000 in
theorem k_X5_writeRows : xm_mts[m_X5_writeRows]? = some q_X5_writeRows := rfl
set_option maxRecDepth 20000 in
theorem k_X5_lengthOf : xm_mts[m_X5_lengthOf]? = some q_X5_lengthOf := rfl
set_option maxRecDepth 20000 in
theorem k_X6_init : xm_mts[m_X6_init]? = some q_X6_init := rfl
set_option maxRecDepth 20000 in
theorem k_X6_isThere : xm_mts[m_X6_isThere]? = some q_X6_isThere := rfl
set_option maxRecDepth 20000 in
theorem k_X6_hasRow : xm_mts[m_X6_hasRow]? = some q_X6_hasRow := rfl
set_option maxRecDepth 20000 in
theorem k_X6_lengthOf : xm_mts[m_X6_lengthOf]? = some q_X6_lengthOf := rfl
set_option maxRecDepth 20000 in
theorem k_X6_has : xm_mts[m_X6_has]? = some q_X6_has := rfl
set_option maxRecDepth 20000 in
theorem k_X6_holds : xm_mts[m_X6_holds]? = some q_X6_holds := rfl
set_option maxRecDepth 20000 in
theorem k_X6_signAt : xm_mts[m_X6_signAt]? = some q_X6_signAt := rfl
set_option maxRecDepth 20000 in
theorem k_X6_isUnknown : xm_mts[m_X6_isUnknown]? = some q_X6_isUnknown := rfl
set_option maxRecDepth 20000 in
theorem k_X6_rowOfX : xm_mts[m_X6_rowOfX]? = some q_X6_rowOfX := rfl
set_option maxRecDepth 20000 in
theorem k_X6_rowOfY : xm_mts[m_X6_rowOfY]? = some q_X6_rowOfY := rfl
set_option maxRecDepth 20000 in
theorem k_X6_begin : xm_mts[m_X6_begin]? = some q_X6_begin := rfl
set_option maxRecDepth 20000 in
theorem k_X6_write : xm_mts[m_X6_write]? = some q_X6_write := rfl
set_option maxRecDepth 20000 in
theorem k_X6_setLength : xm_mts[m_X6_setLength]? = some q_X6_setLength := rfl
set_option maxRecDepth 20000 in
theorem k_X6_copyFrom : xm_mts[m_X6_copyFrom]? = some q_X6_copyFrom := rfl
set_option maxRecDepth 20000 in
theorem k_X6_signsWithin : xm_mts[m_X6_signsWithin]? = some q_X6_signsWithin := rfl
set_option maxRecDepth 20000 in
theorem k_X6_told : xm_mts[m_X6_told]? = some q_X6_told := rfl
set_option maxRecDepth 20000 in
theorem k_X6_isFull : xm_mts[m_X6_isFull]? = some q_X6_isFull := rfl
set_option maxRecDepth 20000 in
theorem k_X6_firstPlaceOf : xm_mts[m_X6_firstPlaceOf]? = some q_X6_firstPlaceOf := rfl
set_option maxRecDepth 20000 in
theorem k_X6_numberIn : xm_mts[m_X6_numberIn]? = some q_X6_numberIn := rfl
set_option maxRecDepth 20000 in
theorem k_X7_init : xm_mts[m_X7_init]? = some q_X7_init := rfl
set_option maxRecDepth 20000 in
theorem k_X7_lastRead : xm_mts[m_X7_lastRead]? = some q_X7_lastRead := rfl
set_option maxRecDepth 20000 in
theorem k_X7_faultOf : xm_mts[m_X7_faultOf]? = some q_X7_faultOf := rfl
set_option maxRecDepth 20000 in
theorem k_X7_kindOf : xm_mts[m_X7_kindOf]? = some q_X7_kindOf := rfl
set_option maxRecDepth 20000 in
theorem k_X7_readRows : xm_mts[m_X7_readRows]? = some q_X7_readRows := rfl
set_option maxRecDepth 20000 in
theorem k_X7_rowsDue : xm_mts[m_X7_rowsDue]? = some q_X7_rowsDue := rfl
set_option maxRecDepth 20000 in
theorem k_X7_readFigures : xm_mts[m_X7_readFigures]? = some q_X7_readFigures := rfl
set_option maxRecDepth 20000 in
theorem k_X7_mostFigures : xm_mts[m_X7_mostFigures]? = some q_X7_mostFigures := rfl
set_option maxRecDepth 20000 in
theorem k_X7_signOf : xm_mts[m_X7_signOf]? = some q_X7_signOf := rfl
set_option maxRecDepth 20000 in
theorem k_X8_init : xm_mts[m_X8_init]? = some q_X8_init := rfl
set_option maxRecDepth 20000 in
theorem k_X8_open : xm_mts[m_X8_open]? = some q_X8_open := rfl
set_option maxRecDepth 20000 in
theorem k_X8_stoppedWhere : xm_mts[m_X8_stoppedWhere]? = some q_X8_stoppedWhere := rfl
set_option maxRecDepth 20000 in
theorem k_X8_stop : xm_mts[m_X8_stop]? = some q_X8_stop := rfl
set_option maxRecDepth 20000 in
theorem k_X8_peek : xm_mts[m_X8_peek]? = some q_X8_peek := rfl
set_option maxRecDepth 20000 in
theorem k_X8_step : xm_mts[m_X8_step]? = some q_X8_step := rfl
set_option maxRecDepth 20000 in
theorem k_X8_take : xm_mts[m_X8_take]? = some q_X8_take := rfl
set_option maxRecDepth 20000 in
theorem k_X8_number : xm_mts[m_X8_number]? = some q_X8_number := rfl
set_option maxRecDepth 20000 in
theorem k_X9_init : xm_mts[m_X9_init]? = some q_X9_init := rfl
set_option maxRecDepth 20000 in
theorem k_X9_refresh : xm_mts[m_X9_refresh]? = some q_X9_refresh := rfl
set_option maxRecDepth 20000 in
theorem k_X9_addMend : xm_mts[m_X9_addMend]? = some q_X9_addMend := rfl
set_option maxRecDepth 20000 in
theorem k_X9_total : xm_mts[m_X9_total]? = some q_X9_total := rfl
set_option maxRecDepth 20000 in
theorem k_X9_fewest : xm_mts[m_X9_fewest]? = some q_X9_fewest := rfl
set_option maxRecDepth 20000 in
theorem k_X9_slipAt : xm_mts[m_X9_slipAt]? = some q_X9_slipAt := rfl
set_option maxRecDepth 20000 in
theorem k_X10_init : xm_mts[m_X10_init]? = some q_X10_init := rfl
set_option maxRecDepth 20000 in
theorem k_X10_size : xm_mts[m_X10_size]? = some q_X10_size := rfl
set_option maxRecDepth 20000 in
theorem k_X10_append : xm_mts[m_X10_append]? = some q_X10_append := rfl
set_option maxRecDepth 20000 in
theorem k_X10_cutTo : xm_mts[m_X10_cutTo]? = some q_X10_cutTo := rfl
set_option maxRecDepth 20000 in
theorem k_X10_copyFrom : xm_mts[m_X10_copyFrom]? = some q_X10_copyFrom := rfl
set_option maxRecDepth 20000 in
theorem k_X11_init : xm_mts[m_X11_init]? = some q_X11_init := rfl
set_option maxRecDepth 20000 in
theorem k_X11_feed : xm_mts[m_X11_feed]? = some q_X11_feed := rfl
set_option maxRecDepth 20000 in
theorem k_X11_end : xm_mts[m_X11_end]? = some q_X11_end := rfl
set_option maxRecDepth 20000 in
theorem k_X11_fault : xm_mts[m_X11_fault]? = some q_X11_fault := rfl
set_option maxRecDepth 20000 in
theorem k_X11_text : xm_mts[m_X11_text]? = some q_X11_text := rfl
set_option maxRecDepth 20000 in
theorem k_X11_at : xm_mts[m_X11_at]? = some q_X11_at := rfl
set_option maxRecDepth 20000 in
theorem k_X11_wide : xm_mts[m_X11_wide]? = some q_X11_wide := rfl
set_option maxRecDepth 20000 in
theorem k_X11_cost : xm_mts[m_X11_cost]? = some q_X11_cost := rfl
set_option maxRecDepth 20000 in
theorem k_X11_tell : xm_mts[m_X11_tell]? = some q_X11_tell := rfl
set_option maxRecDepth 20000 in
theorem k_X11_rub : xm_mts[m_X11_rub]? = some q_X11_rub := rfl
set_option maxRecDepth 20000 in
theorem k_X11_undo : xm_mts[m_X11_undo]? = some q_X11_undo := rfl
set_option maxRecDepth 20000 in
theorem k_X11_answers : xm_mts[m_X11_answers]? = some q_X11_answers := rfl
set_option maxRecDepth 20000 in
theorem k_X11_can : xm_mts[m_X11_can]? = some q_X11_can := rfl
set_option maxRecDepth 20000 in
theorem k_X11_sure : xm_mts[m_X11_sure]? = some q_X11_sure := rfl
set_option maxRecDepth 20000 in
theorem k_X11_letter : xm_mts[m_X11_letter]? = some q_X11_letter := rfl
set_option maxRecDepth 20000 in
theorem k_X11_known : xm_mts[m_X11_known]? = some q_X11_known := rfl
set_option maxRecDepth 20000 in
theorem k_X11_wrong : xm_mts[m_X11_wrong]? = some q_X11_wrong := rfl
set_option maxRecDepth 20000 in
theorem k_X11_best : xm_mts[m_X11_best]? = some q_X11_best := rfl
set_option maxRecDepth 20000 in
theorem k_X11_cheap : xm_mts[m_X11_cheap]? = some q_X11_cheap := rfl
set_option maxRecDepth 20000 in
theorem k_X11_mean : xm_mts[m_X11_mean]? = some q_X11_mean := rfl
set_option maxRecDepth 20000 in
theorem k_X11_looks : xm_mts[m_X11_looks]? = some q_X11_looks := rfl
set_option maxRecDepth 20000 in
theorem k_X11_slip : xm_mts[m_X11_slip]? = some q_X11_slip := rfl
set_option maxRecDepth 20000 in
theorem k_X11_thumb : xm_mts[m_X11_thumb]? = some q_X11_thumb := rfl
set_option maxRecDepth 20000 in
theorem k_X11_mend : xm_mts[m_X11_mend]? = some q_X11_mend := rfl
set_option maxRecDepth 20000 in
theorem k_X11_lean : xm_mts[m_X11_lean]? = some q_X11_lean := rfl
set_option maxRecDepth 20000 in
theorem k_X11_heart : xm_mts[m_X11_heart]? = some q_X11_heart := rfl
set_option maxRecDepth 20000 in
theorem k_X11_drawn : xm_mts[m_X11_drawn]? = some q_X11_drawn := rfl
set_option maxRecDepth 20000 in
theorem k_X11_image : xm_mts[m_X11_image]? = some q_X11_image := rfl
set_option maxRecDepth 20000 in
theorem k_X11_back : xm_mts[m_X11_back]? = some q_X11_back := rfl
set_option maxRecDepth 20000 in
theorem k_X11_unlike : xm_mts[m_X11_unlike]? = some q_X11_unlike := rfl
set_option maxRecDepth 20000 in
theorem k_X11_count : xm_mts[m_X11_count]? = some q_X11_count := rfl
set_option maxRecDepth 20000 in
theorem k_X11_takeSlate : xm_mts[m_X11_takeSlate]? = some q_X11_takeSlate := rfl
set_option maxRecDepth 20000 in
theorem k_X11_takeCost : xm_mts[m_X11_takeCost]? = some q_X11_takeCost := rfl
set_option maxRecDepth 20000 in
theorem k_X11_costTape : xm_mts[m_X11_costTape]? = some q_X11_costTape := rfl
set_option maxRecDepth 20000 in
theorem k_X11_act : xm_mts[m_X11_act]? = some q_X11_act := rfl
set_option maxRecDepth 20000 in
theorem k_X11_worthAt : xm_mts[m_X11_worthAt]? = some q_X11_worthAt := rfl
set_option maxRecDepth 20000 in
theorem k_X11_drawNumber : xm_mts[m_X11_drawNumber]? = some q_X11_drawNumber := rfl
set_option maxRecDepth 20000 in
theorem k_X11_drawBelow : xm_mts[m_X11_drawBelow]? = some q_X11_drawBelow := rfl
set_option maxRecDepth 20000 in
theorem k_X11_appendBytes : xm_mts[m_X11_appendBytes]? = some q_X11_appendBytes := rfl
set_option maxRecDepth 20000 in
theorem k_X11_bytesIn : xm_mts[m_X11_bytesIn]? = some q_X11_bytesIn := rfl
set_option maxRecDepth 20000 in
theorem k_X11_commonDivisor : xm_mts[m_X11_commonDivisor]? = some q_X11_commonDivisor := rfl
set_option maxRecDepth 20000 in
theorem k_X11_onlyFigure : xm_mts[m_X11_onlyFigure]? = some q_X11_onlyFigure := rfl
set_option maxRecDepth 20000 in
theorem k_X11_placeOf : xm_mts[m_X11_placeOf]? = some q_X11_placeOf := rfl
set_option maxRecDepth 20000 in
theorem k_X11_rowOf : xm_mts[m_X11_rowOf]? = some q_X11_rowOf := rfl
set_option maxRecDepth 20000 in
theorem k_X11_codeOf : xm_mts[m_X11_codeOf]? = some q_X11_codeOf := rfl
set_option maxRecDepth 20000 in
theorem k_X11_power : xm_mts[m_X11_power]? = some q_X11_power := rfl
set_option maxRecDepth 20000 in
theorem k_X11_pick : xm_mts[m_X11_pick]? = some q_X11_pick := rfl
set_option maxRecDepth 20000 in
theorem k_X11_put : xm_mts[m_X11_put]? = some q_X11_put := rfl
set_option maxRecDepth 20000 in
theorem k_X12_in : xm_mts[m_X12_in]? = some q_X12_in := rfl
set_option maxRecDepth 20000 in
theorem k_X12_has : xm_mts[m_X12_has]? = some q_X12_has := rfl
set_option maxRecDepth 20000 in
theorem k_X12_init : xm_mts[m_X12_init]? = some q_X12_init := rfl
set_option maxRecDepth 20000 in
theorem k_X12_thrown : xm_mts[m_X12_thrown]? = some q_X12_thrown := rfl
set_option maxRecDepth 20000 in
theorem k_X12_byteOf : xm_mts[m_X12_byteOf]? = some q_X12_byteOf := rfl
set_option maxRecDepth 20000 in
theorem k_X12_feed : xm_mts[m_X12_feed]? = some q_X12_feed := rfl
set_option maxRecDepth 20000 in
theorem k_X12_end : xm_mts[m_X12_end]? = some q_X12_end := rfl
set_option maxRecDepth 20000 in
theorem k_X12_here : xm_mts[m_X12_here]? = some q_X12_here := rfl
set_option maxRecDepth 20000 in
theorem k_X12_look : xm_mts[m_X12_look]? = some q_X12_look := rfl
set_option maxRecDepth 20000 in
theorem k_X12_bad : xm_mts[m_X12_bad]? = some q_X12_bad := rfl
set_option maxRecDepth 20000 in
theorem k_X12_isDigit : xm_mts[m_X12_isDigit]? = some q_X12_isDigit := rfl
set_option maxRecDepth 20000 in
theorem k_X12_put : xm_mts[m_X12_put]? = some q_X12_put := rfl
set_option maxRecDepth 20000 in
theorem k_X12_letterOf : xm_mts[m_X12_letterOf]? = some q_X12_letterOf := rfl
set_option maxRecDepth 20000 in
theorem k_X12_opens : xm_mts[m_X12_opens]? = some q_X12_opens := rfl
set_option maxRecDepth 20000 in
theorem k_X12_closes : xm_mts[m_X12_closes]? = some q_X12_closes := rfl
set_option maxRecDepth 20000 in
theorem k_X12_plainNumber : xm_mts[m_X12_plainNumber]? = some q_X12_plainNumber := rfl
set_option maxRecDepth 20000 in
theorem k_X12_atom : xm_mts[m_X12_atom]? = some q_X12_atom := rfl
set_option maxRecDepth 20000 in
theorem k_X12_term : xm_mts[m_X12_term]? = some q_X12_term := rfl
set_option maxRecDepth 20000 in
theorem k_X12_sum : xm_mts[m_X12_sum]? = some q_X12_sum := rfl
set_option maxRecDepth 20000 in
theorem k_X12_isSign : xm_mts[m_X12_isSign]? = some q_X12_isSign := rfl
set_option maxRecDepth 20000 in
theorem k_X12_compare : xm_mts[m_X12_compare]? = some q_X12_compare := rfl
set_option maxRecDepth 20000 in
theorem k_X12_unit : xm_mts[m_X12_unit]? = some q_X12_unit := rfl
set_option maxRecDepth 20000 in
theorem k_X12_goOnAnd : xm_mts[m_X12_goOnAnd]? = some q_X12_goOnAnd := rfl
set_option maxRecDepth 20000 in
theorem k_X12_goOnOr : xm_mts[m_X12_goOnOr]? = some q_X12_goOnOr := rfl
set_option maxRecDepth 20000 in
theorem k_X12_condition : xm_mts[m_X12_condition]? = some q_X12_condition := rfl
set_option maxRecDepth 20000 in
theorem k_X12_clause : xm_mts[m_X12_clause]? = some q_X12_clause := rfl
set_option maxRecDepth 20000 in
theorem k_X12_open : xm_mts[m_X12_open]? = some q_X12_open := rfl
set_option maxRecDepth 20000 in
theorem k_X12_atEnd : xm_mts[m_X12_atEnd]? = some q_X12_atEnd := rfl
set_option maxRecDepth 20000 in
theorem k_X12_readLaw : xm_mts[m_X12_readLaw]? = some q_X12_readLaw := rfl
set_option maxRecDepth 20000 in
theorem k_X12_bounded : xm_mts[m_X12_bounded]? = some q_X12_bounded := rfl
set_option maxRecDepth 20000 in
theorem k_X12_worked : xm_mts[m_X12_worked]? = some q_X12_worked := rfl
set_option maxRecDepth 20000 in
theorem k_X12_workOut : xm_mts[m_X12_workOut]? = some q_X12_workOut := rfl
set_option maxRecDepth 20000 in
theorem k_X12_worthOf : xm_mts[m_X12_worthOf]? = some q_X12_worthOf := rfl
set_option maxRecDepth 20000 in
theorem k_X12_number : xm_mts[m_X12_number]? = some q_X12_number := rfl
set_option maxRecDepth 20000 in
theorem k_X12_signOf : xm_mts[m_X12_signOf]? = some q_X12_signOf := rfl
set_option maxRecDepth 20000 in
theorem k_X12_mostOf : xm_mts[m_X12_mostOf]? = some q_X12_mostOf := rfl
set_option maxRecDepth 20000 in
theorem k_X12_rowsOf : xm_mts[m_X12_rowsOf]? = some q_X12_rowsOf := rfl
set_option maxRecDepth 20000 in
theorem k_X12_rowText : xm_mts[m_X12_rowText]? = some q_X12_rowText := rfl
set_option maxRecDepth 20000 in
theorem k_X12_head : xm_mts[m_X12_head]? = some q_X12_head := rfl
set_option maxRecDepth 20000 in
theorem k_X12_readSlate : xm_mts[m_X12_readSlate]? = some q_X12_readSlate := rfl
set_option maxRecDepth 20000 in
theorem k_X12_fault : xm_mts[m_X12_fault]? = some q_X12_fault := rfl
set_option maxRecDepth 20000 in
theorem k_X12_takeSlate : xm_mts[m_X12_takeSlate]? = some q_X12_takeSlate := rfl
set_option maxRecDepth 20000 in
theorem k_X12_text : xm_mts[m_X12_text]? = some q_X12_text := rfl
set_option maxRecDepth 20000 in
theorem k_X12_isSlate : xm_mts[m_X12_isSlate]? = some q_X12_isSlate := rfl
set_option maxRecDepth 20000 in
theorem k_X12_isPlace : xm_mts[m_X12_isPlace]? = some q_X12_isPlace := rfl
set_option maxRecDepth 20000 in
theorem k_X12_isThere : xm_mts[m_X12_isThere]? = some q_X12_isThere := rfl
set_option maxRecDepth 20000 in
theorem k_X12_isTold : xm_mts[m_X12_isTold]? = some q_X12_isTold := rfl
set_option maxRecDepth 20000 in
theorem k_X12_at : xm_mts[m_X12_at]? = some q_X12_at := rfl
set_option maxRecDepth 20000 in
theorem k_X12_wide : xm_mts[m_X12_wide]? = some q_X12_wide := rfl
set_option maxRecDepth 20000 in
theorem k_X12_cost : xm_mts[m_X12_cost]? = some q_X12_cost := rfl
set_option maxRecDepth 20000 in
theorem k_X12_act : xm_mts[m_X12_act]? = some q_X12_act := rfl
set_option maxRecDepth 20000 in
theorem k_X12_tell : xm_mts[m_X12_tell]? = some q_X12_tell := rfl
set_option maxRecDepth 20000 in
theorem k_X12_rub : xm_mts[m_X12_rub]? = some q_X12_rub := rfl
set_option maxRecDepth 20000 in
theorem k_X12_undo : xm_mts[m_X12_undo]? = some q_X12_undo := rfl
set_option maxRecDepth 20000 in
theorem k_X12_write : xm_mts[m_X12_write]? = some q_X12_write := rfl
set_option maxRecDepth 20000 in
theorem k_X12_rowX : xm_mts[m_X12_rowX]? = some q_X12_rowX := rfl
set_option maxRecDepth 20000 in
theorem k_X12_power : xm_mts[m_X12_power]? = some q_X12_power := rfl
set_option maxRecDepth 20000 in
theorem k_X12_reckon : xm_mts[m_X12_reckon]? = some q_X12_reckon := rfl
set_option maxRecDepth 20000 in
theorem k_X12_part : xm_mts[m_X12_part]? = some q_X12_part := rfl
set_option maxRecDepth 20000 in
theorem k_X12_areWide : xm_mts[m_X12_areWide]? = some q_X12_areWide := rfl
set_option maxRecDepth 20000 in
theorem k_X12_doLettersFit : xm_mts[m_X12_doLettersFit]? = some q_X12_doLettersFit := rfl
set_option maxRecDepth 20000 in
theorem k_X12_others : xm_mts[m_X12_others]? = some q_X12_others := rfl
set_option maxRecDepth 20000 in
theorem k_X12_lowest : xm_mts[m_X12_lowest]? = some q_X12_lowest := rfl
set_option maxRecDepth 20000 in
theorem k_X12_highest : xm_mts[m_X12_highest]? = some q_X12_highest := rfl
set_option maxRecDepth 20000 in
theorem k_X12_begin : xm_mts[m_X12_begin]? = some q_X12_begin := rfl
set_option maxRecDepth 20000 in
theorem k_X12_goOn : xm_mts[m_X12_goOn]? = some q_X12_goOn := rfl
set_option maxRecDepth 20000 in
theorem k_X12_fitsBut : xm_mts[m_X12_fitsBut]? = some q_X12_fitsBut := rfl
set_option maxRecDepth 20000 in
theorem k_X12_isLikely : xm_mts[m_X12_isLikely]? = some q_X12_isLikely := rfl
set_option maxRecDepth 20000 in
theorem k_X12_nextAnswer : xm_mts[m_X12_nextAnswer]? = some q_X12_nextAnswer := rfl
set_option maxRecDepth 20000 in
theorem k_X12_answersTo : xm_mts[m_X12_answersTo]? = some q_X12_answersTo := rfl
set_option maxRecDepth 20000 in
theorem k_X12_answers : xm_mts[m_X12_answers]? = some q_X12_answers := rfl
set_option maxRecDepth 20000 in
theorem k_X12_layCan : xm_mts[m_X12_layCan]? = some q_X12_layCan := rfl
set_option maxRecDepth 20000 in
theorem k_X12_can : xm_mts[m_X12_can]? = some q_X12_can := rfl
set_option maxRecDepth 20000 in
theorem k_X12_sure : xm_mts[m_X12_sure]? = some q_X12_sure := rfl
set_option maxRecDepth 20000 in
theorem k_X12_letter : xm_mts[m_X12_letter]? = some q_X12_letter := rfl
set_option maxRecDepth 20000 in
theorem k_X12_known : xm_mts[m_X12_known]? = some q_X12_known := rfl
set_option maxRecDepth 20000 in
theorem k_X12_many : xm_mts[m_X12_many]? = some q_X12_many := rfl
set_option maxRecDepth 20000 in
theorem k_X12_isFull : xm_mts[m_X12_isFull]? = some q_X12_isFull := rfl
set_option maxRecDepth 20000 in
theorem k_X12_valueOf : xm_mts[m_X12_valueOf]? = some q_X12_valueOf := rfl
set_option maxRecDepth 20000 in
theorem k_X12_wrong : xm_mts[m_X12_wrong]? = some q_X12_wrong := rfl
set_option maxRecDepth 20000 in
theorem k_X12_layTally : xm_mts[m_X12_layTally]? = some q_X12_layTally := rfl
set_option maxRecDepth 20000 in
theorem k_X12_code : xm_mts[m_X12_code]? = some q_X12_code := rfl
set_option maxRecDepth 20000 in
theorem k_X12_worstAt : xm_mts[m_X12_worstAt]? = some q_X12_worstAt := rfl
set_option maxRecDepth 20000 in
theorem k_X12_bestPlace : xm_mts[m_X12_bestPlace]? = some q_X12_bestPlace := rfl
set_option maxRecDepth 20000 in
theorem k_X12_best : xm_mts[m_X12_best]? = some q_X12_best := rfl
set_option maxRecDepth 20000 in
theorem k_X12_mean : xm_mts[m_X12_mean]? = some q_X12_mean := rfl
set_option maxRecDepth 20000 in
theorem k_X12_cheap : xm_mts[m_X12_cheap]? = some q_X12_cheap := rfl
set_option maxRecDepth 20000 in
theorem k_X12_costAt : xm_mts[m_X12_costAt]? = some q_X12_costAt := rfl
set_option maxRecDepth 20000 in
theorem k_X12_laySheets : xm_mts[m_X12_laySheets]? = some q_X12_laySheets := rfl
set_option maxRecDepth 20000 in
theorem k_X12_tellsApart : xm_mts[m_X12_tellsApart]? = some q_X12_tellsApart := rfl
set_option maxRecDepth 20000 in
theorem k_X12_oneLook : xm_mts[m_X12_oneLook]? = some q_X12_oneLook := rfl
set_option maxRecDepth 20000 in
theorem k_X12_twoLooks : xm_mts[m_X12_twoLooks]? = some q_X12_twoLooks := rfl
set_option maxRecDepth 20000 in
theorem k_X12_looks : xm_mts[m_X12_looks]? = some q_X12_looks := rfl
set_option maxRecDepth 20000 in
theorem k_X12_slip : xm_mts[m_X12_slip]? = some q_X12_slip := rfl
set_option maxRecDepth 20000 in
theorem k_X12_mend : xm_mts[m_X12_mend]? = some q_X12_mend := rfl
set_option maxRecDepth 20000 in
theorem k_X12_keep : xm_mts[m_X12_keep]? = some q_X12_keep := rfl
set_option maxRecDepth 20000 in
theorem k_X12_takeBack : xm_mts[m_X12_takeBack]? = some q_X12_takeBack := rfl
set_option maxRecDepth 20000 in
theorem k_X12_wipe : xm_mts[m_X12_wipe]? = some q_X12_wipe := rfl
set_option maxRecDepth 20000 in
theorem k_X12_thumb : xm_mts[m_X12_thumb]? = some q_X12_thumb := rfl
set_option maxRecDepth 20000 in
theorem k_X12_heart : xm_mts[m_X12_heart]? = some q_X12_heart := rfl
set_option maxRecDepth 20000 in
theorem k_X12_lean : xm_mts[m_X12_lean]? = some q_X12_lean := rfl
set_option maxRecDepth 20000 in
theorem k_X12_draw : xm_mts[m_X12_draw]? = some q_X12_draw := rfl
set_option maxRecDepth 20000 in
theorem k_X12_drawNumber : xm_mts[m_X12_drawNumber]? = some q_X12_drawNumber := rfl
set_option maxRecDepth 20000 in
theorem k_X12_drawn : xm_mts[m_X12_drawn]? = some q_X12_drawn := rfl
set_option maxRecDepth 20000 in
theorem k_X12_image : xm_mts[m_X12_image]? = some q_X12_image := rfl
set_option maxRecDepth 20000 in
theorem k_X12_back : xm_mts[m_X12_back]? = some q_X12_back := rfl
set_option maxRecDepth 20000 in
theorem k_X12_unlike : xm_mts[m_X12_unlike]? = some q_X12_unlike := rfl
set_option maxRecDepth 20000 in
theorem k_X12_count : xm_mts[m_X12_count]? = some q_X12_count := rfl
set_option maxRecDepth 20000 in
theorem k_J6_numberOfTrailingZeros_0f7a4 : xm_mts[m_J6_numberOfTrailingZeros_0f7a4]? = some q_J6_numberOfTrailingZeros_0f7a4 := rfl
set_option maxRecDepth 20000 in
theorem k_J6_bitCount_0f7a4 : xm_mts[m_J6_bitCount_0f7a4]? = some q_J6_bitCount_0f7a4 := rfl
set_option maxRecDepth 20000 in
theorem k_J13_bitCount_95d88 : xm_mts[m_J13_bitCount_95d88]? = some q_J13_bitCount_95d88 := rfl
