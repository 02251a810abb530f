/-! what the tables say, checked place by place -/
def xm_Ts : List Cond := lw_tbl.filter goodWord
def xm_isN : Cond → Bool
  | .fieldLinkNest .. => true
  | .methodLinkNest .. => true
  | _ => false
def xm_Ns : List Cond := lw_tbl.filter xm_isN
theorem xm_Ts_good : ∀ w ∈ xm_Ts, (w.onTables && w.keeps) = true ∨ ∃ ty, w = .arrayClass ty := fun _ h => good_of_word (List.mem_filter.mp h).2
def xm_ch : List (List Cond) := [k2_sels lw_privs, tables_1_1, tables_1_2, tables_1_3, tables_1_4, tables_1_5, tables_1_6, tables_1_7, tables_1_8]
def xm_wd (p : Nat) : Option Cond := (xm_ch.getD (p / 1000) [])[p % 1000]?
theorem xm_ch_in : ∀ c ∈ xm_ch, ∀ w ∈ c, w ∈ lw_tbl := by
  intro c hc w hw
  simp only [xm_ch, List.mem_cons, List.not_mem_nil, or_false] at hc
  unfold lw_tbl tables_1
  simp only [List.mem_append]
  rcases hc with rfl | rfl | rfl | rfl | rfl | rfl | rfl | rfl | rfl <;> simp only [hw, true_or, or_true]
theorem xm_wd_in {p : Nat} {w : Cond} (h : xm_wd p = some w) : w ∈ lw_tbl := by
  unfold xm_wd at h
  rw [List.getD_eq_getElem?_getD] at h
  cases hc : xm_ch[p / 1000]? with
  | none => rw [hc] at h; simp at h
  | some c => rw [hc] at h; exact xm_ch_in c (List.mem_of_getElem? hc) w (List.mem_of_getElem? h)
theorem xm_in_Ts {p : Nat} {w : Cond} (h : xm_wd p = some w) (g : goodWord w = true) : w ∈ xm_Ts := List.mem_filter.mpr ⟨xm_wd_in h, g⟩
theorem xm_in_Ns {p : Nat} {w : Cond} (h : xm_wd p = some w) (g : xm_isN w = true) : w ∈ xm_Ns := List.mem_filter.mpr ⟨xm_wd_in h, g⟩
def xm_T (ci k : Nat) : String × String × String × Bool := ((xm_cls[ci]?).map (fun q => q.2.1 k)).getD ("", "", "", true)
/-- a field's row -/
def xm_fok (r : Nat × Nat × Nat × Nat × Nat × Nat) : Bool := decide (r.2.2.1 < 13) && decide (r.2.2.2.1 < xm_nf r.2.2.1) &&
  (if r.2.2.2.2.1 = 0 then decide (xm_wd (r.2.2.2.2.2) = some (.fieldLink (xm_own r.1) r.2.1 (xm_T r.2.2.1 r.2.2.2.1).1 (xm_T r.2.2.1 r.2.2.2.1).2.1 (xm_T r.2.2.1 r.2.2.2.1).2.2.1))
   else decide (xm_wd (r.2.2.2.2.2) = some (.fieldLinkNest (xm_own r.1) r.2.1 (xm_T r.2.2.1 r.2.2.2.1).1 (xm_T r.2.2.1 r.2.2.2.1).2.1 (xm_T r.2.2.1 r.2.2.2.1).2.2.1 "SlateSum")))
theorem xm_fls_ok : xm_fls.all xm_fok = true := by decide +kernel
def xm_Mok (q : Nat × MethodName × ByteArray × Nat × Option FieldType × Nat × Nat) : Prop :=
  xm_wd q.2.2.2.2.2.1 = some (.code q.2.1 q.2.2.1 q.2.2.2.1 q.2.2.2.2.1) ∧ xm_wd q.2.2.2.2.2.2 = some (.initialized q.2.1.cls) ∧
  q.2.1.cls = xm_own q.1 ∧ plainName q.2.1.cls = true ∧ (q.2.1.cls ≠ "java/lang/invoke/MethodHandle" ∧ q.2.1.cls ≠ "java/lang/invoke/VarHandle") ∧
  (parseMethodDescriptor q.2.1.desc).map (fun d => d.parameters.length) = some (xm_np q.2.1) ∧ q.2.2.2.1 ≤ 40
theorem xm_m_X0_init : xm_Mok q_X0_init := ⟨rfl, by decide +kernel⟩
theorem xm_m_X0_size : xm_Mok q_X0_size := ⟨rfl, by decide +kernel⟩
theorem xm_m_X0_forget : xm_Mok q_X0_forget := ⟨rfl, by decide +kernel⟩
theorem xm_m_X0_remember : xm_Mok q_X0_remember := ⟨rfl, by decide +kernel⟩
theorem xm_m_X0_latestPlace : xm_Mok q_X0_latestPlace := ⟨rfl, by decide +kernel⟩
theorem xm_m_X0_latestSign : xm_Mok q_X0_latestSign := ⟨rfl, by decide +kernel⟩
theorem xm_m_X0_dropLatest : xm_Mok q_X0_dropLatest := ⟨rfl, by decide +kernel⟩
theorem xm_m_X0_latest : xm_Mok q_X0_latest := ⟨rfl, by decide +kernel⟩
theorem xm_m_X1_init : xm_Mok q_X1_init := ⟨rfl, by decide +kernel⟩
theorem xm_m_X1_setLetter : xm_Mok q_X1_setLetter := ⟨rfl, by decide +kernel⟩
theorem xm_m_X1_worth : xm_Mok q_X1_worth := ⟨rfl, by decide +kernel⟩
theorem xm_m_X1_faultOf : xm_Mok q_X1_faultOf := ⟨rfl, by decide +kernel⟩
theorem xm_m_X1_readClause : xm_Mok q_X1_readClause := ⟨rfl, by decide +kernel⟩
theorem xm_m_X1_anyTruth : xm_Mok q_X1_anyTruth := ⟨rfl, by decide +kernel⟩
theorem xm_m_X1_allUnits : xm_Mok q_X1_allUnits := ⟨rfl, by decide +kernel⟩
theorem xm_m_X1_unit : xm_Mok q_X1_unit := ⟨rfl, by decide +kernel⟩
theorem xm_m_X1_compares : xm_Mok q_X1_compares := ⟨rfl, by decide +kernel⟩
theorem xm_m_X1_goesDeeper : xm_Mok q_X1_goesDeeper := ⟨rfl, by decide +kernel⟩
theorem xm_m_X1_sum : xm_Mok q_X1_sum := ⟨rfl, by decide +kernel⟩
theorem xm_m_X1_term : xm_Mok q_X1_term := ⟨rfl, by decide +kernel⟩
theorem xm_m_X1_atom : xm_Mok q_X1_atom := ⟨rfl, by decide +kernel⟩
theorem xm_m_X1_letterOf : xm_Mok q_X1_letterOf := ⟨rfl, by decide +kernel⟩
theorem xm_m_X1_quotient : xm_Mok q_X1_quotient := ⟨rfl, by decide +kernel⟩
theorem xm_m_X1_within : xm_Mok q_X1_within := ⟨rfl, by decide +kernel⟩
theorem xm_m_X2_init : xm_Mok q_X2_init := ⟨rfl, by decide +kernel⟩
theorem xm_m_X2_refresh : xm_Mok q_X2_refresh := ⟨rfl, by decide +kernel⟩
theorem xm_m_X2_nextThatStays : xm_Mok q_X2_nextThatStays := ⟨rfl, by decide +kernel⟩
theorem xm_m_X2_lastUnlike : xm_Mok q_X2_lastUnlike := ⟨rfl, by decide +kernel⟩
theorem xm_m_X2_lastUnlikeIn : xm_Mok q_X2_lastUnlikeIn := ⟨rfl, by decide +kernel⟩
theorem xm_m_X2_total : xm_Mok q_X2_total := ⟨rfl, by decide +kernel⟩
theorem xm_m_X2_leftAt : xm_Mok q_X2_leftAt := ⟨rfl, by decide +kernel⟩
theorem xm_m_X3_init : xm_Mok q_X3_init := ⟨rfl, by decide +kernel⟩
theorem xm_m_X3_settles : xm_Mok q_X3_settles := ⟨rfl, by decide +kernel⟩
theorem xm_m_X3_gather : xm_Mok q_X3_gather := ⟨rfl, by decide +kernel⟩
theorem xm_m_X3_twoLooksSettle : xm_Mok q_X3_twoLooksSettle := ⟨rfl, by decide +kernel⟩
theorem xm_m_X3_settlesAfter : xm_Mok q_X3_settlesAfter := ⟨rfl, by decide +kernel⟩
theorem xm_m_X3_oneLookSettles : xm_Mok q_X3_oneLookSettles := ⟨rfl, by decide +kernel⟩
theorem xm_m_X3_allUnlikeAt : xm_Mok q_X3_allUnlikeAt := ⟨rfl, by decide +kernel⟩
theorem xm_m_X3_figureOf : xm_Mok q_X3_figureOf := ⟨rfl, by decide +kernel⟩
theorem xm_m_X4_init : xm_Mok q_X4_init := ⟨rfl, by decide +kernel⟩
theorem xm_m_X4_total : xm_Mok q_X4_total := ⟨rfl, by decide +kernel⟩
theorem xm_m_X4_refresh : xm_Mok q_X4_refresh := ⟨rfl, by decide +kernel⟩
theorem xm_m_X4_addFigures : xm_Mok q_X4_addFigures := ⟨rfl, by decide +kernel⟩
theorem xm_m_X4_answer : xm_Mok q_X4_answer := ⟨rfl, by decide +kernel⟩
theorem xm_m_X4_leftBy : xm_Mok q_X4_leftBy := ⟨rfl, by decide +kernel⟩
theorem xm_m_X4_figuresAt : xm_Mok q_X4_figuresAt := ⟨rfl, by decide +kernel⟩
theorem xm_m_X4_mostLeftAt : xm_Mok q_X4_mostLeftAt := ⟨rfl, by decide +kernel⟩
theorem xm_m_X4_squaresAt : xm_Mok q_X4_squaresAt := ⟨rfl, by decide +kernel⟩
theorem xm_m_X4_bestPlace : xm_Mok q_X4_bestPlace := ⟨rfl, by decide +kernel⟩
theorem xm_m_X4_totalUnder : xm_Mok q_X4_totalUnder := ⟨rfl, by decide +kernel⟩
theorem xm_m_X4_totalLost : xm_Mok q_X4_totalLost := ⟨rfl, by decide +kernel⟩
theorem xm_m_X4_refreshCovered : xm_Mok q_X4_refreshCovered := ⟨rfl, by decide +kernel⟩
theorem xm_m_X4_found : xm_Mok q_X4_found := ⟨rfl, by decide +kernel⟩
theorem xm_m_X5_init : xm_Mok q_X5_init := ⟨rfl, by decide +kernel⟩
theorem xm_m_X5_askAsTold : xm_Mok q_X5_askAsTold := ⟨rfl, by decide +kernel⟩
theorem xm_m_X5_askNothing : xm_Mok q_X5_askNothing := ⟨rfl, by decide +kernel⟩
theorem xm_m_X5_ask : xm_Mok q_X5_ask := ⟨rfl, by decide +kernel⟩
theorem xm_m_X5_coverRow : xm_Mok q_X5_coverRow := ⟨rfl, by decide +kernel⟩
theorem xm_m_X5_begin : xm_Mok q_X5_begin := ⟨rfl, by decide +kernel⟩
theorem xm_m_X5_beginAt : xm_Mok q_X5_beginAt := ⟨rfl, by decide +kernel⟩
theorem xm_m_X5_next : xm_Mok q_X5_next := ⟨rfl, by decide +kernel⟩
theorem xm_m_X5_fits : xm_Mok q_X5_fits := ⟨rfl, by decide +kernel⟩
theorem xm_m_X5_lengthsFit : xm_Mok q_X5_lengthsFit := ⟨rfl, by decide +kernel⟩
theorem xm_m_X5_missesIn : xm_Mok q_X5_missesIn := ⟨rfl, by decide +kernel⟩
theorem xm_m_X5_spell : xm_Mok q_X5_spell := ⟨rfl, by decide +kernel⟩
theorem xm_m_X5_lettersFit : xm_Mok q_X5_lettersFit := ⟨rfl, by decide +kernel⟩
theorem xm_m_X5_isPossible : xm_Mok q_X5_isPossible := ⟨rfl, by decide +kernel⟩
theorem xm_m_X5_reckon : xm_Mok q_X5_reckon := ⟨rfl, by decide +kernel⟩
theorem xm_m_X5_reckonDivided : xm_Mok q_X5_reckonDivided := ⟨rfl, by decide +kernel⟩
theorem xm_m_X5_figureAt : xm_Mok q_X5_figureAt := ⟨rfl, by decide +kernel⟩
theorem xm_m_X5_valueOf : xm_Mok q_X5_valueOf := ⟨rfl, by decide +kernel⟩
theorem xm_m_X5_firstWrong : xm_Mok q_X5_firstWrong := ⟨rfl, by decide +kernel⟩
theorem xm_m_X5_beginsWithNought : xm_Mok q_X5_beginsWithNought := ⟨rfl, by decide +kernel⟩
theorem xm_m_X5_writeRows : xm_Mok q_X5_writeRows := ⟨rfl, by decide +kernel⟩
theorem xm_m_X5_lengthOf : xm_Mok q_X5_lengthOf := ⟨rfl, by decide +kernel⟩
theorem xm_m_X6_init : xm_Mok q_X6_init := ⟨rfl, by decide +kernel⟩
theorem xm_m_X6_isThere : xm_Mok q_X6_isThere := ⟨rfl, by decide +kernel⟩
theorem xm_m_X6_hasRow : xm_Mok q_X6_hasRow := ⟨rfl, by decide +kernel⟩
theorem xm_m_X6_lengthOf : xm_Mok q_X6_lengthOf := ⟨rfl, by decide +kernel⟩
theorem xm_m_X6_has : xm_Mok q_X6_has := ⟨rfl, by decide +kernel⟩
theorem xm_m_X6_holds : xm_Mok q_X6_holds := ⟨rfl, by decide +kernel⟩
theorem xm_m_X6_signAt : xm_Mok q_X6_signAt := ⟨rfl, by decide +kernel⟩
theorem xm_m_X6_isUnknown : xm_Mok q_X6_isUnknown := ⟨rfl, by decide +kernel⟩
theorem xm_m_X6_rowOfX : xm_Mok q_X6_rowOfX := ⟨rfl, by decide +kernel⟩
theorem xm_m_X6_rowOfY : xm_Mok q_X6_rowOfY := ⟨rfl, by decide +kernel⟩
theorem xm_m_X6_begin : xm_Mok q_X6_begin := ⟨rfl, by decide +kernel⟩
theorem xm_m_X6_write : xm_Mok q_X6_write := ⟨rfl, by decide +kernel⟩
theorem xm_m_X6_setLength : xm_Mok q_X6_setLength := ⟨rfl, by decide +kernel⟩
theorem xm_m_X6_copyFrom : xm_Mok q_X6_copyFrom := ⟨rfl, by decide +kernel⟩
theorem xm_m_X6_signsWithin : xm_Mok q_X6_signsWithin := ⟨rfl, by decide +kernel⟩
theorem xm_m_X6_told : xm_Mok q_X6_told := ⟨rfl, by decide +kernel⟩
theorem xm_m_X6_isFull : xm_Mok q_X6_isFull := ⟨rfl, by decide +kernel⟩
theorem xm_m_X6_firstPlaceOf : xm_Mok q_X6_firstPlaceOf := ⟨rfl, by decide +kernel⟩
theorem xm_m_X6_numberIn : xm_Mok q_X6_numberIn := ⟨rfl, by decide +kernel⟩
theorem xm_m_X7_init : xm_Mok q_X7_init := ⟨rfl, by decide +kernel⟩
theorem xm_m_X7_lastRead : xm_Mok q_X7_lastRead := ⟨rfl, by decide +kernel⟩
theorem xm_m_X7_faultOf : xm_Mok q_X7_faultOf := ⟨rfl, by decide +kernel⟩
theorem xm_m_X7_kindOf : xm_Mok q_X7_kindOf := ⟨rfl, by decide +kernel⟩
theorem xm_m_X7_readRows : xm_Mok q_X7_readRows := ⟨rfl, by decide +kernel⟩
theorem xm_m_X7_rowsDue : xm_Mok q_X7_rowsDue := ⟨rfl, by decide +kernel⟩
theorem xm_m_X7_readFigures : xm_Mok q_X7_readFigures := ⟨rfl, by decide +kernel⟩
theorem xm_m_X7_mostFigures : xm_Mok q_X7_mostFigures := ⟨rfl, by decide +kernel⟩
theorem xm_m_X7_signOf : xm_Mok q_X7_signOf := ⟨rfl, by decide +kernel⟩
theorem xm_m_X8_init : xm_Mok q_X8_init := ⟨rfl, by decide +kernel⟩
theorem xm_m_X8_open : xm_Mok q_X8_open := ⟨rfl, by decide +kernel⟩
theorem xm_m_X8_stoppedWhere : xm_Mok q_X8_stoppedWhere := ⟨rfl, by decide +kernel⟩
theorem xm_m_X8_stop : xm_Mok q_X8_stop := ⟨rfl, by decide +kernel⟩
theorem xm_m_X8_peek : xm_Mok q_X8_peek := ⟨rfl, by decide +kernel⟩
theorem xm_m_X8_step : xm_Mok q_X8_step := ⟨rfl, by decide +kernel⟩
theorem xm_m_X8_take : xm_Mok q_X8_take := ⟨rfl, by decide +kernel⟩
theorem xm_m_X8_number : xm_Mok q_X8_number := ⟨rfl, by decide +kernel⟩
theorem xm_m_X9_init : xm_Mok q_X9_init := ⟨rfl, by decide +kernel⟩
theorem xm_m_X9_refresh : xm_Mok q_X9_refresh := ⟨rfl, by decide +kernel⟩
theorem xm_m_X9_addMend : xm_Mok q_X9_addMend := ⟨rfl, by decide +kernel⟩
theorem xm_m_X9_total : xm_Mok q_X9_total := ⟨rfl, by decide +kernel⟩
theorem xm_m_X9_fewest : xm_Mok q_X9_fewest := ⟨rfl, by decide +kernel⟩
theorem xm_m_X9_slipAt : xm_Mok q_X9_slipAt := ⟨rfl, by decide +kernel⟩
theorem xm_m_X10_init : xm_Mok q_X10_init := ⟨rfl, by decide +kernel⟩
theorem xm_m_X10_size : xm_Mok q_X10_size := ⟨rfl, by decide +kernel⟩
theorem xm_m_X10_append : xm_Mok q_X10_append := ⟨rfl, by decide +kernel⟩
theorem xm_m_X10_cutTo : xm_Mok q_X10_cutTo := ⟨rfl, by decide +kernel⟩
theorem xm_m_X10_copyFrom : xm_Mok q_X10_copyFrom := ⟨rfl, by decide +kernel⟩
theorem xm_m_X11_init : xm_Mok q_X11_init := ⟨rfl, by decide +kernel⟩
theorem xm_m_X11_feed : xm_Mok q_X11_feed := ⟨rfl, by decide +kernel⟩
theorem xm_m_X11_end : xm_Mok q_X11_end := ⟨rfl, by decide +kernel⟩
theorem xm_m_X11_fault : xm_Mok q_X11_fault := ⟨rfl, by decide +kernel⟩
theorem xm_m_X11_text : xm_Mok q_X11_text := ⟨rfl, by decide +kernel⟩
theorem xm_m_X11_at : xm_Mok q_X11_at := ⟨rfl, by decide +kernel⟩
theorem xm_m_X11_wide : xm_Mok q_X11_wide := ⟨rfl, by decide +kernel⟩
theorem xm_m_X11_cost : xm_Mok q_X11_cost := ⟨rfl, by decide +kernel⟩
theorem xm_m_X11_tell : xm_Mok q_X11_tell := ⟨rfl, by decide +kernel⟩
theorem xm_m_X11_rub : xm_Mok q_X11_rub := ⟨rfl, by decide +kernel⟩
theorem xm_m_X11_undo : xm_Mok q_X11_undo := ⟨rfl, by decide +kernel⟩
theorem xm_m_X11_answers : xm_Mok q_X11_answers := ⟨rfl, by decide +kernel⟩
theorem xm_m_X11_can : xm_Mok q_X11_can := ⟨rfl, by decide +kernel⟩
theorem xm_m_X11_sure : xm_Mok q_X11_sure := ⟨rfl, by decide +kernel⟩
theorem xm_m_X11_letter : xm_Mok q_X11_letter := ⟨rfl, by decide +kernel⟩
theorem xm_m_X11_known : xm_Mok q_X11_known := ⟨rfl, by decide +kernel⟩
theorem xm_m_X11_wrong : xm_Mok q_X11_wrong := ⟨rfl, by decide +kernel⟩
theorem xm_m_X11_best : xm_Mok q_X11_best := ⟨rfl, by decide +kernel⟩
theorem xm_m_X11_cheap : xm_Mok q_X11_cheap := ⟨rfl, by decide +kernel⟩
theorem xm_m_X11_mean : xm_Mok q_X11_mean := ⟨rfl, by decide +kernel⟩
theorem xm_m_X11_looks : xm_Mok q_X11_looks := ⟨rfl, by decide +kernel⟩
theorem xm_m_X11_slip : xm_Mok q_X11_slip := ⟨rfl, by decide +kernel⟩
theorem xm_m_X11_thumb : xm_Mok q_X11_thumb := ⟨rfl, by decide +kernel⟩
theorem xm_m_X11_mend : xm_Mok q_X11_mend := ⟨rfl, by decide +kernel⟩
theorem xm_m_X11_lean : xm_Mok q_X11_lean := ⟨rfl, by decide +kernel⟩
theorem xm_m_X11_heart : xm_Mok q_X11_heart := ⟨rfl, by decide +kernel⟩
theorem xm_m_X11_drawn : xm_Mok q_X11_drawn := ⟨rfl, by decide +kernel⟩
theorem xm_m_X11_image : xm_Mok q_X11_image := ⟨rfl, by decide +kernel⟩
theorem xm_m_X11_back : xm_Mok q_X11_back := ⟨rfl, by decide +kernel⟩
theorem xm_m_X11_unlike : xm_Mok q_X11_unlike := ⟨rfl, by decide +kernel⟩
theorem xm_m_X11_count : xm_Mok q_X11_count := ⟨rfl, by decide +kernel⟩
theorem xm_m_X11_takeSlate : xm_Mok q_X11_takeSlate := ⟨rfl, by decide +kernel⟩
theorem xm_m_X11_takeCost : xm_Mok q_X11_takeCost := ⟨rfl, by decide +kernel⟩
theorem xm_m_X11_costTape : xm_Mok q_X11_costTape := ⟨rfl, by decide +kernel⟩
theorem xm_m_X11_act : xm_Mok q_X11_act := ⟨rfl, by decide +kernel⟩
theorem xm_m_X11_worthAt : xm_Mok q_X11_worthAt := ⟨rfl, by decide +kernel⟩
theorem xm_m_X11_drawNumber : xm_Mok q_X11_drawNumber := ⟨rfl, by decide +kernel⟩
theorem xm_m_X11_drawBelow : xm_Mok q_X11_drawBelow := ⟨rfl, by decide +kernel⟩
theorem xm_m_X11_appendBytes : xm_Mok q_X11_appendBytes := ⟨rfl, by decide +kernel⟩
theorem xm_m_X11_bytesIn : xm_Mok q_X11_bytesIn := ⟨rfl, by decide +kernel⟩
theorem xm_m_X11_commonDivisor : xm_Mok q_X11_commonDivisor := ⟨rfl, by decide +kernel⟩
theorem xm_m_X11_onlyFigure : xm_Mok q_X11_onlyFigure := ⟨rfl, by decide +kernel⟩
theorem xm_m_X11_placeOf : xm_Mok q_X11_placeOf := ⟨rfl, by decide +kernel⟩
theorem xm_m_X11_rowOf : xm_Mok q_X11_rowOf := ⟨rfl, by decide +kernel⟩
theorem xm_m_X11_codeOf : xm_Mok q_X11_codeOf := ⟨rfl, by decide +kernel⟩
theorem xm_m_X11_power : xm_Mok q_X11_power := ⟨rfl, by decide +kernel⟩
theorem xm_m_X11_pick : xm_Mok q_X11_pick := ⟨rfl, by decide +kernel⟩
theorem xm_m_X11_put : xm_Mok q_X11_put := ⟨rfl, by decide +kernel⟩
theorem xm_m_X12_in : xm_Mok q_X12_in := ⟨rfl, by decide +kernel⟩
theorem xm_m_X12_has : xm_Mok q_X12_has := ⟨rfl, by decide +kernel⟩
theorem xm_m_X12_init : xm_Mok q_X12_init := ⟨rfl, by decide +kernel⟩
theorem xm_m_X12_thrown : xm_Mok q_X12_thrown := ⟨rfl, by decide +kernel⟩
theorem xm_m_X12_byteOf : xm_Mok q_X12_byteOf := ⟨rfl, by decide +kernel⟩
theorem xm_m_X12_feed : xm_Mok q_X12_feed := ⟨rfl, by decide +kernel⟩
theorem xm_m_X12_end : xm_Mok q_X12_end := ⟨rfl, by decide +kernel⟩
theorem xm_m_X12_here : xm_Mok q_X12_here := ⟨rfl, by decide +kernel⟩
theorem xm_m_X12_look : xm_Mok q_X12_look := ⟨rfl, by decide +kernel⟩
theorem xm_m_X12_bad : xm_Mok q_X12_bad := ⟨rfl, by decide +kernel⟩
theorem xm_m_X12_isDigit : xm_Mok q_X12_isDigit := ⟨rfl, by decide +kernel⟩
theorem xm_m_X12_put : xm_Mok q_X12_put := ⟨rfl, by decide +kernel⟩
theorem xm_m_X12_letterOf : xm_Mok q_X12_letterOf := ⟨rfl, by decide +kernel⟩
theorem xm_m_X12_opens : xm_Mok q_X12_opens := ⟨rfl, by decide +kernel⟩
theorem xm_m_X12_closes : xm_Mok q_X12_closes := ⟨rfl, by decide +kernel⟩
theorem xm_m_X12_plainNumber : xm_Mok q_X12_plainNumber := ⟨rfl, by decide +kernel⟩
theorem xm_m_X12_atom : xm_Mok q_X12_atom := ⟨rfl, by decide +kernel⟩
theorem xm_m_X12_term : xm_Mok q_X12_term := ⟨rfl, by decide +kernel⟩
theorem xm_m_X12_sum : xm_Mok q_X12_sum := ⟨rfl, by decide +kernel⟩
theorem xm_m_X12_isSign : xm_Mok q_X12_isSign := ⟨rfl, by decide +kernel⟩
theorem xm_m_X12_compare : xm_Mok q_X12_compare := ⟨rfl, by decide +kernel⟩
theorem xm_m_X12_unit : xm_Mok q_X12_unit := ⟨rfl, by decide +kernel⟩
theorem xm_m_X12_goOnAnd : xm_Mok q_X12_goOnAnd := ⟨rfl, by decide +kernel⟩
theorem xm_m_X12_goOnOr : xm_Mok q_X12_goOnOr := ⟨rfl, by decide +kernel⟩
theorem xm_m_X12_condition : xm_Mok q_X12_condition := ⟨rfl, by decide +kernel⟩
theorem xm_m_X12_clause : xm_Mok q_X12_clause := ⟨rfl, by decide +kernel⟩
theorem xm_m_X12_open : xm_Mok q_X12_open := ⟨rfl, by decide +kernel⟩
theorem xm_m_X12_atEnd : xm_Mok q_X12_atEnd := ⟨rfl, by decide +kernel⟩
theorem xm_m_X12_readLaw : xm_Mok q_X12_readLaw := ⟨rfl, by decide +kernel⟩
theorem xm_m_X12_bounded : xm_Mok q_X12_bounded := ⟨rfl, by decide +kernel⟩
theorem xm_m_X12_worked : xm_Mok q_X12_worked := ⟨rfl, by decide +kernel⟩
theorem xm_m_X12_workOut : xm_Mok q_X12_workOut := ⟨rfl, by decide +kernel⟩
theorem xm_m_X12_worthOf : xm_Mok q_X12_worthOf := ⟨rfl, by decide +kernel⟩
theorem xm_m_X12_number : xm_Mok q_X12_number := ⟨rfl, by decide +kernel⟩
theorem xm_m_X12_signOf : xm_Mok q_X12_signOf := ⟨rfl, by decide +kernel⟩
theorem xm_m_X12_mostOf : xm_Mok q_X12_mostOf := ⟨rfl, by decide +kernel⟩
theorem xm_m_X12_rowsOf : xm_Mok q_X12_rowsOf := ⟨rfl, by decide +kernel⟩
theorem xm_m_X12_rowText : xm_Mok q_X12_rowText := ⟨rfl, by decide +kernel⟩
theorem xm_m_X12_head : xm_Mok q_X12_head := ⟨rfl, by decide +kernel⟩
theorem xm_m_X12_readSlate : xm_Mok q_X12_readSlate := ⟨rfl, by decide +kernel⟩
theorem xm_m_X12_fault : xm_Mok q_X12_fault := ⟨rfl, by decide +kernel⟩
theorem xm_m_X12_takeSlate : xm_Mok q_X12_takeSlate := ⟨rfl, by decide +kernel⟩
theorem xm_m_X12_text : xm_Mok q_X12_text := ⟨rfl, by decide +kernel⟩
theorem xm_m_X12_isSlate : xm_Mok q_X12_isSlate := ⟨rfl, by decide +kernel⟩
theorem xm_m_X12_isPlace : xm_Mok q_X12_isPlace := ⟨rfl, by decide +kernel⟩
theorem xm_m_X12_isThere : xm_Mok q_X12_isThere := ⟨rfl, by decide +kernel⟩
theorem xm_m_X12_isTold : xm_Mok q_X12_isTold := ⟨rfl, by decide +kernel⟩
theorem xm_m_X12_at : xm_Mok q_X12_at := ⟨rfl, by decide +kernel⟩
theorem xm_m_X12_wide : xm_Mok q_X12_wide := ⟨rfl, by decide +kernel⟩
theorem xm_m_X12_cost : xm_Mok q_X12_cost := ⟨rfl, by decide +kernel⟩
theorem xm_m_X12_act : xm_Mok q_X12_act := ⟨rfl, by decide +kernel⟩
theorem xm_m_X12_tell : xm_Mok q_X12_tell := ⟨rfl, by decide +kernel⟩
theorem xm_m_X12_rub : xm_Mok q_X12_rub := ⟨rfl, by decide +kernel⟩
theorem xm_m_X12_undo : xm_Mok q_X12_undo := ⟨rfl, by decide +kernel⟩
theorem xm_m_X12_write : xm_Mok q_X12_write := ⟨rfl, by decide +kernel⟩
theorem xm_m_X12_rowX : xm_Mok q_X12_rowX := ⟨rfl, by decide +kernel⟩
theorem xm_m_X12_power : xm_Mok q_X12_power := ⟨rfl, by decide +kernel⟩
theorem xm_m_X12_reckon : xm_Mok q_X12_reckon := ⟨rfl, by decide +kernel⟩
theorem xm_m_X12_part : xm_Mok q_X12_part := ⟨rfl, by decide +kernel⟩
theorem xm_m_X12_areWide : xm_Mok q_X12_areWide := ⟨rfl, by decide +kernel⟩
theorem xm_m_X12_doLettersFit : xm_Mok q_X12_doLettersFit := ⟨rfl, by decide +kernel⟩
theorem xm_m_X12_others : xm_Mok q_X12_others := ⟨rfl, by decide +kernel⟩
theorem xm_m_X12_lowest : xm_Mok q_X12_lowest := ⟨rfl, by decide +kernel⟩
theorem xm_m_X12_highest : xm_Mok q_X12_highest := ⟨rfl, by decide +kernel⟩
theorem xm_m_X12_begin : xm_Mok q_X12_begin := ⟨rfl, by decide +kernel⟩
theorem xm_m_X12_goOn : xm_Mok q_X12_goOn := ⟨rfl, by decide +kernel⟩
theorem xm_m_X12_fitsBut : xm_Mok q_X12_fitsBut := ⟨rfl, by decide +kernel⟩
theorem xm_m_X12_isLikely : xm_Mok q_X12_isLikely := ⟨rfl, by decide +kernel⟩
theorem xm_m_X12_nextAnswer : xm_Mok q_X12_nextAnswer := ⟨rfl, by decide +kernel⟩
theorem xm_m_X12_answersTo : xm_Mok q_X12_answersTo := ⟨rfl, by decide +kernel⟩
theorem xm_m_X12_answers : xm_Mok q_X12_answers := ⟨rfl, by decide +kernel⟩
theorem xm_m_X12_layCan : xm_Mok q_X12_layCan := ⟨rfl, by decide +kernel⟩
theorem xm_m_X12_can : xm_Mok q_X12_can := ⟨rfl, by decide +kernel⟩
theorem xm_m_X12_sure : xm_Mok q_X12_sure := ⟨rfl, by decide +kernel⟩
theorem xm_m_X12_letter : xm_Mok q_X12_letter := ⟨rfl, by decide +kernel⟩
theorem xm_m_X12_known : xm_Mok q_X12_known := ⟨rfl, by decide +kernel⟩
theorem xm_m_X12_many : xm_Mok q_X12_many := ⟨rfl, by decide +kernel⟩
theorem xm_m_X12_isFull : xm_Mok q_X12_isFull := ⟨rfl, by decide +kernel⟩
theorem xm_m_X12_valueOf : xm_Mok q_X12_valueOf := ⟨rfl, by decide +kernel⟩
theorem xm_m_X12_wrong : xm_Mok q_X12_wrong := ⟨rfl, by decide +kernel⟩
theorem xm_m_X12_layTally : xm_Mok q_X12_layTally := ⟨rfl, by decide +kernel⟩
theorem xm_m_X12_code : xm_Mok q_X12_code := ⟨rfl, by decide +kernel⟩
theorem xm_m_X12_worstAt : xm_Mok q_X12_worstAt := ⟨rfl, by decide +kernel⟩
theorem xm_m_X12_bestPlace : xm_Mok q_X12_bestPlace := ⟨rfl, by decide +kernel⟩
theorem xm_m_X12_best : xm_Mok q_X12_best := ⟨rfl, by decide +kernel⟩
theorem xm_m_X12_mean : xm_Mok q_X12_mean := ⟨rfl, by decide +kernel⟩
theorem xm_m_X12_cheap : xm_Mok q_X12_cheap := ⟨rfl, by decide +kernel⟩
theorem xm_m_X12_costAt : xm_Mok q_X12_costAt := ⟨rfl, by decide +kernel⟩
theorem xm_m_X12_laySheets : xm_Mok q_X12_laySheets := ⟨rfl, by decide +kernel⟩
theorem xm_m_X12_tellsApart : xm_Mok q_X12_tellsApart := ⟨rfl, by decide +kernel⟩
theorem xm_m_X12_oneLook : xm_Mok q_X12_oneLook := ⟨rfl, by decide +kernel⟩
theorem xm_m_X12_twoLooks : xm_Mok q_X12_twoLooks := ⟨rfl, by decide +kernel⟩
theorem xm_m_X12_looks : xm_Mok q_X12_looks := ⟨rfl, by decide +kernel⟩
theorem xm_m_X12_slip : xm_Mok q_X12_slip := ⟨rfl, by decide +kernel⟩
theorem xm_m_X12_mend : xm_Mok q_X12_mend := ⟨rfl, by decide +kernel⟩
theorem xm_m_X12_keep : xm_Mok q_X12_keep := ⟨rfl, by decide +kernel⟩
theorem xm_m_X12_takeBack : xm_Mok q_X12_takeBack := ⟨rfl, by decide +kernel⟩
theorem xm_m_X12_wipe : xm_Mok q_X12_wipe := ⟨rfl, by decide +kernel⟩
theorem xm_m_X12_thumb : xm_Mok q_X12_thumb := ⟨rfl, by decide +kernel⟩
theorem xm_m_X12_heart : xm_Mok q_X12_heart := ⟨rfl, by decide +kernel⟩
theorem xm_m_X12_lean : xm_Mok q_X12_lean := ⟨rfl, by decide +kernel⟩
theorem xm_m_X12_draw : xm_Mok q_X12_draw := ⟨rfl, by decide +kernel⟩
theorem xm_m_X12_drawNumber : xm_Mok q_X12_drawNumber := ⟨rfl, by decide +kernel⟩
theorem xm_m_X12_drawn : xm_Mok q_X12_drawn := ⟨rfl, by decide +kernel⟩
theorem xm_m_X12_image : xm_Mok q_X12_image := ⟨rfl, by decide +kernel⟩
theorem xm_m_X12_back : xm_Mok q_X12_back := ⟨rfl, by decide +kernel⟩
theorem xm_m_X12_unlike : xm_Mok q_X12_unlike := ⟨rfl, by decide +kernel⟩
theorem xm_m_X12_count : xm_Mok q_X12_count := ⟨rfl, by decide +kernel⟩
theorem xm_m_J6_numberOfTrailingZeros_0f7a4 : xm_Mok q_J6_numberOfTrailingZeros_0f7a4 := ⟨rfl, by decide +kernel⟩
theorem xm_m_J6_bitCount_0f7a4 : xm_Mok q_J6_bitCount_0f7a4 := ⟨rfl, by decide +kernel⟩
theorem xm_m_J13_bitCount_95d88 : xm_Mok q_J13_bitCount_95d88 := ⟨rfl, by decide +kernel⟩
theorem xm_mts_ok : ∀ q ∈ xm_mts, xm_Mok q := by
  intro q h
  unfold xm_mts at h
  rcases List.mem_cons.mp h with rfl | h
  · exact xm_m_X0_init
  rcases List.mem_cons.mp h with rfl | h
  · exact xm_m_X0_size
  rcases List.mem_cons.mp h with rfl | h
  · exact xm_m_X0_forget
  rcases List.mem_cons.mp h with rfl | h
  · exact xm_m_X0_remember
  rcases List.mem_cons.mp h with rfl | h
  · exact xm_m_X0_latestPlace
  rcases List.mem_cons.mp h with rfl | h
  · exact xm_m_X0_latestSign
  rcases List.mem_cons.mp h with rfl | h
  · exact xm_m_X0_dropLatest
  rcases List.mem_cons.mp h with rfl | h
  · exact xm_m_X0_latest
  rcases List.mem_cons.mp h with rfl | h
  · exact xm_m_X1_init
  rcases List.mem_cons.mp h with rfl | h
  · exact xm_m_X1_setLetter
  rcases List.mem_cons.mp h with rfl | h
  · exact xm_m_X1_worth
  rcases List.mem_cons.mp h with rfl | h
  · exact xm_m_X1_faultOf
  rcases List.mem_cons.mp h with rfl | h
  · exact xm_m_X1_readClause
  rcases List.mem_cons.mp h with rfl | h
  · exact xm_m_X1_anyTruth
  rcases List.mem_cons.mp h with rfl | h
  · exact xm_m_X1_allUnits
  rcases List.mem_cons.mp h with rfl | h
  · exact xm_m_X1_unit
  rcases List.mem_cons.mp h with rfl | h
  · exact xm_m_X1_compares
  rcases List.mem_cons.mp h with rfl | h
  · exact xm_m_X1_goesDeeper
  rcases List.mem_cons.mp h with rfl | h
  · exact xm_m_X1_sum
  rcases List.mem_cons.mp h with rfl | h
  · exact xm_m_X1_term
  rcases List.mem_cons.mp h with rfl | h
  · exact xm_m_X1_atom
  rcases List.mem_cons.mp h with rfl | h
  · exact xm_m_X1_letterOf
  rcases List.mem_cons.mp h with rfl | h
  · exact xm_m_X1_quotient
  rcases List.mem_cons.mp h with rfl | h
  · exact xm_m_X1_within
  rcases List.mem_cons.mp h with rfl | h
  · exact xm_m_X2_init
  rcases List.mem_cons.mp h with rfl | h
  · exact xm_m_X2_refresh
  rcases List.mem_cons.mp h with rfl | h
  · exact xm_m_X2_nextThatStays
  rcases List.mem_cons.mp h with rfl | h
  · exact xm_m_X2_lastUnlike
  rcases List.mem_cons.mp h with rfl | h
  · exact xm_m_X2_lastUnlikeIn
  rcases List.mem_cons.mp h with rfl | h
  · exact xm_m_X2_total
  rcases List.mem_cons.mp h with rfl | h
  · exact xm_m_X2_leftAt
  rcases List.mem_cons.mp h with rfl | h
  · exact xm_m_X3_init
  rcases List.mem_cons.mp h with rfl | h
  · exact xm_m_X3_settles
  rcases List.mem_cons.mp h with rfl | h
  · exact xm_m_X3_gather
  rcases List.mem_cons.mp h with rfl | h
  · exact xm_m_X3_twoLooksSettle
  rcases List.mem_cons.mp h with rfl | h
  · exact xm_m_X3_settlesAfter
  rcases List.mem_cons.mp h with rfl | h
  · exact xm_m_X3_oneLookSettles
  rcases List.mem_cons.mp h with rfl | h
  · exact xm_m_X3_allUnlikeAt
  rcases List.mem_cons.mp h with rfl | h
  · exact xm_m_X3_figureOf
  rcases List.mem_cons.mp h with rfl | h
  · exact xm_m_X4_init
  rcases List.mem_cons.mp h with rfl | h
  · exact xm_m_X4_total
  rcases List.mem_cons.mp h with rfl | h
  · exact xm_m_X4_refresh
  rcases List.mem_cons.mp h with rfl | h
  · exact xm_m_X4_addFigures
  rcases List.mem_cons.mp h with rfl | h
  · exact xm_m_X4_answer
  rcases List.mem_cons.mp h with rfl | h
  · exact xm_m_X4_leftBy
  rcases List.mem_cons.mp h with rfl | h
  · exact xm_m_X4_figuresAt
  rcases List.mem_cons.mp h with rfl | h
  · exact xm_m_X4_mostLeftAt
  rcases List.mem_cons.mp h with rfl | h
  · exact xm_m_X4_squaresAt
  rcases List.mem_cons.mp h with rfl | h
  · exact xm_m_X4_bestPlace
  rcases List.mem_cons.mp h with rfl | h
  · exact xm_m_X4_totalUnder
  rcases List.mem_cons.mp h with rfl | h
  · exact xm_m_X4_totalLost
  rcases List.mem_cons.mp h with rfl | h
  · exact xm_m_X4_refreshCovered
  rcases List.mem_cons.mp h with rfl | h
  · exact xm_m_X4_found
  rcases List.mem_cons.mp h with rfl | h
  · exact xm_m_X5_init
  rcases List.mem_cons.mp h with rfl | h
  · exact xm_m_X5_askAsTold
  rcases List.mem_cons.mp h with rfl | h
  · exact xm_m_X5_askNothing
  rcases List.mem_cons.mp h with rfl | h
  · exact xm_m_X5_ask
  rcases List.mem_cons.mp h with rfl | h
  · exact xm_m_X5_coverRow
  rcases List.mem_cons.mp h with rfl | h
  · exact xm_m_X5_begin
  rcases List.mem_cons.mp h with rfl | h
  · exact xm_m_X5_beginAt
  rcases List.mem_cons.mp h with rfl | h
  · exact xm_m_X5_next
  rcases List.mem_cons.mp h with rfl | h
  · exact xm_m_X5_fits
  rcases List.mem_cons.mp h with rfl | h
  · exact xm_m_X5_lengthsFit
  rcases List.mem_cons.mp h with rfl | h
  · exact xm_m_X5_missesIn
  rcases List.mem_cons.mp h with rfl | h
  · exact xm_m_X5_spell
  rcases List.mem_cons.mp h with rfl | h
  · exact xm_m_X5_lettersFit
  rcases List.mem_cons.mp h with rfl | h
  · exact xm_m_X5_isPossible
  rcases List.mem_cons.mp h with rfl | h
  · exact xm_m_X5_reckon
  rcases List.mem_cons.mp h with rfl | h
  · exact xm_m_X5_reckonDivided
  rcases List.mem_cons.mp h with rfl | h
  · exact xm_m_X5_figureAt
  rcases List.mem_cons.mp h with rfl | h
  · exact xm_m_X5_valueOf
  rcases List.mem_cons.mp h with rfl | h
  · exact xm_m_X5_firstWrong
  rcases List.mem_cons.mp h with rfl | h
  · exact xm_m_X5_beginsWithNought
  rcases List.mem_cons.mp h with rfl | h
  · exact xm_m_X5_writeRows
  rcases List.mem_cons.mp h with rfl | h
  · exact xm_m_X5_lengthOf
  rcases List.mem_cons.mp h with rfl | h
  · exact xm_m_X6_init
  rcases List.mem_cons.mp h with rfl | h
  · exact xm_m_X6_isThere
  rcases List.mem_cons.mp h with rfl | h
  · exact xm_m_X6_hasRow
  rcases List.mem_cons.mp h with rfl | h
  · exact xm_m_X6_lengthOf
  rcases List.mem_cons.mp h with rfl | h
  · exact xm_m_X6_has
  rcases List.mem_cons.mp h with rfl | h
  · exact xm_m_X6_holds
  rcases List.mem_cons.mp h with rfl | h
  · exact xm_m_X6_signAt
  rcases List.mem_cons.mp h with rfl | h
  · exact xm_m_X6_isUnknown
  rcases List.mem_cons.mp h with rfl | h
  · exact xm_m_X6_rowOfX
  rcases List.mem_cons.mp h with rfl | h
  · exact xm_m_X6_rowOfY
  rcases List.mem_cons.mp h with rfl | h
  · exact xm_m_X6_begin
  rcases List.mem_cons.mp h with rfl | h
  · exact xm_m_X6_write
  rcases List.mem_cons.mp h with rfl | h
  · exact xm_m_X6_setLength
  rcases List.mem_cons.mp h with rfl | h
  · exact xm_m_X6_copyFrom
  rcases List.mem_cons.mp h with rfl | h
  · exact xm_m_X6_signsWithin
  rcases List.mem_cons.mp h with rfl | h
  · exact xm_m_X6_told
  rcases List.mem_cons.mp h with rfl | h
  · exact xm_m_X6_isFull
  rcases List.mem_cons.mp h with rfl | h
  · exact xm_m_X6_firstPlaceOf
  rcases List.mem_cons.mp h with rfl | h
  · exact xm_m_X6_numberIn
  rcases List.mem_cons.mp h with rfl | h
  · exact xm_m_X7_init
  rcases List.mem_cons.mp h with rfl | h
  · exact xm_m_X7_lastRead
  rcases List.mem_cons.mp h with rfl | h
  · exact xm_m_X7_faultOf
  rcases List.mem_cons.mp h with rfl | h
  · exact xm_m_X7_kindOf
  rcases List.mem_cons.mp h with rfl | h
  · exact xm_m_X7_readRows
  rcases List.mem_cons.mp h with rfl | h
  · exact xm_m_X7_rowsDue
  rcases List.mem_cons.mp h with rfl | h
  · exact xm_m_X7_readFigures
  rcases List.mem_cons.mp h with rfl | h
  · exact xm_m_X7_mostFigures
  rcases List.mem_cons.mp h with rfl | h
  · exact xm_m_X7_signOf
  rcases List.mem_cons.mp h with rfl | h
  · exact xm_m_X8_init
  rcases List.mem_cons.mp h with rfl | h
  · exact xm_m_X8_open
  rcases List.mem_cons.mp h with rfl | h
  · exact xm_m_X8_stoppedWhere
  rcases List.mem_cons.mp h with rfl | h
  · exact xm_m_X8_stop
  rcases List.mem_cons.mp h with rfl | h
  · exact xm_m_X8_peek
  rcases List.mem_cons.mp h with rfl | h
  · exact xm_m_X8_step
  rcases List.mem_cons.mp h with rfl | h
  · exact xm_m_X8_take
  rcases List.mem_cons.mp h with rfl | h
  · exact xm_m_X8_number
  rcases List.mem_cons.mp h with rfl | h
  · exact xm_m_X9_init
  rcases List.mem_cons.mp h with rfl | h
  · exact xm_m_X9_refresh
  rcases List.mem_cons.mp h with rfl | h
  · exact xm_m_X9_addMend
  rcases List.mem_cons.mp h with rfl | h
  · exact xm_m_X9_total
  rcases List.mem_cons.mp h with rfl | h
  · exact xm_m_X9_fewest
  rcases List.mem_cons.mp h with rfl | h
  · exact xm_m_X9_slipAt
  rcases List.mem_cons.mp h with rfl | h
  · exact xm_m_X10_init
  rcases List.mem_cons.mp h with rfl | h
  · exact xm_m_X10_size
  rcases List.mem_cons.mp h with rfl | h
  · exact xm_m_X10_append
  rcases List.mem_cons.mp h with rfl | h
  · exact xm_m_X10_cutTo
  rcases List.mem_cons.mp h with rfl | h
  · exact xm_m_X10_copyFrom
  rcases List.mem_cons.mp h with rfl | h
  · exact xm_m_X11_init
  rcases List.mem_cons.mp h with rfl | h
  · exact xm_m_X11_feed
  rcases List.mem_cons.mp h with rfl | h
  · exact xm_m_X11_end
  rcases List.mem_cons.mp h with rfl | h
  · exact xm_m_X11_fault
  rcases List.mem_cons.mp h with rfl | h
  · exact xm_m_X11_text
  rcases List.mem_cons.mp h with rfl | h
  · exact xm_m_X11_at
  rcases List.mem_cons.mp h with rfl | h
  · exact xm_m_X11_wide
  rcases List.mem_cons.mp h with rfl | h
  · exact xm_m_X11_cost
  rcases List.mem_cons.mp h with rfl | h
  · exact xm_m_X11_tell
  rcases List.mem_cons.mp h with rfl | h
  · exact xm_m_X11_rub
  rcases List.mem_cons.mp h with rfl | h
  · exact xm_m_X11_undo
  rcases List.mem_cons.mp h with rfl | h
  · exact xm_m_X11_answers
  rcases List.mem_cons.mp h with rfl | h
  · exact xm_m_X11_can
  rcases List.mem_cons.mp h with rfl | h
  · exact xm_m_X11_sure
  rcases List.mem_cons.mp h with rfl | h
  · exact xm_m_X11_letter
  rcases List.mem_cons.mp h with rfl | h
  · exact xm_m_X11_known
  rcases List.mem_cons.mp h with rfl | h
  · exact xm_m_X11_wrong
  rcases List.mem_cons.mp h with rfl | h
  · exact xm_m_X11_best
  rcases List.mem_cons.mp h with rfl | h
  · exact xm_m_X11_cheap
  rcases List.mem_cons.mp h with rfl | h
  · exact xm_m_X11_mean
  rcases List.mem_cons.mp h with rfl | h
  · exact xm_m_X11_looks
  rcases List.mem_cons.mp h with rfl | h
  · exact xm_m_X11_slip
  rcases List.mem_cons.mp h with rfl | h
  · exact xm_m_X11_thumb
  rcases List.mem_cons.mp h with rfl | h
  · exact xm_m_X11_mend
  rcases List.mem_cons.mp h with rfl | h
  · exact xm_m_X11_lean
  rcases List.mem_cons.mp h with rfl | h
  · exact xm_m_X11_heart
  rcases List.mem_cons.mp h with rfl | h
  · exact xm_m_X11_drawn
  rcases List.mem_cons.mp h with rfl | h
  · exact xm_m_X11_image
  rcases List.mem_cons.mp h with rfl | h
  · exact xm_m_X11_back
  rcases List.mem_cons.mp h with rfl | h
  · exact xm_m_X11_unlike
  rcases List.mem_cons.mp h with rfl | h
  · exact xm_m_X11_count
  rcases List.mem_cons.mp h with rfl | h
  · exact xm_m_X11_takeSlate
  rcases List.mem_cons.mp h with rfl | h
  · exact xm_m_X11_takeCost
  rcases List.mem_cons.mp h with rfl | h
  · exact xm_m_X11_costTape
  rcases List.mem_cons.mp h with rfl | h
  · exact xm_m_X11_act
  rcases List.mem_cons.mp h with rfl | h
  · exact xm_m_X11_worthAt
  rcases List.mem_cons.mp h with rfl | h
  · exact xm_m_X11_drawNumber
  rcases List.mem_cons.mp h with rfl | h
  · exact xm_m_X11_drawBelow
  rcases List.mem_cons.mp h with rfl | h
  · exact xm_m_X11_appendBytes
  rcases List.mem_cons.mp h with rfl | h
  · exact xm_m_X11_bytesIn
  rcases List.mem_cons.mp h with rfl | h
  · exact xm_m_X11_commonDivisor
  rcases List.mem_cons.mp h with rfl | h
  · exact xm_m_X11_onlyFigure
  rcases List.mem_cons.mp h with rfl | h
  · exact xm_m_X11_placeOf
  rcases List.mem_cons.mp h with rfl | h
  · exact xm_m_X11_rowOf
  rcases List.mem_cons.mp h with rfl | h
  · exact xm_m_X11_codeOf
  rcases List.mem_cons.mp h with rfl | h
  · exact xm_m_X11_power
  rcases List.mem_cons.mp h with rfl | h
  · exact xm_m_X11_pick
  rcases List.mem_cons.mp h with rfl | h
  · exact xm_m_X11_put
  rcases List.mem_cons.mp h with rfl | h
  · exact xm_m_X12_in
  rcases List.mem_cons.mp h with rfl | h
  · exact xm_m_X12_has
  rcases List.mem_cons.mp h with rfl | h
  · exact xm_m_X12_init
  rcases List.mem_cons.mp h with rfl | h
  · exact xm_m_X12_thrown
  rcases List.mem_cons.mp h with rfl | h
  · exact xm_m_X12_byteOf
  rcases List.mem_cons.mp h with rfl | h
  · exact xm_m_X12_feed
  rcases List.mem_cons.mp h with rfl | h
  · exact xm_m_X12_end
  rcases List.mem_cons.mp h with rfl | h
  · exact xm_m_X12_here
  rcases List.mem_cons.mp h with rfl | h
  · exact xm_m_X12_look
  rcases List.mem_cons.mp h with rfl | h
  · exact xm_m_X12_bad
  rcases List.mem_cons.mp h with rfl | h
  · exact xm_m_X12_isDigit
  rcases List.mem_cons.mp h with rfl | h
  · exact xm_m_X12_put
  rcases List.mem_cons.mp h with rfl | h
  · exact xm_m_X12_letterOf
  rcases List.mem_cons.mp h with rfl | h
  · exact xm_m_X12_opens
  rcases List.mem_cons.mp h with rfl | h
  · exact xm_m_X12_closes
  rcases List.mem_cons.mp h with rfl | h
  · exact xm_m_X12_plainNumber
  rcases List.mem_cons.mp h with rfl | h
  · exact xm_m_X12_atom
  rcases List.mem_cons.mp h with rfl | h
  · exact xm_m_X12_term
  rcases List.mem_cons.mp h with rfl | h
  · exact xm_m_X12_sum
  rcases List.mem_cons.mp h with rfl | h
  · exact xm_m_X12_isSign
  rcases List.mem_cons.mp h with rfl | h
  · exact xm_m_X12_compare
  rcases List.mem_cons.mp h with rfl | h
  · exact xm_m_X12_unit
  rcases List.mem_cons.mp h with rfl | h
  · exact xm_m_X12_goOnAnd
  rcases List.mem_cons.mp h with rfl | h
  · exact xm_m_X12_goOnOr
  rcases List.mem_cons.mp h with rfl | h
  · exact xm_m_X12_condition
  rcases List.mem_cons.mp h with rfl | h
  · exact xm_m_X12_clause
  rcases List.mem_cons.mp h with rfl | h
  · exact xm_m_X12_open
  rcases List.mem_cons.mp h with rfl | h
  · exact xm_m_X12_atEnd
  rcases List.mem_cons.mp h with rfl | h
  · exact xm_m_X12_readLaw
  rcases List.mem_cons.mp h with rfl | h
  · exact xm_m_X12_bounded
  rcases List.mem_cons.mp h with rfl | h
  · exact xm_m_X12_worked
  rcases List.mem_cons.mp h with rfl | h
  · exact xm_m_X12_workOut
  rcases List.mem_cons.mp h with rfl | h
  · exact xm_m_X12_worthOf
  rcases List.mem_cons.mp h with rfl | h
  · exact xm_m_X12_number
  rcases List.mem_cons.mp h with rfl | h
  · exact xm_m_X12_signOf
  rcases List.mem_cons.mp h with rfl | h
  · exact xm_m_X12_mostOf
  rcases List.mem_cons.mp h with rfl | h
  · exact xm_m_X12_rowsOf
  rcases List.mem_cons.mp h with rfl | h
  · exact xm_m_X12_rowText
  rcases List.mem_cons.mp h with rfl | h
  · exact xm_m_X12_head
  rcases List.mem_cons.mp h with rfl | h
  · exact xm_m_X12_readSlate
  rcases List.mem_cons.mp h with rfl | h
  · exact xm_m_X12_fault
  rcases List.mem_cons.mp h with rfl | h
  · exact xm_m_X12_takeSlate
  rcases List.mem_cons.mp h with rfl | h
  · exact xm_m_X12_text
  rcases List.mem_cons.mp h with rfl | h
  · exact xm_m_X12_isSlate
  rcases List.mem_cons.mp h with rfl | h
  · exact xm_m_X12_isPlace
  rcases List.mem_cons.mp h with rfl | h
  · exact xm_m_X12_isThere
  rcases List.mem_cons.mp h with rfl | h
  · exact xm_m_X12_isTold
  rcases List.mem_cons.mp h with rfl | h
  · exact xm_m_X12_at
  rcases List.mem_cons.mp h with rfl | h
  · exact xm_m_X12_wide
  rcases List.mem_cons.mp h with rfl | h
  · exact xm_m_X12_cost
  rcases List.mem_cons.mp h with rfl | h
  · exact xm_m_X12_act
  rcases List.mem_cons.mp h with rfl | h
  · exact xm_m_X12_tell
  rcases List.mem_cons.mp h with rfl | h
  · exact xm_m_X12_rub
  rcases List.mem_cons.mp h with rfl | h
  · exact xm_m_X12_undo
  rcases List.mem_cons.mp h with rfl | h
  · exact xm_m_X12_write
  rcases List.mem_cons.mp h with rfl | h
  · exact xm_m_X12_rowX
  rcases List.mem_cons.mp h with rfl | h
  · exact xm_m_X12_power
  rcases List.mem_cons.mp h with rfl | h
  · exact xm_m_X12_reckon
  rcases List.mem_cons.mp h with rfl | h
  · exact xm_m_X12_part
  rcases List.mem_cons.mp h with rfl | h
  · exact xm_m_X12_areWide
  rcases List.mem_cons.mp h with rfl | h
  · exact xm_m_X12_doLettersFit
  rcases List.mem_cons.mp h with rfl | h
  · exact xm_m_X12_others
  rcases List.mem_cons.mp h with rfl | h
  · exact xm_m_X12_lowest
  rcases List.mem_cons.mp h with rfl | h
  · exact xm_m_X12_highest
  rcases List.mem_cons.mp h with rfl | h
  · exact xm_m_X12_begin
  rcases List.mem_cons.mp h with rfl | h
  · exact xm_m_X12_goOn
  rcases List.mem_cons.mp h with rfl | h
  · exact xm_m_X12_fitsBut
  rcases List.mem_cons.mp h with rfl | h
  · exact xm_m_X12_isLikely
  rcases List.mem_cons.mp h with rfl | h
  · exact xm_m_X12_nextAnswer
  rcases List.mem_cons.mp h with rfl | h
  · exact xm_m_X12_answersTo
  rcases List.mem_cons.mp h with rfl | h
  · exact xm_m_X12_answers
  rcases List.mem_cons.mp h with rfl | h
  · exact xm_m_X12_layCan
  rcases List.mem_cons.mp h with rfl | h
  · exact xm_m_X12_can
  rcases List.mem_cons.mp h with rfl | h
  · exact xm_m_X12_sure
  rcases List.mem_cons.mp h with rfl | h
  · exact xm_m_X12_letter
  rcases List.mem_cons.mp h with rfl | h
  · exact xm_m_X12_known
  rcases List.mem_cons.mp h with rfl | h
  · exact xm_m_X12_many
  rcases List.mem_cons.mp h with rfl | h
  · exact xm_m_X12_isFull
  rcases List.mem_cons.mp h with rfl | h
  · exact xm_m_X12_valueOf
  rcases List.mem_cons.mp h with rfl | h
  · exact xm_m_X12_wrong
  rcases List.mem_cons.mp h with rfl | h
  · exact xm_m_X12_layTally
  rcases List.mem_cons.mp h with rfl | h
  · exact xm_m_X12_code
  rcases List.mem_cons.mp h with rfl | h
  · exact xm_m_X12_worstAt
  rcases List.mem_cons.mp h with rfl | h
  · exact xm_m_X12_bestPlace
  rcases List.mem_cons.mp h with rfl | h
  · exact xm_m_X12_best
  rcases List.mem_cons.mp h with rfl | h
  · exact xm_m_X12_mean
  rcases List.mem_cons.mp h with rfl | h
  · exact xm_m_X12_cheap
  rcases List.mem_cons.mp h with rfl | h
  · exact xm_m_X12_costAt
  rcases List.mem_cons.mp h with rfl | h
  · exact xm_m_X12_laySheets
  rcases List.mem_cons.mp h with rfl | h
  · exact xm_m_X12_tellsApart
  rcases List.mem_cons.mp h with rfl | h
  · exact xm_m_X12_oneLook
  rcases List.mem_cons.mp h with rfl | h
  · exact xm_m_X12_twoLooks
  rcases List.mem_cons.mp h with rfl | h
  · exact xm_m_X12_looks
  rcases List.mem_cons.mp h with rfl | h
  · exact xm_m_X12_slip
  rcases List.mem_cons.mp h with rfl | h
  · exact xm_m_X12_mend
  rcases List.mem_cons.mp h with rfl | h
  · exact xm_m_X12_keep
  rcases List.mem_cons.mp h with rfl | h
  · exact xm_m_X12_takeBack
  rcases List.mem_cons.mp h with rfl | h
  · exact xm_m_X12_wipe
  rcases List.mem_cons.mp h with rfl | h
  · exact xm_m_X12_thumb
  rcases List.mem_cons.mp h with rfl | h
  · exact xm_m_X12_heart
  rcases List.mem_cons.mp h with rfl | h
  · exact xm_m_X12_lean
  rcases List.mem_cons.mp h with rfl | h
  · exact xm_m_X12_draw
  rcases List.mem_cons.mp h with rfl | h
  · exact xm_m_X12_drawNumber
  rcases List.mem_cons.mp h with rfl | h
  · exact xm_m_X12_drawn
  rcases List.mem_cons.mp h with rfl | h
  · exact xm_m_X12_image
  rcases List.mem_cons.mp h with rfl | h
  · exact xm_m_X12_back
  rcases List.mem_cons.mp h with rfl | h
  · exact xm_m_X12_unlike
  rcases List.mem_cons.mp h with rfl | h
  · exact xm_m_X12_count
  rcases List.mem_cons.mp h with rfl | h
  · exact xm_m_J6_numberOfTrailingZeros_0f7a4
  rcases List.mem_cons.mp h with rfl | h
  · exact xm_m_J6_bitCount_0f7a4
  rcases List.mem_cons.mp h with rfl | h
  · exact xm_m_J13_bitCount_95d88
  cases h
def xm_cok (r : Nat × Nat × Nat × Nat × Nat × Nat × Nat) : Bool := match xm_mts[r.2.2.1]? with
  | some q => (if 3 ≤ r.2.2.2.1 then decide (xm_wd (r.2.2.2.2.1) = some (.methodLinkNest (xm_own r.1) r.2.1 q.2.1 "SlateSum")) else decide (xm_wd (r.2.2.2.2.1) = some (.methodLink (xm_own r.1) r.2.1 q.2.1))) &&
    (if r.2.2.2.1 = 0 ∨ r.2.2.2.1 = 3 then decide (xm_wd (r.2.2.2.2.2.1) = some (.static q.2.1)) else decide (xm_wd (r.2.2.2.2.2.1) = some (.instanceMethod q.2.1))) &&
    (if r.2.2.2.1 = 1 then decide (xm_wd (r.2.2.2.2.2.2) = some (.selects q.2.1.cls q.2.1 q.2.1)) && decide (q.1 < 13) else true) &&
    (if r.2.2.2.1 = 2 ∨ r.2.2.2.1 = 5 then decide (q.2.1.name = "<init>" ∧ q.2.2.2.2.1 = none) else true) && decide (r.2.2.2.1 < 6 ∧ ¬ r.2.2.2.1 = 4)
  | none => false
theorem xm_cas_ok : xm_cas.all xm_cok = true := by decide +kernel
def xm_ook (r : Nat × Nat × Nat) : Bool := decide (xm_wd (r.2.2) = some (.methodLink (xm_own r.1) r.2.1 objectInit))
theorem xm_obs_ok : xm_obs.all xm_ook = true := by decide +kernel
theorem xm_pob_ok : xm_wd (xm_pob.1) = some (.instanceMethod objectInit) ∧ xm_wd (xm_pob.2) = some (.code objectInit ⟨#[0xb1]⟩ 1 none) := by decide +kernel
theorem xm_mas_ok : xm_mas.all (fun r => decide (xm_wd (r.2.2.2) = some (.methodLink (xm_own r.1) r.2.1 (if r.2.2.1 = 0 then Lib.Math.max.name else if r.2.2.1 = 1 then Lib.Math.min.name else if r.2.2.1 = 2 then Lib.MathLoose.max_long.x else Lib.MathLoose.min_long.x))) && decide (r.2.2.1 < 4)) = true := by decide +kernel
theorem xm_math_ok : xm_wd 1014 = some (.initialized "java/lang/Math") ∧ xm_wd 4137 = some (.static Lib.Math.max.name) ∧ xm_wd 5002 = some (.static Lib.Math.min.name) ∧ xm_wd 3089 = some (.static Lib.MathLoose.max_long.x) ∧ xm_wd 3086 = some (.static Lib.MathLoose.min_long.x) ∧
  xm_wd 4138 = some (.code Lib.Math.max.name Lib.Math.max.code 2 (some .int)) ∧ xm_wd 5003 = some (.code Lib.Math.min.name Lib.Math.min.code 2 (some .int)) ∧ xm_wd 3090 = some (.code Lib.MathLoose.max_long.x Lib.MathLoose.max_long.code 4 (some .long)) ∧ xm_wd 3087 = some (.code Lib.MathLoose.min_long.x Lib.MathLoose.min_long.code 4 (some .long)) := by decide +kernel
theorem xm_kis_ok : xm_kis.all (fun r => decide (xm_wd (r.2.2.2) = some (.constant (xm_own r.1) r.2.1 r.2.2.1))) = true := by decide +kernel
theorem xm_kls_ok : xm_kls.all (fun r => decide (xm_wd (r.2.2.2) = some (.constantLong (xm_own r.1) r.2.1 r.2.2.1))) = true := by decide +kernel
def xm_wok (r : Nat × Nat × Nat × Nat × Nat × Nat) : Bool := decide (r.2.2.1 < 13) && decide (xm_wd (r.2.2.2.1) = some (.classLink (xm_own r.1) r.2.1 (xm_own r.2.2.1))) && decide (xm_wd (r.2.2.2.2.1) = some (.instantiable (xm_own r.2.2.1) (xm_nf r.2.2.1))) && decide (xm_wd (r.2.2.2.2.2) = some (.initialized (xm_own r.2.2.1)))
theorem xm_nws_ok : xm_nws.all xm_wok = true := by decide +kernel
theorem xm_arr_ok : xm_wd 1044 = some (.arrayClass .int) ∧ xm_wd 8097 = some (.arrayClass .long) ∧ xm_wd 1147 = some (.arrayOver (.object "SlateSum$Tape")) ∧ xm_wd 1029 = some (.classLink "SlateSum" 7 "SlateSum$Tape") := by decide +kernel
/-- of a field's type what its kind says -/
def xm_kok (ty : FieldType) (t : Nat) : Bool := match t, ty with
  | 0, .int => true
  | 0, .boolean => true
  | 1, .long => true
  | 2, .object _ => true
  | 2, .array _ => true
  | _, _ => false
def xm_Cok (ci : Nat) (q : vw_C) : Prop := q.1 = xm_own ci ∧ q.2.2 = xm_nf ci ∧ (∀ k, q.2.1 k = xm_T ci k) ∧ (∀ w ∈ u_ws q.1 q.2.1 q.2.2, w ∈ xm_Ts) ∧ (∀ k, k < q.2.2 → parseFieldDescriptor (q.2.1 k).2.2.1 = some (xm_ty ci k)) ∧
  (∀ a, a < q.2.2 → ∀ b, b < q.2.2 → a ≠ b → (q.2.1 a).2.1 ≠ (q.2.1 b).2.1) ∧ (∀ k, k < q.2.2 → (q.2.1 k).1 = xm_own ci ∧ xm_kok (xm_ty ci k) (xm_ft ci k) = true)
theorem xm_u_0 : (u_ws R_0 T_0 4).all (fun w => decide (w ∈ lw_tbl) && goodWord w) = true := by decide +kernel
theorem xm_c_0 : xm_Cok 0 (R_0, T_0, 4) := ⟨rfl, rfl, fun _ => rfl, fun w h => by
  have h1 := List.all_eq_true.mp xm_u_0 w h
  simp only [Bool.and_eq_true, decide_eq_true_eq] at h1
  exact List.mem_filter.mpr h1, ty_0_ok, nm_0, by decide +kernel⟩
theorem xm_u_1 : (u_ws R_1 T_1 4).all (fun w => decide (w ∈ lw_tbl) && goodWord w) = true := by decide +kernel
theorem xm_c_1 : xm_Cok 1 (R_1, T_1, 4) := ⟨rfl, rfl, fun _ => rfl, fun w h => by
  have h1 := List.all_eq_true.mp xm_u_1 w h
  simp only [Bool.and_eq_true, decide_eq_true_eq] at h1
  exact List.mem_filter.mpr h1, ty_1_ok, nm_1, by decide +kernel⟩
theorem xm_u_2 : (u_ws R_2 T_2 5).all (fun w => decide (w ∈ lw_tbl) && goodWord w) = true := by decide +kernel
theorem xm_c_2 : xm_Cok 2 (R_2, T_2, 5) := ⟨rfl, rfl, fun _ => rfl, fun w h => by
  have h1 := List.all_eq_true.mp xm_u_2 w h
  simp only [Bool.and_eq_true, decide_eq_true_eq] at h1
  exact List.mem_filter.mpr h1, ty_2_ok, nm_2, by decide +kernel⟩
theorem xm_u_3 : (u_ws R_3 T_3 6).all (fun w => decide (w ∈ lw_tbl) && goodWord w) = true := by decide +kernel
theorem xm_c_3 : xm_Cok 3 (R_3, T_3, 6) := ⟨rfl, rfl, fun _ => rfl, fun w h => by
  have h1 := List.all_eq_true.mp xm_u_3 w h
  simp only [Bool.and_eq_true, decide_eq_true_eq] at h1
  exact List.mem_filter.mpr h1, ty_3_ok, nm_3, by decide +kernel⟩
theorem xm_u_4 : (u_ws R_4 T_4 10).all (fun w => decide (w ∈ lw_tbl) && goodWord w) = true := by decide +kernel
theorem xm_c_4 : xm_Cok 4 (R_4, T_4, 10) := ⟨rfl, rfl, fun _ => rfl, fun w h => by
  have h1 := List.all_eq_true.mp xm_u_4 w h
  simp only [Bool.and_eq_true, decide_eq_true_eq] at h1
  exact List.mem_filter.mpr h1, ty_4_ok, nm_4, by decide +kernel⟩
theorem xm_u_5 : (u_ws R_5 T_5 15).all (fun w => decide (w ∈ lw_tbl) && goodWord w) = true := by decide +kernel
theorem xm_c_5 : xm_Cok 5 (R_5, T_5, 15) := ⟨rfl, rfl, fun _ => rfl, fun w h => by
  have h1 := List.all_eq_true.mp xm_u_5 w h
  simp only [Bool.and_eq_true, decide_eq_true_eq] at h1
  exact List.mem_filter.mpr h1, ty_5_ok, nm_5, by decide +kernel⟩
theorem xm_u_6 : (u_ws R_6 T_6 8).all (fun w => decide (w ∈ lw_tbl) && goodWord w) = true := by decide +kernel
theorem xm_c_6 : xm_Cok 6 (R_6, T_6, 8) := ⟨rfl, rfl, fun _ => rfl, fun w h => by
  have h1 := List.all_eq_true.mp xm_u_6 w h
  simp only [Bool.and_eq_true, decide_eq_true_eq] at h1
  exact List.mem_filter.mpr h1, ty_6_ok, nm_6, by decide +kernel⟩
theorem xm_u_7 : (u_ws R_7 T_7 2).all (fun w => decide (w ∈ lw_tbl) && goodWord w) = true := by decide +kernel
theorem xm_c_7 : xm_Cok 7 (R_7, T_7, 2) := ⟨rfl, rfl, fun _ => rfl, fun w h => by
  have h1 := List.all_eq_true.mp xm_u_7 w h
  simp only [Bool.and_eq_true, decide_eq_true_eq] at h1
  exact List.mem_filter.mpr h1, ty_7_ok, nm_7, by decide +kernel⟩
theorem xm_u_8 : (u_ws R_8 T_8 4).all (fun w => decide (w ∈ lw_tbl) && goodWord w) = true := by decide +kernel
theorem xm_c_8 : xm_Cok 8 (R_8, T_8, 4) := ⟨rfl, rfl, fun _ => rfl, fun w h => by
  have h1 := List.all_eq_true.mp xm_u_8 w h
  simp only [Bool.and_eq_true, decide_eq_true_eq] at h1
  exact List.mem_filter.mpr h1, ty_8_ok, nm_8, by decide +kernel⟩
theorem xm_u_9 : (u_ws R_9 T_9 6).all (fun w => decide (w ∈ lw_tbl) && goodWord w) = true := by decide +kernel
theorem xm_c_9 : xm_Cok 9 (R_9, T_9, 6) := ⟨rfl, rfl, fun _ => rfl, fun w h => by
  have h1 := List.all_eq_true.mp xm_u_9 w h
  simp only [Bool.and_eq_true, decide_eq_true_eq] at h1
  exact List.mem_filter.mpr h1, ty_9_ok, nm_9, by decide +kernel⟩
theorem xm_u_10 : (u_ws R_10 T_10 2).all (fun w => decide (w ∈ lw_tbl) && goodWord w) = true := by decide +kernel
theorem xm_c_10 : xm_Cok 10 (R_10, T_10, 2) := ⟨rfl, rfl, fun _ => rfl, fun w h => by
  have h1 := List.all_eq_true.mp xm_u_10 w h
  simp only [Bool.and_eq_true, decide_eq_true_eq] at h1
  exact List.mem_filter.mpr h1, ty_10_ok, nm_10, by decide +kernel⟩
theorem xm_u_11 : (u_ws R_11 T_11 17).all (fun w => decide (w ∈ lw_tbl) && goodWord w) = true := by decide +kernel
theorem xm_c_11 : xm_Cok 11 (R_11, T_11, 17) := ⟨rfl, rfl, fun _ => rfl, fun w h => by
  have h1 := List.all_eq_true.mp xm_u_11 w h
  simp only [Bool.and_eq_true, decide_eq_true_eq] at h1
  exact List.mem_filter.mpr h1, ty_11_ok, nm_11, by decide +kernel⟩
theorem xm_u_12 : (u_ws R_12 T_12 51).all (fun w => decide (w ∈ lw_tbl) && goodWord w) = true := by decide +kernel
theorem xm_c_12 : xm_Cok 12 (R_12, T_12, 51) := ⟨rfl, rfl, fun _ => rfl, fun w h => by
  have h1 := List.all_eq_true.mp xm_u_12 w h
  simp only [Bool.and_eq_true, decide_eq_true_eq] at h1
  exact List.mem_filter.mpr h1, ty_12_ok, nm_12, by decide +kernel⟩
theorem xm_cls_ok : ∀ (ci : Nat) (q : vw_C), xm_cls[ci]? = some q → xm_Cok ci q := by
  intro ci q h
  match ci, h with
  | 0, h => cases h; exact xm_c_0
  | 1, h => cases h; exact xm_c_1
  | 2, h => cases h; exact xm_c_2
  | 3, h => cases h; exact xm_c_3
  | 4, h => cases h; exact xm_c_4
  | 5, h => cases h; exact xm_c_5
  | 6, h => cases h; exact xm_c_6
  | 7, h => cases h; exact xm_c_7
  | 8, h => cases h; exact xm_c_8
  | 9, h => cases h; exact xm_c_9
  | 10, h => cases h; exact xm_c_10
  | 11, h => cases h; exact xm_c_11
  | 12, h => cases h; exact xm_c_12
  | n + 13, h => simp [xm_cls] at h
theorem xm_cls_get {ci : Nat} (h : ci < 13) : ∃ q, xm_cls[ci]? = some q := ⟨xm_cls[ci]'(by simpa [xm_cls] using h), by simp [xm_cls]⟩
theorem xm_fl_row {oc idx ci k nest : Nat} (h : xm_fl oc idx = some (ci, k, nest)) : ∃ p, xm_fok (oc, idx, ci, k, nest, p) = true := by
  unfold xm_fl at h
  cases hf : xm_fls.find? (fun r => r.1 == oc && r.2.1 == idx) with
  | none => rw [hf] at h; cases h
  | some r =>
    rw [hf] at h
    obtain ⟨a, b, c, d, e, p⟩ := r
    have hp := List.find?_some hf
    have hm := List.all_eq_true.mp xm_fls_ok _ (List.mem_of_find?_eq_some hf)
    simp only [Bool.and_eq_true, beq_iff_eq] at hp
    obtain ⟨rfl, rfl⟩ := hp
    cases h
    exact ⟨p, hm⟩
theorem xm_ca_row {oc idx y k : Nat} (h : xm_ca oc idx = some (y, k)) : ∃ p1 p2 p3, xm_cok (oc, idx, y, k, p1, p2, p3) = true := by
  unfold xm_ca at h
  cases hf : xm_cas.find? (fun r => r.1 == oc && r.2.1 == idx) with
  | none => rw [hf] at h; cases h
  | some r =>
    rw [hf] at h
    obtain ⟨a, b, c, d, e, p, p'⟩ := r
    have hp := List.find?_some hf
    have hm := List.all_eq_true.mp xm_cas_ok _ (List.mem_of_find?_eq_some hf)
    simp only [Bool.and_eq_true, beq_iff_eq] at hp
    obtain ⟨rfl, rfl⟩ := hp
    cases h
    exact ⟨_, _, _, hm⟩
theorem xm_ob_row {oc idx : Nat} (h : xm_ob oc idx = true) : Cond.methodLink (xm_own oc) idx objectInit ∈ xm_Ts := by
  unfold xm_ob at h
  obtain ⟨⟨a, b, p⟩, hr, hp⟩ := List.any_eq_true.mp h
  have hm := List.all_eq_true.mp xm_obs_ok _ hr
  simp only [Bool.and_eq_true, beq_iff_eq] at hp
  obtain ⟨rfl, rfl⟩ := hp
  exact xm_in_Ts (of_decide_eq_true hm) rfl
theorem xm_ma_row {oc idx k : Nat} (h : xm_ma oc idx = some k) : Cond.methodLink (xm_own oc) idx (if k = 0 then Lib.Math.max.name else if k = 1 then Lib.Math.min.name else if k = 2 then Lib.MathLoose.max_long.x else Lib.MathLoose.min_long.x) ∈ xm_Ts ∧ k < 4 := by
  unfold xm_ma at h
  cases hf : xm_mas.find? (fun r => r.1 == oc && r.2.1 == idx) with
  | none => rw [hf] at h; cases h
  | some r =>
    rw [hf] at h
    obtain ⟨a, b, c, p⟩ := r
    have hp := List.find?_some hf
    have hm := List.all_eq_true.mp xm_mas_ok _ (List.mem_of_find?_eq_some hf)
    simp only [Bool.and_eq_true, beq_iff_eq] at hp
    obtain ⟨rfl, rfl⟩ := hp
    cases h
    simp only [Bool.and_eq_true, decide_eq_true_eq] at hm
    exact ⟨xm_in_Ts hm.1 rfl, hm.2⟩
theorem xm_ki_row {oc idx : Nat} {v : Int32} (h : xm_ki oc idx = some v) : Cond.constant (xm_own oc) idx v ∈ xm_Ts := by
  unfold xm_ki at h
  cases hf : xm_kis.find? (fun r => r.1 == oc && r.2.1 == idx) with
  | none => rw [hf] at h; cases h
  | some r =>
    rw [hf] at h
    obtain ⟨a, b, c, p⟩ := r
    have hp := List.find?_some hf
    have hm := List.all_eq_true.mp xm_kis_ok _ (List.mem_of_find?_eq_some hf)
    simp only [Bool.and_eq_true, beq_iff_eq] at hp
    obtain ⟨rfl, rfl⟩ := hp
    cases h
    exact xm_in_Ts (of_decide_eq_true hm) rfl
theorem xm_kl_row {oc idx : Nat} {v : Int64} (h : xm_kl oc idx = some v) : Cond.constantLong (xm_own oc) idx v ∈ xm_Ts := by
  unfold xm_kl at h
  cases hf : xm_kls.find? (fun r => r.1 == oc && r.2.1 == idx) with
  | none => rw [hf] at h; cases h
  | some r =>
    rw [hf] at h
    obtain ⟨a, b, c, p⟩ := r
    have hp := List.find?_some hf
    have hm := List.all_eq_true.mp xm_kls_ok _ (List.mem_of_find?_eq_some hf)
    simp only [Bool.and_eq_true, beq_iff_eq] at hp
    obtain ⟨rfl, rfl⟩ := hp
    cases h
    exact xm_in_Ts (of_decide_eq_true hm) rfl
theorem xm_nw_row {oc idx ci : Nat} (h : xm_nw oc idx = some ci) : ci < 13 ∧ Cond.classLink (xm_own oc) idx (xm_own ci) ∈ xm_Ts ∧ Cond.instantiable (xm_own ci) (xm_nf ci) ∈ xm_Ts ∧ Cond.initialized (xm_own ci) ∈ xm_Ts := by
  unfold xm_nw at h
  cases hf : xm_nws.find? (fun r => r.1 == oc && r.2.1 == idx) with
  | none => rw [hf] at h; cases h
  | some r =>
    rw [hf] at h
    obtain ⟨a, b, c, p, p', p''⟩ := r
    have hp := List.find?_some hf
    have hm := List.all_eq_true.mp xm_nws_ok _ (List.mem_of_find?_eq_some hf)
    simp only [Bool.and_eq_true, beq_iff_eq] at hp
    obtain ⟨rfl, rfl⟩ := hp
    cases h
    simp only [xm_wok, Bool.and_eq_true, decide_eq_true_eq] at hm
    exact ⟨hm.1.1.1, xm_in_Ts hm.1.1.2 rfl, xm_in_Ts hm.1.2 rfl, xm_in_Ts hm.2 rfl⟩
theorem xm_mt_row {y : Nat} {q : Nat × MethodName × ByteArray × Nat × Option FieldType × Nat × Nat} (h : xm_mts[y]? = some q) : Cond.code q.2.1 q.2.2.1 q.2.2.2.1 q.2.2.2.2.1 ∈ xm_Ts ∧ Cond.initialized q.2.1.cls ∈ xm_Ts ∧ q.2.1.cls = xm_own q.1 ∧ plainName q.2.1.cls = true ∧ (q.2.1.cls ≠ "java/lang/invoke/MethodHandle" ∧ q.2.1.cls ≠ "java/lang/invoke/VarHandle") ∧ (parseMethodDescriptor q.2.1.desc).map (fun d => d.parameters.length) = some (xm_np q.2.1) ∧ q.2.2.2.1 ≤ 40 := by
  obtain ⟨h1, h2, h3, h4, h5, h6, h7⟩ := xm_mts_ok _ (List.mem_of_getElem? h)
  exact ⟨xm_in_Ts h1 rfl, xm_in_Ts h2 rfl, h3, h4, h5, h6, h7⟩
