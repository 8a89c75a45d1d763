/-! WHAT THE TABLES SAY: the code is the code, the links are the links -/
/-- the words that go from method to method -/
def az_wg : List Cond := lw_tbl.filter goodWord
theorem az_wg_good : ∀ {ws : List Cond}, (∀ w ∈ ws, w ∈ az_wg) → GoodIn az_wg ws := fun h w hw => ⟨h w hw, good_of_word (List.mem_filter.mp (h w hw)).2⟩
theorem az_int {w : Cond} (i : Nat) (h : tables_1[i]? = some w) (g : goodWord w = true) : w ∈ az_wg := List.mem_filter.mpr ⟨List.mem_append_right _ (List.mem_of_getElem? h), g⟩
theorem az_ins {w : Cond} (i : Nat) (h : (k2_sels lw_privs)[i]? = some w) (g : goodWord w = true) : w ∈ az_wg := List.mem_filter.mpr ⟨List.mem_append_left _ (List.mem_of_getElem? h), g⟩
theorem az_pool_in {α : Type} : ∀ {l : List (Nat × α)} {k : Nat} {a : α}, az_pool l k = some a → (k, a) ∈ l
  | [], k, a, h => by simp [az_pool] at h
  | (q, b) :: r, k, a, h => by
    rw [az_pool] at h
    cases hb : Nat.beq q k with
    | true =>
      simp only [hb, cond_true, Option.some.injEq] at h
      subst h
      rw [Nat.eq_of_beq_eq_true hb]
      exact List.mem_cons_self
    | false =>
      simp only [hb, cond_false] at h
      exact List.mem_cons_of_mem _ (az_pool_in h)
theorem az_look_in : ∀ {l : List (Nat × Instr × Nat)} {pc : Nat} {i : Instr} {n : Nat}, az_look l pc = some (i, n) → (pc, i, n) ∈ l
  | [], pc, i, n, h => by simp [az_look] at h
  | (q, j, m) :: r, pc, i, n, h => by
    rw [az_look] at h
    cases hb : Nat.beq q pc with
    | true =>
      simp only [hb, cond_true, Option.some.injEq, Prod.mk.injEq] at h
      obtain ⟨rfl, rfl⟩ := h
      rw [Nat.eq_of_beq_eq_true hb]
      exact List.mem_cons_self
    | false =>
      simp only [hb, cond_false] at h
      exact List.mem_cons_of_mem _ (az_look_in h)
/-- an instruction's length, and where it jumps -/
def az_insok (pc : Nat) (i : Instr) (n : Nat) : Bool := match i with
  | .iload _ => Nat.beq n 2
  | .aload _ => Nat.beq n 2
  | .istore _ => Nat.beq n 2
  | .bipush _ => Nat.beq n 2
  | .ldc _ => Nat.beq n 2
  | .sipush _ => Nat.beq n 3
  | .iinc _ _ => Nat.beq n 3
  | .ifCond _ off => Nat.beq n 3 && decide (0 ≤ (pc : Int) + off)
  | .if_icmp _ off => Nat.beq n 3 && decide (0 ≤ (pc : Int) + off)
  | .goto off => Nat.beq n 3 && decide (0 ≤ (pc : Int) + off)
  | .getfield _ => Nat.beq n 3
  | .putfield _ => Nat.beq n 3
  | .getstatic _ => Nat.beq n 3
  | .invokestatic _ => Nat.beq n 3
  | .invokevirtual _ => Nat.beq n 3
  | .invokespecial _ => Nat.beq n 3
  | .new _ => Nat.beq n 3
  | .tableswitch .. => true
  | .lookupswitch .. => true
  | _ => Nat.beq n 1
/-- room for each call -/
def az_room (M : az_M) (i : Instr) : Bool := match az_cal M i with
  | some (_, C, k) => Nat.ble (az_fr C + 1) (az_fr M) && (Nat.ble (8 + (az_nl C + 11) + az_lo C) (az_lo M) && Nat.ble k (az_nl C))
  | none => match i with
    | .invokestatic k => (match az_mx M.1 k with
      | some _ => Nat.ble 1 (az_fr M) && Nat.ble 21 (az_lo M)
      | none => true)
    | _ => true
def az_codeok (M : az_M) : Bool := (az_cd M).all fun q => decide (decode (az_by M) q.1 = .ok (q.2.1, q.2.2)) && (az_insok q.1 q.2.1 q.2.2 && az_room M q.2.1)
def az_all : List az_M := [az_m_X0_begin, az_m_X0_add, az_m_X0_hasPlan, az_m_X0_plans, az_m_X0_countWays, az_m_X0_greatestWorth, az_m_X0_greatestGain, az_m_X0_keepFirst, az_m_X1_copyFrom, az_m_X1_add, az_m_X2_restingPlans, az_m_X2_findFirstResting, az_m_X2_bestRestingWorth, az_m_X2_bestWorth, az_m_X2_findFirstBest, az_m_X2_presentOfFirst, az_m_X2_offerFirst, az_m_X2_isBoxBeforeFirst, az_m_X2_beginBand, az_m_X2_boxAll, az_m_X2_boxResting, az_m_X3_copyFrom, az_m_X3_has, az_m_X3_add, az_m_X3_mostRight, az_m_X3_lengthen, az_m_X4_copyFrom, az_m_X4_has, az_m_X4_add, az_m_X4_people, az_m_X5_add, az_m_X5_clear, az_m_X5_tellTo, az_m_X5_badPlace, az_m_X5_formAt, az_m_X5_numberForm, az_m_X5_fits, az_m_X5_tellStatement, az_m_X5_tellSort, az_m_X5_letterAt, az_m_X5_isDigit, az_m_X5_digitAt, az_m_X5_numberAt, az_m_X5_kindAt, az_m_X6_copyFrom, az_m_X6_setChairs, az_m_X6_addWeek, az_m_X6_mayFollow, az_m_X6_presentAgo, az_m_X6_meanPresent, az_m_X6_foretells, az_m_X6_isRight, az_m_X6_decide, az_m_X6_askRules, az_m_X6_askSorts, az_m_X6_settle, az_m_X6_wantsToGo, az_m_X6_goBy, az_m_X6_worthToOne, az_m_X6_worthToAll, az_m_X6_drawMemory, az_m_X7_letter, az_m_X7_town, az_m_X7_sort, az_m_X7_rule, az_m_X7_remembered, az_m_X7_penny, az_m_X7_week, az_m_X7_next, az_m_X7_goes, az_m_X7_worth, az_m_X7_after, az_m_X7_mean, az_m_X7_swing, az_m_X7_good, az_m_X7_again, az_m_X7_gains, az_m_X7_rests, az_m_X7_rest, az_m_X7_best, az_m_X7_off, az_m_X7_pennies, az_m_X7_chairs, az_m_X7_sees, az_m_X7_which, az_m_X7_longer, az_m_X7_seeds, az_m_X7_row, az_m_X7_judge, az_m_X7_image, az_m_X7_on, az_m_X7_count, az_m_X7_refuse, az_m_X7_refuseWorth, az_m_X7_lookAhead, az_m_X7_swingOf, az_m_X7_comesAgainAfter, az_m_X7_gainsInMind, az_m_X7_tallyRight, az_m_X7_outside, az_m_X7_at, az_m_X7_put, az_m_X7_copyRow, az_m_X7_quotient, az_m_X7_remainder, az_m_X8_no, az_m_X8_move, az_m_X8_image, az_m_X8_on, az_m_X8_of, az_m_X8_people, az_m_X8_letter, az_m_X8_expect, az_m_X8_oneOf, az_m_X8_figures, az_m_X8_statement, az_m_X8_isAsItMustBe, az_m_X8_remember, az_m_X8_come, az_m_X8_read, az_m_X8_town, az_m_X8_ago, az_m_X8_foretold, az_m_X8_isRoom, az_m_X8_hat, az_m_X8_present, az_m_X8_worthGone, az_m_X8_worthNext, az_m_X8_goOn, az_m_X8_isNoSort, az_m_X8_sort, az_m_X8_rule, az_m_X8_remembered, az_m_X8_penny, az_m_X8_week, az_m_X8_next, az_m_X8_goes, az_m_X8_worth, az_m_X8_isWrong, az_m_X8_goAhead, az_m_X8_swungIn, az_m_X8_after, az_m_X8_mean, az_m_X8_swing, az_m_X8_good, az_m_X8_again, az_m_X8_gains, az_m_X8_begin, az_m_X8_isNextPlan, az_m_X8_isAtRest, az_m_X8_goThrough, az_m_X8_rests, az_m_X8_rest, az_m_X8_best, az_m_X8_off, az_m_X8_pennies, az_m_X8_chairs, az_m_X8_sees, az_m_X8_which, az_m_X8_longer, az_m_X8_seeds, az_m_X8_row, az_m_X8_judge, az_m_X8_count, az_m_J0_length_8abf5, az_m_J0_isEmpty_aae02, az_m_J0_charAt_5068e, az_m_J0_indexOf_0f7a4, az_m_J0_indexOf_7cf53, az_m_J0_coder_7d493, az_m_J0_isLatin1_aae02, az_m_J1_charAt_3b067, az_m_J1_canEncode_9a6ad, az_m_J1_indexOf_4cfef, az_m_J1_indexOfChar_4cfef, az_m_J0_checkIndex_df160, az_m_J3_checkIndex_8e157, az_m_L_law]
set_option maxRecDepth 100000 in
theorem az_co_X0_begin : az_codeok az_m_X0_begin = true := by decide +kernel
set_option maxRecDepth 100000 in
theorem az_co_X0_add : az_codeok az_m_X0_add = true := by decide +kernel
set_option maxRecDepth 100000 in
theorem az_co_X0_hasPlan : az_codeok az_m_X0_hasPlan = true := by decide +kernel
set_option maxRecDepth 100000 in
theorem az_co_X0_plans : az_codeok az_m_X0_plans = true := by decide +kernel
set_option maxRecDepth 100000 in
theorem az_co_X0_countWays : az_codeok az_m_X0_countWays = true := by decide +kernel
set_option maxRecDepth 100000 in
theorem az_co_X0_greatestWorth : az_codeok az_m_X0_greatestWorth = true := by decide +kernel
set_option maxRecDepth 100000 in
theorem az_co_X0_greatestGain : az_codeok az_m_X0_greatestGain = true := by decide +kernel
set_option maxRecDepth 100000 in
theorem az_co_X0_keepFirst : az_codeok az_m_X0_keepFirst = true := by decide +kernel
set_option maxRecDepth 100000 in
theorem az_co_X1_copyFrom : az_codeok az_m_X1_copyFrom = true := by decide +kernel
set_option maxRecDepth 100000 in
theorem az_co_X1_add : az_codeok az_m_X1_add = true := by decide +kernel
set_option maxRecDepth 100000 in
theorem az_co_X2_restingPlans : az_codeok az_m_X2_restingPlans = true := by decide +kernel
set_option maxRecDepth 100000 in
theorem az_co_X2_findFirstResting : az_codeok az_m_X2_findFirstResting = true := by decide +kernel
set_option maxRecDepth 100000 in
theorem az_co_X2_bestRestingWorth : az_codeok az_m_X2_bestRestingWorth = true := by decide +kernel
set_option maxRecDepth 100000 in
theorem az_co_X2_bestWorth : az_codeok az_m_X2_bestWorth = true := by decide +kernel
set_option maxRecDepth 100000 in
theorem az_co_X2_findFirstBest : az_codeok az_m_X2_findFirstBest = true := by decide +kernel
set_option maxRecDepth 100000 in
theorem az_co_X2_presentOfFirst : az_codeok az_m_X2_presentOfFirst = true := by decide +kernel
set_option maxRecDepth 100000 in
theorem az_co_X2_offerFirst : az_codeok az_m_X2_offerFirst = true := by decide +kernel
set_option maxRecDepth 100000 in
theorem az_co_X2_isBoxBeforeFirst : az_codeok az_m_X2_isBoxBeforeFirst = true := by decide +kernel
set_option maxRecDepth 100000 in
theorem az_co_X2_beginBand : az_codeok az_m_X2_beginBand = true := by decide +kernel
set_option maxRecDepth 100000 in
theorem az_co_X2_boxAll : az_codeok az_m_X2_boxAll = true := by decide +kernel
set_option maxRecDepth 100000 in
theorem az_co_X2_boxResting : az_codeok az_m_X2_boxResting = true := by decide +kernel
set_option maxRecDepth 100000 in
theorem az_co_X3_copyFrom : az_codeok az_m_X3_copyFrom = true := by decide +kernel
set_option maxRecDepth 100000 in
theorem az_co_X3_has : az_codeok az_m_X3_has = true := by decide +kernel
set_option maxRecDepth 100000 in
theorem az_co_X3_add : az_codeok az_m_X3_add = true := by decide +kernel
set_option maxRecDepth 100000 in
theorem az_co_X3_mostRight : az_codeok az_m_X3_mostRight = true := by decide +kernel
set_option maxRecDepth 100000 in
theorem az_co_X3_lengthen : az_codeok az_m_X3_lengthen = true := by decide +kernel
set_option maxRecDepth 100000 in
theorem az_co_X4_copyFrom : az_codeok az_m_X4_copyFrom = true := by decide +kernel
set_option maxRecDepth 100000 in
theorem az_co_X4_has : az_codeok az_m_X4_has = true := by decide +kernel
set_option maxRecDepth 100000 in
theorem az_co_X4_add : az_codeok az_m_X4_add = true := by decide +kernel
set_option maxRecDepth 100000 in
theorem az_co_X4_people : az_codeok az_m_X4_people = true := by decide +kernel
set_option maxRecDepth 100000 in
theorem az_co_X5_add : az_codeok az_m_X5_add = true := by decide +kernel
set_option maxRecDepth 100000 in
theorem az_co_X5_clear : az_codeok az_m_X5_clear = true := by decide +kernel
set_option maxRecDepth 100000 in
theorem az_co_X5_tellTo : az_codeok az_m_X5_tellTo = true := by decide +kernel
set_option maxRecDepth 100000 in
theorem az_co_X5_badPlace : az_codeok az_m_X5_badPlace = true := by decide +kernel
set_option maxRecDepth 100000 in
theorem az_co_X5_formAt : az_codeok az_m_X5_formAt = true := by decide +kernel
set_option maxRecDepth 100000 in
theorem az_co_X5_numberForm : az_codeok az_m_X5_numberForm = true := by decide +kernel
set_option maxRecDepth 100000 in
theorem az_co_X5_fits : az_codeok az_m_X5_fits = true := by decide +kernel
set_option maxRecDepth 100000 in
theorem az_co_X5_tellStatement : az_codeok az_m_X5_tellStatement = true := by decide +kernel
set_option maxRecDepth 100000 in
theorem az_co_X5_tellSort : az_codeok az_m_X5_tellSort = true := by decide +kernel
set_option maxRecDepth 100000 in
theorem az_co_X5_letterAt : az_codeok az_m_X5_letterAt = true := by decide +kernel
set_option maxRecDepth 100000 in
theorem az_co_X5_isDigit : az_codeok az_m_X5_isDigit = true := by decide +kernel
set_option maxRecDepth 100000 in
theorem az_co_X5_digitAt : az_codeok az_m_X5_digitAt = true := by decide +kernel
set_option maxRecDepth 100000 in
theorem az_co_X5_numberAt : az_codeok az_m_X5_numberAt = true := by decide +kernel
set_option maxRecDepth 100000 in
theorem az_co_X5_kindAt : az_codeok az_m_X5_kindAt = true := by decide +kernel
set_option maxRecDepth 100000 in
theorem az_co_X6_copyFrom : az_codeok az_m_X6_copyFrom = true := by decide +kernel
set_option maxRecDepth 100000 in
theorem az_co_X6_setChairs : az_codeok az_m_X6_setChairs = true := by decide +kernel
set_option maxRecDepth 100000 in
theorem az_co_X6_addWeek : az_codeok az_m_X6_addWeek = true := by decide +kernel
set_option maxRecDepth 100000 in
theorem az_co_X6_mayFollow : az_codeok az_m_X6_mayFollow = true := by decide +kernel
set_option maxRecDepth 100000 in
theorem az_co_X6_presentAgo : az_codeok az_m_X6_presentAgo = true := by decide +kernel
set_option maxRecDepth 100000 in
theorem az_co_X6_meanPresent : az_codeok az_m_X6_meanPresent = true := by decide +kernel
set_option maxRecDepth 100000 in
theorem az_co_X6_foretells : az_codeok az_m_X6_foretells = true := by decide +kernel
set_option maxRecDepth 100000 in
theorem az_co_X6_isRight : az_codeok az_m_X6_isRight = true := by decide +kernel
set_option maxRecDepth 100000 in
theorem az_co_X6_decide : az_codeok az_m_X6_decide = true := by decide +kernel
set_option maxRecDepth 100000 in
theorem az_co_X6_askRules : az_codeok az_m_X6_askRules = true := by decide +kernel
set_option maxRecDepth 100000 in
theorem az_co_X6_askSorts : az_codeok az_m_X6_askSorts = true := by decide +kernel
set_option maxRecDepth 100000 in
theorem az_co_X6_settle : az_codeok az_m_X6_settle = true := by decide +kernel
set_option maxRecDepth 100000 in
theorem az_co_X6_wantsToGo : az_codeok az_m_X6_wantsToGo = true := by decide +kernel
set_option maxRecDepth 100000 in
theorem az_co_X6_goBy : az_codeok az_m_X6_goBy = true := by decide +kernel
set_option maxRecDepth 100000 in
theorem az_co_X6_worthToOne : az_codeok az_m_X6_worthToOne = true := by decide +kernel
set_option maxRecDepth 100000 in
theorem az_co_X6_worthToAll : az_codeok az_m_X6_worthToAll = true := by decide +kernel
set_option maxRecDepth 100000 in
theorem az_co_X6_drawMemory : az_codeok az_m_X6_drawMemory = true := by decide +kernel
set_option maxRecDepth 100000 in
theorem az_co_X7_letter : az_codeok az_m_X7_letter = true := by decide +kernel
set_option maxRecDepth 100000 in
theorem az_co_X7_town : az_codeok az_m_X7_town = true := by decide +kernel
set_option maxRecDepth 100000 in
theorem az_co_X7_sort : az_codeok az_m_X7_sort = true := by decide +kernel
set_option maxRecDepth 100000 in
theorem az_co_X7_rule : az_codeok az_m_X7_rule = true := by decide +kernel
set_option maxRecDepth 100000 in
theorem az_co_X7_remembered : az_codeok az_m_X7_remembered = true := by decide +kernel
set_option maxRecDepth 100000 in
theorem az_co_X7_penny : az_codeok az_m_X7_penny = true := by decide +kernel
set_option maxRecDepth 100000 in
theorem az_co_X7_week : az_codeok az_m_X7_week = true := by decide +kernel
set_option maxRecDepth 100000 in
theorem az_co_X7_next : az_codeok az_m_X7_next = true := by decide +kernel
set_option maxRecDepth 100000 in
theorem az_co_X7_goes : az_codeok az_m_X7_goes = true := by decide +kernel
set_option maxRecDepth 100000 in
theorem az_co_X7_worth : az_codeok az_m_X7_worth = true := by decide +kernel
set_option maxRecDepth 100000 in
theorem az_co_X7_after : az_codeok az_m_X7_after = true := by decide +kernel
set_option maxRecDepth 100000 in
theorem az_co_X7_mean : az_codeok az_m_X7_mean = true := by decide +kernel
set_option maxRecDepth 100000 in
theorem az_co_X7_swing : az_codeok az_m_X7_swing = true := by decide +kernel
set_option maxRecDepth 100000 in
theorem az_co_X7_good : az_codeok az_m_X7_good = true := by decide +kernel
set_option maxRecDepth 100000 in
theorem az_co_X7_again : az_codeok az_m_X7_again = true := by decide +kernel
set_option maxRecDepth 100000 in
theorem az_co_X7_gains : az_codeok az_m_X7_gains = true := by decide +kernel
set_option maxRecDepth 100000 in
theorem az_co_X7_rests : az_codeok az_m_X7_rests = true := by decide +kernel
set_option maxRecDepth 100000 in
theorem az_co_X7_rest : az_codeok az_m_X7_rest = true := by decide +kernel
set_option maxRecDepth 100000 in
theorem az_co_X7_best : az_codeok az_m_X7_best = true := by decide +kernel
set_option maxRecDepth 100000 in
theorem az_co_X7_off : az_codeok az_m_X7_off = true := by decide +kernel
set_option maxRecDepth 100000 in
theorem az_co_X7_pennies : az_codeok az_m_X7_pennies = true := by decide +kernel
set_option maxRecDepth 100000 in
theorem az_co_X7_chairs : az_codeok az_m_X7_chairs = true := by decide +kernel
set_option maxRecDepth 100000 in
theorem az_co_X7_sees : az_codeok az_m_X7_sees = true := by decide +kernel
set_option maxRecDepth 100000 in
theorem az_co_X7_which : az_codeok az_m_X7_which = true := by decide +kernel
set_option maxRecDepth 100000 in
theorem az_co_X7_longer : az_codeok az_m_X7_longer = true := by decide +kernel
set_option maxRecDepth 100000 in
theorem az_co_X7_seeds : az_codeok az_m_X7_seeds = true := by decide +kernel
set_option maxRecDepth 100000 in
theorem az_co_X7_row : az_codeok az_m_X7_row = true := by decide +kernel
set_option maxRecDepth 100000 in
theorem az_co_X7_judge : az_codeok az_m_X7_judge = true := by decide +kernel
set_option maxRecDepth 100000 in
theorem az_co_X7_image : az_codeok az_m_X7_image = true := by decide +kernel
set_option maxRecDepth 100000 in
theorem az_co_X7_on : az_codeok az_m_X7_on = true := by decide +kernel
set_option maxRecDepth 100000 in
theorem az_co_X7_count : az_codeok az_m_X7_count = true := by decide +kernel
set_option maxRecDepth 100000 in
theorem az_co_X7_refuse : az_codeok az_m_X7_refuse = true := by decide +kernel
set_option maxRecDepth 100000 in
theorem az_co_X7_refuseWorth : az_codeok az_m_X7_refuseWorth = true := by decide +kernel
set_option maxRecDepth 100000 in
theorem az_co_X7_lookAhead : az_codeok az_m_X7_lookAhead = true := by decide +kernel
set_option maxRecDepth 100000 in
theorem az_co_X7_swingOf : az_codeok az_m_X7_swingOf = true := by decide +kernel
set_option maxRecDepth 100000 in
theorem az_co_X7_comesAgainAfter : az_codeok az_m_X7_comesAgainAfter = true := by decide +kernel
set_option maxRecDepth 100000 in
theorem az_co_X7_gainsInMind : az_codeok az_m_X7_gainsInMind = true := by decide +kernel
set_option maxRecDepth 100000 in
theorem az_co_X7_tallyRight : az_codeok az_m_X7_tallyRight = true := by decide +kernel
set_option maxRecDepth 100000 in
theorem az_co_X7_outside : az_codeok az_m_X7_outside = true := by decide +kernel
set_option maxRecDepth 100000 in
theorem az_co_X7_at : az_codeok az_m_X7_at = true := by decide +kernel
set_option maxRecDepth 100000 in
theorem az_co_X7_put : az_codeok az_m_X7_put = true := by decide +kernel
set_option maxRecDepth 100000 in
theorem az_co_X7_copyRow : az_codeok az_m_X7_copyRow = true := by decide +kernel
set_option maxRecDepth 100000 in
theorem az_co_X7_quotient : az_codeok az_m_X7_quotient = true := by decide +kernel
set_option maxRecDepth 100000 in
theorem az_co_X7_remainder : az_codeok az_m_X7_remainder = true := by decide +kernel
set_option maxRecDepth 100000 in
theorem az_co_X8_no : az_codeok az_m_X8_no = true := by decide +kernel
set_option maxRecDepth 100000 in
theorem az_co_X8_move : az_codeok az_m_X8_move = true := by decide +kernel
set_option maxRecDepth 100000 in
theorem az_co_X8_image : az_codeok az_m_X8_image = true := by decide +kernel
set_option maxRecDepth 100000 in
theorem az_co_X8_on : az_codeok az_m_X8_on = true := by decide +kernel
set_option maxRecDepth 100000 in
theorem az_co_X8_of : az_codeok az_m_X8_of = true := by decide +kernel
set_option maxRecDepth 100000 in
theorem az_co_X8_people : az_codeok az_m_X8_people = true := by decide +kernel
set_option maxRecDepth 100000 in
theorem az_co_X8_letter : az_codeok az_m_X8_letter = true := by decide +kernel
set_option maxRecDepth 100000 in
theorem az_co_X8_expect : az_codeok az_m_X8_expect = true := by decide +kernel
set_option maxRecDepth 100000 in
theorem az_co_X8_oneOf : az_codeok az_m_X8_oneOf = true := by decide +kernel
set_option maxRecDepth 100000 in
theorem az_co_X8_figures : az_codeok az_m_X8_figures = true := by decide +kernel
set_option maxRecDepth 100000 in
theorem az_co_X8_statement : az_codeok az_m_X8_statement = true := by decide +kernel
set_option maxRecDepth 100000 in
theorem az_co_X8_isAsItMustBe : az_codeok az_m_X8_isAsItMustBe = true := by decide +kernel
set_option maxRecDepth 100000 in
theorem az_co_X8_remember : az_codeok az_m_X8_remember = true := by decide +kernel
set_option maxRecDepth 100000 in
theorem az_co_X8_come : az_codeok az_m_X8_come = true := by decide +kernel
set_option maxRecDepth 100000 in
theorem az_co_X8_read : az_codeok az_m_X8_read = true := by decide +kernel
set_option maxRecDepth 100000 in
theorem az_co_X8_town : az_codeok az_m_X8_town = true := by decide +kernel
set_option maxRecDepth 100000 in
theorem az_co_X8_ago : az_codeok az_m_X8_ago = true := by decide +kernel
set_option maxRecDepth 100000 in
theorem az_co_X8_foretold : az_codeok az_m_X8_foretold = true := by decide +kernel
set_option maxRecDepth 100000 in
theorem az_co_X8_isRoom : az_codeok az_m_X8_isRoom = true := by decide +kernel
set_option maxRecDepth 100000 in
theorem az_co_X8_hat : az_codeok az_m_X8_hat = true := by decide +kernel
set_option maxRecDepth 100000 in
theorem az_co_X8_present : az_codeok az_m_X8_present = true := by decide +kernel
set_option maxRecDepth 100000 in
theorem az_co_X8_worthGone : az_codeok az_m_X8_worthGone = true := by decide +kernel
set_option maxRecDepth 100000 in
theorem az_co_X8_worthNext : az_codeok az_m_X8_worthNext = true := by decide +kernel
set_option maxRecDepth 100000 in
theorem az_co_X8_goOn : az_codeok az_m_X8_goOn = true := by decide +kernel
set_option maxRecDepth 100000 in
theorem az_co_X8_isNoSort : az_codeok az_m_X8_isNoSort = true := by decide +kernel
set_option maxRecDepth 100000 in
theorem az_co_X8_sort : az_codeok az_m_X8_sort = true := by decide +kernel
set_option maxRecDepth 100000 in
theorem az_co_X8_rule : az_codeok az_m_X8_rule = true := by decide +kernel
set_option maxRecDepth 100000 in
theorem az_co_X8_remembered : az_codeok az_m_X8_remembered = true := by decide +kernel
set_option maxRecDepth 100000 in
theorem az_co_X8_penny : az_codeok az_m_X8_penny = true := by decide +kernel
set_option maxRecDepth 100000 in
theorem az_co_X8_week : az_codeok az_m_X8_week = true := by decide +kernel
set_option maxRecDepth 100000 in
theorem az_co_X8_next : az_codeok az_m_X8_next = true := by decide +kernel
set_option maxRecDepth 100000 in
theorem az_co_X8_goes : az_codeok az_m_X8_goes = true := by decide +kernel
set_option maxRecDepth 100000 in
theorem az_co_X8_worth : az_codeok az_m_X8_worth = true := by decide +kernel
set_option maxRecDepth 100000 in
theorem az_co_X8_isWrong : az_codeok az_m_X8_isWrong = true := by decide +kernel
set_option maxRecDepth 100000 in
theorem az_co_X8_goAhead : az_codeok az_m_X8_goAhead = true := by decide +kernel
set_option maxRecDepth 100000 in
theorem az_co_X8_swungIn : az_codeok az_m_X8_swungIn = true := by decide +kernel
set_option maxRecDepth 100000 in
theorem az_co_X8_after : az_codeok az_m_X8_after = true := by decide +kernel
set_option maxRecDepth 100000 in
theorem az_co_X8_mean : az_codeok az_m_X8_mean = true := by decide +kernel
set_option maxRecDepth 100000 in
theorem az_co_X8_swing : az_codeok az_m_X8_swing = true := by decide +kernel
set_option maxRecDepth 100000 in
theorem az_co_X8_good : az_codeok az_m_X8_good = true := by decide +kernel
set_option maxRecDepth 100000 in
theorem az_co_X8_again : az_codeok az_m_X8_again = true := by decide +kernel
set_option maxRecDepth 100000 in
theorem az_co_X8_gains : az_codeok az_m_X8_gains = true := by decide +kernel
set_option maxRecDepth 100000 in
theorem az_co_X8_begin : az_codeok az_m_X8_begin = true := by decide +kernel
set_option maxRecDepth 100000 in
theorem az_co_X8_isNextPlan : az_codeok az_m_X8_isNextPlan = true := by decide +kernel
set_option maxRecDepth 100000 in
theorem az_co_X8_isAtRest : az_codeok az_m_X8_isAtRest = true := by decide +kernel
set_option maxRecDepth 100000 in
theorem az_co_X8_goThrough : az_codeok az_m_X8_goThrough = true := by decide +kernel
set_option maxRecDepth 100000 in
theorem az_co_X8_rests : az_codeok az_m_X8_rests = true := by decide +kernel
set_option maxRecDepth 100000 in
theorem az_co_X8_rest : az_codeok az_m_X8_rest = true := by decide +kernel
set_option maxRecDepth 100000 in
theorem az_co_X8_best : az_codeok az_m_X8_best = true := by decide +kernel
set_option maxRecDepth 100000 in
theorem az_co_X8_off : az_codeok az_m_X8_off = true := by decide +kernel
set_option maxRecDepth 100000 in
theorem az_co_X8_pennies : az_codeok az_m_X8_pennies = true := by decide +kernel
set_option maxRecDepth 100000 in
theorem az_co_X8_chairs : az_codeok az_m_X8_chairs = true := by decide +kernel
set_option maxRecDepth 100000 in
theorem az_co_X8_sees : az_codeok az_m_X8_sees = true := by decide +kernel
set_option maxRecDepth 100000 in
theorem az_co_X8_which : az_codeok az_m_X8_which = true := by decide +kernel
set_option maxRecDepth 100000 in
theorem az_co_X8_longer : az_codeok az_m_X8_longer = true := by decide +kernel
set_option maxRecDepth 100000 in
theorem az_co_X8_seeds : az_codeok az_m_X8_seeds = true := by decide +kernel
set_option maxRecDepth 100000 in
theorem az_co_X8_row : az_codeok az_m_X8_row = true := by decide +kernel
set_option maxRecDepth 100000 in
theorem az_co_X8_judge : az_codeok az_m_X8_judge = true := by decide +kernel
set_option maxRecDepth 100000 in
theorem az_co_X8_count : az_codeok az_m_X8_count = true := by decide +kernel
set_option maxRecDepth 100000 in
theorem az_co_J0_length_8abf5 : az_codeok az_m_J0_length_8abf5 = true := by decide +kernel
set_option maxRecDepth 100000 in
theorem az_co_J0_isEmpty_aae02 : az_codeok az_m_J0_isEmpty_aae02 = true := by decide +kernel
set_option maxRecDepth 100000 in
theorem az_co_J0_charAt_5068e : az_codeok az_m_J0_charAt_5068e = true := by decide +kernel
set_option maxRecDepth 100000 in
theorem az_co_J0_indexOf_0f7a4 : az_codeok az_m_J0_indexOf_0f7a4 = true := by decide +kernel
set_option maxRecDepth 100000 in
theorem az_co_J0_indexOf_7cf53 : az_codeok az_m_J0_indexOf_7cf53 = true := by decide +kernel
set_option maxRecDepth 100000 in
theorem az_co_J0_coder_7d493 : az_codeok az_m_J0_coder_7d493 = true := by decide +kernel
set_option maxRecDepth 100000 in
theorem az_co_J0_isLatin1_aae02 : az_codeok az_m_J0_isLatin1_aae02 = true := by decide +kernel
set_option maxRecDepth 100000 in
theorem az_co_J1_charAt_3b067 : az_codeok az_m_J1_charAt_3b067 = true := by decide +kernel
set_option maxRecDepth 100000 in
theorem az_co_J1_canEncode_9a6ad : az_codeok az_m_J1_canEncode_9a6ad = true := by decide +kernel
set_option maxRecDepth 100000 in
theorem az_co_J1_indexOf_4cfef : az_codeok az_m_J1_indexOf_4cfef = true := by decide +kernel
set_option maxRecDepth 100000 in
theorem az_co_J1_indexOfChar_4cfef : az_codeok az_m_J1_indexOfChar_4cfef = true := by decide +kernel
set_option maxRecDepth 100000 in
theorem az_co_J0_checkIndex_df160 : az_codeok az_m_J0_checkIndex_df160 = true := by decide +kernel
set_option maxRecDepth 100000 in
theorem az_co_J3_checkIndex_8e157 : az_codeok az_m_J3_checkIndex_8e157 = true := by decide +kernel
