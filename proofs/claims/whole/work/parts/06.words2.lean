/-! ===== small words ===== -/
def bi (b : Bool) : Int32 := if b then 1 else 0
theorem bi_t : bi true = 1 := rfl
theorem bi_f : bi false = 0 := rfl
theorem bi_eq0 (b : Bool) : bi b = 0 ↔ b = false := by cases b <;> decide
theorem bi_ne0 (b : Bool) : ¬ bi b = 0 ↔ b = true := by cases b <;> decide
theorem bi_nar (b : Bool) : narrow .boolean (.int (bi b)) = .int (bi b) := by cases b <;> rfl
theorem bi_fit (b : Bool) : fits .boolean (.int (bi b)) = true := by cases b <;> rfl
theorem nI_inc (a : Nat) : nI a + Int32.ofInt 1 = nI (a + 1) := nI_1 a
theorem nI_dec (a : Nat) : nI (a + 1) + Int32.ofInt (-1) = nI a := by
  rw [← nI_1]
  have h : ∀ x : Int32, x + 1 + Int32.ofInt (-1) = x := by
    intro x
    rw [Int32.add_assoc]
    show x + 0 = x
    exact Int32.add_zero x
  exact h _
/-- sum of products from w on: the first n places of f and g -/
def wsum (w : Int32) (f g : Nat → Int32) : Nat → Int32
  | 0 => w
  | n + 1 => wsum w f g n + f n * g n
def iw (v a b : Int32) : Bool := decide (a ≤ v) && decide (v ≤ b)
theorem iw_lo {v a b : Int32} (h : v < a) : iw v a b = false := by
  simp only [iw, Bool.and_eq_false_iff, decide_eq_false_iff_not]
  exact Or.inl (Int32.not_le.mpr h)
theorem iw_hi {v a b : Int32} (h : b < v) : iw v a b = false := by
  simp only [iw, Bool.and_eq_false_iff, decide_eq_false_iff_not]
  exact Or.inr (Int32.not_le.mpr h)
theorem iw_in {v a b : Int32} (h1 : ¬ v < a) (h2 : ¬ b < v) : iw v a b = true := by
  simp only [iw, Bool.and_eq_true, decide_eq_true_eq]
  exact ⟨Int32.not_lt.mp h1, Int32.not_lt.mp h2⟩
theorem iw_iff {v a b : Int32} : iw v a b = true ↔ a ≤ v ∧ v ≤ b := by
  simp only [iw, Bool.and_eq_true, decide_eq_true_eq]
theorem cw_X0_init : CW mX0_init 2 := ⟨wo_X0_init, wi_X0, by decide +kernel, by decide +kernel, by decide +kernel, by decide⟩
theorem cw_X0_weightNow : CW mX0_weightNow 0 := ⟨wo_X0_weightNow, wi_X0, by decide +kernel, by decide +kernel, by decide +kernel, by decide⟩
theorem cw_X0_partNow : CW mX0_partNow 1 := ⟨wo_X0_partNow, wi_X0, by decide +kernel, by decide +kernel, by decide +kernel, by decide⟩
theorem cw_X0_canBeTuned : CW mX0_canBeTuned 0 := ⟨wo_X0_canBeTuned, wi_X0, by decide +kernel, by decide +kernel, by decide +kernel, by decide⟩
theorem cw_X0_roomAt : CW mX0_roomAt 1 := ⟨wo_X0_roomAt, wi_X0, by decide +kernel, by decide +kernel, by decide +kernel, by decide⟩
theorem cw_X0_tableAt : CW mX0_tableAt 2 := ⟨wo_X0_tableAt, wi_X0, by decide +kernel, by decide +kernel, by decide +kernel, by decide⟩
theorem cw_X0_takeOff : CW mX0_takeOff 2 := ⟨wo_X0_takeOff, wi_X0, by decide +kernel, by decide +kernel, by decide +kernel, by decide⟩
theorem cw_X1_init : CW mX1_init 0 := ⟨wo_X1_init, wi_X1, by decide +kernel, by decide +kernel, by decide +kernel, by decide⟩
theorem cw_X1_forget : CW mX1_forget 0 := ⟨wo_X1_forget, wi_X1, by decide +kernel, by decide +kernel, by decide +kernel, by decide⟩
theorem cw_X1_addNote : CW mX1_addNote 1 := ⟨wo_X1_addNote, wi_X1, by decide +kernel, by decide +kernel, by decide +kernel, by decide⟩
theorem cw_X1_startAnew : CW mX1_startAnew 1 := ⟨wo_X1_startAnew, wi_X1, by decide +kernel, by decide +kernel, by decide +kernel, by decide⟩
theorem cw_X1_chosenWeight : CW mX1_chosenWeight 0 := ⟨wo_X1_chosenWeight, wi_X1, by decide +kernel, by decide +kernel, by decide +kernel, by decide⟩
theorem cw_X1_chosenBell : CW mX1_chosenBell 1 := ⟨wo_X1_chosenBell, wi_X1, by decide +kernel, by decide +kernel, by decide +kernel, by decide⟩
theorem cw_X1_choose : CW mX1_choose 2 := ⟨wo_X1_choose, wi_X1, by decide +kernel, by decide +kernel, by decide +kernel, by decide⟩
theorem cw_X1_placeOf : CW mX1_placeOf 1 := ⟨wo_X1_placeOf, wi_X1, by decide +kernel, by decide +kernel, by decide +kernel, by decide⟩
theorem cw_X1_numberOf : CW mX1_numberOf 2 := ⟨wo_X1_numberOf, wi_X1, by decide +kernel, by decide +kernel, by decide +kernel, by decide⟩
theorem cw_X1_weigh : CW mX1_weigh 2 := ⟨wo_X1_weigh, wi_X1, by decide +kernel, by decide +kernel, by decide +kernel, by decide⟩
theorem cw_X1_leastWithFirst : CW mX1_leastWithFirst 1 := ⟨wo_X1_leastWithFirst, wi_X1, by decide +kernel, by decide +kernel, by decide +kernel, by decide⟩
theorem cw_X1_seat : CW mX1_seat 2 := ⟨wo_X1_seat, wi_X1, by decide +kernel, by decide +kernel, by decide +kernel, by decide⟩
theorem cw_X1_moveHolders : CW mX1_moveHolders 1 := ⟨wo_X1_moveHolders, wi_X1, by decide +kernel, by decide +kernel, by decide +kernel, by decide⟩
theorem cw_X1_reachFrom : CW mX1_reachFrom 4 := ⟨wo_X1_reachFrom, wi_X1, by decide +kernel, by decide +kernel, by decide +kernel, by decide⟩
theorem cw_X1_nearestFree : CW mX1_nearestFree 0 := ⟨wo_X1_nearestFree, wi_X1, by decide +kernel, by decide +kernel, by decide +kernel, by decide⟩
theorem cw_X1_passAlong : CW mX1_passAlong 2 := ⟨wo_X1_passAlong, wi_X1, by decide +kernel, by decide +kernel, by decide +kernel, by decide⟩
theorem cw_X2_init : CW mX2_init 1 := ⟨wo_X2_init, wi_X2, by decide +kernel, by decide +kernel, by decide +kernel, by decide⟩
theorem cw_X2_init_ : CW mX2_init_ 1 := ⟨wo_X2_init_, wi_X2, by decide +kernel, by decide +kernel, by decide +kernel, by decide⟩
theorem cw_X2_setTable : CW mX2_setTable 3 := ⟨wo_X2_setTable, wi_X2, by decide +kernel, by decide +kernel, by decide +kernel, by decide⟩
theorem cw_X2_setMetal : CW mX2_setMetal 2 := ⟨wo_X2_setMetal, wi_X2, by decide +kernel, by decide +kernel, by decide +kernel, by decide⟩
theorem cw_X2_setLeast : CW mX2_setLeast 2 := ⟨wo_X2_setLeast, wi_X2, by decide +kernel, by decide +kernel, by decide +kernel, by decide⟩
theorem cw_X2_setThickness : CW mX2_setThickness 2 := ⟨wo_X2_setThickness, wi_X2, by decide +kernel, by decide +kernel, by decide +kernel, by decide⟩
theorem cw_X2_castWeight : CW mX2_castWeight 0 := ⟨wo_X2_castWeight, wi_X2, by decide +kernel, by decide +kernel, by decide +kernel, by decide⟩
theorem cw_X2_weightWith : CW mX2_weightWith 1 := ⟨wo_X2_weightWith, wi_X2, by decide +kernel, by decide +kernel, by decide +kernel, by decide⟩
theorem cw_X2_partWith : CW mX2_partWith 2 := ⟨wo_X2_partWith, wi_X2, by decide +kernel, by decide +kernel, by decide +kernel, by decide⟩
theorem cw_X3_init : CW mX3_init 0 := ⟨wo_X3_init, wi_X3, by decide +kernel, by decide +kernel, by decide +kernel, by decide⟩
theorem cw_X3_setSpan : CW mX3_setSpan 3 := ⟨wo_X3_setSpan, wi_X3, by decide +kernel, by decide +kernel, by decide +kernel, by decide⟩
theorem cw_X3_plan : CW mX3_plan 1 := ⟨wo_X3_plan, wi_X3, by decide +kernel, by decide +kernel, by decide +kernel, by decide⟩
theorem cw_X3_prepare : CW mX3_prepare 1 := ⟨wo_X3_prepare, wi_X3, by decide +kernel, by decide +kernel, by decide +kernel, by decide⟩
theorem cw_X3_boundTables : CW mX3_boundTables 3 := ⟨wo_X3_boundTables, wi_X3, by decide +kernel, by decide +kernel, by decide +kernel, by decide⟩
theorem cw_X3_search : CW mX3_search 4 := ⟨wo_X3_search, wi_X3, by decide +kernel, by decide +kernel, by decide +kernel, by decide⟩
theorem cw_X3_mayReach : CW mX3_mayReach 2 := ⟨wo_X3_mayReach, wi_X3, by decide +kernel, by decide +kernel, by decide +kernel, by decide⟩
theorem cw_X3_lower : CW mX3_lower 3 := ⟨wo_X3_lower, wi_X3, by decide +kernel, by decide +kernel, by decide +kernel, by decide⟩
theorem cw_X4_init : CW mX4_init 0 := ⟨wo_X4_init, wi_X4, by decide +kernel, by decide +kernel, by decide +kernel, by decide⟩
theorem cw_X4_profile : CW mX4_profile 1 := ⟨wo_X4_profile, wi_X4, by decide +kernel, by decide +kernel, by decide +kernel, by decide⟩
theorem cw_X4_shape : CW mX4_shape 4 := ⟨wo_X4_shape, wi_X4, by decide +kernel, by decide +kernel, by decide +kernel, by decide⟩
theorem cw_X4_base : CW mX4_base 3 := ⟨wo_X4_base, wi_X4, by decide +kernel, by decide +kernel, by decide +kernel, by decide⟩
theorem cw_X4_buy : CW mX4_buy 2 := ⟨wo_X4_buy, wi_X4, by decide +kernel, by decide +kernel, by decide +kernel, by decide⟩
theorem cw_X4_cast : CW mX4_cast 1 := ⟨wo_X4_cast, wi_X4, by decide +kernel, by decide +kernel, by decide +kernel, by decide⟩
theorem cw_X4_cut : CW mX4_cut 2 := ⟨wo_X4_cut, wi_X4, by decide +kernel, by decide +kernel, by decide +kernel, by decide⟩
theorem cw_X4_old : CW mX4_old 1 := ⟨wo_X4_old, wi_X4, by decide +kernel, by decide +kernel, by decide +kernel, by decide⟩
theorem cw_X4_crack : CW mX4_crack 1 := ⟨wo_X4_crack, wi_X4, by decide +kernel, by decide +kernel, by decide +kernel, by decide⟩
theorem cw_X4_bellOf : CW mX4_bellOf 2 := ⟨wo_X4_bellOf, wi_X4, by decide +kernel, by decide +kernel, by decide +kernel, by decide⟩
theorem cw_X4_span : CW mX4_span 3 := ⟨wo_X4_span, wi_X4, by decide +kernel, by decide +kernel, by decide +kernel, by decide⟩
theorem cw_X4_tuning : CW mX4_tuning 1 := ⟨wo_X4_tuning, wi_X4, by decide +kernel, by decide +kernel, by decide +kernel, by decide⟩
theorem cw_X4_tune : CW mX4_tune 1 := ⟨wo_X4_tune, wi_X4, by decide +kernel, by decide +kernel, by decide +kernel, by decide⟩
theorem cw_X4_tuningAt : CW mX4_tuningAt 2 := ⟨wo_X4_tuningAt, wi_X4, by decide +kernel, by decide +kernel, by decide +kernel, by decide⟩
theorem cw_X4_note : CW mX4_note 1 := ⟨wo_X4_note, wi_X4, by decide +kernel, by decide +kernel, by decide +kernel, by decide⟩
theorem cw_X4_ring : CW mX4_ring 1 := ⟨wo_X4_ring, wi_X4, by decide +kernel, by decide +kernel, by decide +kernel, by decide⟩
theorem cw_X4_ringWeight : CW mX4_ringWeight 0 := ⟨wo_X4_ringWeight, wi_X4, by decide +kernel, by decide +kernel, by decide +kernel, by decide⟩
theorem cw_X4_ringBell : CW mX4_ringBell 1 := ⟨wo_X4_ringBell, wi_X4, by decide +kernel, by decide +kernel, by decide +kernel, by decide⟩
theorem cw_X4_tower : CW mX4_tower 3 := ⟨wo_X4_tower, wi_X4, by decide +kernel, by decide +kernel, by decide +kernel, by decide⟩
theorem cw_X4_hang : CW mX4_hang 2 := ⟨wo_X4_hang, wi_X4, by decide +kernel, by decide +kernel, by decide +kernel, by decide⟩
theorem cw_X4_about : CW mX4_about 1 := ⟨wo_X4_about, wi_X4, by decide +kernel, by decide +kernel, by decide +kernel, by decide⟩
theorem cw_X4_within : CW mX4_within 3 := ⟨wo_X4_within, wi_X4, by decide +kernel, by decide +kernel, by decide +kernel, by decide⟩
theorem cw_X4_isHeight : CW mX4_isHeight 1 := ⟨wo_X4_isHeight, wi_X4, by decide +kernel, by decide +kernel, by decide +kernel, by decide⟩
theorem cw_X4_isPart : CW mX4_isPart 1 := ⟨wo_X4_isPart, wi_X4, by decide +kernel, by decide +kernel, by decide +kernel, by decide⟩
theorem cw_X4_isWay : CW mX4_isWay 1 := ⟨wo_X4_isWay, wi_X4, by decide +kernel, by decide +kernel, by decide +kernel, by decide⟩
theorem cw_X4_profileAt : CW mX4_profileAt 1 := ⟨wo_X4_profileAt, wi_X4, by decide +kernel, by decide +kernel, by decide +kernel, by decide⟩
theorem cw_X4_bellAt : CW mX4_bellAt 1 := ⟨wo_X4_bellAt, wi_X4, by decide +kernel, by decide +kernel, by decide +kernel, by decide⟩
theorem cw_X4_charge : CW mX4_charge 1 := ⟨wo_X4_charge, wi_X4, by decide +kernel, by decide +kernel, by decide +kernel, by decide⟩
theorem cw_X4_trim : CW mX4_trim 3 := ⟨wo_X4_trim, wi_X4, by decide +kernel, by decide +kernel, by decide +kernel, by decide⟩
theorem cw_X4_plannedCuts : CW mX4_plannedCuts 1 := ⟨wo_X4_plannedCuts, wi_X4, by decide +kernel, by decide +kernel, by decide +kernel, by decide⟩
theorem cw_X4_soundMetal : CW mX4_soundMetal 0 := ⟨wo_X4_soundMetal, wi_X4, by decide +kernel, by decide +kernel, by decide +kernel, by decide⟩
theorem cw_X4_shareOf : CW mX4_shareOf 1 := ⟨wo_X4_shareOf, wi_X4, by decide +kernel, by decide +kernel, by decide +kernel, by decide⟩
theorem cw_X4_pullBy : CW mX4_pullBy 3 := ⟨wo_X4_pullBy, wi_X4, by decide +kernel, by decide +kernel, by decide +kernel, by decide⟩
theorem cw_X4_pullsTogether : CW mX4_pullsTogether 0 := ⟨wo_X4_pullsTogether, wi_X4, by decide +kernel, by decide +kernel, by decide +kernel, by decide⟩
theorem cw_X4_pullsIf : CW mX4_pullsIf 2 := ⟨wo_X4_pullsIf, wi_X4, by decide +kernel, by decide +kernel, by decide +kernel, by decide⟩
theorem cw_X5_init : CW mX5_init 0 := ⟨wo_X5_init, wi_X5, by decide +kernel, by decide +kernel, by decide +kernel, by decide⟩
theorem cw_X5_in : CW mX5_in 3 := ⟨wo_X5_in, wi_X5, by decide +kernel, by decide +kernel, by decide +kernel, by decide⟩
theorem cw_X5_isBell : CW mX5_isBell 1 := ⟨wo_X5_isBell, wi_X5, by decide +kernel, by decide +kernel, by decide +kernel, by decide⟩
theorem cw_X5_profile : CW mX5_profile 1 := ⟨wo_X5_profile, wi_X5, by decide +kernel, by decide +kernel, by decide +kernel, by decide⟩
theorem cw_X5_shape : CW mX5_shape 4 := ⟨wo_X5_shape, wi_X5, by decide +kernel, by decide +kernel, by decide +kernel, by decide⟩
theorem cw_X5_base : CW mX5_base 3 := ⟨wo_X5_base, wi_X5, by decide +kernel, by decide +kernel, by decide +kernel, by decide⟩
theorem cw_X5_buy : CW mX5_buy 2 := ⟨wo_X5_buy, wi_X5, by decide +kernel, by decide +kernel, by decide +kernel, by decide⟩
theorem cw_X5_weightOf : CW mX5_weightOf 1 := ⟨wo_X5_weightOf, wi_X5, by decide +kernel, by decide +kernel, by decide +kernel, by decide⟩
theorem cw_X5_partOf : CW mX5_partOf 2 := ⟨wo_X5_partOf, wi_X5, by decide +kernel, by decide +kernel, by decide +kernel, by decide⟩
theorem cw_X5_cast : CW mX5_cast 1 := ⟨wo_X5_cast, wi_X5, by decide +kernel, by decide +kernel, by decide +kernel, by decide⟩
theorem cw_X5_canCut : CW mX5_canCut 1 := ⟨wo_X5_canCut, wi_X5, by decide +kernel, by decide +kernel, by decide +kernel, by decide⟩
theorem cw_X5_cut : CW mX5_cut 2 := ⟨wo_X5_cut, wi_X5, by decide +kernel, by decide +kernel, by decide +kernel, by decide⟩
theorem cw_X5_old : CW mX5_old 1 := ⟨wo_X5_old, wi_X5, by decide +kernel, by decide +kernel, by decide +kernel, by decide⟩
theorem cw_X5_crack : CW mX5_crack 1 := ⟨wo_X5_crack, wi_X5, by decide +kernel, by decide +kernel, by decide +kernel, by decide⟩
theorem cw_X5_pull : CW mX5_pull 2 := ⟨wo_X5_pull, wi_X5, by decide +kernel, by decide +kernel, by decide +kernel, by decide⟩
theorem cw_X5_bellOf : CW mX5_bellOf 2 := ⟨wo_X5_bellOf, wi_X5, by decide +kernel, by decide +kernel, by decide +kernel, by decide⟩
theorem cw_X5_span : CW mX5_span 3 := ⟨wo_X5_span, wi_X5, by decide +kernel, by decide +kernel, by decide +kernel, by decide⟩
theorem cw_X5_isTuned : CW mX5_isTuned 1 := ⟨wo_X5_isTuned, wi_X5, by decide +kernel, by decide +kernel, by decide +kernel, by decide⟩
theorem cw_X5_nextCuts : CW mX5_nextCuts 0 := ⟨wo_X5_nextCuts, wi_X5, by decide +kernel, by decide +kernel, by decide +kernel, by decide⟩
theorem cw_X5_seeks : CW mX5_seeks 1 := ⟨wo_X5_seeks, wi_X5, by decide +kernel, by decide +kernel, by decide +kernel, by decide⟩
theorem cw_X5_tuning : CW mX5_tuning 1 := ⟨wo_X5_tuning, wi_X5, by decide +kernel, by decide +kernel, by decide +kernel, by decide⟩
theorem cw_X5_tune : CW mX5_tune 1 := ⟨wo_X5_tune, wi_X5, by decide +kernel, by decide +kernel, by decide +kernel, by decide⟩
theorem cw_X5_tuningAt : CW mX5_tuningAt 2 := ⟨wo_X5_tuningAt, wi_X5, by decide +kernel, by decide +kernel, by decide +kernel, by decide⟩
theorem cw_X5_note : CW mX5_note 1 := ⟨wo_X5_note, wi_X5, by decide +kernel, by decide +kernel, by decide +kernel, by decide⟩
theorem cw_X5_ring : CW mX5_ring 1 := ⟨wo_X5_ring, wi_X5, by decide +kernel, by decide +kernel, by decide +kernel, by decide⟩
theorem cw_X5_agrees : CW mX5_agrees 3 := ⟨wo_X5_agrees, wi_X5, by decide +kernel, by decide +kernel, by decide +kernel, by decide⟩
theorem cw_X5_lightest : CW mX5_lightest 3 := ⟨wo_X5_lightest, wi_X5, by decide +kernel, by decide +kernel, by decide +kernel, by decide⟩
theorem cw_X5_rings : CW mX5_rings 0 := ⟨wo_X5_rings, wi_X5, by decide +kernel, by decide +kernel, by decide +kernel, by decide⟩
theorem cw_X5_fits : CW mX5_fits 5 := ⟨wo_X5_fits, wi_X5, by decide +kernel, by decide +kernel, by decide +kernel, by decide⟩
theorem cw_X5_ringWeight : CW mX5_ringWeight 0 := ⟨wo_X5_ringWeight, wi_X5, by decide +kernel, by decide +kernel, by decide +kernel, by decide⟩
theorem cw_X5_ringBell : CW mX5_ringBell 1 := ⟨wo_X5_ringBell, wi_X5, by decide +kernel, by decide +kernel, by decide +kernel, by decide⟩
theorem cw_X5_pulls : CW mX5_pulls 0 := ⟨wo_X5_pulls, wi_X5, by decide +kernel, by decide +kernel, by decide +kernel, by decide⟩
theorem cw_X5_tower : CW mX5_tower 3 := ⟨wo_X5_tower, wi_X5, by decide +kernel, by decide +kernel, by decide +kernel, by decide⟩
theorem cw_X5_hang : CW mX5_hang 2 := ⟨wo_X5_hang, wi_X5, by decide +kernel, by decide +kernel, by decide +kernel, by decide⟩
theorem cw_X5_about : CW mX5_about 1 := ⟨wo_X5_about, wi_X5, by decide +kernel, by decide +kernel, by decide +kernel, by decide⟩
theorem cw_J7_fill_d0a16 : CW mJ7_fill_d0a16 2 := ⟨wo_J7_fill_d0a16, wi_J7, by decide +kernel, by decide +kernel, by decide +kernel, by decide⟩
theorem cw_J7_fill_53178 : CW mJ7_fill_53178 2 := ⟨wo_J7_fill_53178, wi_J7, by decide +kernel, by decide +kernel, by decide +kernel, by decide⟩
