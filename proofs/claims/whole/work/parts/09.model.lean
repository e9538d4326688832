/-! ===== the reference: small methods ===== -/
theorem iw_lt {v : Int32} {n : Nat} (hn : n < 2147483648) (h : iw v 0 (nI n - 1) = true) : ∃ j, j < n ∧ v = nI j ∧ v.toNatClampNeg = j := by
  obtain ⟨h1, h2⟩ := iw_iff.mp h
  have e0 : (0 : Int32).toInt = 0 := rfl
  have h1' : 0 ≤ v.toInt := by rw [← e0]; exact Int32.le_iff_toInt_le.mp h1
  have h2' := Int32.le_iff_toInt_le.mp h2
  cases n with
  | zero =>
    have e1 : (nI 0 - 1 : Int32).toInt = -1 := by decide
    rw [e1] at h2'
    omega
  | succ n =>
    rw [nI_pred, nI_toInt (by omega)] at h2'
    obtain ⟨j, hj, rfl⟩ := nI_of (x := v) (fun q => by have := Int32.lt_iff_toInt_lt.mp q; rw [e0] at this; omega)
    rw [nI_toInt hj] at h2'
    exact ⟨j, by omega, rfl, nI_clamp hj⟩
theorem iw_le {v : Int32} {n : Nat} (hn : n < 2147483648) (h : iw v 0 (nI n) = true) : ∃ j, j ≤ n ∧ v = nI j ∧ v.toNatClampNeg = j := by
  obtain ⟨h1, h2⟩ := iw_iff.mp h
  have e0 : (0 : Int32).toInt = 0 := rfl
  have h1' : 0 ≤ v.toInt := by rw [← e0]; exact Int32.le_iff_toInt_le.mp h1
  have h2' := Int32.le_iff_toInt_le.mp h2
  obtain ⟨j, hj, rfl⟩ := nI_of (x := v) (fun q => by have := Int32.lt_iff_toInt_lt.mp q; rw [e0] at this; omega)
  rw [nI_toInt hj, nI_toInt hn] at h2'
  exact ⟨j, by omega, rfl, nI_clamp hj⟩
def cl (v : Int32) : Nat := v.toNatClampNeg
theorem cl_nI {j : Nat} (h : j < 2147483648) : cl (nI j) = j := nI_clamp h
def itZ (f : Nat → ZT → ZT) (Z : ZT) : Nat → ZT
  | 0 => Z
  | k + 1 => f k (itZ f Z k)
/-- a way: none, or one of five -/
def wayOk (w : Int32) : Prop := w = -1 ∨ ∃ j, j < 5 ∧ w = nI j
def mW (Z : ZT) (b : Nat) : Int32 := wsum (Z (5, 0, 10) b) (fun i => Z (5, 0, 13) (8 * b + i)) (fun i => Z (5, 0, 11) (8 * b + i)) 8
def mP (Z : ZT) (b q : Nat) : Int32 := wsum (Z (5, 0, 14) (5 * b + q)) (fun i => Z (5, 0, 15) (40 * b + 8 * q + i)) (fun i => Z (5, 0, 11) (8 * b + i)) 8
def mCan (Z : ZT) (v : Int32) : Bool := iw v 0 (Z (5, 0, 0) 7 - 1) && decide (Z (5, 0, 16) (cl v) = 0) && decide (Z (5, 0, 17) (cl v) = 0)
def mPull (Z : ZT) (b : Nat) (w : Int32) : Int32 := if 0 ≤ w then mW Z b * Z (5, 0, 27) (cl w) / 100 else 0
def mPulls (Z : ZT) : Nat → Int32
  | 0 => 0
  | n + 1 => mPulls Z n + mPull Z n (Z (5, 0, 18) n)

theorem sw_5_18 {x : Int32} (h1 : ¬ x.toInt < 5) (h2 : ¬ 18 < x.toInt) : x = 5 ∨ x = 6 ∨ x = 7 ∨ x = 8 ∨ x = 9 ∨ x = 10 ∨ x = 11 ∨ x = 12 ∨ x = 13 ∨ x = 14 ∨ x = 15 ∨ x = 16 ∨ x = 17 ∨ x = 18 := by
  have hh : x.toInt = 5 ∨ x.toInt = 6 ∨ x.toInt = 7 ∨ x.toInt = 8 ∨ x.toInt = 9 ∨ x.toInt = 10 ∨ x.toInt = 11 ∨ x.toInt = 12 ∨ x.toInt = 13 ∨ x.toInt = 14 ∨ x.toInt = 15 ∨ x.toInt = 16 ∨ x.toInt = 17 ∨ x.toInt = 18 := by omega
  rcases hh with q | q | q | q | q | q | q | q | q | q | q | q | q | q
  · exact Or.inl (Int32.toInt_inj.mp q)
  · exact Or.inr (Or.inl (Int32.toInt_inj.mp q))
  · exact Or.inr (Or.inr (Or.inl (Int32.toInt_inj.mp q)))
  · exact Or.inr (Or.inr (Or.inr (Or.inl (Int32.toInt_inj.mp q))))
  · exact Or.inr (Or.inr (Or.inr (Or.inr (Or.inl (Int32.toInt_inj.mp q)))))
  · exact Or.inr (Or.inr (Or.inr (Or.inr (Or.inr (Or.inl (Int32.toInt_inj.mp q))))))
  · exact Or.inr (Or.inr (Or.inr (Or.inr (Or.inr (Or.inr (Or.inl (Int32.toInt_inj.mp q)))))))
  · exact Or.inr (Or.inr (Or.inr (Or.inr (Or.inr (Or.inr (Or.inr (Or.inl (Int32.toInt_inj.mp q))))))))
  · exact Or.inr (Or.inr (Or.inr (Or.inr (Or.inr (Or.inr (Or.inr (Or.inr (Or.inl (Int32.toInt_inj.mp q)))))))))
  · exact Or.inr (Or.inr (Or.inr (Or.inr (Or.inr (Or.inr (Or.inr (Or.inr (Or.inr (Or.inl (Int32.toInt_inj.mp q))))))))))
  · exact Or.inr (Or.inr (Or.inr (Or.inr (Or.inr (Or.inr (Or.inr (Or.inr (Or.inr (Or.inr (Or.inl (Int32.toInt_inj.mp q)))))))))))
  · exact Or.inr (Or.inr (Or.inr (Or.inr (Or.inr (Or.inr (Or.inr (Or.inr (Or.inr (Or.inr (Or.inr (Or.inl (Int32.toInt_inj.mp q))))))))))))
  · exact Or.inr (Or.inr (Or.inr (Or.inr (Or.inr (Or.inr (Or.inr (Or.inr (Or.inr (Or.inr (Or.inr (Or.inr (Or.inl (Int32.toInt_inj.mp q)))))))))))))
  · exact Or.inr (Or.inr (Or.inr (Or.inr (Or.inr (Or.inr (Or.inr (Or.inr (Or.inr (Or.inr (Or.inr (Or.inr (Or.inr ((Int32.toInt_inj.mp q))))))))))))))
theorem sw_0_9 {x : Int32} (h1 : ¬ x.toInt < 0) (h2 : ¬ 9 < x.toInt) : x = 0 ∨ x = 1 ∨ x = 2 ∨ x = 3 ∨ x = 4 ∨ x = 5 ∨ x = 6 ∨ x = 7 ∨ x = 8 ∨ x = 9 := by
  have hh : x.toInt = 0 ∨ x.toInt = 1 ∨ x.toInt = 2 ∨ x.toInt = 3 ∨ x.toInt = 4 ∨ x.toInt = 5 ∨ x.toInt = 6 ∨ x.toInt = 7 ∨ x.toInt = 8 ∨ x.toInt = 9 := by omega
  rcases hh with q | q | q | q | q | q | q | q | q | q
  · exact Or.inl (Int32.toInt_inj.mp q)
  · exact Or.inr (Or.inl (Int32.toInt_inj.mp q))
  · exact Or.inr (Or.inr (Or.inl (Int32.toInt_inj.mp q)))
  · exact Or.inr (Or.inr (Or.inr (Or.inl (Int32.toInt_inj.mp q))))
  · exact Or.inr (Or.inr (Or.inr (Or.inr (Or.inl (Int32.toInt_inj.mp q)))))
  · exact Or.inr (Or.inr (Or.inr (Or.inr (Or.inr (Or.inl (Int32.toInt_inj.mp q))))))
  · exact Or.inr (Or.inr (Or.inr (Or.inr (Or.inr (Or.inr (Or.inl (Int32.toInt_inj.mp q)))))))
  · exact Or.inr (Or.inr (Or.inr (Or.inr (Or.inr (Or.inr (Or.inr (Or.inl (Int32.toInt_inj.mp q))))))))
  · exact Or.inr (Or.inr (Or.inr (Or.inr (Or.inr (Or.inr (Or.inr (Or.inr (Or.inl (Int32.toInt_inj.mp q)))))))))
  · exact Or.inr (Or.inr (Or.inr (Or.inr (Or.inr (Or.inr (Or.inr (Or.inr (Or.inr ((Int32.toInt_inj.mp q))))))))))
theorem sw_5_7 {x : Int32} (h1 : ¬ x.toInt < 5) (h2 : ¬ 7 < x.toInt) : x = 5 ∨ x = 6 ∨ x = 7 := by
  have hh : x.toInt = 5 ∨ x.toInt = 6 ∨ x.toInt = 7 := by omega
  rcases hh with q | q | q
  · exact Or.inl (Int32.toInt_inj.mp q)
  · exact Or.inr (Or.inl (Int32.toInt_inj.mp q))
  · exact Or.inr (Or.inr ((Int32.toInt_inj.mp q)))
set_option maxRecDepth 100000 in
set_option maxHeartbeats 4000000 in
theorem c_X5_isBell (l : Launch) (G : GG) {ad : NM → Nat} {np nb : Nat} {Z : ZT} {L : LT} {h : AH} (hR : Rm ad np nb Z L h) {v : Int32} : Con l G mX5_isBell 1 0 0 [.ref (ad (5, 0, 0)), .int v] h (fun r h2 => r = some (.int (bi (iw v 0 (Z (5, 0, 0) 7 - 1)))) ∧ h2 = h) := by
  refine Con.of 0 rfl (Nat.le_of_ble_eq_true rfl) ?_
  refine j_iload_n dX5_isBell_0 rfl ?_
  refine j_iconst (v := 0) dX5_isBell_1 (by decide) ?_
  refine j_aload_n dX5_isBell_2 rfl ?_
  refine gX5_86 rfl (hR.1 _ ⟨by first | assumption | exact Nat.zero_lt_one, rfl⟩) rfl dX5_isBell_3 ?_
  refine j_iconst (v := 1) dX5_isBell_6 (by decide) ?_
  refine j_isub dX5_isBell_7 ?_
  refine j_callS (rest := []) (c_X5_in l G) cw_X5_in wl_X5_90 ws_X5_in rfl rfl (Nat.le_of_ble_eq_true rfl) (Nat.le_of_ble_eq_true rfl) (Nat.le_of_ble_eq_true rfl) (Nat.le_of_ble_eq_true rfl) (Nat.le_of_ble_eq_true rfl) dX5_isBell_8 (fun v_8 h_8 e_8 => ?_)
  obtain ⟨rfl, hh⟩ := e_8
  have hh := hh.symm
  subst hh
  refine j_zret rfl (bi_nar _) (Nat.le_of_ble_eq_true rfl) (Nat.le_of_ble_eq_true rfl) dX5_isBell_11 ?_
  exact ⟨rfl, rfl⟩

set_option maxRecDepth 100000 in
set_option maxHeartbeats 4000000 in
theorem c_X5_weightOf (l : Launch) (G : GG) {ad : NM → Nat} {np nb : Nat} {Z : ZT} {L : LT} {h : AH} (hR : Rm ad np nb Z L h) {b : Nat} (hb : b < 24) : Con l G mX5_weightOf 0 0 0 [.ref (ad (5, 0, 0)), .int (nI b)] h (fun r h2 => r = some (.int (mW Z b)) ∧ h2 = h) := by
  have key : ∀ nn i, 8 < i + nn → i ≤ 8 → J (thM l G mX5_weightOf 0 0 0 (fun r h2 => r = some (.int (mW Z b)) ∧ h2 = h)) cX5_weightOf h (0, 0) [some (.ref (ad (5, 0, 0))), some (.int (nI b)), some (.int (wsum (Z (5, 0, 10) b) (fun i => Z (5, 0, 13) (8 * b + i)) (fun i => Z (5, 0, 11) (8 * b + i)) i)), some (.int (nI (8 * b + i)))] 12 [] := by
    intro nn
    induction nn with
    | zero => intro i h1 h2; omega
    | succ nn ih =>
      intro i h1 h2 
      refine j_iload_n dX5_weightOf_12 rfl ?_
      refine j_bipush (v := 8) dX5_weightOf_13 (by decide) ?_
      refine j_iload_n dX5_weightOf_15 rfl ?_
      refine j_imul dX5_weightOf_16 ?_
      refine j_bipush (v := 8) dX5_weightOf_17 (by decide) ?_
      refine j_iadd dX5_weightOf_19 ?_
      refine j_icmp_ge 45 dX5_weightOf_20 (by decide) (fun c_20 => ?_) (fun c_20 => ?_)
      · have hlt : 8 * b + 8 ≤ 8 * b + i := (nI_leI (a := 8 * b + 8) (b := 8 * b + i) (by omega) (by omega)).mp ((xi8 b 8) ▸ c_20)
        obtain rfl : i = 8 := by omega
        refine j_iload_n dX5_weightOf_45 rfl ?_
        refine j_iret rfl (Nat.le_of_ble_eq_true rfl) (Nat.le_of_ble_eq_true rfl) dX5_weightOf_46 ?_
        exact ⟨rfl, rfl⟩
      · have hlt : i < 8 := by
          have := Nat.not_le.mp (fun q => c_20 ((xi8 b 8) ▸ (nI_leI (a := 8 * b + 8) (b := 8 * b + i) (by omega) (by omega)).mpr q))
          omega
        refine j_iload_n dX5_weightOf_23 rfl ?_
        refine j_aload_n dX5_weightOf_24 rfl ?_
        refine gX5_40 rfl (hR.1 _ ⟨by first | assumption | exact Nat.zero_lt_one, rfl⟩) rfl dX5_weightOf_25 ?_
        refine j_iload_n dX5_weightOf_28 rfl ?_
        refine j_iald (hR.1 _ ⟨by first | assumption | exact Nat.zero_lt_one, rfl⟩) _ rfl (by omega) (by decide) dX5_weightOf_29 ?_
        refine j_aload_n dX5_weightOf_30 rfl ?_
        refine gX5_34 rfl (hR.1 _ ⟨by first | assumption | exact Nat.zero_lt_one, rfl⟩) rfl dX5_weightOf_31 ?_
        refine j_iload_n dX5_weightOf_34 rfl ?_
        refine j_iald (hR.1 _ ⟨by first | assumption | exact Nat.zero_lt_one, rfl⟩) _ rfl (by omega) (by decide) dX5_weightOf_35 ?_
        refine j_imul dX5_weightOf_36 ?_
        refine j_iadd dX5_weightOf_37 ?_
        refine j_istore_n dX5_weightOf_38 (Nat.le_of_ble_eq_true rfl) rfl ?_
        refine j_iinc dX5_weightOf_39 rfl (nI_inc _) (Nat.le_of_ble_eq_true rfl) rfl ?_
        refine j_goto 12 dX5_weightOf_42 (by decide) ?_
        exact ih (i + 1) (by omega) (by omega)
  refine Con.of 2 rfl (Nat.le_of_ble_eq_true rfl) ?_
  refine j_aload_n dX5_weightOf_0 rfl ?_
  refine gX5_31 rfl (hR.1 _ ⟨by first | assumption | exact Nat.zero_lt_one, rfl⟩) rfl dX5_weightOf_1 ?_
  refine j_iload_n dX5_weightOf_4 rfl ?_
  refine j_iald (hR.1 _ ⟨by first | assumption | exact Nat.zero_lt_one, rfl⟩) _ rfl (by omega) (by decide) dX5_weightOf_5 ?_
  refine j_istore_n dX5_weightOf_6 (Nat.le_of_ble_eq_true rfl) rfl ?_
  refine j_bipush (v := 8) dX5_weightOf_7 (by decide) ?_
  refine j_iload_n dX5_weightOf_9 rfl ?_
  refine j_imul dX5_weightOf_10 ?_
  refine j_istore_n dX5_weightOf_11 (Nat.le_of_ble_eq_true rfl) rfl ?_
  rw [show (8 : Int32) * nI b = nI (8 * b + 0) from pk_mul 8 b]
  exact key 9 0 (by omega) (by omega)

set_option maxRecDepth 100000 in
set_option maxHeartbeats 4000000 in
theorem c_X5_partOf (l : Launch) (G : GG) {ad : NM → Nat} {np nb : Nat} {Z : ZT} {L : LT} {h : AH} (hR : Rm ad np nb Z L h) {b q : Nat} (hb : b < 24) (hq : q < 5) : Con l G mX5_partOf 0 0 0 [.ref (ad (5, 0, 0)), .int (nI b), .int (nI q)] h (fun r h2 => r = some (.int (mP Z b q)) ∧ h2 = h) := by
  have key : ∀ nn i, 8 < i + nn → i ≤ 8 → J (thM l G mX5_partOf 0 0 0 (fun r h2 => r = some (.int (mP Z b q)) ∧ h2 = h)) cX5_partOf h (0, 0) [some (.ref (ad (5, 0, 0))), some (.int (nI b)), some (.int (nI q)), some (.int (wsum (Z (5, 0, 14) (5 * b + q)) (fun i => Z (5, 0, 15) (40 * b + 8 * q + i)) (fun i => Z (5, 0, 11) (8 * b + i)) i)), some (.int (nI i))] 14 [] := by
    intro nn
    induction nn with
    | zero => intro i h1 h2; omega
    | succ nn ih =>
      intro i h1 h2 
      refine j_iload dX5_partOf_14 rfl ?_
      refine j_bipush (v := 8) dX5_partOf_16 (by decide) ?_
      refine j_icmp_ge 60 dX5_partOf_18 (by decide) (fun c_18 => ?_) (fun c_18 => ?_)
      · have hlt : 8 ≤ i := (nI_leI (a := 8) (b := i) (by omega) (by omega)).mp c_18
        obtain rfl : i = 8 := by omega
        refine j_iload_n dX5_partOf_60 rfl ?_
        refine j_iret rfl (Nat.le_of_ble_eq_true rfl) (Nat.le_of_ble_eq_true rfl) dX5_partOf_61 ?_
        exact ⟨rfl, rfl⟩
      · have hlt : i < 8 := Nat.not_le.mp (fun q => c_18 ((nI_leI (a := 8) (b := i) (by omega) (by omega)).mpr q))
        refine j_iload_n dX5_partOf_21 rfl ?_
        refine j_aload_n dX5_partOf_22 rfl ?_
        refine gX5_46 rfl (hR.1 _ ⟨by first | assumption | exact Nat.zero_lt_one, rfl⟩) rfl dX5_partOf_23 ?_
        refine j_bipush (v := 40) dX5_partOf_26 (by decide) ?_
        refine j_iload_n dX5_partOf_28 rfl ?_
        refine j_imul dX5_partOf_29 ?_
        refine j_bipush (v := 8) dX5_partOf_30 (by decide) ?_
        refine j_iload_n dX5_partOf_32 rfl ?_
        refine j_imul dX5_partOf_33 ?_
        refine j_iadd dX5_partOf_34 ?_
        refine j_iload dX5_partOf_35 rfl ?_
        refine j_iadd dX5_partOf_37 ?_
        refine j_iald (hR.1 _ ⟨by first | assumption | exact Nat.zero_lt_one, rfl⟩) (40 * b + 8 * q + i) (xi40 b q i) (by omega) (by decide) dX5_partOf_38 ?_
        refine j_aload_n dX5_partOf_39 rfl ?_
        refine gX5_34 rfl (hR.1 _ ⟨by first | assumption | exact Nat.zero_lt_one, rfl⟩) rfl dX5_partOf_40 ?_
        refine j_bipush (v := 8) dX5_partOf_43 (by decide) ?_
        refine j_iload_n dX5_partOf_45 rfl ?_
        refine j_imul dX5_partOf_46 ?_
        refine j_iload dX5_partOf_47 rfl ?_
        refine j_iadd dX5_partOf_49 ?_
        refine j_iald (hR.1 _ ⟨by first | assumption | exact Nat.zero_lt_one, rfl⟩) (8 * b + i) (xi8 b i) (by omega) (by decide) dX5_partOf_50 ?_
        refine j_imul dX5_partOf_51 ?_
        refine j_iadd dX5_partOf_52 ?_
        refine j_istore_n dX5_partOf_53 (Nat.le_of_ble_eq_true rfl) rfl ?_
        refine j_iinc dX5_partOf_54 rfl (nI_inc _) (Nat.le_of_ble_eq_true rfl) rfl ?_
        refine j_goto 14 dX5_partOf_57 (by decide) ?_
        exact ih (i + 1) (by omega) (by omega)
  refine Con.of 2 rfl (Nat.le_of_ble_eq_true rfl) ?_
  refine j_aload_n dX5_partOf_0 rfl ?_
  refine gX5_43 rfl (hR.1 _ ⟨by first | assumption | exact Nat.zero_lt_one, rfl⟩) rfl dX5_partOf_1 ?_
  refine j_iconst (v := 5) dX5_partOf_4 (by decide) ?_
  refine j_iload_n dX5_partOf_5 rfl ?_
  refine j_imul dX5_partOf_6 ?_
  refine j_iload_n dX5_partOf_7 rfl ?_
  refine j_iadd dX5_partOf_8 ?_
  refine j_iald (hR.1 _ ⟨by first | assumption | exact Nat.zero_lt_one, rfl⟩) (5 * b + q) (xi5 b q) (by omega) (by decide) dX5_partOf_9 ?_
  refine j_istore_n dX5_partOf_10 (Nat.le_of_ble_eq_true rfl) rfl ?_
  refine j_iconst (v := 0) dX5_partOf_11 (by decide) ?_
  refine j_istore dX5_partOf_12 (Nat.le_of_ble_eq_true rfl) rfl ?_
  exact key 9 0 (by omega) (by omega)

set_option maxRecDepth 100000 in
set_option maxHeartbeats 4000000 in
theorem c_X5_canCut (l : Launch) (G : GG) {ad : NM → Nat} {np nb : Nat} {Z : ZT} {L : LT} {h : AH} (hR : Rm ad np nb Z L h) {mb : Nat} (hmb : Z (5, 0, 0) 7 = nI mb) (hm : mb ≤ 24) {v : Int32} : Con l G mX5_canCut 2 0 0 [.ref (ad (5, 0, 0)), .int v] h (fun r h2 => r = some (.int (bi (mCan Z v))) ∧ h2 = h) := by
  refine Con.of 0 rfl (Nat.le_of_ble_eq_true rfl) ?_
  refine j_aload_n dX5_canCut_0 rfl ?_
  refine j_iload_n dX5_canCut_1 rfl ?_
  refine j_callV (rest := []) (c_X5_isBell l G hR) (hR.1 _ ⟨by first | assumption | exact Nat.zero_lt_one, rfl⟩) rfl cw_X5_isBell wl_X5_108 wm_X5_isBell wx_X5_isBell rfl rfl (Nat.le_of_ble_eq_true rfl) (Nat.le_of_ble_eq_true rfl) (Nat.le_of_ble_eq_true rfl) (Nat.le_of_ble_eq_true rfl) (Nat.le_of_ble_eq_true rfl) dX5_canCut_2 (fun v_2 h_2 e_2 => ?_)
  obtain ⟨rfl, hh⟩ := e_2
  have hh := hh.symm
  subst hh
  refine j_if_eq 30 dX5_canCut_5 (by decide) (fun c_5 => ?_) (fun c_5 => ?_)
  · have g_5 := (bi_eq0 _).mp c_5
    refine j_iconst (v := 0) dX5_canCut_30 (by decide) ?_
    refine j_zret rfl rfl (Nat.le_of_ble_eq_true rfl) (Nat.le_of_ble_eq_true rfl) dX5_canCut_31 ?_
    exact ⟨by simp [bi, mCan, g_5], rfl⟩
  · have g_5 := (bi_ne0 _).mp c_5
    obtain ⟨j, hj, rfl, hcl⟩ := iw_lt (by omega) (hmb ▸ g_5)
    have hcl : cl (nI j) = j := hcl
    refine j_aload_n dX5_canCut_8 rfl ?_
    refine gX5_49 rfl (hR.1 _ ⟨by first | assumption | exact Nat.zero_lt_one, rfl⟩) rfl dX5_canCut_9 ?_
    refine j_iload_n dX5_canCut_12 rfl ?_
    refine j_zald (hR.1 _ ⟨by first | assumption | exact Nat.zero_lt_one, rfl⟩) _ rfl (by omega) (by decide) dX5_canCut_13 ?_
    refine j_if_ne 30 dX5_canCut_14 (by decide) (fun c_14 => ?_) (fun c_14 => ?_)
    · refine j_iconst (v := 0) dX5_canCut_30 (by decide) ?_
      refine j_zret rfl rfl (Nat.le_of_ble_eq_true rfl) (Nat.le_of_ble_eq_true rfl) dX5_canCut_31 ?_
      exact ⟨by simp [bi, mCan, g_5, hcl, c_14], rfl⟩
    · refine j_aload_n dX5_canCut_17 rfl ?_
      refine gX5_53 rfl (hR.1 _ ⟨by first | assumption | exact Nat.zero_lt_one, rfl⟩) rfl dX5_canCut_18 ?_
      refine j_iload_n dX5_canCut_21 rfl ?_
      refine j_zald (hR.1 _ ⟨by first | assumption | exact Nat.zero_lt_one, rfl⟩) _ rfl (by omega) (by decide) dX5_canCut_22 ?_
      refine j_if_ne 30 dX5_canCut_23 (by decide) (fun c_23 => ?_) (fun c_23 => ?_)
      · refine j_iconst (v := 0) dX5_canCut_30 (by decide) ?_
        refine j_zret rfl rfl (Nat.le_of_ble_eq_true rfl) (Nat.le_of_ble_eq_true rfl) dX5_canCut_31 ?_
        exact ⟨by simp [bi, mCan, g_5, hcl, c_14, c_23], rfl⟩
      · refine j_iconst (v := 1) dX5_canCut_26 (by decide) ?_
        refine j_goto 31 dX5_canCut_27 (by decide) ?_
        refine j_zret rfl rfl (Nat.le_of_ble_eq_true rfl) (Nat.le_of_ble_eq_true rfl) dX5_canCut_31 ?_
        exact ⟨by simp [bi, mCan, g_5, hcl, c_14, c_23], rfl⟩

set_option maxRecDepth 100000 in
set_option maxHeartbeats 4000000 in
theorem c_X5_pull (l : Launch) (G : GG) {ad : NM → Nat} {np nb : Nat} {Z : ZT} {L : LT} {h : AH} (hR : Rm ad np nb Z L h) {b : Nat} (hb : b < 24) {w : Int32} (hw : wayOk w) : Con l G mX5_pull 1 0 0 [.ref (ad (5, 0, 0)), .int (nI b), .int w] h (fun r h2 => r = some (.int (mPull Z b w)) ∧ h2 = h) := by
  refine Con.of 0 rfl (Nat.le_of_ble_eq_true rfl) ?_
  refine j_iload_n dX5_pull_0 rfl ?_
  refine j_if_ge 8 dX5_pull_1 (by decide) (fun c_1 => ?_) (fun c_1 => ?_)
  · obtain ⟨j, hj, rfl⟩ : ∃ j, j < 5 ∧ w = nI j := by
      rcases hw with rfl | h9
      · exact absurd c_1 (by decide)
      · exact h9
    refine j_aload_n dX5_pull_8 rfl ?_
    refine j_iload_n dX5_pull_9 rfl ?_
    refine j_callV (rest := []) (c_X5_weightOf l G hR hb) (hR.1 _ ⟨by first | assumption | exact Nat.zero_lt_one, rfl⟩) rfl cw_X5_weightOf wl_X5_115 wm_X5_weightOf wx_X5_weightOf rfl rfl (Nat.le_of_ble_eq_true rfl) (Nat.le_of_ble_eq_true rfl) (Nat.le_of_ble_eq_true rfl) (Nat.le_of_ble_eq_true rfl) (Nat.le_of_ble_eq_true rfl) dX5_pull_10 (fun v_10 h_10 e_10 => ?_)
    obtain ⟨rfl, hh⟩ := e_10
    have hh := hh.symm
    subst hh
    refine j_aload_n dX5_pull_13 rfl ?_
    refine gX5_68 rfl (hR.1 _ ⟨by first | assumption | exact Nat.zero_lt_one, rfl⟩) rfl dX5_pull_14 ?_
    refine j_iload_n dX5_pull_17 rfl ?_
    refine j_iald (hR.1 _ ⟨by first | assumption | exact Nat.zero_lt_one, rfl⟩) j rfl hj (by decide) dX5_pull_18 ?_
    refine j_imul dX5_pull_19 ?_
    refine j_bipush (v := 100) dX5_pull_20 (by decide) ?_
    refine j_idiv dX5_pull_22 (by decide) ?_
    refine j_iret rfl (Nat.le_of_ble_eq_true rfl) (Nat.le_of_ble_eq_true rfl) dX5_pull_23 ?_
    first | exact ⟨by rw [mPull, if_neg c_1], rfl⟩ | exact ⟨by rw [mPull, if_pos c_1, cl_nI (by omega)], rfl⟩
  · refine j_iconst (v := 0) dX5_pull_4 (by decide) ?_
    refine j_goto 23 dX5_pull_5 (by decide) ?_
    refine j_iret rfl (Nat.le_of_ble_eq_true rfl) (Nat.le_of_ble_eq_true rfl) dX5_pull_23 ?_
    first | exact ⟨by rw [mPull, if_neg c_1], rfl⟩ | exact ⟨by rw [mPull, if_pos c_1, cl_nI (by omega)], rfl⟩

set_option maxRecDepth 100000 in
set_option maxHeartbeats 4000000 in
theorem c_X5_pulls (l : Launch) (G : GG) {ad : NM → Nat} {np nb : Nat} {Z : ZT} {L : LT} {h : AH} (hR : Rm ad np nb Z L h) {mb : Nat} (hmb : Z (5, 0, 0) 7 = nI mb) (hm : mb ≤ 24) (hg : ∀ b, b < mb → wayOk (Z (5, 0, 18) b)) : Con l G mX5_pulls 2 0 0 [.ref (ad (5, 0, 0))] h (fun r h2 => r = some (.int (mPulls Z mb)) ∧ h2 = h) := by
  have key : ∀ nn i, mb < i + nn → i ≤ mb → J (thM l G mX5_pulls 2 0 0 (fun r h2 => r = some (.int (mPulls Z mb)) ∧ h2 = h)) cX5_pulls h (0, 0) [some (.ref (ad (5, 0, 0))), some (.int (mPulls Z i)), some (.int (nI i))] 4 [] := by
    intro nn
    induction nn with
    | zero => intro i h1 h2; omega
    | succ nn ih =>
      intro i h1 h2 
      refine j_iload_n dX5_pulls_4 rfl ?_
      refine j_aload_n dX5_pulls_5 rfl ?_
      refine gX5_86 rfl (hR.1 _ ⟨by first | assumption | exact Nat.zero_lt_one, rfl⟩) rfl dX5_pulls_6 ?_
      refine j_icmp_ge 32 dX5_pulls_9 (by decide) (fun c_9 => ?_) (fun c_9 => ?_)
      · have hlt : mb ≤ i := (nI_leI (a := mb) (b := i) (by omega) (by omega)).mp (hmb ▸ c_9)
        obtain rfl : i = mb := by omega
        refine j_iload_n dX5_pulls_32 rfl ?_
        refine j_iret rfl (Nat.le_of_ble_eq_true rfl) (Nat.le_of_ble_eq_true rfl) dX5_pulls_33 ?_
        exact ⟨rfl, rfl⟩
      · have hlt : i < mb := Nat.not_le.mp (fun q => c_9 (hmb ▸ (nI_leI (a := mb) (b := i) (by omega) (by omega)).mpr q))
        refine j_iload_n dX5_pulls_12 rfl ?_
        refine j_aload_n dX5_pulls_13 rfl ?_
        refine j_iload_n dX5_pulls_14 rfl ?_
        refine j_aload_n dX5_pulls_15 rfl ?_
        refine gX5_56 rfl (hR.1 _ ⟨by first | assumption | exact Nat.zero_lt_one, rfl⟩) rfl dX5_pulls_16 ?_
        refine j_iload_n dX5_pulls_19 rfl ?_
        refine j_iald (hR.1 _ ⟨by first | assumption | exact Nat.zero_lt_one, rfl⟩) _ rfl (by omega) (by decide) dX5_pulls_20 ?_
        refine j_callV (rest := [.int (mPulls Z i)]) (c_X5_pull l G hR (b := i) (by omega) (hg i hlt)) (hR.1 _ ⟨by first | assumption | exact Nat.zero_lt_one, rfl⟩) rfl cw_X5_pull wl_X5_124 wm_X5_pull wx_X5_pull rfl rfl (Nat.le_of_ble_eq_true rfl) (Nat.le_of_ble_eq_true rfl) (Nat.le_of_ble_eq_true rfl) (Nat.le_of_ble_eq_true rfl) (Nat.le_of_ble_eq_true rfl) dX5_pulls_21 (fun v_21 h_21 e_21 => ?_)
        obtain ⟨rfl, hh⟩ := e_21
        have hh := hh.symm
        subst hh
        refine j_iadd dX5_pulls_24 ?_
        refine j_istore_n dX5_pulls_25 (Nat.le_of_ble_eq_true rfl) rfl ?_
        refine j_iinc dX5_pulls_26 rfl (nI_inc _) (Nat.le_of_ble_eq_true rfl) rfl ?_
        refine j_goto 4 dX5_pulls_29 (by decide) ?_
        exact ih (i + 1) (by omega) (by omega)
  refine Con.of 2 rfl (Nat.le_of_ble_eq_true rfl) ?_
  refine j_iconst (v := 0) dX5_pulls_0 (by decide) ?_
  refine j_istore_n dX5_pulls_1 (Nat.le_of_ble_eq_true rfl) rfl ?_
  refine j_iconst (v := 0) dX5_pulls_2 (by decide) ?_
  refine j_istore_n dX5_pulls_3 (Nat.le_of_ble_eq_true rfl) rfl ?_
  exact key (mb + 1) 0 (by omega) (by omega)

