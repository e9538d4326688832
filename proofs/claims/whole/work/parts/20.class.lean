/-! ===== the class: small methods ===== -/
def pAt (ad : NM → Nat) (np : Nat) (v : Int32) : Option Nat := if iw v 0 (nI np - 1) then some (ad (2, cl v, 0)) else none
def bAt (ad : NM → Nat) (nb : Nat) (v : Int32) : Option Nat := if iw v 0 (nI nb - 1) then some (ad (4, cl v, 0)) else none
theorem pAt_t {ad : NM → Nat} {np j : Nat} (h : iw (nI j) 0 (nI np - 1) = true) (hj : j < 2147483648) : pAt ad np (nI j) = some (ad (2, j, 0)) := by rw [pAt, if_pos h, cl_nI hj]
theorem pAt_f {ad : NM → Nat} {np : Nat} {v : Int32} (h : iw v 0 (nI np - 1) = false) : pAt ad np v = none := by rw [pAt, h]; rfl
theorem bAt_t {ad : NM → Nat} {nb j : Nat} (h : iw (nI j) 0 (nI nb - 1) = true) (hj : j < 2147483648) : bAt ad nb (nI j) = some (ad (4, j, 0)) := by rw [bAt, if_pos h, cl_nI hj]
theorem bAt_f {ad : NM → Nat} {nb : Nat} {v : Int32} (h : iw v 0 (nI nb - 1) = false) : bAt ad nb v = none := by rw [bAt, h]; rfl
set_option maxRecDepth 100000 in
set_option maxHeartbeats 4000000 in
theorem c_X4_profileAt (l : Launch) (G : GG) {ad : NM → Nat} {np nb : Nat} {Z : ZT} {L : LT} {h : AH} (hR : Rm ad np nb Z L h) (hnp : Z (0, 0, 0) 1 = nI np) (hp4 : np ≤ 4) {v : Int32} : Con l G mX4_profileAt 1 0 0 [.ref (ad (0, 0, 0)), .int v] h (fun r h2 => r = some (va_rf (pAt ad np v)) ∧ h2 = h) := by
  refine Con.of 0 rfl (Nat.le_of_ble_eq_true rfl) ?_
  refine j_iload_n dX4_profileAt_0 rfl ?_
  refine j_iconst (v := 0) dX4_profileAt_1 (by decide) ?_
  refine j_aload_n dX4_profileAt_2 rfl ?_
  refine gX4_39 rfl (hR.1 _ ⟨by first | assumption | exact Nat.zero_lt_one, rfl⟩) rfl dX4_profileAt_3 ?_
  refine j_iconst (v := 1) dX4_profileAt_6 (by decide) ?_
  refine j_isub dX4_profileAt_7 ?_
  refine j_callS (rest := []) (c_X4_within l G) cw_X4_within wl_X4_43 ws_X4_within rfl rfl (Nat.le_of_ble_eq_true rfl) (Nat.le_of_ble_eq_true rfl) (Nat.le_of_ble_eq_true rfl) (Nat.le_of_ble_eq_true rfl) (Nat.le_of_ble_eq_true rfl) dX4_profileAt_8 (fun v_8 h_8 e_8 => ?_)
  obtain ⟨rfl, hh⟩ := e_8
  have hh := hh.symm
  subst hh
  refine j_if_eq 23 dX4_profileAt_11 (by decide) (fun c_11 => ?_) (fun c_11 => ?_)
  · have g_11 := (bi_eq0 _).mp c_11
    rw [hnp] at g_11
    rw [pAt_f g_11]
    refine j_null dX4_profileAt_23 ?_
    refine j_aret (o := none) rfl (Or.inl ⟨_, rfl⟩) (Nat.le_of_ble_eq_true rfl) (Nat.le_of_ble_eq_true rfl) dX4_profileAt_24 ?_
    exact ⟨rfl, rfl⟩
  · have g_11 := (bi_ne0 _).mp c_11
    rw [hnp] at g_11
    obtain ⟨j, hj, rfl, -⟩ := iw_lt (by omega) g_11
    rw [pAt_t g_11 (by omega)]
    refine j_aload_n dX4_profileAt_14 rfl ?_
    refine gX4_11 rfl (hR.1 _ ⟨by first | assumption | exact Nat.zero_lt_one, rfl⟩) rfl dX4_profileAt_15 ?_
    refine j_iload_n dX4_profileAt_18 rfl ?_
    refine j_aldP (hR.1 _ ⟨by first | assumption | exact Nat.zero_lt_one, rfl⟩) j rfl (by omega) (by decide) dX4_profileAt_19 ?_
    rw [if_pos hj]
    refine j_goto 24 dX4_profileAt_20 (by decide) ?_
    refine j_aret (o := some _) rfl (Or.inl ⟨_, rfl⟩) (Nat.le_of_ble_eq_true rfl) (Nat.le_of_ble_eq_true rfl) dX4_profileAt_24 ?_
    exact ⟨rfl, rfl⟩

set_option maxRecDepth 100000 in
set_option maxHeartbeats 4000000 in
theorem c_X4_bellAt (l : Launch) (G : GG) {ad : NM → Nat} {np nb : Nat} {Z : ZT} {L : LT} {h : AH} (hR : Rm ad np nb Z L h) (hnb : Z (0, 0, 0) 3 = nI nb) (hb24 : nb ≤ 24) {v : Int32} : Con l G mX4_bellAt 1 0 0 [.ref (ad (0, 0, 0)), .int v] h (fun r h2 => r = some (va_rf (bAt ad nb v)) ∧ h2 = h) := by
  refine Con.of 0 rfl (Nat.le_of_ble_eq_true rfl) ?_
  refine j_iload_n dX4_bellAt_0 rfl ?_
  refine j_iconst (v := 0) dX4_bellAt_1 (by decide) ?_
  refine j_aload_n dX4_bellAt_2 rfl ?_
  refine gX4_85 rfl (hR.1 _ ⟨by first | assumption | exact Nat.zero_lt_one, rfl⟩) rfl dX4_bellAt_3 ?_
  refine j_iconst (v := 1) dX4_bellAt_6 (by decide) ?_
  refine j_isub dX4_bellAt_7 ?_
  refine j_callS (rest := []) (c_X4_within l G) cw_X4_within wl_X4_43 ws_X4_within rfl rfl (Nat.le_of_ble_eq_true rfl) (Nat.le_of_ble_eq_true rfl) (Nat.le_of_ble_eq_true rfl) (Nat.le_of_ble_eq_true rfl) (Nat.le_of_ble_eq_true rfl) dX4_bellAt_8 (fun v_8 h_8 e_8 => ?_)
  obtain ⟨rfl, hh⟩ := e_8
  have hh := hh.symm
  subst hh
  refine j_if_eq 23 dX4_bellAt_11 (by decide) (fun c_11 => ?_) (fun c_11 => ?_)
  · have g_11 := (bi_eq0 _).mp c_11
    rw [hnb] at g_11
    rw [bAt_f g_11]
    refine j_null dX4_bellAt_23 ?_
    refine j_aret (o := none) rfl (Or.inl ⟨_, rfl⟩) (Nat.le_of_ble_eq_true rfl) (Nat.le_of_ble_eq_true rfl) dX4_bellAt_24 ?_
    exact ⟨rfl, rfl⟩
  · have g_11 := (bi_ne0 _).mp c_11
    rw [hnb] at g_11
    obtain ⟨j, hj, rfl, -⟩ := iw_lt (by omega) g_11
    rw [bAt_t g_11 (by omega)]
    refine j_aload_n dX4_bellAt_14 rfl ?_
    refine gX4_17 rfl (hR.1 _ ⟨by first | assumption | exact Nat.zero_lt_one, rfl⟩) rfl dX4_bellAt_15 ?_
    refine j_iload_n dX4_bellAt_18 rfl ?_
    refine j_aldB (hR.1 _ ⟨by first | assumption | exact Nat.zero_lt_one, rfl⟩) j rfl (by omega) (by decide) dX4_bellAt_19 ?_
    rw [if_pos hj]
    refine j_goto 24 dX4_bellAt_20 (by decide) ?_
    refine j_aret (o := some _) rfl (Or.inl ⟨_, rfl⟩) (Nat.le_of_ble_eq_true rfl) (Nat.le_of_ble_eq_true rfl) dX4_bellAt_24 ?_
    exact ⟨rfl, rfl⟩

def xOld (Z : ZT) (w : Int32) : Int32 := if w < Z (0, 0, 0) 6 then w else Z (0, 0, 0) 6
def xRest (Z : ZT) (w : Int32) : Int32 := w - xOld Z w
def xCop (Z : ZT) (w : Int32) : Int32 := (77 * xRest Z w + 99) / 100
def xCh1 (Z : ZT) (w : Int32) : ZT := upZ Z (0, 0, 0) 6 (Z (0, 0, 0) 6 - xOld Z w)
def xCh2 (Z : ZT) (w : Int32) : ZT := upZ (xCh1 Z w) (0, 0, 0) 4 (xCh1 Z w (0, 0, 0) 4 - xCop Z w)
def xCh3 (Z : ZT) (w : Int32) : ZT := upZ (xCh2 Z w) (0, 0, 0) 5 (xCh2 Z w (0, 0, 0) 5 - (xRest Z w - xCop Z w))
def xChB (Z : ZT) (w : Int32) : Bool := !decide (Z (0, 0, 0) 4 < xCop Z w) && decide (xRest Z w - xCop Z w ≤ Z (0, 0, 0) 5)
set_option maxRecDepth 100000 in
set_option maxHeartbeats 4000000 in
theorem c_X4_charge (l : Launch) (G : GG) {ad : NM → Nat} {np nb : Nat} {Z : ZT} {L : LT} {h : AH} (hR : Rm ad np nb Z L h) {w : Int32} : Con l G mX4_charge 1 0 0 [.ref (ad (0, 0, 0)), .int w] h (fun r h2 => r = some (.int (bi (xChB Z w))) ∧ Rm ad np nb (if xChB Z w then xCh3 Z w else Z) L h2) := by
  refine Con.of 4 rfl (Nat.le_of_ble_eq_true rfl) ?_
  refine j_aload_n dX4_charge_0 rfl ?_
  refine gX4_130 rfl (hR.1 _ ⟨by first | assumption | exact Nat.zero_lt_one, rfl⟩) rfl dX4_charge_1 ?_
  refine j_iload_n dX4_charge_4 rfl ?_
  refine j_mmin wl_X4_199 ws_J9_min_7cf53 (Nat.le_of_ble_eq_true rfl) (Nat.le_of_ble_eq_true rfl) (Nat.le_of_ble_eq_true rfl) (Nat.le_of_ble_eq_true rfl) (Nat.le_of_ble_eq_true rfl) dX4_charge_5 ?_
  rw [show (if w < Z (0, 0, 0) 6 then w else Z (0, 0, 0) 6) = xOld Z w from rfl]
  refine j_istore_n dX4_charge_8 (Nat.le_of_ble_eq_true rfl) rfl ?_
  refine j_iload_n dX4_charge_9 rfl ?_
  refine j_iload_n dX4_charge_10 rfl ?_
  refine j_isub dX4_charge_11 ?_
  rw [show w - xOld Z w = xRest Z w from rfl]
  refine j_istore_n dX4_charge_12 (Nat.le_of_ble_eq_true rfl) rfl ?_
  refine j_bipush (v := 77) dX4_charge_13 (by decide) ?_
  refine j_iload_n dX4_charge_15 rfl ?_
  refine j_imul dX4_charge_16 ?_
  refine j_bipush (v := 99) dX4_charge_17 (by decide) ?_
  refine j_iadd dX4_charge_19 ?_
  refine j_bipush (v := 100) dX4_charge_20 (by decide) ?_
  refine j_idiv dX4_charge_22 (by decide) ?_
  rw [show (77 * xRest Z w + 99) / 100 = xCop Z w from rfl]
  refine j_istore dX4_charge_23 (Nat.le_of_ble_eq_true rfl) rfl ?_
  refine j_iload_n dX4_charge_25 rfl ?_
  refine j_iload dX4_charge_26 rfl ?_
  refine j_isub dX4_charge_28 ?_
  refine j_istore dX4_charge_29 (Nat.le_of_ble_eq_true rfl) rfl ?_
  refine j_iload dX4_charge_31 rfl ?_
  refine j_aload_n dX4_charge_33 rfl ?_
  refine gX4_78 rfl (hR.1 _ ⟨by first | assumption | exact Nat.zero_lt_one, rfl⟩) rfl dX4_charge_34 ?_
  refine j_icmp_gt 49 dX4_charge_37 (by decide) (fun c_37 => ?_) (fun c_37 => ?_)
  · refine j_iconst (v := 0) dX4_charge_49 (by decide) ?_
    refine j_zret rfl rfl (Nat.le_of_ble_eq_true rfl) (Nat.le_of_ble_eq_true rfl) dX4_charge_50 ?_
    exact ⟨by simp [xChB, bi, c_37], by simpa [xChB, c_37, xCh3, xCh2, xCh1] using hR⟩
  · refine j_iload dX4_charge_40 rfl ?_
    refine j_aload_n dX4_charge_42 rfl ?_
    refine gX4_82 rfl (hR.1 _ ⟨by first | assumption | exact Nat.zero_lt_one, rfl⟩) rfl dX4_charge_43 ?_
    refine j_icmp_le 51 dX4_charge_46 (by decide) (fun c_46 => ?_) (fun c_46 => ?_)
    · refine j_aload_n dX4_charge_51 rfl ?_
      refine j_dup dX4_charge_52 rfl ?_
      refine gX4_130 rfl (hR.1 _ ⟨by first | assumption | exact Nat.zero_lt_one, rfl⟩) rfl dX4_charge_53 ?_
      refine j_iload_n dX4_charge_56 rfl ?_
      refine j_isub dX4_charge_57 ?_
      refine qX4_130 rfl hR dX4_charge_58 (fun h hR => ?_)
      refine j_aload_n dX4_charge_61 rfl ?_
      refine j_dup dX4_charge_62 rfl ?_
      refine gX4_78 rfl (hR.1 _ ⟨by first | assumption | exact Nat.zero_lt_one, rfl⟩) rfl dX4_charge_63 ?_
      refine j_iload dX4_charge_66 rfl ?_
      refine j_isub dX4_charge_68 ?_
      refine qX4_78 rfl hR dX4_charge_69 (fun h hR => ?_)
      refine j_aload_n dX4_charge_72 rfl ?_
      refine j_dup dX4_charge_73 rfl ?_
      refine gX4_82 rfl (hR.1 _ ⟨by first | assumption | exact Nat.zero_lt_one, rfl⟩) rfl dX4_charge_74 ?_
      refine j_iload dX4_charge_77 rfl ?_
      refine j_isub dX4_charge_79 ?_
      refine qX4_82 rfl hR dX4_charge_80 (fun h hR => ?_)
      refine j_iconst (v := 1) dX4_charge_83 (by decide) ?_
      refine j_zret rfl rfl (Nat.le_of_ble_eq_true rfl) (Nat.le_of_ble_eq_true rfl) dX4_charge_84 ?_
      exact ⟨by simp [xChB, bi, c_37, c_46], by simpa [xChB, c_37, c_46, xCh3, xCh2, xCh1] using hR⟩
    · refine j_iconst (v := 0) dX4_charge_49 (by decide) ?_
      refine j_zret rfl rfl (Nat.le_of_ble_eq_true rfl) (Nat.le_of_ble_eq_true rfl) dX4_charge_50 ?_
      exact ⟨by simp [xChB, bi, c_37, c_46], by simpa [xChB, c_37, c_46, xCh3, xCh2, xCh1] using hR⟩

set_option maxRecDepth 100000 in
set_option maxHeartbeats 4000000 in
theorem c_X1_forget (l : Launch) (G : GG) {ad : NM → Nat} {np nb : Nat} {Z : ZT} {L : LT} {h : AH} (hR : Rm ad np nb Z L h)  : Con l G mX1_forget 0 0 0 [.ref (ad (1, 0, 0))] h (fun r h2 => r = none ∧ Rm ad np nb (upZ Z (1, 0, 0) 3 0) L h2) := by
  refine Con.of 0 rfl (Nat.le_of_ble_eq_true rfl) ?_
  refine j_aload_n dX1_forget_0 rfl ?_
  refine j_iconst (v := 0) dX1_forget_1 (by decide) ?_
  refine qX1_40 rfl hR rfl rfl dX1_forget_2 (fun h hR => ?_)
  refine j_vret rfl (Nat.le_of_ble_eq_true rfl) (Nat.le_of_ble_eq_true rfl) dX1_forget_5 ?_
  exact ⟨rfl, hR⟩

set_option maxRecDepth 100000 in
set_option maxHeartbeats 4000000 in
theorem c_X1_startAnew (l : Launch) (G : GG) {ad : NM → Nat} {np nb : Nat} {Z : ZT} {L : LT} {h : AH} (hR : Rm ad np nb Z L h) {a : Int32} : Con l G mX1_startAnew 0 0 0 [.ref (ad (1, 0, 0)), .int a] h (fun r h2 => r = none ∧ Rm ad np nb (upZ (upZ (upZ Z (1, 0, 0) 1 0) (1, 0, 0) 2 a) (1, 0, 0) 3 0) L h2) := by
  refine Con.of 0 rfl (Nat.le_of_ble_eq_true rfl) ?_
  refine j_aload_n dX1_startAnew_0 rfl ?_
  refine j_iconst (v := 0) dX1_startAnew_1 (by decide) ?_
  refine qX1_44 rfl hR dX1_startAnew_2 (fun h hR => ?_)
  refine j_aload_n dX1_startAnew_5 rfl ?_
  refine j_iload_n dX1_startAnew_6 rfl ?_
  refine qX1_48 rfl hR dX1_startAnew_7 (fun h hR => ?_)
  refine j_aload_n dX1_startAnew_10 rfl ?_
  refine j_iconst (v := 0) dX1_startAnew_11 (by decide) ?_
  refine qX1_40 rfl hR rfl rfl dX1_startAnew_12 (fun h hR => ?_)
  refine j_vret rfl (Nat.le_of_ble_eq_true rfl) (Nat.le_of_ble_eq_true rfl) dX1_startAnew_15 ?_
  exact ⟨rfl, hR⟩

def xAdd (Z : ZT) (nn : Nat) (s : Int32) : ZT := upZ (upZ (upZ Z (1, 0, 1) nn s) (1, 0, 0) 1 (nI (nn + 1))) (1, 0, 0) 3 0
set_option maxRecDepth 100000 in
set_option maxHeartbeats 4000000 in
theorem c_X1_addNote (l : Launch) (G : GG) {ad : NM → Nat} {np nb : Nat} {Z : ZT} {L : LT} {h : AH} (hR : Rm ad np nb Z L h) {nn : Nat} (hnn : Z (1, 0, 0) 1 = nI nn) (hn8 : nn < 8) {s : Int32} : Con l G mX1_addNote 0 0 0 [.ref (ad (1, 0, 0)), .int s] h (fun r h2 => r = none ∧ Rm ad np nb (xAdd Z nn s) L h2) := by
  refine Con.of 0 rfl (Nat.le_of_ble_eq_true rfl) ?_
  refine j_aload_n dX1_addNote_0 rfl ?_
  refine gX1_11 rfl (hR.1 _ ⟨by first | assumption | exact Nat.zero_lt_one, rfl⟩) rfl dX1_addNote_1 ?_
  refine j_aload_n dX1_addNote_4 rfl ?_
  refine gX1_44 rfl (hR.1 _ ⟨by first | assumption | exact Nat.zero_lt_one, rfl⟩) rfl dX1_addNote_5 ?_
  refine j_iload_n dX1_addNote_8 rfl ?_
  refine r_iast hR ⟨by first | assumption | exact Nat.zero_lt_one, rfl⟩ (fun _ => rfl) nn hnn hn8 (by decide) dX1_addNote_9 (fun h hR => ?_)
  refine j_aload_n dX1_addNote_10 rfl ?_
  refine j_dup dX1_addNote_11 rfl ?_
  refine gX1_44 rfl (hR.1 _ ⟨by first | assumption | exact Nat.zero_lt_one, rfl⟩) rfl dX1_addNote_12 ?_
  refine j_iconst (v := 1) dX1_addNote_15 (by decide) ?_
  refine j_iadd dX1_addNote_16 ?_
  rw [upZ_nk (Or.inl (by decide)), hnn, nI_1]
  refine qX1_44 rfl hR dX1_addNote_17 (fun h hR => ?_)
  refine j_aload_n dX1_addNote_20 rfl ?_
  refine j_iconst (v := 0) dX1_addNote_21 (by decide) ?_
  refine qX1_40 rfl hR rfl rfl dX1_addNote_22 (fun h hR => ?_)
  refine j_vret rfl (Nat.le_of_ble_eq_true rfl) (Nat.le_of_ble_eq_true rfl) dX1_addNote_25 ?_
  exact ⟨rfl, hR⟩

set_option maxRecDepth 100000 in
set_option maxHeartbeats 4000000 in
theorem c_X3_setSpan (l : Launch) (G : GG) {ad : NM → Nat} {np nb : Nat} {Z : ZT} {L : LT} {h : AH} (hR : Rm ad np nb Z L h) {q : Nat} (hq : q < 5) {a b : Int32} : Con l G mX3_setSpan 0 0 0 [.ref (ad (3, 0, 0)), .int (nI q), .int a, .int b] h (fun r h2 => r = none ∧ Rm ad np nb (upZ (upZ (upZ Z (3, 0, 1) q a) (3, 0, 2) q b) (3, 0, 0) 2 (Z (3, 0, 0) 2 + 1)) L h2) := by
  refine Con.of 0 rfl (Nat.le_of_ble_eq_true rfl) ?_
  refine j_aload_n dX3_setSpan_0 rfl ?_
  refine gX3_9 rfl (hR.1 _ ⟨by first | assumption | exact Nat.zero_lt_one, rfl⟩) rfl dX3_setSpan_1 ?_
  refine j_iload_n dX3_setSpan_4 rfl ?_
  refine j_iload_n dX3_setSpan_5 rfl ?_
  refine r_iast hR ⟨by first | assumption | exact Nat.zero_lt_one, rfl⟩ (fun _ => rfl) q rfl (by omega) (by decide) dX3_setSpan_6 (fun h hR => ?_)
  refine j_aload_n dX3_setSpan_7 rfl ?_
  refine gX3_15 rfl (hR.1 _ ⟨by first | assumption | exact Nat.zero_lt_one, rfl⟩) rfl dX3_setSpan_8 ?_
  refine j_iload_n dX3_setSpan_11 rfl ?_
  refine j_iload_n dX3_setSpan_12 rfl ?_
  refine r_iast hR ⟨by first | assumption | exact Nat.zero_lt_one, rfl⟩ (fun _ => rfl) q rfl (by omega) (by decide) dX3_setSpan_13 (fun h hR => ?_)
  refine j_aload_n dX3_setSpan_14 rfl ?_
  refine j_dup dX3_setSpan_15 rfl ?_
  refine gX3_36 rfl (hR.1 _ ⟨by first | assumption | exact Nat.zero_lt_one, rfl⟩) rfl dX3_setSpan_16 ?_
  refine j_iconst (v := 1) dX3_setSpan_19 (by decide) ?_
  refine j_iadd dX3_setSpan_20 ?_
  rw [upZ_nk (Or.inl (by decide)), upZ_nk (Or.inl (by decide))]
  refine qX3_36 rfl hR dX3_setSpan_21 (fun h hR => ?_)
  refine j_vret rfl (Nat.le_of_ble_eq_true rfl) (Nat.le_of_ble_eq_true rfl) dX3_setSpan_24 ?_
  exact ⟨rfl, hR⟩

set_option maxRecDepth 100000 in
set_option maxHeartbeats 4000000 in
theorem c_X2_setTable (l : Launch) (G : GG) {ad : NM → Nat} {np nb : Nat} {Z : ZT} {L : LT} {h : AH} (hR : Rm ad np nb Z L h) {p : Nat} (hp : p < np) {k : Nat} (hk : k < 8) {v : Int32} {q : Nat} (hq : q < 5) : Con l G mX2_setTable 1 0 0 [.ref (ad (2, p, 0)), .int (nI q), .int (nI k), .int v] h (fun r h2 => r = some (.int (bi (iw v (-50) 50))) ∧ Rm ad np nb (if iw v (-50) 50 then upZ Z (2, p, 3) (q * 8 + k) v else Z) L h2) := by
  refine Con.of 0 rfl (Nat.le_of_ble_eq_true rfl) ?_
  refine j_iload_n dX2_setTable_0 rfl ?_
  refine j_bipush (v := (-50)) dX2_setTable_1 (by decide) ?_
  refine j_bipush (v := 50) dX2_setTable_3 (by decide) ?_
  refine j_callSN (host := RX4) (rest := []) (c_X4_within l G) cw_X4_within (hl := fun s hs => hs.2.1) ws_X4_within rfl rfl (Nat.le_of_ble_eq_true rfl) (Nat.le_of_ble_eq_true rfl) (Nat.le_of_ble_eq_true rfl) (Nat.le_of_ble_eq_true rfl) (Nat.le_of_ble_eq_true rfl) dX2_setTable_5 (fun v_5 h_5 e_5 => ?_)
  obtain ⟨rfl, hh⟩ := e_5
  have hh := hh.symm
  subst hh
  refine j_if_ne 13 dX2_setTable_8 (by decide) (fun c_8 => ?_) (fun c_8 => ?_)
  · have g_8 := (bi_ne0 _).mp c_8
    refine j_aload_n dX2_setTable_13 rfl ?_
    refine gX2_19 rfl (hR.1 _ ⟨by first | assumption | exact Nat.zero_lt_one, rfl⟩) rfl dX2_setTable_14 ?_
    refine j_iload_n dX2_setTable_17 rfl ?_
    refine j_bipush (v := 8) dX2_setTable_18 (by decide) ?_
    refine j_imul dX2_setTable_20 ?_
    refine j_iload_n dX2_setTable_21 rfl ?_
    refine j_iadd dX2_setTable_22 ?_
    refine j_iload_n dX2_setTable_23 rfl ?_
    refine r_iast hR ⟨by first | assumption | exact Nat.zero_lt_one, rfl⟩ (fun _ => rfl) (q * 8 + k) (ix8 q k) (by omega) (by decide) dX2_setTable_24 (fun h hR => ?_)
    refine j_iconst (v := 1) dX2_setTable_25 (by decide) ?_
    refine j_zret rfl rfl (Nat.le_of_ble_eq_true rfl) (Nat.le_of_ble_eq_true rfl) dX2_setTable_26 ?_
    exact ⟨by simp [bi, g_8], by simpa [g_8] using hR⟩
  · have g_8 := (bi_eq0 _).mp c_8
    refine j_iconst (v := 0) dX2_setTable_11 (by decide) ?_
    refine j_zret rfl rfl (Nat.le_of_ble_eq_true rfl) (Nat.le_of_ble_eq_true rfl) dX2_setTable_12 ?_
    exact ⟨by simp [bi, g_8], by simpa [g_8] using hR⟩

set_option maxRecDepth 100000 in
set_option maxHeartbeats 4000000 in
theorem c_X2_setMetal (l : Launch) (G : GG) {ad : NM → Nat} {np nb : Nat} {Z : ZT} {L : LT} {h : AH} (hR : Rm ad np nb Z L h) {p : Nat} (hp : p < np) {k : Nat} (hk : k < 8) {v : Int32}  : Con l G mX2_setMetal 1 0 0 [.ref (ad (2, p, 0)), .int (nI k), .int v] h (fun r h2 => r = some (.int (bi (iw v 1 50))) ∧ Rm ad np nb (if iw v 1 50 then upZ Z (2, p, 4) k v else Z) L h2) := by
  refine Con.of 0 rfl (Nat.le_of_ble_eq_true rfl) ?_
  refine j_iload_n dX2_setMetal_0 rfl ?_
  refine j_iconst (v := 1) dX2_setMetal_1 (by decide) ?_
  refine j_bipush (v := 50) dX2_setMetal_2 (by decide) ?_
  refine j_callSN (host := RX4) (rest := []) (c_X4_within l G) cw_X4_within (hl := fun s hs => hs.2.1) ws_X4_within rfl rfl (Nat.le_of_ble_eq_true rfl) (Nat.le_of_ble_eq_true rfl) (Nat.le_of_ble_eq_true rfl) (Nat.le_of_ble_eq_true rfl) (Nat.le_of_ble_eq_true rfl) dX2_setMetal_4 (fun v_4 h_4 e_4 => ?_)
  obtain ⟨rfl, hh⟩ := e_4
  have hh := hh.symm
  subst hh
  refine j_if_ne 12 dX2_setMetal_7 (by decide) (fun c_7 => ?_) (fun c_7 => ?_)
  · have g_7 := (bi_ne0 _).mp c_7
    refine j_aload_n dX2_setMetal_12 rfl ?_
    refine gX2_22 rfl (hR.1 _ ⟨by first | assumption | exact Nat.zero_lt_one, rfl⟩) rfl dX2_setMetal_13 ?_
    refine j_iload_n dX2_setMetal_16 rfl ?_
    refine j_iload_n dX2_setMetal_17 rfl ?_
    refine r_iast hR ⟨by first | assumption | exact Nat.zero_lt_one, rfl⟩ (fun _ => rfl) k rfl (by omega) (by decide) dX2_setMetal_18 (fun h hR => ?_)
    refine j_iconst (v := 1) dX2_setMetal_19 (by decide) ?_
    refine j_zret rfl rfl (Nat.le_of_ble_eq_true rfl) (Nat.le_of_ble_eq_true rfl) dX2_setMetal_20 ?_
    exact ⟨by simp [bi, g_7], by simpa [g_7] using hR⟩
  · have g_7 := (bi_eq0 _).mp c_7
    refine j_iconst (v := 0) dX2_setMetal_10 (by decide) ?_
    refine j_zret rfl rfl (Nat.le_of_ble_eq_true rfl) (Nat.le_of_ble_eq_true rfl) dX2_setMetal_11 ?_
    exact ⟨by simp [bi, g_7], by simpa [g_7] using hR⟩

set_option maxRecDepth 100000 in
set_option maxHeartbeats 4000000 in
theorem c_X2_setLeast (l : Launch) (G : GG) {ad : NM → Nat} {np nb : Nat} {Z : ZT} {L : LT} {h : AH} (hR : Rm ad np nb Z L h) {p : Nat} (hp : p < np) {k : Nat} (hk : k < 8) {v : Int32}  : Con l G mX2_setLeast 1 0 0 [.ref (ad (2, p, 0)), .int (nI k), .int v] h (fun r h2 => r = some (.int (bi (iw v 0 (Z (2, p, 6) k)))) ∧ Rm ad np nb (if iw v 0 (Z (2, p, 6) k) then upZ Z (2, p, 5) k v else Z) L h2) := by
  refine Con.of 0 rfl (Nat.le_of_ble_eq_true rfl) ?_
  refine j_iload_n dX2_setLeast_0 rfl ?_
  refine j_iconst (v := 0) dX2_setLeast_1 (by decide) ?_
  refine j_aload_n dX2_setLeast_2 rfl ?_
  refine gX2_28 rfl (hR.1 _ ⟨by first | assumption | exact Nat.zero_lt_one, rfl⟩) rfl dX2_setLeast_3 ?_
  refine j_iload_n dX2_setLeast_6 rfl ?_
  refine j_iald (hR.1 _ ⟨by first | assumption | exact Nat.zero_lt_one, rfl⟩) k rfl (by omega) (by decide) dX2_setLeast_7 ?_
  refine j_callSN (host := RX4) (rest := []) (c_X4_within l G) cw_X4_within (hl := fun s hs => hs.2.1) ws_X4_within rfl rfl (Nat.le_of_ble_eq_true rfl) (Nat.le_of_ble_eq_true rfl) (Nat.le_of_ble_eq_true rfl) (Nat.le_of_ble_eq_true rfl) (Nat.le_of_ble_eq_true rfl) dX2_setLeast_8 (fun v_8 h_8 e_8 => ?_)
  obtain ⟨rfl, hh⟩ := e_8
  have hh := hh.symm
  subst hh
  refine j_if_ne 16 dX2_setLeast_11 (by decide) (fun c_11 => ?_) (fun c_11 => ?_)
  · have g_11 := (bi_ne0 _).mp c_11
    refine j_aload_n dX2_setLeast_16 rfl ?_
    refine gX2_25 rfl (hR.1 _ ⟨by first | assumption | exact Nat.zero_lt_one, rfl⟩) rfl dX2_setLeast_17 ?_
    refine j_iload_n dX2_setLeast_20 rfl ?_
    refine j_iload_n dX2_setLeast_21 rfl ?_
    refine r_iast hR ⟨by first | assumption | exact Nat.zero_lt_one, rfl⟩ (fun _ => rfl) k rfl (by omega) (by decide) dX2_setLeast_22 (fun h hR => ?_)
    refine j_iconst (v := 1) dX2_setLeast_23 (by decide) ?_
    refine j_zret rfl rfl (Nat.le_of_ble_eq_true rfl) (Nat.le_of_ble_eq_true rfl) dX2_setLeast_24 ?_
    exact ⟨by simp [bi, g_11], by simpa [g_11] using hR⟩
  · have g_11 := (bi_eq0 _).mp c_11
    refine j_iconst (v := 0) dX2_setLeast_14 (by decide) ?_
    refine j_zret rfl rfl (Nat.le_of_ble_eq_true rfl) (Nat.le_of_ble_eq_true rfl) dX2_setLeast_15 ?_
    exact ⟨by simp [bi, g_11], by simpa [g_11] using hR⟩

set_option maxRecDepth 100000 in
set_option maxHeartbeats 4000000 in
theorem c_X2_setThickness (l : Launch) (G : GG) {ad : NM → Nat} {np nb : Nat} {Z : ZT} {L : LT} {h : AH} (hR : Rm ad np nb Z L h) {p : Nat} (hp : p < np) {k : Nat} (hk : k < 8) {v : Int32}  : Con l G mX2_setThickness 1 0 0 [.ref (ad (2, p, 0)), .int (nI k), .int v] h (fun r h2 => r = some (.int (bi (iw v (Z (2, p, 5) k) 99))) ∧ Rm ad np nb (if iw v (Z (2, p, 5) k) 99 then upZ Z (2, p, 6) k v else Z) L h2) := by
  refine Con.of 0 rfl (Nat.le_of_ble_eq_true rfl) ?_
  refine j_iload_n dX2_setThickness_0 rfl ?_
  refine j_aload_n dX2_setThickness_1 rfl ?_
  refine gX2_25 rfl (hR.1 _ ⟨by first | assumption | exact Nat.zero_lt_one, rfl⟩) rfl dX2_setThickness_2 ?_
  refine j_iload_n dX2_setThickness_5 rfl ?_
  refine j_iald (hR.1 _ ⟨by first | assumption | exact Nat.zero_lt_one, rfl⟩) k rfl (by omega) (by decide) dX2_setThickness_6 ?_
  refine j_bipush (v := 99) dX2_setThickness_7 (by decide) ?_
  refine j_callSN (host := RX4) (rest := []) (c_X4_within l G) cw_X4_within (hl := fun s hs => hs.2.1) ws_X4_within rfl rfl (Nat.le_of_ble_eq_true rfl) (Nat.le_of_ble_eq_true rfl) (Nat.le_of_ble_eq_true rfl) (Nat.le_of_ble_eq_true rfl) (Nat.le_of_ble_eq_true rfl) dX2_setThickness_9 (fun v_9 h_9 e_9 => ?_)
  obtain ⟨rfl, hh⟩ := e_9
  have hh := hh.symm
  subst hh
  refine j_if_ne 17 dX2_setThickness_12 (by decide) (fun c_12 => ?_) (fun c_12 => ?_)
  · have g_12 := (bi_ne0 _).mp c_12
    refine j_aload_n dX2_setThickness_17 rfl ?_
    refine gX2_28 rfl (hR.1 _ ⟨by first | assumption | exact Nat.zero_lt_one, rfl⟩) rfl dX2_setThickness_18 ?_
    refine j_iload_n dX2_setThickness_21 rfl ?_
    refine j_iload_n dX2_setThickness_22 rfl ?_
    refine r_iast hR ⟨by first | assumption | exact Nat.zero_lt_one, rfl⟩ (fun _ => rfl) k rfl (by omega) (by decide) dX2_setThickness_23 (fun h hR => ?_)
    refine j_iconst (v := 1) dX2_setThickness_24 (by decide) ?_
    refine j_zret rfl rfl (Nat.le_of_ble_eq_true rfl) (Nat.le_of_ble_eq_true rfl) dX2_setThickness_25 ?_
    exact ⟨by simp [bi, g_12], by simpa [g_12] using hR⟩
  · have g_12 := (bi_eq0 _).mp c_12
    refine j_iconst (v := 0) dX2_setThickness_15 (by decide) ?_
    refine j_zret rfl rfl (Nat.le_of_ble_eq_true rfl) (Nat.le_of_ble_eq_true rfl) dX2_setThickness_16 ?_
    exact ⟨by simp [bi, g_12], by simpa [g_12] using hR⟩

def xTrim (Z : ZT) (b i : Nat) (c : Int32) : ZT := upZ (upZ (upZ (upZ Z (4, b, 3) i (Z (4, b, 3) i - c)) (4, b, 0) 8 (-1)) (0, 0, 0) 6 (Z (0, 0, 0) 6 + Z (6, b, 4) i * c)) (1, 0, 0) 3 0
set_option maxRecDepth 100000 in
set_option maxHeartbeats 4000000 in
theorem c_X4_trim (l : Launch) (G : GG) {ad : NM → Nat} {np nb : Nat} {Z : ZT} {L : LT} {h : AH} (hR : Rm ad np nb Z L h) {b : Nat} (hb : b < nb) {i : Nat} (hi : i < 8) {c : Int32} : Con l G mX4_trim 1 0 0 [.ref (ad (0, 0, 0)), .ref (ad (4, b, 0)), .int (nI i), .int c] h (fun r h2 => r = none ∧ Rm ad np nb (xTrim Z b i c) L h2) := by
  refine Con.of 0 rfl (Nat.le_of_ble_eq_true rfl) ?_
  refine j_aload_n dX4_trim_0 rfl ?_
  refine j_dup dX4_trim_1 rfl ?_
  refine gX4_130 rfl (hR.1 _ ⟨by first | assumption | exact Nat.zero_lt_one, rfl⟩) rfl dX4_trim_2 ?_
  refine j_aload_n dX4_trim_5 rfl ?_
  refine j_iload_n dX4_trim_6 rfl ?_
  refine j_iload_n dX4_trim_7 rfl ?_
  refine j_callV (rest := [.int (Z (0, 0, 0) 6), .ref (ad (0, 0, 0))]) (c_X0_takeOff l G hR hb hi) (hR.1 _ ⟨by first | assumption | exact Nat.zero_lt_one, rfl⟩) rfl cw_X0_takeOff wl_X4_204 wm_X0_takeOff wx_X0_takeOff rfl rfl (Nat.le_of_ble_eq_true rfl) (Nat.le_of_ble_eq_true rfl) (Nat.le_of_ble_eq_true rfl) (Nat.le_of_ble_eq_true rfl) (Nat.le_of_ble_eq_true rfl) dX4_trim_8 (fun v_8 h_8 e_8 => ?_)
  obtain ⟨rfl, hR⟩ := e_8
  refine j_iadd dX4_trim_11 ?_
  refine qX4_130 rfl hR dX4_trim_12 (fun h hR => ?_)
  refine j_aload_n dX4_trim_15 rfl ?_
  refine gX4_31 rfl (hR.1 _ ⟨by first | assumption | exact Nat.zero_lt_one, rfl⟩) rfl dX4_trim_16 ?_
  refine j_callV (rest := []) (c_X1_forget l G hR) (hR.1 _ ⟨by first | assumption | exact Nat.zero_lt_one, rfl⟩) rfl cw_X1_forget wl_X4_98 wm_X1_forget wx_X1_forget rfl rfl (Nat.le_of_ble_eq_true rfl) (Nat.le_of_ble_eq_true rfl) (Nat.le_of_ble_eq_true rfl) (Nat.le_of_ble_eq_true rfl) (Nat.le_of_ble_eq_true rfl) dX4_trim_19 (fun v_19 h_19 e_19 => ?_)
  obtain ⟨rfl, hR⟩ := e_19
  refine j_vret rfl (Nat.le_of_ble_eq_true rfl) (Nat.le_of_ble_eq_true rfl) dX4_trim_22 ?_
  exact ⟨rfl, hR⟩

def xShare (Z : ZT) (w : Int32) : Int32 := if iw w 0 4 then Z (0, 0, 10) (cl w) else 0
def xPull (Z : ZT) (b : Nat) (w s : Int32) : Int32 := if w = -1 then 0 else wNow Z b * s / 100
def xPulls (Z : ZT) (w s : Int32) : Nat → Int32
  | 0 => 0
  | n + 1 => xPulls Z w s n + xPull Z n (Z (4, n, 0) 5) (if Z (4, n, 0) 5 = w then s else xShare Z (Z (4, n, 0) 5))
def xMetal (Z : ZT) : Nat → Int32
  | 0 => 0
  | n + 1 => if Z (4, n, 0) 4 = 0 then xMetal Z n + wNow Z n else xMetal Z n
set_option maxRecDepth 100000 in
set_option maxHeartbeats 4000000 in
theorem c_X4_shareOf (l : Launch) (G : GG) {ad : NM → Nat} {np nb : Nat} {Z : ZT} {L : LT} {h : AH} (hR : Rm ad np nb Z L h) {w : Int32} : Con l G mX4_shareOf 2 0 0 [.ref (ad (0, 0, 0)), .int w] h (fun r h2 => r = some (.int (xShare Z w)) ∧ h2 = h) := by
  refine Con.of 0 rfl (Nat.le_of_ble_eq_true rfl) ?_
  refine j_iload_n dX4_shareOf_0 rfl ?_
  refine j_callS (rest := []) (c_X4_isWay l G) cw_X4_isWay wl_X4_180 ws_X4_isWay rfl rfl (Nat.le_of_ble_eq_true rfl) (Nat.le_of_ble_eq_true rfl) (Nat.le_of_ble_eq_true rfl) (Nat.le_of_ble_eq_true rfl) (Nat.le_of_ble_eq_true rfl) dX4_shareOf_1 (fun v_1 h_1 e_1 => ?_)
  obtain ⟨rfl, hh⟩ := e_1
  have hh := hh.symm
  subst hh
  refine j_if_eq 16 dX4_shareOf_4 (by decide) (fun c_4 => ?_) (fun c_4 => ?_)
  · have g_4 := (bi_eq0 _).mp c_4
    refine j_iconst (v := 0) dX4_shareOf_16 (by decide) ?_
    refine j_iret rfl (Nat.le_of_ble_eq_true rfl) (Nat.le_of_ble_eq_true rfl) dX4_shareOf_17 ?_
    exact ⟨by simp [xShare, g_4], rfl⟩
  · have g_4 := (bi_ne0 _).mp c_4
    obtain ⟨j, hj, rfl, hcl⟩ := iw_le (n := 4) (by omega) g_4
    have hcl : cl (nI j) = j := hcl
    refine j_aload_n dX4_shareOf_7 rfl ?_
    refine gX4_35 rfl (hR.1 _ ⟨by first | assumption | exact Nat.zero_lt_one, rfl⟩) rfl dX4_shareOf_8 ?_
    refine j_iload_n dX4_shareOf_11 rfl ?_
    refine j_iald (hR.1 _ ⟨by first | assumption | exact Nat.zero_lt_one, rfl⟩) j rfl (by omega) (by decide) dX4_shareOf_12 ?_
    refine j_goto 17 dX4_shareOf_13 (by decide) ?_
    refine j_iret rfl (Nat.le_of_ble_eq_true rfl) (Nat.le_of_ble_eq_true rfl) dX4_shareOf_17 ?_
    exact ⟨by simp [xShare, g_4, hcl], rfl⟩

set_option maxRecDepth 100000 in
set_option maxHeartbeats 4000000 in
theorem c_X4_pullBy (l : Launch) (G : GG) {ad : NM → Nat} {np nb : Nat} {Z : ZT} {L : LT} {h : AH} (hR : Rm ad np nb Z L h) {b : Nat} (hb : b < nb) {w s : Int32} : Con l G mX4_pullBy 2 0 0 [.ref (ad (4, b, 0)), .int w, .int s] h (fun r h2 => r = some (.int (xPull Z b w s)) ∧ h2 = h) := by
  refine Con.of 0 rfl (Nat.le_of_ble_eq_true rfl) ?_
  refine j_iload_n dX4_pullBy_0 rfl ?_
  refine j_iconst (v := (-1)) dX4_pullBy_1 (by decide) ?_
  refine j_icmp_ne 9 dX4_pullBy_2 (by decide) (fun c_2 => ?_) (fun c_2 => ?_)
  · refine j_aload_n dX4_pullBy_9 rfl ?_
    refine j_callV (rest := []) (c_X0_weightNow l G hR hb) (hR.1 _ ⟨by first | assumption | exact Nat.zero_lt_one, rfl⟩) rfl cw_X0_weightNow wl_X4_133 wm_X0_weightNow wx_X0_weightNow rfl rfl (Nat.le_of_ble_eq_true rfl) (Nat.le_of_ble_eq_true rfl) (Nat.le_of_ble_eq_true rfl) (Nat.le_of_ble_eq_true rfl) (Nat.le_of_ble_eq_true rfl) dX4_pullBy_10 (fun v_10 h_10 e_10 => ?_)
    obtain ⟨rfl, hh⟩ := e_10
    have hh := hh.symm
    subst hh
    refine j_iload_n dX4_pullBy_13 rfl ?_
    refine j_imul dX4_pullBy_14 ?_
    refine j_bipush (v := 100) dX4_pullBy_15 (by decide) ?_
    refine j_idiv dX4_pullBy_17 (by decide) ?_
    refine j_iret rfl (Nat.le_of_ble_eq_true rfl) (Nat.le_of_ble_eq_true rfl) dX4_pullBy_18 ?_
    exact ⟨by simp [xPull, c_2], rfl⟩
  · refine j_iconst (v := 0) dX4_pullBy_5 (by decide) ?_
    refine j_goto 18 dX4_pullBy_6 (by decide) ?_
    refine j_iret rfl (Nat.le_of_ble_eq_true rfl) (Nat.le_of_ble_eq_true rfl) dX4_pullBy_18 ?_
    exact ⟨by simp [xPull, c_2], rfl⟩

set_option maxRecDepth 100000 in
set_option maxHeartbeats 4000000 in
theorem c_X4_pullsIf (l : Launch) (G : GG) {ad : NM → Nat} {np nb : Nat} {Z : ZT} {L : LT} {h : AH} (hR : Rm ad np nb Z L h) (hnb : Z (0, 0, 0) 3 = nI nb) (hb24 : nb ≤ 24) {w s : Int32} : Con l G mX4_pullsIf 3 0 0 [.ref (ad (0, 0, 0)), .int w, .int s] h (fun r h2 => r = some (.int (xPulls Z w s nb)) ∧ h2 = h) := by
  have key : ∀ nn i, nb < i + nn → i ≤ nb → J (thM l G mX4_pullsIf 3 0 0 (fun r h2 => r = some (.int (xPulls Z w s nb)) ∧ h2 = h)) cX4_pullsIf h (0, 0) [some (.ref (ad (0, 0, 0))), some (.int w), some (.int s), some (.int (xPulls Z w s i)), some (.int (nI i)), none] 5 [] := by
    intro nn
    induction nn with
    | zero => intro i h1 h2; omega
    | succ nn ih =>
      intro i h1 h2 
      refine j_iload dX4_pullsIf_5 rfl ?_
      refine j_aload_n dX4_pullsIf_7 rfl ?_
      refine gX4_85 rfl (hR.1 _ ⟨by first | assumption | exact Nat.zero_lt_one, rfl⟩) rfl dX4_pullsIf_8 ?_
      refine j_icmp_ge 69 dX4_pullsIf_11 (by decide) (fun c_11 => ?_) (fun c_11 => ?_)
      · have hlt : nb ≤ i := (nI_leI (a := nb) (b := i) (by omega) (by omega)).mp (hnb ▸ c_11)
        obtain rfl : i = nb := by omega
        refine j_iload_n dX4_pullsIf_69 rfl ?_
        refine j_iret rfl (Nat.le_of_ble_eq_true rfl) (Nat.le_of_ble_eq_true rfl) dX4_pullsIf_70 ?_
        exact ⟨rfl, rfl⟩
      · have hlt : i < nb := Nat.not_le.mp (fun q => c_11 (hnb ▸ (nI_leI (a := nb) (b := i) (by omega) (by omega)).mpr q))
        refine j_aload_n dX4_pullsIf_14 rfl ?_
        refine gX4_17 rfl (hR.1 _ ⟨by first | assumption | exact Nat.zero_lt_one, rfl⟩) rfl dX4_pullsIf_15 ?_
        refine j_iload dX4_pullsIf_18 rfl ?_
        refine j_aldB (hR.1 _ ⟨by first | assumption | exact Nat.zero_lt_one, rfl⟩) i rfl (by omega) (by decide) dX4_pullsIf_20 ?_
        rw [if_pos hlt]
        refine j_astore dX4_pullsIf_21 (Nat.le_of_ble_eq_true rfl) rfl ?_
        refine j_aload dX4_pullsIf_23 rfl ?_
        refine j_ifnull dX4_pullsIf_25 ?_
        refine j_iload_n dX4_pullsIf_28 rfl ?_
        refine j_aload dX4_pullsIf_29 rfl ?_
        refine j_aload dX4_pullsIf_31 rfl ?_
        refine gX4_127 rfl (hR.1 _ ⟨by first | assumption | exact Nat.zero_lt_one, rfl⟩) rfl dX4_pullsIf_33 ?_
        refine j_aload dX4_pullsIf_36 rfl ?_
        refine gX4_127 rfl (hR.1 _ ⟨by first | assumption | exact Nat.zero_lt_one, rfl⟩) rfl dX4_pullsIf_38 ?_
        refine j_iload_n dX4_pullsIf_41 rfl ?_
        refine j_icmp_ne 49 dX4_pullsIf_42 (by decide) (fun c_42 => ?_) (fun c_42 => ?_)
        · refine j_aload_n dX4_pullsIf_49 rfl ?_
          refine j_aload dX4_pullsIf_50 rfl ?_
          refine gX4_127 rfl (hR.1 _ ⟨by first | assumption | exact Nat.zero_lt_one, rfl⟩) rfl dX4_pullsIf_52 ?_
          refine j_callV (rest := [.int (Z (4, i, 0) 5), .ref (ad (4, i, 0)), .int (xPulls Z w s i)]) (c_X4_shareOf l G hR) (hR.1 _ ⟨by first | assumption | exact Nat.zero_lt_one, rfl⟩) rfl cw_X4_shareOf wl_X4_140 wm_X4_shareOf wx_X4_shareOf rfl rfl (Nat.le_of_ble_eq_true rfl) (Nat.le_of_ble_eq_true rfl) (Nat.le_of_ble_eq_true rfl) (Nat.le_of_ble_eq_true rfl) (Nat.le_of_ble_eq_true rfl) dX4_pullsIf_55 (fun v_55 h_55 e_55 => ?_)
          obtain ⟨rfl, hh⟩ := e_55
          have hh := hh.symm
          subst hh
          refine j_callS (rest := [.int (xPulls Z w s i)]) (c_X4_pullBy l G hR hlt) cw_X4_pullBy wl_X4_143 ws_X4_pullBy rfl rfl (Nat.le_of_ble_eq_true rfl) (Nat.le_of_ble_eq_true rfl) (Nat.le_of_ble_eq_true rfl) (Nat.le_of_ble_eq_true rfl) (Nat.le_of_ble_eq_true rfl) dX4_pullsIf_58 (fun v_58 h_58 e_58 => ?_)
          obtain ⟨rfl, hh⟩ := e_58
          have hh := hh.symm
          subst hh
          refine j_iadd dX4_pullsIf_61 ?_
          refine j_istore_n dX4_pullsIf_62 (Nat.le_of_ble_eq_true rfl) rfl ?_
          refine j_iinc dX4_pullsIf_63 rfl (nI_inc _) (Nat.le_of_ble_eq_true rfl) rfl ?_
          refine j_goto 5 dX4_pullsIf_66 (by decide) ?_
          refine J.drop 5 ?_
          have k1 := ih (i + 1) (by omega) (by omega)
          rw [xPulls] at k1
          first | rw [if_pos c_42] at k1 | rw [if_neg c_42] at k1
          exact k1
        · refine j_iload_n dX4_pullsIf_45 rfl ?_
          refine j_goto 58 dX4_pullsIf_46 (by decide) ?_
          refine j_callS (rest := [.int (xPulls Z w s i)]) (c_X4_pullBy l G hR hlt) cw_X4_pullBy wl_X4_143 ws_X4_pullBy rfl rfl (Nat.le_of_ble_eq_true rfl) (Nat.le_of_ble_eq_true rfl) (Nat.le_of_ble_eq_true rfl) (Nat.le_of_ble_eq_true rfl) (Nat.le_of_ble_eq_true rfl) dX4_pullsIf_58 (fun v_58 h_58 e_58 => ?_)
          obtain ⟨rfl, hh⟩ := e_58
          have hh := hh.symm
          subst hh
          refine j_iadd dX4_pullsIf_61 ?_
          refine j_istore_n dX4_pullsIf_62 (Nat.le_of_ble_eq_true rfl) rfl ?_
          refine j_iinc dX4_pullsIf_63 rfl (nI_inc _) (Nat.le_of_ble_eq_true rfl) rfl ?_
          refine j_goto 5 dX4_pullsIf_66 (by decide) ?_
          refine J.drop 5 ?_
          have k1 := ih (i + 1) (by omega) (by omega)
          rw [xPulls] at k1
          first | rw [if_pos c_42] at k1 | rw [if_neg c_42] at k1
          exact k1
  refine Con.of 3 rfl (Nat.le_of_ble_eq_true rfl) ?_
  refine j_iconst (v := 0) dX4_pullsIf_0 (by decide) ?_
  refine j_istore_n dX4_pullsIf_1 (Nat.le_of_ble_eq_true rfl) rfl ?_
  refine j_iconst (v := 0) dX4_pullsIf_2 (by decide) ?_
  refine j_istore dX4_pullsIf_3 (Nat.le_of_ble_eq_true rfl) rfl ?_
  exact key (nb + 1) 0 (by omega) (by omega)

set_option maxRecDepth 100000 in
set_option maxHeartbeats 4000000 in
theorem c_X4_pullsTogether (l : Launch) (G : GG) {ad : NM → Nat} {np nb : Nat} {Z : ZT} {L : LT} {h : AH} (hR : Rm ad np nb Z L h) (hnb : Z (0, 0, 0) 3 = nI nb) (hb24 : nb ≤ 24)  : Con l G mX4_pullsTogether 4 0 0 [.ref (ad (0, 0, 0))] h (fun r h2 => r = some (.int (xPulls Z (-1) 0 nb)) ∧ h2 = h) := by
  refine Con.of 0 rfl (Nat.le_of_ble_eq_true rfl) ?_
  refine j_aload_n dX4_pullsTogether_0 rfl ?_
  refine j_iconst (v := (-1)) dX4_pullsTogether_1 (by decide) ?_
  refine j_iconst (v := 0) dX4_pullsTogether_2 (by decide) ?_
  refine j_callV (rest := []) (c_X4_pullsIf l G hR hnb hb24) (hR.1 _ ⟨by first | assumption | exact Nat.zero_lt_one, rfl⟩) rfl cw_X4_pullsIf wl_X4_183 wm_X4_pullsIf wx_X4_pullsIf rfl rfl (Nat.le_of_ble_eq_true rfl) (Nat.le_of_ble_eq_true rfl) (Nat.le_of_ble_eq_true rfl) (Nat.le_of_ble_eq_true rfl) (Nat.le_of_ble_eq_true rfl) dX4_pullsTogether_3 (fun v_3 h_3 e_3 => ?_)
  obtain ⟨rfl, hh⟩ := e_3
  have hh := hh.symm
  subst hh
  refine j_iret rfl (Nat.le_of_ble_eq_true rfl) (Nat.le_of_ble_eq_true rfl) dX4_pullsTogether_6 ?_
  exact ⟨rfl, rfl⟩

set_option maxRecDepth 100000 in
set_option maxHeartbeats 4000000 in
theorem c_X4_soundMetal (l : Launch) (G : GG) {ad : NM → Nat} {np nb : Nat} {Z : ZT} {L : LT} {h : AH} (hR : Rm ad np nb Z L h) (hnb : Z (0, 0, 0) 3 = nI nb) (hb24 : nb ≤ 24)  : Con l G mX4_soundMetal 2 0 0 [.ref (ad (0, 0, 0))] h (fun r h2 => r = some (.int (xMetal Z nb)) ∧ h2 = h) := by
  have key : ∀ nn i, nb < i + nn → i ≤ nb → J (thM l G mX4_soundMetal 2 0 0 (fun r h2 => r = some (.int (xMetal Z nb)) ∧ h2 = h)) cX4_soundMetal h (0, 0) [some (.ref (ad (0, 0, 0))), some (.int (xMetal Z i)), some (.int (nI i)), none] 4 [] := by
    intro nn
    induction nn with
    | zero => intro i h1 h2; omega
    | succ nn ih =>
      intro i h1 h2 
      refine j_iload_n dX4_soundMetal_4 rfl ?_
      refine j_aload_n dX4_soundMetal_5 rfl ?_
      refine gX4_85 rfl (hR.1 _ ⟨by first | assumption | exact Nat.zero_lt_one, rfl⟩) rfl dX4_soundMetal_6 ?_
      refine j_icmp_ge 43 dX4_soundMetal_9 (by decide) (fun c_9 => ?_) (fun c_9 => ?_)
      · have hlt : nb ≤ i := (nI_leI (a := nb) (b := i) (by omega) (by omega)).mp (hnb ▸ c_9)
        obtain rfl : i = nb := by omega
        refine j_iload_n dX4_soundMetal_43 rfl ?_
        refine j_iret rfl (Nat.le_of_ble_eq_true rfl) (Nat.le_of_ble_eq_true rfl) dX4_soundMetal_44 ?_
        exact ⟨rfl, rfl⟩
      · have hlt : i < nb := Nat.not_le.mp (fun q => c_9 (hnb ▸ (nI_leI (a := nb) (b := i) (by omega) (by omega)).mpr q))
        refine j_aload_n dX4_soundMetal_12 rfl ?_
        refine gX4_17 rfl (hR.1 _ ⟨by first | assumption | exact Nat.zero_lt_one, rfl⟩) rfl dX4_soundMetal_13 ?_
        refine j_iload_n dX4_soundMetal_16 rfl ?_
        refine j_aldB (hR.1 _ ⟨by first | assumption | exact Nat.zero_lt_one, rfl⟩) i rfl (by omega) (by decide) dX4_soundMetal_17 ?_
        rw [if_pos hlt]
        refine j_astore_n dX4_soundMetal_18 (Nat.le_of_ble_eq_true rfl) rfl ?_
        refine j_aload_n dX4_soundMetal_19 rfl ?_
        refine j_ifnull dX4_soundMetal_20 ?_
        refine j_aload_n dX4_soundMetal_23 rfl ?_
        refine gX4_124 rfl (hR.1 _ ⟨by first | assumption | exact Nat.zero_lt_one, rfl⟩) rfl dX4_soundMetal_24 ?_
        refine j_if_ne 37 dX4_soundMetal_27 (by decide) (fun c_27 => ?_) (fun c_27 => ?_)
        · refine j_iinc dX4_soundMetal_37 rfl (nI_inc _) (Nat.le_of_ble_eq_true rfl) rfl ?_
          refine j_goto 4 dX4_soundMetal_40 (by decide) ?_
          refine J.drop 3 ?_
          have k1 := ih (i + 1) (by omega) (by omega)
          simp only [xMetal, c_27, if_true, if_false] at k1
          exact k1
        · refine j_iload_n dX4_soundMetal_30 rfl ?_
          refine j_aload_n dX4_soundMetal_31 rfl ?_
          refine j_callV (rest := [.int (xMetal Z i)]) (c_X0_weightNow l G hR hlt) (hR.1 _ ⟨by first | assumption | exact Nat.zero_lt_one, rfl⟩) rfl cw_X0_weightNow wl_X4_133 wm_X0_weightNow wx_X0_weightNow rfl rfl (Nat.le_of_ble_eq_true rfl) (Nat.le_of_ble_eq_true rfl) (Nat.le_of_ble_eq_true rfl) (Nat.le_of_ble_eq_true rfl) (Nat.le_of_ble_eq_true rfl) dX4_soundMetal_32 (fun v_32 h_32 e_32 => ?_)
          obtain ⟨rfl, hh⟩ := e_32
          have hh := hh.symm
          subst hh
          refine j_iadd dX4_soundMetal_35 ?_
          refine j_istore_n dX4_soundMetal_36 (Nat.le_of_ble_eq_true rfl) rfl ?_
          refine j_iinc dX4_soundMetal_37 rfl (nI_inc _) (Nat.le_of_ble_eq_true rfl) rfl ?_
          refine j_goto 4 dX4_soundMetal_40 (by decide) ?_
          refine J.drop 3 ?_
          have k1 := ih (i + 1) (by omega) (by omega)
          simp only [xMetal, c_27, if_true, if_false] at k1
          exact k1
  refine Con.of 3 rfl (Nat.le_of_ble_eq_true rfl) ?_
  refine j_iconst (v := 0) dX4_soundMetal_0 (by decide) ?_
  refine j_istore_n dX4_soundMetal_1 (Nat.le_of_ble_eq_true rfl) rfl ?_
  refine j_iconst (v := 0) dX4_soundMetal_2 (by decide) ?_
  refine j_istore_n dX4_soundMetal_3 (Nat.le_of_ble_eq_true rfl) rfl ?_
  exact key (nb + 1) 0 (by omega) (by omega)

