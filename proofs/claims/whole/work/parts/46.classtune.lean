def planX (Z : ZT) (b : Nat) (x : Int32) (Y : ZT) : Prop := (xCan Z b = false ∧ x = -1 ∧ Y = Z) ∨ (xCan Z b = true ∧ keepP b Z Y ∧ T8 Y ∧ Y (4, b, 0) 8 = Z (3, 0, 0) 2 ∧ planOK Y b ∧ x = Y (4, b, 0) 7)
def tuneZ (X : ZT) (b : Nat) (n : Nat) : ZT := itZ (fun k Y => xTrim Y b k (X (4, b, 7) k)) X n
theorem tuneZ_plan (X : ZT) (b n : Nat) : tuneZ X b n (4, b, 7) = X (4, b, 7) :=
  itZ_keep (fun k Y => by unfold xTrim; rw [upZ_ne (by simp), upZ_ne (by simp), upZ_ne (by simp), upZ_ne (by simp)]) n
def xTuning (nb : Nat) (v : Int32) (Z : ZT) (x : Int32) (Y : ZT) : Prop := (iw v 0 (nI nb - 1) = false ∧ x = -1 ∧ Y = Z) ∨ (iw v 0 (nI nb - 1) = true ∧ planX Z (cl v) x Y)
def xTune (nb : Nat) (v : Int32) (Z : ZT) (x : Int32) (Y : ZT) : Prop := (iw v 0 (nI nb - 1) = false ∧ x = -1 ∧ Y = Z) ∨ (iw v 0 (nI nb - 1) = true ∧ ∃ X, planX Z (cl v) x X ∧ Y = if x < 1 then X else tuneZ X (cl v) 8)
def xTunAt (nb : Nat) (v k : Int32) (Z : ZT) (r : Int32) (Y : ZT) : Prop := ((iw v 0 (nI nb - 1) && iw k 0 7) = false ∧ r = -1 ∧ Y = Z) ∨ (iw v 0 (nI nb - 1) = true ∧ iw k 0 7 = true ∧ ∃ x, planX Z (cl v) x Y ∧ r = if x = -1 then -1 else Y (4, cl v, 7) (cl k))
set_option maxRecDepth 100000 in
set_option maxHeartbeats 4000000 in
theorem c_X4_plannedCutsN (l : Launch) (G : GG) {ad : NM → Nat} {np nb : Nat} {Z : ZT} {L : LT} {h : AH} (hR : Rm ad np nb Z L h)  : Con l G mX4_plannedCuts 12 0 0 [.ref (ad (0, 0, 0)), .null] h (fun r h2 => r = some (.int (-1)) ∧ Rm ad np nb Z L h2) := by
  refine Con.of 0 rfl (Nat.le_of_ble_eq_true rfl) ?_
  refine j_aload_nN dX4_plannedCuts_0 rfl ?_
  refine j_ifnullN 11 dX4_plannedCuts_1 (by decide) ?_
  refine j_iconst (v := (-1)) dX4_plannedCuts_11 (by decide) ?_
  refine j_iret rfl (Nat.le_of_ble_eq_true rfl) (Nat.le_of_ble_eq_true rfl) dX4_plannedCuts_12 ?_
  exact ⟨rfl, hR⟩

set_option maxRecDepth 100000 in
set_option maxHeartbeats 4000000 in
theorem c_X4_plannedCuts (l : Launch) (G : GG) {ad : NM → Nat} {np nb : Nat} {Z : ZT} {L : LT} {h : AH} (hR : Rm ad np nb Z L h) {b : Nat} (hb : b < nb) (hBD : BD Z b) (hT8 : T8 Z) (hcache : Z (4, b, 0) 8 = Z (3, 0, 0) 2 → planOK Z b)  : Con l G mX4_plannedCuts 12 0 0 [.ref (ad (0, 0, 0)), .ref (ad (4, b, 0))] h (fun r h2 => ∃ x Y, r = some (.int x) ∧ Rm ad np nb Y L h2 ∧ planX Z b x Y) := by
  refine Con.of 0 rfl (Nat.le_of_ble_eq_true rfl) ?_
  refine j_aload_n dX4_plannedCuts_0 rfl ?_
  refine j_ifnull dX4_plannedCuts_1 ?_
  refine j_aload_n dX4_plannedCuts_4 rfl ?_
  refine j_callV (rest := []) (c_X0_canBeTuned l G hR hb) (hR.1 _ ⟨by first | assumption | exact Nat.zero_lt_one, rfl⟩) rfl cw_X0_canBeTuned wl_X4_105 wm_X0_canBeTuned wx_X0_canBeTuned rfl rfl (Nat.le_of_ble_eq_true rfl) (Nat.le_of_ble_eq_true rfl) (Nat.le_of_ble_eq_true rfl) (Nat.le_of_ble_eq_true rfl) (Nat.le_of_ble_eq_true rfl) dX4_plannedCuts_5 (fun v_5 h_5 e_5 => ?_)
  obtain ⟨rfl, hh⟩ := e_5
  have hh := hh.symm
  subst hh
  rw [show (decide (Z (4, b, 0) 3 = 0) && decide (Z (4, b, 0) 4 = 0)) = xCan Z b from rfl]
  refine j_if_ne 13 dX4_plannedCuts_8 (by decide) (fun c_8 => ?_) (fun c_8 => ?_)
  · have g_8 := (bi_ne0 _).mp c_8
    refine j_aload_n dX4_plannedCuts_13 rfl ?_
    refine gX4_24 rfl (hR.1 _ ⟨by first | assumption | exact Nat.zero_lt_one, rfl⟩) rfl dX4_plannedCuts_14 ?_
    refine j_aload_n dX4_plannedCuts_17 rfl ?_
    refine j_callV (rest := []) (c_X3_plan l G hR hb hBD hT8 hcache) (hR.1 _ ⟨by first | assumption | exact Nat.zero_lt_one, rfl⟩) rfl cw_X3_plan wl_X4_207 wm_X3_plan wx_X3_plan rfl rfl (Nat.le_of_ble_eq_true rfl) (Nat.le_of_ble_eq_true rfl) (Nat.le_of_ble_eq_true rfl) (Nat.le_of_ble_eq_true rfl) (Nat.le_of_ble_eq_true rfl) dX4_plannedCuts_18 (fun v_18 h_18 e_18 => ?_)
    obtain ⟨rfl, Y, hR, hk, hT, h8, hok⟩ := e_18
    refine j_aload_n dX4_plannedCuts_21 rfl ?_
    refine gX4_210 rfl (hR.1 _ ⟨by first | assumption | exact Nat.zero_lt_one, rfl⟩) rfl dX4_plannedCuts_22 ?_
    refine j_iret rfl (Nat.le_of_ble_eq_true rfl) (Nat.le_of_ble_eq_true rfl) dX4_plannedCuts_25 ?_
    exact ⟨_, _, rfl, hR, Or.inr ⟨g_8, hk, hT, h8, hok, rfl⟩⟩
  · have g_8 := (bi_eq0 _).mp c_8
    refine j_iconst (v := (-1)) dX4_plannedCuts_11 (by decide) ?_
    refine j_iret rfl (Nat.le_of_ble_eq_true rfl) (Nat.le_of_ble_eq_true rfl) dX4_plannedCuts_12 ?_
    exact ⟨_, _, rfl, hR, Or.inl ⟨g_8, rfl, rfl⟩⟩

set_option maxRecDepth 100000 in
set_option maxHeartbeats 4000000 in
theorem c_X4_tuning (l : Launch) (G : GG) {ad : NM → Nat} {np nb : Nat} {Z : ZT} {L : LT} {h : AH} (hR : Rm ad np nb Z L h) (hnb : Z (0, 0, 0) 3 = nI nb) (hb24 : nb ≤ 24) (hBD : ∀ b, b < nb → BD Z b) (hT8 : T8 Z) (hcache : ∀ b, b < nb → Z (4, b, 0) 8 = Z (3, 0, 0) 2 → planOK Z b) {v : Int32} : Con l G mX4_tuning 13 0 0 [.ref (ad (0, 0, 0)), .int v] h (fun r h2 => ∃ x Y, r = some (.int x) ∧ Rm ad np nb Y L h2 ∧ xTuning nb v Z x Y) := by
  refine Con.of 0 rfl (Nat.le_of_ble_eq_true rfl) ?_
  refine j_aload_n dX4_tuning_0 rfl ?_
  refine j_aload_n dX4_tuning_1 rfl ?_
  refine j_iload_n dX4_tuning_2 rfl ?_
  refine j_callV (rest := [.ref (ad (0, 0, 0))]) (c_X4_bellAt l G hR hnb hb24) (hR.1 _ ⟨by first | assumption | exact Nat.zero_lt_one, rfl⟩) rfl cw_X4_bellAt wl_X4_101 wm_X4_bellAt wx_X4_bellAt rfl rfl (Nat.le_of_ble_eq_true rfl) (Nat.le_of_ble_eq_true rfl) (Nat.le_of_ble_eq_true rfl) (Nat.le_of_ble_eq_true rfl) (Nat.le_of_ble_eq_true rfl) dX4_tuning_3 (fun v_3 h_3 e_3 => ?_)
  obtain ⟨rfl, hh⟩ := e_3
  have hh := hh.symm
  subst hh
  cases g : iw v 0 (nI nb - 1) with
  | true =>
    obtain ⟨j, hj, rfl, hcl⟩ := iw_lt (by omega) g
    have hcl : cl (nI j) = j := hcl
    rw [bAt_t g (by omega)]
    refine j_callV (rest := []) (c_X4_plannedCuts l G hR hj (hBD _ hj) hT8 (hcache _ hj)) (hR.1 _ ⟨by first | assumption | exact Nat.zero_lt_one, rfl⟩) rfl cw_X4_plannedCuts wl_X4_154 wm_X4_plannedCuts wx_X4_plannedCuts rfl rfl (Nat.le_of_ble_eq_true rfl) (Nat.le_of_ble_eq_true rfl) (Nat.le_of_ble_eq_true rfl) (Nat.le_of_ble_eq_true rfl) (Nat.le_of_ble_eq_true rfl) dX4_tuning_6 (fun v_6 h_6 e_6 => ?_)
    obtain ⟨x, Y, rfl, hR, hx⟩ := e_6
    refine j_iret rfl (Nat.le_of_ble_eq_true rfl) (Nat.le_of_ble_eq_true rfl) dX4_tuning_9 ?_
    exact ⟨_, _, rfl, hR, Or.inr ⟨g, by rw [hcl]; exact hx⟩⟩
  | false =>
    rw [bAt_f g]
    refine j_callV (rest := []) (c_X4_plannedCutsN l G hR) (hR.1 _ ⟨by first | assumption | exact Nat.zero_lt_one, rfl⟩) rfl cw_X4_plannedCuts wl_X4_154 wm_X4_plannedCuts wx_X4_plannedCuts rfl rfl (Nat.le_of_ble_eq_true rfl) (Nat.le_of_ble_eq_true rfl) (Nat.le_of_ble_eq_true rfl) (Nat.le_of_ble_eq_true rfl) (Nat.le_of_ble_eq_true rfl) dX4_tuning_6 (fun v_6 h_6 e_6 => ?_)
    obtain ⟨rfl, hR⟩ := e_6
    refine j_iret rfl (Nat.le_of_ble_eq_true rfl) (Nat.le_of_ble_eq_true rfl) dX4_tuning_9 ?_
    exact ⟨_, _, rfl, hR, Or.inl ⟨g, rfl, rfl⟩⟩

set_option maxRecDepth 100000 in
set_option maxHeartbeats 4000000 in
theorem c_X4_tune (l : Launch) (G : GG) {ad : NM → Nat} {np nb : Nat} {Z : ZT} {L : LT} {h : AH} (hR : Rm ad np nb Z L h) (hnb : Z (0, 0, 0) 3 = nI nb) (hb24 : nb ≤ 24) (hBD : ∀ b, b < nb → BD Z b) (hT8 : T8 Z) (hcache : ∀ b, b < nb → Z (4, b, 0) 8 = Z (3, 0, 0) 2 → planOK Z b) {v : Int32} : Con l G mX4_tune 13 0 0 [.ref (ad (0, 0, 0)), .int v] h (fun r h2 => ∃ x Y, r = some (.int x) ∧ Rm ad np nb Y L h2 ∧ xTune nb v Z x Y) := by
  refine Con.of 3 rfl (Nat.le_of_ble_eq_true rfl) ?_
  refine j_aload_n dX4_tune_0 rfl ?_
  refine j_iload_n dX4_tune_1 rfl ?_
  refine j_callV (rest := []) (c_X4_bellAt l G hR hnb hb24) (hR.1 _ ⟨by first | assumption | exact Nat.zero_lt_one, rfl⟩) rfl cw_X4_bellAt wl_X4_101 wm_X4_bellAt wx_X4_bellAt rfl rfl (Nat.le_of_ble_eq_true rfl) (Nat.le_of_ble_eq_true rfl) (Nat.le_of_ble_eq_true rfl) (Nat.le_of_ble_eq_true rfl) (Nat.le_of_ble_eq_true rfl) dX4_tune_2 (fun v_2 h_2 e_2 => ?_)
  obtain ⟨rfl, hh⟩ := e_2
  have hh := hh.symm
  subst hh
  cases g : iw v 0 (nI nb - 1) with
  | true =>
    obtain ⟨j, hj, rfl, hcl⟩ := iw_lt (by omega) g
    have hcl : cl (nI j) = j := hcl
    rw [bAt_t g (by omega)]
    refine j_astore_n dX4_tune_5 (Nat.le_of_ble_eq_true rfl) rfl ?_
    refine j_aload_n dX4_tune_6 rfl ?_
    refine j_aload_n dX4_tune_7 rfl ?_
    refine j_callV (rest := []) (c_X4_plannedCuts l G hR hj (hBD _ hj) hT8 (hcache _ hj)) (hR.1 _ ⟨by first | assumption | exact Nat.zero_lt_one, rfl⟩) rfl cw_X4_plannedCuts wl_X4_154 wm_X4_plannedCuts wx_X4_plannedCuts rfl rfl (Nat.le_of_ble_eq_true rfl) (Nat.le_of_ble_eq_true rfl) (Nat.le_of_ble_eq_true rfl) (Nat.le_of_ble_eq_true rfl) (Nat.le_of_ble_eq_true rfl) dX4_tune_8 (fun v_8 h_8 e_8 => ?_)
    obtain ⟨x, Y, rfl, hR, hx⟩ := e_8
    refine j_istore_n dX4_tune_11 (Nat.le_of_ble_eq_true rfl) rfl ?_
    refine j_aload_n dX4_tune_12 rfl ?_
    refine j_ifnull dX4_tune_13 ?_
    refine j_iload_n dX4_tune_16 rfl ?_
    refine j_iconst (v := 1) dX4_tune_17 (by decide) ?_
    refine j_icmp_ge 23 dX4_tune_18 (by decide) (fun c_18 => ?_) (fun c_18 => ?_)
    · refine j_iconst (v := 0) dX4_tune_23 (by decide) ?_
      refine j_istore dX4_tune_24 (Nat.le_of_ble_eq_true rfl) rfl ?_
      have key : ∀ nn i, 8 < i + nn → i ≤ 8 → ∀ h, Rm ad np nb (tuneZ Y j i) L h → J (thM l G mX4_tune 13 0 0 (fun r h2 => ∃ x Y, r = some (.int x) ∧ Rm ad np nb Y L h2 ∧ xTune nb (nI j) Z x Y)) cX4_tune h (0, 0) [some (.ref (ad (0, 0, 0))), some (.int (nI j)), some (.ref (ad (4, j, 0))), some (.int x), some (.int (nI i))] 26 [] := by
        intro nn
        induction nn with
        | zero => intro i h1 h2; omega
        | succ nn ih =>
          intro i h1 h2 h hR
          refine j_iload dX4_tune_26 rfl ?_
          refine j_bipush (v := 8) dX4_tune_28 (by decide) ?_
          refine j_icmp_ge 53 dX4_tune_30 (by decide) (fun c_30 => ?_) (fun c_30 => ?_)
          · have hl : 8 ≤ i := (nI_leI (a := 8) (b := i) (by omega) (by omega)).mp c_30
            obtain rfl : i = 8 := by omega
            refine j_iload_n dX4_tune_53 rfl ?_
            refine j_iret rfl (Nat.le_of_ble_eq_true rfl) (Nat.le_of_ble_eq_true rfl) dX4_tune_54 ?_
            exact ⟨_, _, rfl, hR, Or.inr ⟨g, Y, by rw [hcl]; exact hx, by rw [if_neg (fun q => Int32.not_le.mpr q c_18), hcl]⟩⟩
          · have hl : i < 8 := Nat.not_le.mp (fun q => c_30 ((nI_leI (a := 8) (b := i) (by omega) (by omega)).mpr q))
            refine j_aload_n dX4_tune_33 rfl ?_
            refine j_aload_n dX4_tune_34 rfl ?_
            refine j_iload dX4_tune_35 rfl ?_
            refine j_aload_n dX4_tune_37 rfl ?_
            refine gX4_158 rfl (hR.1 _ ⟨by first | assumption | exact Nat.zero_lt_one, rfl⟩) rfl dX4_tune_38 ?_
            refine j_iload dX4_tune_41 rfl ?_
            refine j_iald (hR.1 _ ⟨by first | assumption | exact Nat.zero_lt_one, rfl⟩) i rfl (by omega) (by decide) dX4_tune_43 ?_
            rw [show tuneZ Y j i (4, j, 7) i = Y (4, j, 7) i by rw [tuneZ_plan]]
            refine j_callV (rest := []) (c_X4_trim l G hR hj (i := i) (by omega)) (hR.1 _ ⟨by first | assumption | exact Nat.zero_lt_one, rfl⟩) rfl cw_X4_trim wl_X4_113 wm_X4_trim wx_X4_trim rfl rfl (Nat.le_of_ble_eq_true rfl) (Nat.le_of_ble_eq_true rfl) (Nat.le_of_ble_eq_true rfl) (Nat.le_of_ble_eq_true rfl) (Nat.le_of_ble_eq_true rfl) dX4_tune_44 (fun v_44 h_44 e_44 => ?_)
            obtain ⟨rfl, hR⟩ := e_44
            refine j_iinc dX4_tune_47 rfl (nI_inc _) (Nat.le_of_ble_eq_true rfl) rfl ?_
            refine j_goto 26 dX4_tune_50 (by decide) ?_
            exact ih (i + 1) (by omega) (by omega) _ hR
      
      exact key 9 0 (by omega) (by omega) _ hR
    · refine j_iload_n dX4_tune_21 rfl ?_
      refine j_iret rfl (Nat.le_of_ble_eq_true rfl) (Nat.le_of_ble_eq_true rfl) dX4_tune_22 ?_
      exact ⟨_, _, rfl, hR, Or.inr ⟨g, Y, by rw [hcl]; exact hx, by rw [if_pos (Int32.not_le.mp c_18)]⟩⟩
  | false =>
    rw [bAt_f g]
    refine j_astore_nN dX4_tune_5 (Nat.le_of_ble_eq_true rfl) rfl ?_
    refine j_aload_n dX4_tune_6 rfl ?_
    refine j_aload_nN dX4_tune_7 rfl ?_
    refine j_callV (rest := []) (c_X4_plannedCutsN l G hR) (hR.1 _ ⟨by first | assumption | exact Nat.zero_lt_one, rfl⟩) rfl cw_X4_plannedCuts wl_X4_154 wm_X4_plannedCuts wx_X4_plannedCuts rfl rfl (Nat.le_of_ble_eq_true rfl) (Nat.le_of_ble_eq_true rfl) (Nat.le_of_ble_eq_true rfl) (Nat.le_of_ble_eq_true rfl) (Nat.le_of_ble_eq_true rfl) dX4_tune_8 (fun v_8 h_8 e_8 => ?_)
    obtain ⟨rfl, hR⟩ := e_8
    refine j_istore_n dX4_tune_11 (Nat.le_of_ble_eq_true rfl) rfl ?_
    refine j_aload_nN dX4_tune_12 rfl ?_
    refine j_ifnullN 21 dX4_tune_13 (by decide) ?_
    refine j_iload_n dX4_tune_21 rfl ?_
    refine j_iret rfl (Nat.le_of_ble_eq_true rfl) (Nat.le_of_ble_eq_true rfl) dX4_tune_22 ?_
    exact ⟨_, _, rfl, hR, Or.inl ⟨g, rfl, rfl⟩⟩

set_option maxRecDepth 100000 in
set_option maxHeartbeats 4000000 in
theorem c_X4_tuningAt (l : Launch) (G : GG) {ad : NM → Nat} {np nb : Nat} {Z : ZT} {L : LT} {h : AH} (hR : Rm ad np nb Z L h) (hnb : Z (0, 0, 0) 3 = nI nb) (hb24 : nb ≤ 24) (hBD : ∀ b, b < nb → BD Z b) (hT8 : T8 Z) (hcache : ∀ b, b < nb → Z (4, b, 0) 8 = Z (3, 0, 0) 2 → planOK Z b) {v k : Int32} : Con l G mX4_tuningAt 13 0 0 [.ref (ad (0, 0, 0)), .int v, .int k] h (fun r h2 => ∃ x Y, r = some (.int x) ∧ Rm ad np nb Y L h2 ∧ xTunAt nb v k Z x Y) := by
  refine Con.of 1 rfl (Nat.le_of_ble_eq_true rfl) ?_
  refine j_aload_n dX4_tuningAt_0 rfl ?_
  refine j_iload_n dX4_tuningAt_1 rfl ?_
  refine j_callV (rest := []) (c_X4_bellAt l G hR hnb hb24) (hR.1 _ ⟨by first | assumption | exact Nat.zero_lt_one, rfl⟩) rfl cw_X4_bellAt wl_X4_101 wm_X4_bellAt wx_X4_bellAt rfl rfl (Nat.le_of_ble_eq_true rfl) (Nat.le_of_ble_eq_true rfl) (Nat.le_of_ble_eq_true rfl) (Nat.le_of_ble_eq_true rfl) (Nat.le_of_ble_eq_true rfl) dX4_tuningAt_2 (fun v_2 h_2 e_2 => ?_)
  obtain ⟨rfl, hh⟩ := e_2
  have hh := hh.symm
  subst hh
  cases g : iw v 0 (nI nb - 1) with
  | true =>
    obtain ⟨j, hj, rfl, hcl⟩ := iw_lt (by omega) g
    have hcl : cl (nI j) = j := hcl
    rw [bAt_t g (by omega)]
    refine j_astore_n dX4_tuningAt_5 (Nat.le_of_ble_eq_true rfl) rfl ?_
    refine j_aload_n dX4_tuningAt_6 rfl ?_
    refine j_ifnull dX4_tuningAt_7 ?_
    refine j_iload_n dX4_tuningAt_10 rfl ?_
    refine j_callS (rest := []) (c_X4_isHeight l G) cw_X4_isHeight wl_X4_54 ws_X4_isHeight rfl rfl (Nat.le_of_ble_eq_true rfl) (Nat.le_of_ble_eq_true rfl) (Nat.le_of_ble_eq_true rfl) (Nat.le_of_ble_eq_true rfl) (Nat.le_of_ble_eq_true rfl) dX4_tuningAt_11 (fun v_11 h_11 e_11 => ?_)
    obtain ⟨rfl, hh⟩ := e_11
    have hh := hh.symm
    subst hh
    refine j_if_eq 26 dX4_tuningAt_14 (by decide) (fun c_14 => ?_) (fun c_14 => ?_)
    · have g_14 := (bi_eq0 _).mp c_14
      have hfin : ∃ x Y, some (Value.int (-1)) = some (.int x) ∧ Rm ad np nb Y L h ∧ xTunAt nb (nI j) k Z x Y := ⟨_, _, rfl, hR, Or.inl ⟨by rw [g, g_14]; rfl, rfl, rfl⟩⟩
      refine j_iconst (v := (-1)) dX4_tuningAt_26 (by decide) ?_
      refine j_iret rfl (Nat.le_of_ble_eq_true rfl) (Nat.le_of_ble_eq_true rfl) dX4_tuningAt_27 ?_
      exact hfin
    · have g_14 := (bi_ne0 _).mp c_14
      obtain ⟨k, hk, rfl, hclk⟩ := iw_le (n := 7) (by omega) g_14
      have hclk : cl (nI k) = k := hclk
      refine j_aload_n dX4_tuningAt_17 rfl ?_
      refine j_aload_n dX4_tuningAt_18 rfl ?_
      refine j_callV (rest := []) (c_X4_plannedCuts l G hR hj (hBD _ hj) hT8 (hcache _ hj)) (hR.1 _ ⟨by first | assumption | exact Nat.zero_lt_one, rfl⟩) rfl cw_X4_plannedCuts wl_X4_154 wm_X4_plannedCuts wx_X4_plannedCuts rfl rfl (Nat.le_of_ble_eq_true rfl) (Nat.le_of_ble_eq_true rfl) (Nat.le_of_ble_eq_true rfl) (Nat.le_of_ble_eq_true rfl) (Nat.le_of_ble_eq_true rfl) dX4_tuningAt_19 (fun v_19 h_19 e_19 => ?_)
      obtain ⟨x, Y, rfl, hR, hx⟩ := e_19
      refine j_iconst (v := (-1)) dX4_tuningAt_22 (by decide) ?_
      refine j_icmp_ne 28 dX4_tuningAt_23 (by decide) (fun c_23 => ?_) (fun c_23 => ?_)
      · refine j_aload_n dX4_tuningAt_28 rfl ?_
        refine gX4_158 rfl (hR.1 _ ⟨by first | assumption | exact Nat.zero_lt_one, rfl⟩) rfl dX4_tuningAt_29 ?_
        refine j_iload_n dX4_tuningAt_32 rfl ?_
        refine j_iald (hR.1 _ ⟨by first | assumption | exact Nat.zero_lt_one, rfl⟩) k rfl (by omega) (by decide) dX4_tuningAt_33 ?_
        refine j_iret rfl (Nat.le_of_ble_eq_true rfl) (Nat.le_of_ble_eq_true rfl) dX4_tuningAt_34 ?_
        exact ⟨_, _, rfl, hR, Or.inr ⟨g, g_14, x, by rw [hcl]; exact hx, by rw [if_neg c_23, hcl, hclk]⟩⟩
      · have hfin : ∃ x Y, some (Value.int (-1)) = some (.int x) ∧ Rm ad np nb Y L h_19 ∧ xTunAt nb (nI j) (nI k) Z x Y := ⟨_, _, rfl, hR, Or.inr ⟨g, g_14, x, by rw [hcl]; exact hx, by rw [if_pos (c_23)]⟩⟩
        refine j_iconst (v := (-1)) dX4_tuningAt_26 (by decide) ?_
        refine j_iret rfl (Nat.le_of_ble_eq_true rfl) (Nat.le_of_ble_eq_true rfl) dX4_tuningAt_27 ?_
        exact hfin
  | false =>
    rw [bAt_f g]
    refine j_astore_nN dX4_tuningAt_5 (Nat.le_of_ble_eq_true rfl) rfl ?_
    refine j_aload_nN dX4_tuningAt_6 rfl ?_
    refine j_ifnullN 26 dX4_tuningAt_7 (by decide) ?_
    refine j_iconst (v := (-1)) dX4_tuningAt_26 (by decide) ?_
    refine j_iret rfl (Nat.le_of_ble_eq_true rfl) (Nat.le_of_ble_eq_true rfl) dX4_tuningAt_27 ?_
    exact ⟨_, _, rfl, hR, Or.inl ⟨by rw [g]; rfl, rfl, rfl⟩⟩

