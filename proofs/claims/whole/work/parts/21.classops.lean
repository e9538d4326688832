def xBuy (c t : Int32) (Z : ZT) : Int32 × ZT :=
  if iw c 0 1000000 && iw t 0 1000000 && !decide (100000000 < Z (0, 0, 0) 4 + c) && decide (Z (0, 0, 0) 5 + t ≤ 100000000) then
    (1, upZ (upZ Z (0, 0, 0) 4 (Z (0, 0, 0) 4 + c)) (0, 0, 0) 5 (upZ Z (0, 0, 0) 4 (Z (0, 0, 0) 4 + c) (0, 0, 0) 5 + t)) else (0, Z)
set_option maxRecDepth 100000 in
set_option maxHeartbeats 4000000 in
theorem c_X4_buy (l : Launch) (G : GG) {ad : NM → Nat} {np nb : Nat} {Z : ZT} {L : LT} {h : AH} (hR : Rm ad np nb Z L h) {c t : Int32} : Con l G mX4_buy 1 0 0 [.ref (ad (0, 0, 0)), .int c, .int t] h (fun r h2 => r = some (.int (xBuy c t Z).1) ∧ Rm ad np nb (xBuy c t Z).2 L h2) := by
  refine Con.of 0 rfl (Nat.le_of_ble_eq_true rfl) ?_
  refine j_iload_n dX4_buy_0 rfl ?_
  refine j_iconst (v := 0) dX4_buy_1 (by decide) ?_
  refine j_ldc (own := RX4) rfl wc_X4_77 dX4_buy_2 ?_
  refine j_callS (rest := []) (c_X4_within l G) cw_X4_within wl_X4_43 ws_X4_within rfl rfl (Nat.le_of_ble_eq_true rfl) (Nat.le_of_ble_eq_true rfl) (Nat.le_of_ble_eq_true rfl) (Nat.le_of_ble_eq_true rfl) (Nat.le_of_ble_eq_true rfl) dX4_buy_4 (fun v_4 h_4 e_4 => ?_)
  obtain ⟨rfl, hh⟩ := e_4
  have hh := hh.symm
  subst hh
  refine j_if_eq 20 dX4_buy_7 (by decide) (fun c_7 => ?_) (fun c_7 => ?_)
  · have g_7 := (bi_eq0 _).mp c_7
    refine j_iconst (v := 0) dX4_buy_20 (by decide) ?_
    refine j_zret rfl rfl (Nat.le_of_ble_eq_true rfl) (Nat.le_of_ble_eq_true rfl) dX4_buy_21 ?_
    exact ⟨by simp [xBuy, g_7], by simpa [xBuy, g_7] using hR⟩
  · have g_7 := (bi_ne0 _).mp c_7
    refine j_iload_n dX4_buy_10 rfl ?_
    refine j_iconst (v := 0) dX4_buy_11 (by decide) ?_
    refine j_ldc (own := RX4) rfl wc_X4_77 dX4_buy_12 ?_
    refine j_callS (rest := []) (c_X4_within l G) cw_X4_within wl_X4_43 ws_X4_within rfl rfl (Nat.le_of_ble_eq_true rfl) (Nat.le_of_ble_eq_true rfl) (Nat.le_of_ble_eq_true rfl) (Nat.le_of_ble_eq_true rfl) (Nat.le_of_ble_eq_true rfl) dX4_buy_14 (fun v_14 h_14 e_14 => ?_)
    obtain ⟨rfl, hh⟩ := e_14
    have hh := hh.symm
    subst hh
    refine j_if_ne 22 dX4_buy_17 (by decide) (fun c_17 => ?_) (fun c_17 => ?_)
    · have g_17 := (bi_ne0 _).mp c_17
      refine j_aload_n dX4_buy_22 rfl ?_
      refine gX4_78 rfl (hR.1 _ ⟨by first | assumption | exact Nat.zero_lt_one, rfl⟩) rfl dX4_buy_23 ?_
      refine j_iload_n dX4_buy_26 rfl ?_
      refine j_iadd dX4_buy_27 ?_
      refine j_ldc (own := RX4) rfl wc_X4_81 dX4_buy_28 ?_
      refine j_icmp_gt 44 dX4_buy_30 (by decide) (fun c_30 => ?_) (fun c_30 => ?_)
      · refine j_iconst (v := 0) dX4_buy_44 (by decide) ?_
        refine j_zret rfl rfl (Nat.le_of_ble_eq_true rfl) (Nat.le_of_ble_eq_true rfl) dX4_buy_45 ?_
        exact ⟨by simp [xBuy, g_7, g_17, c_30], by simpa [xBuy, g_7, g_17, c_30] using hR⟩
      · refine j_aload_n dX4_buy_33 rfl ?_
        refine gX4_82 rfl (hR.1 _ ⟨by first | assumption | exact Nat.zero_lt_one, rfl⟩) rfl dX4_buy_34 ?_
        refine j_iload_n dX4_buy_37 rfl ?_
        refine j_iadd dX4_buy_38 ?_
        refine j_ldc (own := RX4) rfl wc_X4_81 dX4_buy_39 ?_
        refine j_icmp_le 46 dX4_buy_41 (by decide) (fun c_41 => ?_) (fun c_41 => ?_)
        · refine j_aload_n dX4_buy_46 rfl ?_
          refine j_dup dX4_buy_47 rfl ?_
          refine gX4_78 rfl (hR.1 _ ⟨by first | assumption | exact Nat.zero_lt_one, rfl⟩) rfl dX4_buy_48 ?_
          refine j_iload_n dX4_buy_51 rfl ?_
          refine j_iadd dX4_buy_52 ?_
          refine qX4_78 rfl hR dX4_buy_53 (fun h hR => ?_)
          refine j_aload_n dX4_buy_56 rfl ?_
          refine j_dup dX4_buy_57 rfl ?_
          refine gX4_82 rfl (hR.1 _ ⟨by first | assumption | exact Nat.zero_lt_one, rfl⟩) rfl dX4_buy_58 ?_
          refine j_iload_n dX4_buy_61 rfl ?_
          refine j_iadd dX4_buy_62 ?_
          refine qX4_82 rfl hR dX4_buy_63 (fun h hR => ?_)
          refine j_iconst (v := 1) dX4_buy_66 (by decide) ?_
          refine j_zret rfl rfl (Nat.le_of_ble_eq_true rfl) (Nat.le_of_ble_eq_true rfl) dX4_buy_67 ?_
          exact ⟨by simp [xBuy, g_7, g_17, c_30, c_41], by simpa [xBuy, g_7, g_17, c_30, c_41] using hR⟩
        · refine j_iconst (v := 0) dX4_buy_44 (by decide) ?_
          refine j_zret rfl rfl (Nat.le_of_ble_eq_true rfl) (Nat.le_of_ble_eq_true rfl) dX4_buy_45 ?_
          exact ⟨by simp [xBuy, g_7, g_17, c_30, c_41], by simpa [xBuy, g_7, g_17, c_30, c_41] using hR⟩
    · have g_17 := (bi_eq0 _).mp c_17
      refine j_iconst (v := 0) dX4_buy_20 (by decide) ?_
      refine j_zret rfl rfl (Nat.le_of_ble_eq_true rfl) (Nat.le_of_ble_eq_true rfl) dX4_buy_21 ?_
      exact ⟨by simp [xBuy, g_7, g_17], by simpa [xBuy, g_7, g_17] using hR⟩

def xBase (np : Nat) (p q v : Int32) (Z : ZT) : Int32 × ZT :=
  if iw p 0 (nI np - 1) && iw q 0 4 && iw v (-20000) 20000 then (1, upZ Z (2, cl p, 2) (cl q) v) else (0, Z)
set_option maxRecDepth 100000 in
set_option maxHeartbeats 4000000 in
theorem c_X4_base (l : Launch) (G : GG) {ad : NM → Nat} {np nb : Nat} {Z : ZT} {L : LT} {h : AH} (hR : Rm ad np nb Z L h) (hnp : Z (0, 0, 0) 1 = nI np) (hp4 : np ≤ 4) {p q v : Int32} : Con l G mX4_base 2 0 0 [.ref (ad (0, 0, 0)), .int p, .int q, .int v] h (fun r h2 => r = some (.int (xBase np p q v Z).1) ∧ Rm ad np nb (xBase np p q v Z).2 L h2) := by
  refine Con.of 1 rfl (Nat.le_of_ble_eq_true rfl) ?_
  refine j_aload_n dX4_base_0 rfl ?_
  refine j_iload_n dX4_base_1 rfl ?_
  refine j_callV (rest := []) (c_X4_profileAt l G hR hnp hp4) (hR.1 _ ⟨by first | assumption | exact Nat.zero_lt_one, rfl⟩) rfl cw_X4_profileAt wl_X4_50 wm_X4_profileAt wx_X4_profileAt rfl rfl (Nat.le_of_ble_eq_true rfl) (Nat.le_of_ble_eq_true rfl) (Nat.le_of_ble_eq_true rfl) (Nat.le_of_ble_eq_true rfl) (Nat.le_of_ble_eq_true rfl) dX4_base_2 (fun v_2 h_2 e_2 => ?_)
  obtain ⟨rfl, hh⟩ := e_2
  have hh := hh.symm
  subst hh
  cases g : iw p 0 (nI np - 1) with
  | true =>
    obtain ⟨p, hj, rfl, hcl⟩ := iw_lt (by omega) g
    have hcl : cl (nI p) = p := hcl
    rw [pAt_t g (by omega)]
    refine j_astore dX4_base_5 (Nat.le_of_ble_eq_true rfl) rfl ?_
    refine j_aload dX4_base_7 rfl ?_
    refine j_ifnull dX4_base_9 ?_
    refine j_iload_n dX4_base_12 rfl ?_
    refine j_callS (rest := []) (c_X4_isPart l G) cw_X4_isPart wl_X4_58 ws_X4_isPart rfl rfl (Nat.le_of_ble_eq_true rfl) (Nat.le_of_ble_eq_true rfl) (Nat.le_of_ble_eq_true rfl) (Nat.le_of_ble_eq_true rfl) (Nat.le_of_ble_eq_true rfl) dX4_base_13 (fun v_13 h_13 e_13 => ?_)
    obtain ⟨rfl, hh⟩ := e_13
    have hh := hh.symm
    subst hh
    refine j_if_eq 32 dX4_base_16 (by decide) (fun c_16 => ?_) (fun c_16 => ?_)
    · have g_16 := (bi_eq0 _).mp c_16
      refine j_iconst (v := 0) dX4_base_32 (by decide) ?_
      refine j_zret rfl rfl (Nat.le_of_ble_eq_true rfl) (Nat.le_of_ble_eq_true rfl) dX4_base_33 ?_
      exact ⟨by simp [xBase, g, hcl, g_16], by simpa [xBase, g, hcl, g_16] using hR⟩
    · have g_16 := (bi_ne0 _).mp c_16
      obtain ⟨q, hq, rfl, hclq⟩ := iw_le (n := 4) (by omega) g_16
      have hclq : cl (nI q) = q := hclq
      refine j_iload_n dX4_base_19 rfl ?_
      refine j_sipush (v := (-20000)) dX4_base_20 (by decide) ?_
      refine j_sipush (v := 20000) dX4_base_23 (by decide) ?_
      refine j_callS (rest := []) (c_X4_within l G) cw_X4_within wl_X4_43 ws_X4_within rfl rfl (Nat.le_of_ble_eq_true rfl) (Nat.le_of_ble_eq_true rfl) (Nat.le_of_ble_eq_true rfl) (Nat.le_of_ble_eq_true rfl) (Nat.le_of_ble_eq_true rfl) dX4_base_26 (fun v_26 h_26 e_26 => ?_)
      obtain ⟨rfl, hh⟩ := e_26
      have hh := hh.symm
      subst hh
      refine j_if_ne 34 dX4_base_29 (by decide) (fun c_29 => ?_) (fun c_29 => ?_)
      · have g_29 := (bi_ne0 _).mp c_29
        refine j_aload dX4_base_34 rfl ?_
        refine gX4_74 rfl (hR.1 _ ⟨by first | assumption | exact Nat.zero_lt_one, rfl⟩) rfl dX4_base_36 ?_
        refine j_iload_n dX4_base_39 rfl ?_
        refine j_iload_n dX4_base_40 rfl ?_
        refine r_iast hR ⟨by first | assumption | exact Nat.zero_lt_one, rfl⟩ (fun _ => rfl) q rfl (by omega) (by decide) dX4_base_41 (fun h hR => ?_)
        refine j_iconst (v := 1) dX4_base_42 (by decide) ?_
        refine j_zret rfl rfl (Nat.le_of_ble_eq_true rfl) (Nat.le_of_ble_eq_true rfl) dX4_base_43 ?_
        exact ⟨by simp [xBase, g, hcl, g_16, hclq, g_29], by simpa [xBase, g, hcl, g_16, hclq, g_29] using hR⟩
      · have g_29 := (bi_eq0 _).mp c_29
        refine j_iconst (v := 0) dX4_base_32 (by decide) ?_
        refine j_zret rfl rfl (Nat.le_of_ble_eq_true rfl) (Nat.le_of_ble_eq_true rfl) dX4_base_33 ?_
        exact ⟨by simp [xBase, g, hcl, g_16, hclq, g_29], by simpa [xBase, g, hcl, g_16, hclq, g_29] using hR⟩
  | false =>
    rw [pAt_f g]
    refine j_astoreN dX4_base_5 (Nat.le_of_ble_eq_true rfl) rfl ?_
    refine j_aloadN dX4_base_7 rfl ?_
    refine j_ifnullN 32 dX4_base_9 (by decide) ?_
    refine j_iconst (v := 0) dX4_base_32 (by decide) ?_
    refine j_zret rfl rfl (Nat.le_of_ble_eq_true rfl) (Nat.le_of_ble_eq_true rfl) dX4_base_33 ?_
    exact ⟨by simp [xBase, g], by simpa [xBase, g] using hR⟩

def xOldB (nb : Nat) (v : Int32) (Z : ZT) : Int32 × ZT := if iw v 0 (nI nb - 1) then (1, upZ Z (4, cl v, 0) 3 1) else (0, Z)
set_option maxRecDepth 100000 in
set_option maxHeartbeats 4000000 in
theorem c_X4_old (l : Launch) (G : GG) {ad : NM → Nat} {np nb : Nat} {Z : ZT} {L : LT} {h : AH} (hR : Rm ad np nb Z L h) (hnb : Z (0, 0, 0) 3 = nI nb) (hb24 : nb ≤ 24) {v : Int32} : Con l G mX4_old 2 0 0 [.ref (ad (0, 0, 0)), .int v] h (fun r h2 => r = some (.int (xOldB nb v Z).1) ∧ Rm ad np nb (xOldB nb v Z).2 L h2) := by
  refine Con.of 1 rfl (Nat.le_of_ble_eq_true rfl) ?_
  refine j_aload_n dX4_old_0 rfl ?_
  refine j_iload_n dX4_old_1 rfl ?_
  refine j_callV (rest := []) (c_X4_bellAt l G hR hnb hb24) (hR.1 _ ⟨by first | assumption | exact Nat.zero_lt_one, rfl⟩) rfl cw_X4_bellAt wl_X4_101 wm_X4_bellAt wx_X4_bellAt rfl rfl (Nat.le_of_ble_eq_true rfl) (Nat.le_of_ble_eq_true rfl) (Nat.le_of_ble_eq_true rfl) (Nat.le_of_ble_eq_true rfl) (Nat.le_of_ble_eq_true rfl) dX4_old_2 (fun v_2 h_2 e_2 => ?_)
  obtain ⟨rfl, hh⟩ := e_2
  have hh := hh.symm
  subst hh
  cases g : iw v 0 (nI nb - 1) with
  | true =>
    obtain ⟨j, hj, rfl, hcl⟩ := iw_lt (by omega) g
    have hcl : cl (nI j) = j := hcl
    rw [bAt_t g (by omega)]
    refine j_astore_n dX4_old_5 (Nat.le_of_ble_eq_true rfl) rfl ?_
    refine j_aload_n dX4_old_6 rfl ?_
    refine j_ifnonnull 12 dX4_old_7 (by decide) ?_
    refine j_aload_n dX4_old_12 rfl ?_
    refine j_iconst (v := 1) dX4_old_13 (by decide) ?_
    refine qX4_120 rfl hR hj rfl rfl dX4_old_14 (fun h hR => ?_)
    refine j_iconst (v := 1) dX4_old_17 (by decide) ?_
    refine j_zret rfl rfl (Nat.le_of_ble_eq_true rfl) (Nat.le_of_ble_eq_true rfl) dX4_old_18 ?_
    exact ⟨by simp [xOldB, g, hcl], by simpa [xOldB, g, hcl] using hR⟩
  | false =>
    rw [bAt_f g]
    refine j_astore_nN dX4_old_5 (Nat.le_of_ble_eq_true rfl) rfl ?_
    refine j_aload_nN dX4_old_6 rfl ?_
    refine j_ifnonnullN dX4_old_7 ?_
    refine j_iconst (v := 0) dX4_old_10 (by decide) ?_
    refine j_zret rfl rfl (Nat.le_of_ble_eq_true rfl) (Nat.le_of_ble_eq_true rfl) dX4_old_11 ?_
    exact ⟨by simp [xOldB, g], by simpa [xOldB, g] using hR⟩

def xCan (Z : ZT) (b : Nat) : Bool := decide (Z (4, b, 0) 3 = 0) && decide (Z (4, b, 0) 4 = 0)
def xCut (nb : Nat) (v k : Int32) (Z : ZT) : Int32 × ZT :=
  if iw v 0 (nI nb - 1) && iw k 0 7 && xCan Z (cl v) && decide (1 ≤ Z (4, cl v, 3) (cl k) - Z (6, cl v, 5) (cl k)) then (xTrim Z (cl v) (cl k) 1 (4, cl v, 3) (cl k), xTrim Z (cl v) (cl k) 1) else (-1, Z)
set_option maxRecDepth 100000 in
set_option maxHeartbeats 4000000 in
theorem c_X4_cut (l : Launch) (G : GG) {ad : NM → Nat} {np nb : Nat} {Z : ZT} {L : LT} {h : AH} (hR : Rm ad np nb Z L h) (hnb : Z (0, 0, 0) 3 = nI nb) (hb24 : nb ≤ 24) {v k : Int32} : Con l G mX4_cut 2 0 0 [.ref (ad (0, 0, 0)), .int v, .int k] h (fun r h2 => r = some (.int (xCut nb v k Z).1) ∧ Rm ad np nb (xCut nb v k Z).2 L h2) := by
  refine Con.of 1 rfl (Nat.le_of_ble_eq_true rfl) ?_
  refine j_aload_n dX4_cut_0 rfl ?_
  refine j_iload_n dX4_cut_1 rfl ?_
  refine j_callV (rest := []) (c_X4_bellAt l G hR hnb hb24) (hR.1 _ ⟨by first | assumption | exact Nat.zero_lt_one, rfl⟩) rfl cw_X4_bellAt wl_X4_101 wm_X4_bellAt wx_X4_bellAt rfl rfl (Nat.le_of_ble_eq_true rfl) (Nat.le_of_ble_eq_true rfl) (Nat.le_of_ble_eq_true rfl) (Nat.le_of_ble_eq_true rfl) (Nat.le_of_ble_eq_true rfl) dX4_cut_2 (fun v_2 h_2 e_2 => ?_)
  obtain ⟨rfl, hh⟩ := e_2
  have hh := hh.symm
  subst hh
  cases g : iw v 0 (nI nb - 1) with
  | true =>
    obtain ⟨j, hj, rfl, hcl⟩ := iw_lt (by omega) g
    have hcl : cl (nI j) = j := hcl
    rw [bAt_t g (by omega)]
    refine j_astore_n dX4_cut_5 (Nat.le_of_ble_eq_true rfl) rfl ?_
    refine j_aload_n dX4_cut_6 rfl ?_
    refine j_ifnull dX4_cut_7 ?_
    refine j_iload_n dX4_cut_10 rfl ?_
    refine j_callS (rest := []) (c_X4_isHeight l G) cw_X4_isHeight wl_X4_54 ws_X4_isHeight rfl rfl (Nat.le_of_ble_eq_true rfl) (Nat.le_of_ble_eq_true rfl) (Nat.le_of_ble_eq_true rfl) (Nat.le_of_ble_eq_true rfl) (Nat.le_of_ble_eq_true rfl) dX4_cut_11 (fun v_11 h_11 e_11 => ?_)
    obtain ⟨rfl, hh⟩ := e_11
    have hh := hh.symm
    subst hh
    refine j_if_eq 33 dX4_cut_14 (by decide) (fun c_14 => ?_) (fun c_14 => ?_)
    · have g_14 := (bi_eq0 _).mp c_14
      refine j_iconst (v := (-1)) dX4_cut_33 (by decide) ?_
      refine j_iret rfl (Nat.le_of_ble_eq_true rfl) (Nat.le_of_ble_eq_true rfl) dX4_cut_34 ?_
      exact ⟨by simp [xCut, g, hcl, g_14], by simpa [xCut, g, hcl, g_14] using hR⟩
    · have g_14 := (bi_ne0 _).mp c_14
      obtain ⟨k, hk, rfl, hclk⟩ := iw_le (n := 7) (by omega) g_14
      have hclk : cl (nI k) = k := hclk
      refine j_aload_n dX4_cut_17 rfl ?_
      refine j_callV (rest := []) (c_X0_canBeTuned l G hR hj) (hR.1 _ ⟨by first | assumption | exact Nat.zero_lt_one, rfl⟩) rfl cw_X0_canBeTuned wl_X4_105 wm_X0_canBeTuned wx_X0_canBeTuned rfl rfl (Nat.le_of_ble_eq_true rfl) (Nat.le_of_ble_eq_true rfl) (Nat.le_of_ble_eq_true rfl) (Nat.le_of_ble_eq_true rfl) (Nat.le_of_ble_eq_true rfl) dX4_cut_18 (fun v_18 h_18 e_18 => ?_)
      obtain ⟨rfl, hh⟩ := e_18
      have hh := hh.symm
      subst hh
      rw [show (decide (Z (4, j, 0) 3 = 0) && decide (Z (4, j, 0) 4 = 0)) = xCan Z j from rfl]
      refine j_if_eq 33 dX4_cut_21 (by decide) (fun c_21 => ?_) (fun c_21 => ?_)
      · have g_21 := (bi_eq0 _).mp c_21
        refine j_iconst (v := (-1)) dX4_cut_33 (by decide) ?_
        refine j_iret rfl (Nat.le_of_ble_eq_true rfl) (Nat.le_of_ble_eq_true rfl) dX4_cut_34 ?_
        exact ⟨by simp [xCut, g, hcl, g_14, hclk, g_21], by simpa [xCut, g, hcl, g_14, hclk, g_21] using hR⟩
      · have g_21 := (bi_ne0 _).mp c_21
        refine j_aload_n dX4_cut_24 rfl ?_
        refine j_iload_n dX4_cut_25 rfl ?_
        refine j_callV (rest := []) (c_X0_roomAt l G hR hj (i := k) (by omega)) (hR.1 _ ⟨by first | assumption | exact Nat.zero_lt_one, rfl⟩) rfl cw_X0_roomAt wl_X4_109 wm_X0_roomAt wx_X0_roomAt rfl rfl (Nat.le_of_ble_eq_true rfl) (Nat.le_of_ble_eq_true rfl) (Nat.le_of_ble_eq_true rfl) (Nat.le_of_ble_eq_true rfl) (Nat.le_of_ble_eq_true rfl) dX4_cut_26 (fun v_26 h_26 e_26 => ?_)
        obtain ⟨rfl, hh⟩ := e_26
        have hh := hh.symm
        subst hh
        refine j_iconst (v := 1) dX4_cut_29 (by decide) ?_
        refine j_icmp_ge 35 dX4_cut_30 (by decide) (fun c_30 => ?_) (fun c_30 => ?_)
        · refine j_aload_n dX4_cut_35 rfl ?_
          refine j_aload_n dX4_cut_36 rfl ?_
          refine j_iload_n dX4_cut_37 rfl ?_
          refine j_iconst (v := 1) dX4_cut_38 (by decide) ?_
          refine j_callV (rest := []) (c_X4_trim l G hR hj (i := k) (by omega)) (hR.1 _ ⟨by first | assumption | exact Nat.zero_lt_one, rfl⟩) rfl cw_X4_trim wl_X4_113 wm_X4_trim wx_X4_trim rfl rfl (Nat.le_of_ble_eq_true rfl) (Nat.le_of_ble_eq_true rfl) (Nat.le_of_ble_eq_true rfl) (Nat.le_of_ble_eq_true rfl) (Nat.le_of_ble_eq_true rfl) dX4_cut_39 (fun v_39 h_39 e_39 => ?_)
          obtain ⟨rfl, hR⟩ := e_39
          refine j_aload_n dX4_cut_42 rfl ?_
          refine gX4_117 rfl (hR.1 _ ⟨by first | assumption | exact Nat.zero_lt_one, rfl⟩) rfl dX4_cut_43 ?_
          refine j_iload_n dX4_cut_46 rfl ?_
          refine j_iald (hR.1 _ ⟨by first | assumption | exact Nat.zero_lt_one, rfl⟩) k rfl (by omega) (by decide) dX4_cut_47 ?_
          refine j_iret rfl (Nat.le_of_ble_eq_true rfl) (Nat.le_of_ble_eq_true rfl) dX4_cut_48 ?_
          exact ⟨by simp [xCut, g, hcl, g_14, hclk, g_21, c_30], by simpa [xCut, g, hcl, g_14, hclk, g_21, c_30] using hR⟩
        · refine j_iconst (v := (-1)) dX4_cut_33 (by decide) ?_
          refine j_iret rfl (Nat.le_of_ble_eq_true rfl) (Nat.le_of_ble_eq_true rfl) dX4_cut_34 ?_
          exact ⟨by simp [xCut, g, hcl, g_14, hclk, g_21, c_30], by simpa [xCut, g, hcl, g_14, hclk, g_21, c_30] using hR⟩
  | false =>
    rw [bAt_f g]
    refine j_astore_nN dX4_cut_5 (Nat.le_of_ble_eq_true rfl) rfl ?_
    refine j_aload_nN dX4_cut_6 rfl ?_
    refine j_ifnullN 33 dX4_cut_7 (by decide) ?_
    refine j_iconst (v := (-1)) dX4_cut_33 (by decide) ?_
    refine j_iret rfl (Nat.le_of_ble_eq_true rfl) (Nat.le_of_ble_eq_true rfl) dX4_cut_34 ?_
    exact ⟨by simp [xCut, g], by simpa [xCut, g] using hR⟩

def xCrk1 (Z : ZT) (j : Nat) : ZT := upZ (upZ Z (4, j, 0) 4 1) (4, j, 0) 5 (-1)
def xCrk2 (Z : ZT) (j : Nat) : ZT := upZ (upZ (xCrk1 Z j) (0, 0, 0) 6 (xCrk1 Z j (0, 0, 0) 6 + wNow (xCrk1 Z j) j)) (1, 0, 0) 3 0
def xCrack (nb : Nat) (v : Int32) (Z : ZT) : Int32 × ZT := if iw v 0 (nI nb - 1) && decide (Z (4, cl v, 0) 4 = 0) then (1, xCrk2 Z (cl v)) else (0, Z)
set_option maxRecDepth 100000 in
set_option maxHeartbeats 4000000 in
theorem c_X4_crack (l : Launch) (G : GG) {ad : NM → Nat} {np nb : Nat} {Z : ZT} {L : LT} {h : AH} (hR : Rm ad np nb Z L h) (hnb : Z (0, 0, 0) 3 = nI nb) (hb24 : nb ≤ 24) {v : Int32} : Con l G mX4_crack 2 0 0 [.ref (ad (0, 0, 0)), .int v] h (fun r h2 => r = some (.int (xCrack nb v Z).1) ∧ Rm ad np nb (xCrack nb v Z).2 L h2) := by
  refine Con.of 1 rfl (Nat.le_of_ble_eq_true rfl) ?_
  refine j_aload_n dX4_crack_0 rfl ?_
  refine j_iload_n dX4_crack_1 rfl ?_
  refine j_callV (rest := []) (c_X4_bellAt l G hR hnb hb24) (hR.1 _ ⟨by first | assumption | exact Nat.zero_lt_one, rfl⟩) rfl cw_X4_bellAt wl_X4_101 wm_X4_bellAt wx_X4_bellAt rfl rfl (Nat.le_of_ble_eq_true rfl) (Nat.le_of_ble_eq_true rfl) (Nat.le_of_ble_eq_true rfl) (Nat.le_of_ble_eq_true rfl) (Nat.le_of_ble_eq_true rfl) dX4_crack_2 (fun v_2 h_2 e_2 => ?_)
  obtain ⟨rfl, hh⟩ := e_2
  have hh := hh.symm
  subst hh
  cases g : iw v 0 (nI nb - 1) with
  | true =>
    obtain ⟨j, hj, rfl, hcl⟩ := iw_lt (by omega) g
    have hcl : cl (nI j) = j := hcl
    rw [bAt_t g (by omega)]
    refine j_astore_n dX4_crack_5 (Nat.le_of_ble_eq_true rfl) rfl ?_
    refine j_aload_n dX4_crack_6 rfl ?_
    refine j_ifnull dX4_crack_7 ?_
    refine j_aload_n dX4_crack_10 rfl ?_
    refine gX4_124 rfl (hR.1 _ ⟨by first | assumption | exact Nat.zero_lt_one, rfl⟩) rfl dX4_crack_11 ?_
    refine j_if_eq 19 dX4_crack_14 (by decide) (fun c_14 => ?_) (fun c_14 => ?_)
    · refine j_aload_n dX4_crack_19 rfl ?_
      refine j_iconst (v := 1) dX4_crack_20 (by decide) ?_
      refine qX4_124 rfl hR hj rfl rfl dX4_crack_21 (fun h hR => ?_)
      refine j_aload_n dX4_crack_24 rfl ?_
      refine j_iconst (v := (-1)) dX4_crack_25 (by decide) ?_
      refine qX4_127 rfl hR hj dX4_crack_26 (fun h hR => ?_)
      refine j_aload_n dX4_crack_29 rfl ?_
      refine j_dup dX4_crack_30 rfl ?_
      refine gX4_130 rfl (hR.1 _ ⟨by first | assumption | exact Nat.zero_lt_one, rfl⟩) rfl dX4_crack_31 ?_
      refine j_aload_n dX4_crack_34 rfl ?_
      refine j_callV (rest := [.int (xCrk1 Z j (0, 0, 0) 6), .ref (ad (0, 0, 0))]) (c_X0_weightNow l G hR hj) (hR.1 _ ⟨by first | assumption | exact Nat.zero_lt_one, rfl⟩) rfl cw_X0_weightNow wl_X4_133 wm_X0_weightNow wx_X0_weightNow rfl rfl (Nat.le_of_ble_eq_true rfl) (Nat.le_of_ble_eq_true rfl) (Nat.le_of_ble_eq_true rfl) (Nat.le_of_ble_eq_true rfl) (Nat.le_of_ble_eq_true rfl) dX4_crack_35 (fun v_35 h_35 e_35 => ?_)
      obtain ⟨rfl, hh⟩ := e_35
      have hh := hh.symm
      subst hh
      refine j_iadd dX4_crack_38 ?_
      refine qX4_130 rfl hR dX4_crack_39 (fun h hR => ?_)
      refine j_aload_n dX4_crack_42 rfl ?_
      refine gX4_31 rfl (hR.1 _ ⟨by first | assumption | exact Nat.zero_lt_one, rfl⟩) rfl dX4_crack_43 ?_
      refine j_callV (rest := []) (c_X1_forget l G hR) (hR.1 _ ⟨by first | assumption | exact Nat.zero_lt_one, rfl⟩) rfl cw_X1_forget wl_X4_98 wm_X1_forget wx_X1_forget rfl rfl (Nat.le_of_ble_eq_true rfl) (Nat.le_of_ble_eq_true rfl) (Nat.le_of_ble_eq_true rfl) (Nat.le_of_ble_eq_true rfl) (Nat.le_of_ble_eq_true rfl) dX4_crack_46 (fun v_46 h_46 e_46 => ?_)
      obtain ⟨rfl, hR⟩ := e_46
      refine j_iconst (v := 1) dX4_crack_49 (by decide) ?_
      refine j_zret rfl rfl (Nat.le_of_ble_eq_true rfl) (Nat.le_of_ble_eq_true rfl) dX4_crack_50 ?_
      exact ⟨by simp [xCrack, g, hcl, c_14, xCrk2, xCrk1], by simpa [xCrack, g, hcl, c_14, xCrk2, xCrk1] using hR⟩
    · refine j_iconst (v := 0) dX4_crack_17 (by decide) ?_
      refine j_zret rfl rfl (Nat.le_of_ble_eq_true rfl) (Nat.le_of_ble_eq_true rfl) dX4_crack_18 ?_
      exact ⟨by simp [xCrack, g, hcl, c_14, xCrk2, xCrk1], by simpa [xCrack, g, hcl, c_14, xCrk2, xCrk1] using hR⟩
  | false =>
    rw [bAt_f g]
    refine j_astore_nN dX4_crack_5 (Nat.le_of_ble_eq_true rfl) rfl ?_
    refine j_aload_nN dX4_crack_6 rfl ?_
    refine j_ifnullN 17 dX4_crack_7 (by decide) ?_
    refine j_iconst (v := 0) dX4_crack_17 (by decide) ?_
    refine j_zret rfl rfl (Nat.le_of_ble_eq_true rfl) (Nat.le_of_ble_eq_true rfl) dX4_crack_18 ?_
    exact ⟨by simp [xCrack, g], by simpa [xCrack, g] using hR⟩

def xSpan (p a b : Int32) (Z : ZT) : Int32 × ZT := if iw p 0 4 && !decide (b < a) && !decide (a < -30000) && decide (b ≤ 30000) then (1, upZ (upZ (upZ Z (3, 0, 1) (cl p) a) (3, 0, 2) (cl p) b) (3, 0, 0) 2 (Z (3, 0, 0) 2 + 1)) else (0, Z)
set_option maxRecDepth 100000 in
set_option maxHeartbeats 4000000 in
theorem c_X4_span (l : Launch) (G : GG) {ad : NM → Nat} {np nb : Nat} {Z : ZT} {L : LT} {h : AH} (hR : Rm ad np nb Z L h) {p a b : Int32} : Con l G mX4_span 2 0 0 [.ref (ad (0, 0, 0)), .int p, .int a, .int b] h (fun r h2 => r = some (.int (xSpan p a b Z).1) ∧ Rm ad np nb (xSpan p a b Z).2 L h2) := by
  refine Con.of 0 rfl (Nat.le_of_ble_eq_true rfl) ?_
  refine j_iload_n dX4_span_0 rfl ?_
  refine j_callS (rest := []) (c_X4_isPart l G) cw_X4_isPart wl_X4_58 ws_X4_isPart rfl rfl (Nat.le_of_ble_eq_true rfl) (Nat.le_of_ble_eq_true rfl) (Nat.le_of_ble_eq_true rfl) (Nat.le_of_ble_eq_true rfl) (Nat.le_of_ble_eq_true rfl) dX4_span_1 (fun v_1 h_1 e_1 => ?_)
  obtain ⟨rfl, hh⟩ := e_1
  have hh := hh.symm
  subst hh
  refine j_if_eq 26 dX4_span_4 (by decide) (fun c_4 => ?_) (fun c_4 => ?_)
  · have g_4 := (bi_eq0 _).mp c_4
    refine j_iconst (v := 0) dX4_span_26 (by decide) ?_
    refine j_zret rfl rfl (Nat.le_of_ble_eq_true rfl) (Nat.le_of_ble_eq_true rfl) dX4_span_27 ?_
    exact ⟨by simp [xSpan, g_4], by simpa [xSpan, g_4] using hR⟩
  · have g_4 := (bi_ne0 _).mp c_4
    obtain ⟨q, hq, rfl, hclq⟩ := iw_le (n := 4) (by omega) g_4
    have hclq : cl (nI q) = q := hclq
    refine j_iload_n dX4_span_7 rfl ?_
    refine j_iload_n dX4_span_8 rfl ?_
    refine j_icmp_gt 26 dX4_span_9 (by decide) (fun c_9 => ?_) (fun c_9 => ?_)
    · refine j_iconst (v := 0) dX4_span_26 (by decide) ?_
      refine j_zret rfl rfl (Nat.le_of_ble_eq_true rfl) (Nat.le_of_ble_eq_true rfl) dX4_span_27 ?_
      exact ⟨by simp [xSpan, g_4, hclq, c_9], by simpa [xSpan, g_4, hclq, c_9] using hR⟩
    · refine j_iload_n dX4_span_12 rfl ?_
      refine j_sipush (v := (-30000)) dX4_span_13 (by decide) ?_
      refine j_icmp_lt 26 dX4_span_16 (by decide) (fun c_16 => ?_) (fun c_16 => ?_)
      · refine j_iconst (v := 0) dX4_span_26 (by decide) ?_
        refine j_zret rfl rfl (Nat.le_of_ble_eq_true rfl) (Nat.le_of_ble_eq_true rfl) dX4_span_27 ?_
        exact ⟨by simp [xSpan, g_4, hclq, c_9, c_16], by simpa [xSpan, g_4, hclq, c_9, c_16] using hR⟩
      · refine j_iload_n dX4_span_19 rfl ?_
        refine j_sipush (v := 30000) dX4_span_20 (by decide) ?_
        refine j_icmp_le 28 dX4_span_23 (by decide) (fun c_23 => ?_) (fun c_23 => ?_)
        · refine j_aload_n dX4_span_28 rfl ?_
          refine gX4_24 rfl (hR.1 _ ⟨by first | assumption | exact Nat.zero_lt_one, rfl⟩) rfl dX4_span_29 ?_
          refine j_iload_n dX4_span_32 rfl ?_
          refine j_iload_n dX4_span_33 rfl ?_
          refine j_iload_n dX4_span_34 rfl ?_
          refine j_callV (rest := []) (c_X3_setSpan l G hR (q := q) (by omega)) (hR.1 _ ⟨by first | assumption | exact Nat.zero_lt_one, rfl⟩) rfl cw_X3_setSpan wl_X4_150 wm_X3_setSpan wx_X3_setSpan rfl rfl (Nat.le_of_ble_eq_true rfl) (Nat.le_of_ble_eq_true rfl) (Nat.le_of_ble_eq_true rfl) (Nat.le_of_ble_eq_true rfl) (Nat.le_of_ble_eq_true rfl) dX4_span_35 (fun v_35 h_35 e_35 => ?_)
          obtain ⟨rfl, hR⟩ := e_35
          refine j_iconst (v := 1) dX4_span_38 (by decide) ?_
          refine j_zret rfl rfl (Nat.le_of_ble_eq_true rfl) (Nat.le_of_ble_eq_true rfl) dX4_span_39 ?_
          exact ⟨by simp [xSpan, g_4, hclq, c_9, c_16, c_23], by simpa [xSpan, g_4, hclq, c_9, c_16, c_23] using hR⟩
        · refine j_iconst (v := 0) dX4_span_26 (by decide) ?_
          refine j_zret rfl rfl (Nat.le_of_ble_eq_true rfl) (Nat.le_of_ble_eq_true rfl) dX4_span_27 ?_
          exact ⟨by simp [xSpan, g_4, hclq, c_9, c_16, c_23], by simpa [xSpan, g_4, hclq, c_9, c_16, c_23] using hR⟩

def xNote (nn : Nat) (s : Int32) (Z : ZT) : Int32 × ZT := if !decide (8 ≤ Z (1, 0, 0) 1) && iw s (-5000) 5000 then (nI (nn + 1), xAdd Z nn s) else (-1, Z)
def xRing (a : Int32) (Z : ZT) : Int32 × ZT := if iw a 0 200 then (1, upZ (upZ (upZ Z (1, 0, 0) 1 0) (1, 0, 0) 2 a) (1, 0, 0) 3 0) else (0, Z)
set_option maxRecDepth 100000 in
set_option maxHeartbeats 4000000 in
theorem c_X4_note (l : Launch) (G : GG) {ad : NM → Nat} {np nb : Nat} {Z : ZT} {L : LT} {h : AH} (hR : Rm ad np nb Z L h) {nn : Nat} (hnn : Z (1, 0, 0) 1 = nI nn) (hn8 : nn ≤ 8) {s : Int32} : Con l G mX4_note 1 0 0 [.ref (ad (0, 0, 0)), .int s] h (fun r h2 => r = some (.int (xNote nn s Z).1) ∧ Rm ad np nb (xNote nn s Z).2 L h2) := by
  refine Con.of 0 rfl (Nat.le_of_ble_eq_true rfl) ?_
  refine j_aload_n dX4_note_0 rfl ?_
  refine gX4_31 rfl (hR.1 _ ⟨by first | assumption | exact Nat.zero_lt_one, rfl⟩) rfl dX4_note_1 ?_
  refine gX4_161 rfl (hR.1 _ ⟨by first | assumption | exact Nat.zero_lt_one, rfl⟩) rfl dX4_note_4 ?_
  refine j_bipush (v := 8) dX4_note_7 (by decide) ?_
  refine j_icmp_ge 25 dX4_note_9 (by decide) (fun c_9 => ?_) (fun c_9 => ?_)
  · refine j_iconst (v := (-1)) dX4_note_25 (by decide) ?_
    refine j_iret rfl (Nat.le_of_ble_eq_true rfl) (Nat.le_of_ble_eq_true rfl) dX4_note_26 ?_
    exact ⟨by simp [xNote, c_9], by simpa [xNote, c_9] using hR⟩
  · have hlt : nn < 8 := Nat.not_le.mp (fun q => c_9 (by rw [hnn]; exact (nI_leI (a := 8) (b := nn) (by omega) (by omega)).mpr q))
    refine j_iload_n dX4_note_12 rfl ?_
    refine j_sipush (v := (-5000)) dX4_note_13 (by decide) ?_
    refine j_sipush (v := 5000) dX4_note_16 (by decide) ?_
    refine j_callS (rest := []) (c_X4_within l G) cw_X4_within wl_X4_43 ws_X4_within rfl rfl (Nat.le_of_ble_eq_true rfl) (Nat.le_of_ble_eq_true rfl) (Nat.le_of_ble_eq_true rfl) (Nat.le_of_ble_eq_true rfl) (Nat.le_of_ble_eq_true rfl) dX4_note_19 (fun v_19 h_19 e_19 => ?_)
    obtain ⟨rfl, hh⟩ := e_19
    have hh := hh.symm
    subst hh
    refine j_if_ne 27 dX4_note_22 (by decide) (fun c_22 => ?_) (fun c_22 => ?_)
    · have g_22 := (bi_ne0 _).mp c_22
      refine j_aload_n dX4_note_27 rfl ?_
      refine gX4_31 rfl (hR.1 _ ⟨by first | assumption | exact Nat.zero_lt_one, rfl⟩) rfl dX4_note_28 ?_
      refine j_iload_n dX4_note_31 rfl ?_
      refine j_callV (rest := []) (c_X1_addNote l G hR hnn hlt) (hR.1 _ ⟨by first | assumption | exact Nat.zero_lt_one, rfl⟩) rfl cw_X1_addNote wl_X4_164 wm_X1_addNote wx_X1_addNote rfl rfl (Nat.le_of_ble_eq_true rfl) (Nat.le_of_ble_eq_true rfl) (Nat.le_of_ble_eq_true rfl) (Nat.le_of_ble_eq_true rfl) (Nat.le_of_ble_eq_true rfl) dX4_note_32 (fun v_32 h_32 e_32 => ?_)
      obtain ⟨rfl, hR⟩ := e_32
      refine j_aload_n dX4_note_35 rfl ?_
      refine gX4_31 rfl (hR.1 _ ⟨by first | assumption | exact Nat.zero_lt_one, rfl⟩) rfl dX4_note_36 ?_
      refine gX4_161 rfl (hR.1 _ ⟨by first | assumption | exact Nat.zero_lt_one, rfl⟩) rfl dX4_note_39 ?_
      rw [show xAdd Z nn s (1, 0, 0) 1 = nI (nn + 1) by unfold xAdd; rw [upZ_nk (Or.inr (by decide)), upZ_at]]
      refine j_iret rfl (Nat.le_of_ble_eq_true rfl) (Nat.le_of_ble_eq_true rfl) dX4_note_42 ?_
      exact ⟨by simp [xNote, c_9, g_22], by simpa [xNote, c_9, g_22] using hR⟩
    · have g_22 := (bi_eq0 _).mp c_22
      refine j_iconst (v := (-1)) dX4_note_25 (by decide) ?_
      refine j_iret rfl (Nat.le_of_ble_eq_true rfl) (Nat.le_of_ble_eq_true rfl) dX4_note_26 ?_
      exact ⟨by simp [xNote, c_9, g_22], by simpa [xNote, c_9, g_22] using hR⟩

set_option maxRecDepth 100000 in
set_option maxHeartbeats 4000000 in
theorem c_X4_ring (l : Launch) (G : GG) {ad : NM → Nat} {np nb : Nat} {Z : ZT} {L : LT} {h : AH} (hR : Rm ad np nb Z L h) {a : Int32} : Con l G mX4_ring 1 0 0 [.ref (ad (0, 0, 0)), .int a] h (fun r h2 => r = some (.int (xRing a Z).1) ∧ Rm ad np nb (xRing a Z).2 L h2) := by
  refine Con.of 0 rfl (Nat.le_of_ble_eq_true rfl) ?_
  refine j_iload_n dX4_ring_0 rfl ?_
  refine j_iconst (v := 0) dX4_ring_1 (by decide) ?_
  refine j_sipush (v := 200) dX4_ring_2 (by decide) ?_
  refine j_callS (rest := []) (c_X4_within l G) cw_X4_within wl_X4_43 ws_X4_within rfl rfl (Nat.le_of_ble_eq_true rfl) (Nat.le_of_ble_eq_true rfl) (Nat.le_of_ble_eq_true rfl) (Nat.le_of_ble_eq_true rfl) (Nat.le_of_ble_eq_true rfl) dX4_ring_5 (fun v_5 h_5 e_5 => ?_)
  obtain ⟨rfl, hh⟩ := e_5
  have hh := hh.symm
  subst hh
  refine j_if_ne 13 dX4_ring_8 (by decide) (fun c_8 => ?_) (fun c_8 => ?_)
  · have g_8 := (bi_ne0 _).mp c_8
    refine j_aload_n dX4_ring_13 rfl ?_
    refine gX4_31 rfl (hR.1 _ ⟨by first | assumption | exact Nat.zero_lt_one, rfl⟩) rfl dX4_ring_14 ?_
    refine j_iload_n dX4_ring_17 rfl ?_
    refine j_callV (rest := []) (c_X1_startAnew l G hR) (hR.1 _ ⟨by first | assumption | exact Nat.zero_lt_one, rfl⟩) rfl cw_X1_startAnew wl_X4_167 wm_X1_startAnew wx_X1_startAnew rfl rfl (Nat.le_of_ble_eq_true rfl) (Nat.le_of_ble_eq_true rfl) (Nat.le_of_ble_eq_true rfl) (Nat.le_of_ble_eq_true rfl) (Nat.le_of_ble_eq_true rfl) dX4_ring_18 (fun v_18 h_18 e_18 => ?_)
    obtain ⟨rfl, hR⟩ := e_18
    refine j_iconst (v := 1) dX4_ring_21 (by decide) ?_
    refine j_zret rfl rfl (Nat.le_of_ble_eq_true rfl) (Nat.le_of_ble_eq_true rfl) dX4_ring_22 ?_
    exact ⟨by simp [xRing, g_8], by simpa [xRing, g_8] using hR⟩
  · have g_8 := (bi_eq0 _).mp c_8
    refine j_iconst (v := 0) dX4_ring_11 (by decide) ?_
    refine j_zret rfl rfl (Nat.le_of_ble_eq_true rfl) (Nat.le_of_ble_eq_true rfl) dX4_ring_12 ?_
    exact ⟨by simp [xRing, g_8], by simpa [xRing, g_8] using hR⟩

def xHangS (Z : ZT) (nb j : Nat) (w : Int32) : Int32 := xPulls Z (-1) 0 nb - xPull Z j (Z (4, j, 0) 5) (xShare Z (Z (4, j, 0) 5)) + xPull Z j w (xShare Z w)
def xHang (nb : Nat) (v w : Int32) (Z : ZT) : Int32 × ZT := if iw v 0 (nI nb - 1) && decide (Z (4, cl v, 0) 4 = 0) && (decide (w = -1) || iw w 0 4) && decide (xHangS Z nb (cl v) w ≤ Z (0, 0, 0) 10) then (1, upZ Z (4, cl v, 0) 5 w) else (0, Z)
set_option maxRecDepth 100000 in
set_option maxHeartbeats 4000000 in
theorem c_X4_hang (l : Launch) (G : GG) {ad : NM → Nat} {np nb : Nat} {Z : ZT} {L : LT} {h : AH} (hR : Rm ad np nb Z L h) (hnb : Z (0, 0, 0) 3 = nI nb) (hb24 : nb ≤ 24) {v w : Int32} : Con l G mX4_hang 5 0 0 [.ref (ad (0, 0, 0)), .int v, .int w] h (fun r h2 => r = some (.int (xHang nb v w Z).1) ∧ Rm ad np nb (xHang nb v w Z).2 L h2) := by
  refine Con.of 2 rfl (Nat.le_of_ble_eq_true rfl) ?_
  refine j_aload_n dX4_hang_0 rfl ?_
  refine j_iload_n dX4_hang_1 rfl ?_
  refine j_callV (rest := []) (c_X4_bellAt l G hR hnb hb24) (hR.1 _ ⟨by first | assumption | exact Nat.zero_lt_one, rfl⟩) rfl cw_X4_bellAt wl_X4_101 wm_X4_bellAt wx_X4_bellAt rfl rfl (Nat.le_of_ble_eq_true rfl) (Nat.le_of_ble_eq_true rfl) (Nat.le_of_ble_eq_true rfl) (Nat.le_of_ble_eq_true rfl) (Nat.le_of_ble_eq_true rfl) dX4_hang_2 (fun v_2 h_2 e_2 => ?_)
  obtain ⟨rfl, hh⟩ := e_2
  have hh := hh.symm
  subst hh
  cases g : iw v 0 (nI nb - 1) with
  | true =>
    obtain ⟨j, hj, rfl, hcl⟩ := iw_lt (by omega) g
    have hcl : cl (nI j) = j := hcl
    rw [bAt_t g (by omega)]
    refine j_astore_n dX4_hang_5 (Nat.le_of_ble_eq_true rfl) rfl ?_
    refine j_aload_n dX4_hang_6 rfl ?_
    refine j_ifnull dX4_hang_7 ?_
    refine j_aload_n dX4_hang_10 rfl ?_
    refine gX4_124 rfl (hR.1 _ ⟨by first | assumption | exact Nat.zero_lt_one, rfl⟩) rfl dX4_hang_11 ?_
    refine j_if_ne 29 dX4_hang_14 (by decide) (fun c_14 => ?_) (fun c_14 => ?_)
    · refine j_iconst (v := 0) dX4_hang_29 (by decide) ?_
      refine j_zret rfl rfl (Nat.le_of_ble_eq_true rfl) (Nat.le_of_ble_eq_true rfl) dX4_hang_30 ?_
      exact ⟨by simp [xHang, g, hcl, c_14], by simpa [xHang, g, hcl, c_14] using hR⟩
    · refine j_iload_n dX4_hang_17 rfl ?_
      refine j_iconst (v := (-1)) dX4_hang_18 (by decide) ?_
      refine j_icmp_eq 31 dX4_hang_19 (by decide) (fun c_19 => ?_) (fun c_19 => ?_)
      · refine j_aload_n dX4_hang_31 rfl ?_
        refine j_callV (rest := []) (c_X4_pullsTogether l G hR hnb hb24) (hR.1 _ ⟨by first | assumption | exact Nat.zero_lt_one, rfl⟩) rfl cw_X4_pullsTogether wl_X4_190 wm_X4_pullsTogether wx_X4_pullsTogether rfl rfl (Nat.le_of_ble_eq_true rfl) (Nat.le_of_ble_eq_true rfl) (Nat.le_of_ble_eq_true rfl) (Nat.le_of_ble_eq_true rfl) (Nat.le_of_ble_eq_true rfl) dX4_hang_32 (fun v_32 h_32 e_32 => ?_)
        obtain ⟨rfl, hh⟩ := e_32
        have hh := hh.symm
        subst hh
        refine j_aload_n dX4_hang_35 rfl ?_
        refine j_aload_n dX4_hang_36 rfl ?_
        refine gX4_127 rfl (hR.1 _ ⟨by first | assumption | exact Nat.zero_lt_one, rfl⟩) rfl dX4_hang_37 ?_
        refine j_aload_n dX4_hang_40 rfl ?_
        refine j_aload_n dX4_hang_41 rfl ?_
        refine gX4_127 rfl (hR.1 _ ⟨by first | assumption | exact Nat.zero_lt_one, rfl⟩) rfl dX4_hang_42 ?_
        refine j_callV (rest := [.int (Z (4, j, 0) 5), .ref (ad (4, j, 0)), .int (xPulls Z (-1) 0 nb)]) (c_X4_shareOf l G hR) (hR.1 _ ⟨by first | assumption | exact Nat.zero_lt_one, rfl⟩) rfl cw_X4_shareOf wl_X4_140 wm_X4_shareOf wx_X4_shareOf rfl rfl (Nat.le_of_ble_eq_true rfl) (Nat.le_of_ble_eq_true rfl) (Nat.le_of_ble_eq_true rfl) (Nat.le_of_ble_eq_true rfl) (Nat.le_of_ble_eq_true rfl) dX4_hang_45 (fun v_45 h_45 e_45 => ?_)
        obtain ⟨rfl, hh⟩ := e_45
        have hh := hh.symm
        subst hh
        refine j_callS (rest := [.int (xPulls Z (-1) 0 nb)]) (c_X4_pullBy l G hR hj) cw_X4_pullBy wl_X4_143 ws_X4_pullBy rfl rfl (Nat.le_of_ble_eq_true rfl) (Nat.le_of_ble_eq_true rfl) (Nat.le_of_ble_eq_true rfl) (Nat.le_of_ble_eq_true rfl) (Nat.le_of_ble_eq_true rfl) dX4_hang_48 (fun v_48 h_48 e_48 => ?_)
        obtain ⟨rfl, hh⟩ := e_48
        have hh := hh.symm
        subst hh
        refine j_isub dX4_hang_51 ?_
        refine j_istore dX4_hang_52 (Nat.le_of_ble_eq_true rfl) rfl ?_
        refine j_iload dX4_hang_54 rfl ?_
        refine j_aload_n dX4_hang_56 rfl ?_
        refine j_iload_n dX4_hang_57 rfl ?_
        refine j_aload_n dX4_hang_58 rfl ?_
        refine j_iload_n dX4_hang_59 rfl ?_
        refine j_callV (rest := [.int w, .ref (ad (4, j, 0)), .int (xPulls Z (-1) 0 nb - xPull Z j (Z (4, j, 0) 5) (xShare Z (Z (4, j, 0) 5)))]) (c_X4_shareOf l G hR) (hR.1 _ ⟨by first | assumption | exact Nat.zero_lt_one, rfl⟩) rfl cw_X4_shareOf wl_X4_140 wm_X4_shareOf wx_X4_shareOf rfl rfl (Nat.le_of_ble_eq_true rfl) (Nat.le_of_ble_eq_true rfl) (Nat.le_of_ble_eq_true rfl) (Nat.le_of_ble_eq_true rfl) (Nat.le_of_ble_eq_true rfl) dX4_hang_60 (fun v_60 h_60 e_60 => ?_)
        obtain ⟨rfl, hh⟩ := e_60
        have hh := hh.symm
        subst hh
        refine j_callS (rest := [.int (xPulls Z (-1) 0 nb - xPull Z j (Z (4, j, 0) 5) (xShare Z (Z (4, j, 0) 5)))]) (c_X4_pullBy l G hR hj) cw_X4_pullBy wl_X4_143 ws_X4_pullBy rfl rfl (Nat.le_of_ble_eq_true rfl) (Nat.le_of_ble_eq_true rfl) (Nat.le_of_ble_eq_true rfl) (Nat.le_of_ble_eq_true rfl) (Nat.le_of_ble_eq_true rfl) dX4_hang_63 (fun v_63 h_63 e_63 => ?_)
        obtain ⟨rfl, hh⟩ := e_63
        have hh := hh.symm
        subst hh
        refine j_iadd dX4_hang_66 ?_
        rw [show xPulls Z (-1) 0 nb - xPull Z j (Z (4, j, 0) 5) (xShare Z (Z (4, j, 0) 5)) + xPull Z j w (xShare Z w) = xHangS Z nb j w from rfl]
        refine j_aload_n dX4_hang_67 rfl ?_
        refine gX4_187 rfl (hR.1 _ ⟨by first | assumption | exact Nat.zero_lt_one, rfl⟩) rfl dX4_hang_68 ?_
        refine j_icmp_le 76 dX4_hang_71 (by decide) (fun c_71 => ?_) (fun c_71 => ?_)
        · refine j_aload_n dX4_hang_76 rfl ?_
          refine j_iload_n dX4_hang_77 rfl ?_
          refine qX4_127 rfl hR hj dX4_hang_78 (fun h hR => ?_)
          refine j_iconst (v := 1) dX4_hang_81 (by decide) ?_
          refine j_zret rfl rfl (Nat.le_of_ble_eq_true rfl) (Nat.le_of_ble_eq_true rfl) dX4_hang_82 ?_
          exact ⟨by simp [xHang, g, hcl, c_14, eq_true c_19, c_71], by simpa [xHang, g, hcl, c_14, eq_true c_19, c_71] using hR⟩
        · refine j_iconst (v := 0) dX4_hang_74 (by decide) ?_
          refine j_zret rfl rfl (Nat.le_of_ble_eq_true rfl) (Nat.le_of_ble_eq_true rfl) dX4_hang_75 ?_
          exact ⟨by simp [xHang, g, hcl, c_14, eq_true c_19, c_71], by simpa [xHang, g, hcl, c_14, eq_true c_19, c_71] using hR⟩
      · refine j_iload_n dX4_hang_22 rfl ?_
        refine j_callS (rest := []) (c_X4_isWay l G) cw_X4_isWay wl_X4_180 ws_X4_isWay rfl rfl (Nat.le_of_ble_eq_true rfl) (Nat.le_of_ble_eq_true rfl) (Nat.le_of_ble_eq_true rfl) (Nat.le_of_ble_eq_true rfl) (Nat.le_of_ble_eq_true rfl) dX4_hang_23 (fun v_23 h_23 e_23 => ?_)
        obtain ⟨rfl, hh⟩ := e_23
        have hh := hh.symm
        subst hh
        refine j_if_ne 31 dX4_hang_26 (by decide) (fun c_26 => ?_) (fun c_26 => ?_)
        · have g_26 := (bi_ne0 _).mp c_26
          refine j_aload_n dX4_hang_31 rfl ?_
          refine j_callV (rest := []) (c_X4_pullsTogether l G hR hnb hb24) (hR.1 _ ⟨by first | assumption | exact Nat.zero_lt_one, rfl⟩) rfl cw_X4_pullsTogether wl_X4_190 wm_X4_pullsTogether wx_X4_pullsTogether rfl rfl (Nat.le_of_ble_eq_true rfl) (Nat.le_of_ble_eq_true rfl) (Nat.le_of_ble_eq_true rfl) (Nat.le_of_ble_eq_true rfl) (Nat.le_of_ble_eq_true rfl) dX4_hang_32 (fun v_32 h_32 e_32 => ?_)
          obtain ⟨rfl, hh⟩ := e_32
          have hh := hh.symm
          subst hh
          refine j_aload_n dX4_hang_35 rfl ?_
          refine j_aload_n dX4_hang_36 rfl ?_
          refine gX4_127 rfl (hR.1 _ ⟨by first | assumption | exact Nat.zero_lt_one, rfl⟩) rfl dX4_hang_37 ?_
          refine j_aload_n dX4_hang_40 rfl ?_
          refine j_aload_n dX4_hang_41 rfl ?_
          refine gX4_127 rfl (hR.1 _ ⟨by first | assumption | exact Nat.zero_lt_one, rfl⟩) rfl dX4_hang_42 ?_
          refine j_callV (rest := [.int (Z (4, j, 0) 5), .ref (ad (4, j, 0)), .int (xPulls Z (-1) 0 nb)]) (c_X4_shareOf l G hR) (hR.1 _ ⟨by first | assumption | exact Nat.zero_lt_one, rfl⟩) rfl cw_X4_shareOf wl_X4_140 wm_X4_shareOf wx_X4_shareOf rfl rfl (Nat.le_of_ble_eq_true rfl) (Nat.le_of_ble_eq_true rfl) (Nat.le_of_ble_eq_true rfl) (Nat.le_of_ble_eq_true rfl) (Nat.le_of_ble_eq_true rfl) dX4_hang_45 (fun v_45 h_45 e_45 => ?_)
          obtain ⟨rfl, hh⟩ := e_45
          have hh := hh.symm
          subst hh
          refine j_callS (rest := [.int (xPulls Z (-1) 0 nb)]) (c_X4_pullBy l G hR hj) cw_X4_pullBy wl_X4_143 ws_X4_pullBy rfl rfl (Nat.le_of_ble_eq_true rfl) (Nat.le_of_ble_eq_true rfl) (Nat.le_of_ble_eq_true rfl) (Nat.le_of_ble_eq_true rfl) (Nat.le_of_ble_eq_true rfl) dX4_hang_48 (fun v_48 h_48 e_48 => ?_)
          obtain ⟨rfl, hh⟩ := e_48
          have hh := hh.symm
          subst hh
          refine j_isub dX4_hang_51 ?_
          refine j_istore dX4_hang_52 (Nat.le_of_ble_eq_true rfl) rfl ?_
          refine j_iload dX4_hang_54 rfl ?_
          refine j_aload_n dX4_hang_56 rfl ?_
          refine j_iload_n dX4_hang_57 rfl ?_
          refine j_aload_n dX4_hang_58 rfl ?_
          refine j_iload_n dX4_hang_59 rfl ?_
          refine j_callV (rest := [.int w, .ref (ad (4, j, 0)), .int (xPulls Z (-1) 0 nb - xPull Z j (Z (4, j, 0) 5) (xShare Z (Z (4, j, 0) 5)))]) (c_X4_shareOf l G hR) (hR.1 _ ⟨by first | assumption | exact Nat.zero_lt_one, rfl⟩) rfl cw_X4_shareOf wl_X4_140 wm_X4_shareOf wx_X4_shareOf rfl rfl (Nat.le_of_ble_eq_true rfl) (Nat.le_of_ble_eq_true rfl) (Nat.le_of_ble_eq_true rfl) (Nat.le_of_ble_eq_true rfl) (Nat.le_of_ble_eq_true rfl) dX4_hang_60 (fun v_60 h_60 e_60 => ?_)
          obtain ⟨rfl, hh⟩ := e_60
          have hh := hh.symm
          subst hh
          refine j_callS (rest := [.int (xPulls Z (-1) 0 nb - xPull Z j (Z (4, j, 0) 5) (xShare Z (Z (4, j, 0) 5)))]) (c_X4_pullBy l G hR hj) cw_X4_pullBy wl_X4_143 ws_X4_pullBy rfl rfl (Nat.le_of_ble_eq_true rfl) (Nat.le_of_ble_eq_true rfl) (Nat.le_of_ble_eq_true rfl) (Nat.le_of_ble_eq_true rfl) (Nat.le_of_ble_eq_true rfl) dX4_hang_63 (fun v_63 h_63 e_63 => ?_)
          obtain ⟨rfl, hh⟩ := e_63
          have hh := hh.symm
          subst hh
          refine j_iadd dX4_hang_66 ?_
          rw [show xPulls Z (-1) 0 nb - xPull Z j (Z (4, j, 0) 5) (xShare Z (Z (4, j, 0) 5)) + xPull Z j w (xShare Z w) = xHangS Z nb j w from rfl]
          refine j_aload_n dX4_hang_67 rfl ?_
          refine gX4_187 rfl (hR.1 _ ⟨by first | assumption | exact Nat.zero_lt_one, rfl⟩) rfl dX4_hang_68 ?_
          refine j_icmp_le 76 dX4_hang_71 (by decide) (fun c_71 => ?_) (fun c_71 => ?_)
          · refine j_aload_n dX4_hang_76 rfl ?_
            refine j_iload_n dX4_hang_77 rfl ?_
            refine qX4_127 rfl hR hj dX4_hang_78 (fun h hR => ?_)
            refine j_iconst (v := 1) dX4_hang_81 (by decide) ?_
            refine j_zret rfl rfl (Nat.le_of_ble_eq_true rfl) (Nat.le_of_ble_eq_true rfl) dX4_hang_82 ?_
            exact ⟨by simp [xHang, g, hcl, c_14, c_19, g_26, c_71], by simpa [xHang, g, hcl, c_14, c_19, g_26, c_71] using hR⟩
          · refine j_iconst (v := 0) dX4_hang_74 (by decide) ?_
            refine j_zret rfl rfl (Nat.le_of_ble_eq_true rfl) (Nat.le_of_ble_eq_true rfl) dX4_hang_75 ?_
            exact ⟨by simp [xHang, g, hcl, c_14, c_19, g_26, c_71], by simpa [xHang, g, hcl, c_14, c_19, g_26, c_71] using hR⟩
        · have g_26 := (bi_eq0 _).mp c_26
          refine j_iconst (v := 0) dX4_hang_29 (by decide) ?_
          refine j_zret rfl rfl (Nat.le_of_ble_eq_true rfl) (Nat.le_of_ble_eq_true rfl) dX4_hang_30 ?_
          exact ⟨by simp [xHang, g, hcl, c_14, c_19, g_26], by simpa [xHang, g, hcl, c_14, c_19, g_26] using hR⟩
  | false =>
    rw [bAt_f g]
    refine j_astore_nN dX4_hang_5 (Nat.le_of_ble_eq_true rfl) rfl ?_
    refine j_aload_nN dX4_hang_6 rfl ?_
    refine j_ifnullN 29 dX4_hang_7 (by decide) ?_
    refine j_iconst (v := 0) dX4_hang_29 (by decide) ?_
    refine j_zret rfl rfl (Nat.le_of_ble_eq_true rfl) (Nat.le_of_ble_eq_true rfl) dX4_hang_30 ?_
    exact ⟨by simp [xHang, g], by simpa [xHang, g] using hR⟩

def xTower (nb : Nat) (w s b : Int32) (Z : ZT) : Int32 × ZT :=
  if iw b 0 1000000 && (decide (w = -1) || iw w 0 4) && (decide (w = -1) || iw s 0 300) && decide (xPulls Z w s nb ≤ b) then (1, upZ (if w = -1 then Z else upZ Z (0, 0, 10) (cl w) s) (0, 0, 0) 10 b) else (0, Z)
set_option maxRecDepth 100000 in
set_option maxHeartbeats 4000000 in
theorem c_X4_tower (l : Launch) (G : GG) {ad : NM → Nat} {np nb : Nat} {Z : ZT} {L : LT} {h : AH} (hR : Rm ad np nb Z L h) (hnb : Z (0, 0, 0) 3 = nI nb) (hb24 : nb ≤ 24) {w s b : Int32} : Con l G mX4_tower 4 0 0 [.ref (ad (0, 0, 0)), .int w, .int s, .int b] h (fun r h2 => r = some (.int (xTower nb w s b Z).1) ∧ Rm ad np nb (xTower nb w s b Z).2 L h2) := by
  refine Con.of 0 rfl (Nat.le_of_ble_eq_true rfl) ?_
  by_cases hw : w = -1
  · subst hw
    refine j_iload_n dX4_tower_0 rfl ?_
    refine j_iconst (v := 0) dX4_tower_1 (by decide) ?_
    refine j_ldc (own := RX4) rfl wc_X4_77 dX4_tower_2 ?_
    refine j_callS (rest := []) (c_X4_within l G) cw_X4_within wl_X4_43 ws_X4_within rfl rfl (Nat.le_of_ble_eq_true rfl) (Nat.le_of_ble_eq_true rfl) (Nat.le_of_ble_eq_true rfl) (Nat.le_of_ble_eq_true rfl) (Nat.le_of_ble_eq_true rfl) dX4_tower_4 (fun v_4 h_4 e_4 => ?_)
    obtain ⟨rfl, hh⟩ := e_4
    have hh := hh.symm
    subst hh
    refine j_if_eq 22 dX4_tower_7 (by decide) (fun c_7 => ?_) (fun c_7 => ?_)
    · have g_7 := (bi_eq0 _).mp c_7
      refine j_iconst (v := 0) dX4_tower_22 (by decide) ?_
      refine j_zret rfl rfl (Nat.le_of_ble_eq_true rfl) (Nat.le_of_ble_eq_true rfl) dX4_tower_23 ?_
      exact ⟨by simp [xTower, g_7], by simpa [xTower, g_7] using hR⟩
    · have g_7 := (bi_ne0 _).mp c_7
      refine j_iload_n dX4_tower_10 rfl ?_
      refine j_iconst (v := (-1)) dX4_tower_11 (by decide) ?_
      refine j_icmp_eq 24 dX4_tower_12 (by decide) (fun c_12 => ?_) (fun c_12 => ?_)
      · refine j_iload_n dX4_tower_24 rfl ?_
        refine j_iconst (v := (-1)) dX4_tower_25 (by decide) ?_
        refine j_icmp_eq 42 dX4_tower_26 (by decide) (fun c_26 => ?_) (fun c_26 => ?_)
        · refine j_aload_n dX4_tower_42 rfl ?_
          refine j_iload_n dX4_tower_43 rfl ?_
          refine j_iload_n dX4_tower_44 rfl ?_
          refine j_callV (rest := []) (c_X4_pullsIf l G hR hnb hb24) (hR.1 _ ⟨by first | assumption | exact Nat.zero_lt_one, rfl⟩) rfl cw_X4_pullsIf wl_X4_183 wm_X4_pullsIf wx_X4_pullsIf rfl rfl (Nat.le_of_ble_eq_true rfl) (Nat.le_of_ble_eq_true rfl) (Nat.le_of_ble_eq_true rfl) (Nat.le_of_ble_eq_true rfl) (Nat.le_of_ble_eq_true rfl) dX4_tower_45 (fun v_45 h_45 e_45 => ?_)
          obtain ⟨rfl, hh⟩ := e_45
          have hh := hh.symm
          subst hh
          refine j_iload_n dX4_tower_48 rfl ?_
          refine j_icmp_le 54 dX4_tower_49 (by decide) (fun c_49 => ?_) (fun c_49 => ?_)
          · refine j_iload_n dX4_tower_54 rfl ?_
            refine j_iconst (v := (-1)) dX4_tower_55 (by decide) ?_
            refine j_icmp_eq 66 dX4_tower_56 (by decide) (fun c_56 => ?_) (fun c_56 => ?_)
            · refine j_aload_n dX4_tower_66 rfl ?_
              refine j_iload_n dX4_tower_67 rfl ?_
              refine qX4_187 rfl hR dX4_tower_68 (fun h hR => ?_)
              refine j_iconst (v := 1) dX4_tower_71 (by decide) ?_
              refine j_zret rfl rfl (Nat.le_of_ble_eq_true rfl) (Nat.le_of_ble_eq_true rfl) dX4_tower_72 ?_
              exact ⟨by simp [xTower, g_7, c_12, c_26, c_49, c_56], by simpa [xTower, g_7, c_12, c_26, c_49, c_56] using hR⟩
            · exact absurd rfl c_56
          · refine j_iconst (v := 0) dX4_tower_52 (by decide) ?_
            refine j_zret rfl rfl (Nat.le_of_ble_eq_true rfl) (Nat.le_of_ble_eq_true rfl) dX4_tower_53 ?_
            exact ⟨by simp [xTower, g_7, c_12, c_26, c_49], by simpa [xTower, g_7, c_12, c_26, c_49] using hR⟩
        · exact absurd rfl c_26
      · exact absurd rfl c_12
  · have hw1 : True := trivial
    refine j_iload_n dX4_tower_0 rfl ?_
    refine j_iconst (v := 0) dX4_tower_1 (by decide) ?_
    refine j_ldc (own := RX4) rfl wc_X4_77 dX4_tower_2 ?_
    refine j_callS (rest := []) (c_X4_within l G) cw_X4_within wl_X4_43 ws_X4_within rfl rfl (Nat.le_of_ble_eq_true rfl) (Nat.le_of_ble_eq_true rfl) (Nat.le_of_ble_eq_true rfl) (Nat.le_of_ble_eq_true rfl) (Nat.le_of_ble_eq_true rfl) dX4_tower_4 (fun v_4 h_4 e_4 => ?_)
    obtain ⟨rfl, hh⟩ := e_4
    have hh := hh.symm
    subst hh
    refine j_if_eq 22 dX4_tower_7 (by decide) (fun c_7 => ?_) (fun c_7 => ?_)
    · have g_7 := (bi_eq0 _).mp c_7
      refine j_iconst (v := 0) dX4_tower_22 (by decide) ?_
      refine j_zret rfl rfl (Nat.le_of_ble_eq_true rfl) (Nat.le_of_ble_eq_true rfl) dX4_tower_23 ?_
      exact ⟨by simp [xTower, g_7, hw], by simpa [xTower, g_7, hw] using hR⟩
    · have g_7 := (bi_ne0 _).mp c_7
      refine j_iload_n dX4_tower_10 rfl ?_
      refine j_iconst (v := (-1)) dX4_tower_11 (by decide) ?_
      refine j_icmp_eq 24 dX4_tower_12 (by decide) (fun c_12 => ?_) (fun c_12 => ?_)
      · exact absurd c_12 hw
      · refine j_iload_n dX4_tower_15 rfl ?_
        refine j_callS (rest := []) (c_X4_isWay l G) cw_X4_isWay wl_X4_180 ws_X4_isWay rfl rfl (Nat.le_of_ble_eq_true rfl) (Nat.le_of_ble_eq_true rfl) (Nat.le_of_ble_eq_true rfl) (Nat.le_of_ble_eq_true rfl) (Nat.le_of_ble_eq_true rfl) dX4_tower_16 (fun v_16 h_16 e_16 => ?_)
        obtain ⟨rfl, hh⟩ := e_16
        have hh := hh.symm
        subst hh
        refine j_if_ne 24 dX4_tower_19 (by decide) (fun c_19 => ?_) (fun c_19 => ?_)
        · have g_19 := (bi_ne0 _).mp c_19
          obtain ⟨j, hj, rfl, hcl⟩ := iw_le (n := 4) (by omega) g_19
          have hcl : cl (nI j) = j := hcl
          refine j_iload_n dX4_tower_24 rfl ?_
          refine j_iconst (v := (-1)) dX4_tower_25 (by decide) ?_
          refine j_icmp_eq 42 dX4_tower_26 (by decide) (fun c_26 => ?_) (fun c_26 => ?_)
          · exact absurd c_26 hw
          · refine j_iload_n dX4_tower_29 rfl ?_
            refine j_iconst (v := 0) dX4_tower_30 (by decide) ?_
            refine j_sipush (v := 300) dX4_tower_31 (by decide) ?_
            refine j_callS (rest := []) (c_X4_within l G) cw_X4_within wl_X4_43 ws_X4_within rfl rfl (Nat.le_of_ble_eq_true rfl) (Nat.le_of_ble_eq_true rfl) (Nat.le_of_ble_eq_true rfl) (Nat.le_of_ble_eq_true rfl) (Nat.le_of_ble_eq_true rfl) dX4_tower_34 (fun v_34 h_34 e_34 => ?_)
            obtain ⟨rfl, hh⟩ := e_34
            have hh := hh.symm
            subst hh
            refine j_if_ne 42 dX4_tower_37 (by decide) (fun c_37 => ?_) (fun c_37 => ?_)
            · have g_37 := (bi_ne0 _).mp c_37
              refine j_aload_n dX4_tower_42 rfl ?_
              refine j_iload_n dX4_tower_43 rfl ?_
              refine j_iload_n dX4_tower_44 rfl ?_
              refine j_callV (rest := []) (c_X4_pullsIf l G hR hnb hb24) (hR.1 _ ⟨by first | assumption | exact Nat.zero_lt_one, rfl⟩) rfl cw_X4_pullsIf wl_X4_183 wm_X4_pullsIf wx_X4_pullsIf rfl rfl (Nat.le_of_ble_eq_true rfl) (Nat.le_of_ble_eq_true rfl) (Nat.le_of_ble_eq_true rfl) (Nat.le_of_ble_eq_true rfl) (Nat.le_of_ble_eq_true rfl) dX4_tower_45 (fun v_45 h_45 e_45 => ?_)
              obtain ⟨rfl, hh⟩ := e_45
              have hh := hh.symm
              subst hh
              refine j_iload_n dX4_tower_48 rfl ?_
              refine j_icmp_le 54 dX4_tower_49 (by decide) (fun c_49 => ?_) (fun c_49 => ?_)
              · refine j_iload_n dX4_tower_54 rfl ?_
                refine j_iconst (v := (-1)) dX4_tower_55 (by decide) ?_
                refine j_icmp_eq 66 dX4_tower_56 (by decide) (fun c_56 => ?_) (fun c_56 => ?_)
                · exact absurd c_56 hw
                · refine j_aload_n dX4_tower_59 rfl ?_
                  refine gX4_35 rfl (hR.1 _ ⟨by first | assumption | exact Nat.zero_lt_one, rfl⟩) rfl dX4_tower_60 ?_
                  refine j_iload_n dX4_tower_63 rfl ?_
                  refine j_iload_n dX4_tower_64 rfl ?_
                  refine r_iast hR ⟨by first | assumption | exact Nat.zero_lt_one, rfl⟩ (fun _ => rfl) j rfl (by omega) (by decide) dX4_tower_65 (fun h hR => ?_)
                  refine j_aload_n dX4_tower_66 rfl ?_
                  refine j_iload_n dX4_tower_67 rfl ?_
                  refine qX4_187 rfl hR dX4_tower_68 (fun h hR => ?_)
                  refine j_iconst (v := 1) dX4_tower_71 (by decide) ?_
                  refine j_zret rfl rfl (Nat.le_of_ble_eq_true rfl) (Nat.le_of_ble_eq_true rfl) dX4_tower_72 ?_
                  exact ⟨by simp [xTower, g_7, c_12, g_19, hcl, c_26, g_37, c_49, c_56, hw], by simpa [xTower, g_7, c_12, g_19, hcl, c_26, g_37, c_49, c_56, hw] using hR⟩
              · refine j_iconst (v := 0) dX4_tower_52 (by decide) ?_
                refine j_zret rfl rfl (Nat.le_of_ble_eq_true rfl) (Nat.le_of_ble_eq_true rfl) dX4_tower_53 ?_
                exact ⟨by simp [xTower, g_7, c_12, g_19, hcl, c_26, g_37, c_49, hw], by simpa [xTower, g_7, c_12, g_19, hcl, c_26, g_37, c_49, hw] using hR⟩
            · have g_37 := (bi_eq0 _).mp c_37
              refine j_iconst (v := 0) dX4_tower_40 (by decide) ?_
              refine j_zret rfl rfl (Nat.le_of_ble_eq_true rfl) (Nat.le_of_ble_eq_true rfl) dX4_tower_41 ?_
              exact ⟨by simp [xTower, g_7, c_12, g_19, hcl, c_26, g_37, hw], by simpa [xTower, g_7, c_12, g_19, hcl, c_26, g_37, hw] using hR⟩
        · have g_19 := (bi_eq0 _).mp c_19
          refine j_iconst (v := 0) dX4_tower_22 (by decide) ?_
          refine j_zret rfl rfl (Nat.le_of_ble_eq_true rfl) (Nat.le_of_ble_eq_true rfl) dX4_tower_23 ?_
          exact ⟨by simp [xTower, g_7, c_12, g_19, hw], by simpa [xTower, g_7, c_12, g_19, hw] using hR⟩

def xAbout (nb : Nat) (w : Int32) (Z : ZT) : Int32 :=
  if iw w 10 14 then Z (0, 0, 10) (cl w - 10) else if w = 0 then Z (0, 0, 0) 1 else if w = 1 then Z (0, 0, 0) 3 else if w = 2 then Z (0, 0, 0) 4 else if w = 3 then Z (0, 0, 0) 5 else if w = 4 then Z (0, 0, 0) 6 else if w = 5 then xMetal Z nb
  else if w = 6 then Z (1, 0, 0) 1 else if w = 7 then Z (1, 0, 0) 2 else if w = 8 then xPulls Z (-1) 0 nb else if w = 9 then Z (0, 0, 0) 10 else -1
set_option maxRecDepth 100000 in
set_option maxHeartbeats 4000000 in
theorem c_X4_about (l : Launch) (G : GG) {ad : NM → Nat} {np nb : Nat} {Z : ZT} {L : LT} {h : AH} (hR : Rm ad np nb Z L h) (hnb : Z (0, 0, 0) 3 = nI nb) (hb24 : nb ≤ 24) {w : Int32} : Con l G mX4_about 5 0 0 [.ref (ad (0, 0, 0)), .int w] h (fun r h2 => r = some (.int (xAbout nb w Z)) ∧ h2 = h) := by
  refine Con.of 0 rfl (Nat.le_of_ble_eq_true rfl) ?_
  refine j_iload_n dX4_about_0 rfl ?_
  refine j_bipush (v := 10) dX4_about_1 (by decide) ?_
  refine j_bipush (v := 14) dX4_about_3 (by decide) ?_
  refine j_callS (rest := []) (c_X4_within l G) cw_X4_within wl_X4_43 ws_X4_within rfl rfl (Nat.le_of_ble_eq_true rfl) (Nat.le_of_ble_eq_true rfl) (Nat.le_of_ble_eq_true rfl) (Nat.le_of_ble_eq_true rfl) (Nat.le_of_ble_eq_true rfl) dX4_about_5 (fun v_5 h_5 e_5 => ?_)
  obtain ⟨rfl, hh⟩ := e_5
  have hh := hh.symm
  subst hh
  refine j_if_eq 21 dX4_about_8 (by decide) (fun c_8 => ?_) (fun c_8 => ?_)
  · have g_8 := (bi_eq0 _).mp c_8
    refine j_iload_n dX4_about_21 rfl ?_
    by_cases ho : w.toInt < 0 ∨ 9 < w.toInt
    · refine j_tableOut 132 dX4_about_22 ho (by decide) ?_
      refine j_iconst (v := (-1)) dX4_about_132 (by decide) ?_
      refine j_iret rfl (Nat.le_of_ble_eq_true rfl) (Nat.le_of_ble_eq_true rfl) dX4_about_133 ?_
      exact ⟨by simp [xAbout, g_8, ne_of_toInt ho 0 (by decide) (by decide), ne_of_toInt ho 1 (by decide) (by decide), ne_of_toInt ho 2 (by decide) (by decide), ne_of_toInt ho 3 (by decide) (by decide), ne_of_toInt ho 4 (by decide) (by decide), ne_of_toInt ho 5 (by decide) (by decide), ne_of_toInt ho 6 (by decide) (by decide), ne_of_toInt ho 7 (by decide) (by decide), ne_of_toInt ho 8 (by decide) (by decide), ne_of_toInt ho 9 (by decide) (by decide)], rfl⟩
    · have ho1 : ¬ w.toInt < 0 := fun q => ho (Or.inl q)
      have ho2 : ¬ 9 < w.toInt := fun q => ho (Or.inr q)
      rcases sw_0_9 ho1 ho2 with rfl | rfl | rfl | rfl | rfl | rfl | rfl | rfl | rfl | rfl
      · refine j_tableIn (x := 0) 76 dX4_about_22 (by decide) (by decide) rfl (by decide) ?_
        refine j_aload_n dX4_about_76 rfl ?_
        refine gX4_39 rfl (hR.1 _ ⟨by first | assumption | exact Nat.zero_lt_one, rfl⟩) rfl dX4_about_77 ?_
        refine j_iret rfl (Nat.le_of_ble_eq_true rfl) (Nat.le_of_ble_eq_true rfl) dX4_about_80 ?_
        exact ⟨by simp [xAbout, g_8], rfl⟩
      · refine j_tableIn (x := 1) 81 dX4_about_22 (by decide) (by decide) rfl (by decide) ?_
        refine j_aload_n dX4_about_81 rfl ?_
        refine gX4_85 rfl (hR.1 _ ⟨by first | assumption | exact Nat.zero_lt_one, rfl⟩) rfl dX4_about_82 ?_
        refine j_iret rfl (Nat.le_of_ble_eq_true rfl) (Nat.le_of_ble_eq_true rfl) dX4_about_85 ?_
        exact ⟨by simp [xAbout, g_8], rfl⟩
      · refine j_tableIn (x := 2) 86 dX4_about_22 (by decide) (by decide) rfl (by decide) ?_
        refine j_aload_n dX4_about_86 rfl ?_
        refine gX4_78 rfl (hR.1 _ ⟨by first | assumption | exact Nat.zero_lt_one, rfl⟩) rfl dX4_about_87 ?_
        refine j_iret rfl (Nat.le_of_ble_eq_true rfl) (Nat.le_of_ble_eq_true rfl) dX4_about_90 ?_
        exact ⟨by simp [xAbout, g_8], rfl⟩
      · refine j_tableIn (x := 3) 91 dX4_about_22 (by decide) (by decide) rfl (by decide) ?_
        refine j_aload_n dX4_about_91 rfl ?_
        refine gX4_82 rfl (hR.1 _ ⟨by first | assumption | exact Nat.zero_lt_one, rfl⟩) rfl dX4_about_92 ?_
        refine j_iret rfl (Nat.le_of_ble_eq_true rfl) (Nat.le_of_ble_eq_true rfl) dX4_about_95 ?_
        exact ⟨by simp [xAbout, g_8], rfl⟩
      · refine j_tableIn (x := 4) 96 dX4_about_22 (by decide) (by decide) rfl (by decide) ?_
        refine j_aload_n dX4_about_96 rfl ?_
        refine gX4_130 rfl (hR.1 _ ⟨by first | assumption | exact Nat.zero_lt_one, rfl⟩) rfl dX4_about_97 ?_
        refine j_iret rfl (Nat.le_of_ble_eq_true rfl) (Nat.le_of_ble_eq_true rfl) dX4_about_100 ?_
        exact ⟨by simp [xAbout, g_8], rfl⟩
      · refine j_tableIn (x := 5) 101 dX4_about_22 (by decide) (by decide) rfl (by decide) ?_
        refine j_aload_n dX4_about_101 rfl ?_
        refine j_callV (rest := []) (c_X4_soundMetal l G hR hnb hb24) (hR.1 _ ⟨by first | assumption | exact Nat.zero_lt_one, rfl⟩) rfl cw_X4_soundMetal wl_X4_193 wm_X4_soundMetal wx_X4_soundMetal rfl rfl (Nat.le_of_ble_eq_true rfl) (Nat.le_of_ble_eq_true rfl) (Nat.le_of_ble_eq_true rfl) (Nat.le_of_ble_eq_true rfl) (Nat.le_of_ble_eq_true rfl) dX4_about_102 (fun v_102 h_102 e_102 => ?_)
        obtain ⟨rfl, hh⟩ := e_102
        have hh := hh.symm
        subst hh
        refine j_iret rfl (Nat.le_of_ble_eq_true rfl) (Nat.le_of_ble_eq_true rfl) dX4_about_105 ?_
        exact ⟨by simp [xAbout, g_8], rfl⟩
      · refine j_tableIn (x := 6) 106 dX4_about_22 (by decide) (by decide) rfl (by decide) ?_
        refine j_aload_n dX4_about_106 rfl ?_
        refine gX4_31 rfl (hR.1 _ ⟨by first | assumption | exact Nat.zero_lt_one, rfl⟩) rfl dX4_about_107 ?_
        refine gX4_161 rfl (hR.1 _ ⟨by first | assumption | exact Nat.zero_lt_one, rfl⟩) rfl dX4_about_110 ?_
        refine j_iret rfl (Nat.le_of_ble_eq_true rfl) (Nat.le_of_ble_eq_true rfl) dX4_about_113 ?_
        exact ⟨by simp [xAbout, g_8], rfl⟩
      · refine j_tableIn (x := 7) 114 dX4_about_22 (by decide) (by decide) rfl (by decide) ?_
        refine j_aload_n dX4_about_114 rfl ?_
        refine gX4_31 rfl (hR.1 _ ⟨by first | assumption | exact Nat.zero_lt_one, rfl⟩) rfl dX4_about_115 ?_
        refine gX4_196 rfl (hR.1 _ ⟨by first | assumption | exact Nat.zero_lt_one, rfl⟩) rfl dX4_about_118 ?_
        refine j_iret rfl (Nat.le_of_ble_eq_true rfl) (Nat.le_of_ble_eq_true rfl) dX4_about_121 ?_
        exact ⟨by simp [xAbout, g_8], rfl⟩
      · refine j_tableIn (x := 8) 122 dX4_about_22 (by decide) (by decide) rfl (by decide) ?_
        refine j_aload_n dX4_about_122 rfl ?_
        refine j_callV (rest := []) (c_X4_pullsTogether l G hR hnb hb24) (hR.1 _ ⟨by first | assumption | exact Nat.zero_lt_one, rfl⟩) rfl cw_X4_pullsTogether wl_X4_190 wm_X4_pullsTogether wx_X4_pullsTogether rfl rfl (Nat.le_of_ble_eq_true rfl) (Nat.le_of_ble_eq_true rfl) (Nat.le_of_ble_eq_true rfl) (Nat.le_of_ble_eq_true rfl) (Nat.le_of_ble_eq_true rfl) dX4_about_123 (fun v_123 h_123 e_123 => ?_)
        obtain ⟨rfl, hh⟩ := e_123
        have hh := hh.symm
        subst hh
        refine j_iret rfl (Nat.le_of_ble_eq_true rfl) (Nat.le_of_ble_eq_true rfl) dX4_about_126 ?_
        exact ⟨by simp [xAbout, g_8], rfl⟩
      · refine j_tableIn (x := 9) 127 dX4_about_22 (by decide) (by decide) rfl (by decide) ?_
        refine j_aload_n dX4_about_127 rfl ?_
        refine gX4_187 rfl (hR.1 _ ⟨by first | assumption | exact Nat.zero_lt_one, rfl⟩) rfl dX4_about_128 ?_
        refine j_iret rfl (Nat.le_of_ble_eq_true rfl) (Nat.le_of_ble_eq_true rfl) dX4_about_131 ?_
        exact ⟨by simp [xAbout, g_8], rfl⟩
  · have g_8 := (bi_ne0 _).mp c_8
    obtain ⟨i, hi1, hi2, rfl, hclw⟩ := iw_ab 10 14 (by omega) g_8 (by omega)
    refine j_aload_n dX4_about_11 rfl ?_
    refine gX4_35 rfl (hR.1 _ ⟨by first | assumption | exact Nat.zero_lt_one, rfl⟩) rfl dX4_about_12 ?_
    refine j_iload_n dX4_about_15 rfl ?_
    refine j_bipush (v := 10) dX4_about_16 (by decide) ?_
    refine j_isub dX4_about_18 ?_
    refine j_iald (hR.1 _ ⟨by first | assumption | exact Nat.zero_lt_one, rfl⟩) (i - 10) (sub10' i hi1) (by omega) (by decide) dX4_about_19 ?_
    refine j_iret rfl (Nat.le_of_ble_eq_true rfl) (Nat.le_of_ble_eq_true rfl) dX4_about_20 ?_
    exact ⟨by simp [xAbout, g_8, hclw], rfl⟩

def xBellOf (nb : Nat) (v w : Int32) (Z : ZT) : Int32 :=
  if iw v 0 (nI nb - 1) then
    if iw w 0 4 then pNow Z (cl v) (cl w) else if iw w 10 17 then Z (4, cl v, 3) (cl w - 10) else if w = 5 then wNow Z (cl v) else if w = 6 then (if Z (4, cl v, 0) 3 = 0 then 0 else 1)
    else if w = 7 then (if Z (4, cl v, 0) 4 = 0 then 0 else 1) else if w = 8 then Z (4, cl v, 0) 5 else if w = 9 then xPull Z (cl v) (Z (4, cl v, 0) 5) (xShare Z (Z (4, cl v, 0) 5)) else if w = 18 then Z (4, cl v, 0) 0 else -100000
  else -100000
set_option maxRecDepth 100000 in
set_option maxHeartbeats 4000000 in
theorem c_X4_bellOf (l : Launch) (G : GG) {ad : NM → Nat} {np nb : Nat} {Z : ZT} {L : LT} {h : AH} (hR : Rm ad np nb Z L h) (hnb : Z (0, 0, 0) 3 = nI nb) (hb24 : nb ≤ 24) {v w : Int32} : Con l G mX4_bellOf 3 0 0 [.ref (ad (0, 0, 0)), .int v, .int w] h (fun r h2 => r = some (.int (xBellOf nb v w Z)) ∧ h2 = h) := by
  refine Con.of 1 rfl (Nat.le_of_ble_eq_true rfl) ?_
  refine j_aload_n dX4_bellOf_0 rfl ?_
  refine j_iload_n dX4_bellOf_1 rfl ?_
  refine j_callV (rest := []) (c_X4_bellAt l G hR hnb hb24) (hR.1 _ ⟨by first | assumption | exact Nat.zero_lt_one, rfl⟩) rfl cw_X4_bellAt wl_X4_101 wm_X4_bellAt wx_X4_bellAt rfl rfl (Nat.le_of_ble_eq_true rfl) (Nat.le_of_ble_eq_true rfl) (Nat.le_of_ble_eq_true rfl) (Nat.le_of_ble_eq_true rfl) (Nat.le_of_ble_eq_true rfl) dX4_bellOf_2 (fun v_2 h_2 e_2 => ?_)
  obtain ⟨rfl, hh⟩ := e_2
  have hh := hh.symm
  subst hh
  cases g : iw v 0 (nI nb - 1) with
  | true =>
    obtain ⟨j, hj, rfl, hcl⟩ := iw_lt (by omega) g
    have hcl : cl (nI j) = j := hcl
    rw [bAt_t g (by omega)]
    refine j_astore_n dX4_bellOf_5 (Nat.le_of_ble_eq_true rfl) rfl ?_
    refine j_aload_n dX4_bellOf_6 rfl ?_
    refine j_ifnonnull 13 dX4_bellOf_7 (by decide) ?_
    refine j_iload_n dX4_bellOf_13 rfl ?_
    refine j_callS (rest := []) (c_X4_isPart l G) cw_X4_isPart wl_X4_58 ws_X4_isPart rfl rfl (Nat.le_of_ble_eq_true rfl) (Nat.le_of_ble_eq_true rfl) (Nat.le_of_ble_eq_true rfl) (Nat.le_of_ble_eq_true rfl) (Nat.le_of_ble_eq_true rfl) dX4_bellOf_14 (fun v_14 h_14 e_14 => ?_)
    obtain ⟨rfl, hh⟩ := e_14
    have hh := hh.symm
    subst hh
    refine j_if_eq 26 dX4_bellOf_17 (by decide) (fun c_17 => ?_) (fun c_17 => ?_)
    · have g_17 := (bi_eq0 _).mp c_17
      refine j_iload_n dX4_bellOf_26 rfl ?_
      refine j_bipush (v := 10) dX4_bellOf_27 (by decide) ?_
      refine j_bipush (v := 17) dX4_bellOf_29 (by decide) ?_
      refine j_callS (rest := []) (c_X4_within l G) cw_X4_within wl_X4_43 ws_X4_within rfl rfl (Nat.le_of_ble_eq_true rfl) (Nat.le_of_ble_eq_true rfl) (Nat.le_of_ble_eq_true rfl) (Nat.le_of_ble_eq_true rfl) (Nat.le_of_ble_eq_true rfl) dX4_bellOf_31 (fun v_31 h_31 e_31 => ?_)
      obtain ⟨rfl, hh⟩ := e_31
      have hh := hh.symm
      subst hh
      refine j_if_eq 47 dX4_bellOf_34 (by decide) (fun c_34 => ?_) (fun c_34 => ?_)
      · have g_34 := (bi_eq0 _).mp c_34
        refine j_iload_n dX4_bellOf_47 rfl ?_
        by_cases ho : w.toInt < 5 ∨ 18 < w.toInt
        · refine j_tableOut 178 dX4_bellOf_48 ho (by decide) ?_
          refine j_ldc (own := RX4) rfl wc_X4_136 dX4_bellOf_178 ?_
          refine j_iret rfl (Nat.le_of_ble_eq_true rfl) (Nat.le_of_ble_eq_true rfl) dX4_bellOf_180 ?_
          exact ⟨by simp [xBellOf, g, hcl, g_17, g_34, ne_of_toInt ho 5 (by decide) (by decide), ne_of_toInt ho 6 (by decide) (by decide), ne_of_toInt ho 7 (by decide) (by decide), ne_of_toInt ho 8 (by decide) (by decide), ne_of_toInt ho 9 (by decide) (by decide), ne_of_toInt ho 18 (by decide) (by decide)], rfl⟩
        · have ho1 : ¬ w.toInt < 5 := fun q => ho (Or.inl q)
          have ho2 : ¬ 18 < w.toInt := fun q => ho (Or.inr q)
          rcases sw_5_18 ho1 ho2 with rfl | rfl | rfl | rfl | rfl | rfl | rfl | rfl | rfl | rfl | rfl | rfl | rfl | rfl
          · refine j_tableIn (x := 5) 120 dX4_bellOf_48 (by decide) (by decide) rfl (by decide) ?_
            refine j_aload_n dX4_bellOf_120 rfl ?_
            refine j_callV (rest := []) (c_X0_weightNow l G hR hj) (hR.1 _ ⟨by first | assumption | exact Nat.zero_lt_one, rfl⟩) rfl cw_X0_weightNow wl_X4_133 wm_X0_weightNow wx_X0_weightNow rfl rfl (Nat.le_of_ble_eq_true rfl) (Nat.le_of_ble_eq_true rfl) (Nat.le_of_ble_eq_true rfl) (Nat.le_of_ble_eq_true rfl) (Nat.le_of_ble_eq_true rfl) dX4_bellOf_121 (fun v_121 h_121 e_121 => ?_)
            obtain ⟨rfl, hh⟩ := e_121
            have hh := hh.symm
            subst hh
            refine j_iret rfl (Nat.le_of_ble_eq_true rfl) (Nat.le_of_ble_eq_true rfl) dX4_bellOf_124 ?_
            exact ⟨by simp [xBellOf, g, hcl, g_17, g_34], rfl⟩
          · refine j_tableIn (x := 6) 125 dX4_bellOf_48 (by decide) (by decide) rfl (by decide) ?_
            refine j_aload_n dX4_bellOf_125 rfl ?_
            refine gX4_120 rfl (hR.1 _ ⟨by first | assumption | exact Nat.zero_lt_one, rfl⟩) rfl dX4_bellOf_126 ?_
            refine j_if_eq 136 dX4_bellOf_129 (by decide) (fun c_129 => ?_) (fun c_129 => ?_)
            · refine j_iconst (v := 0) dX4_bellOf_136 (by decide) ?_
              refine j_iret rfl (Nat.le_of_ble_eq_true rfl) (Nat.le_of_ble_eq_true rfl) dX4_bellOf_137 ?_
              exact ⟨by simp [xBellOf, g, hcl, g_17, g_34, c_129], rfl⟩
            · refine j_iconst (v := 1) dX4_bellOf_132 (by decide) ?_
              refine j_goto 137 dX4_bellOf_133 (by decide) ?_
              refine j_iret rfl (Nat.le_of_ble_eq_true rfl) (Nat.le_of_ble_eq_true rfl) dX4_bellOf_137 ?_
              exact ⟨by simp [xBellOf, g, hcl, g_17, g_34, c_129], rfl⟩
          · refine j_tableIn (x := 7) 138 dX4_bellOf_48 (by decide) (by decide) rfl (by decide) ?_
            refine j_aload_n dX4_bellOf_138 rfl ?_
            refine gX4_124 rfl (hR.1 _ ⟨by first | assumption | exact Nat.zero_lt_one, rfl⟩) rfl dX4_bellOf_139 ?_
            refine j_if_eq 149 dX4_bellOf_142 (by decide) (fun c_142 => ?_) (fun c_142 => ?_)
            · refine j_iconst (v := 0) dX4_bellOf_149 (by decide) ?_
              refine j_iret rfl (Nat.le_of_ble_eq_true rfl) (Nat.le_of_ble_eq_true rfl) dX4_bellOf_150 ?_
              exact ⟨by simp [xBellOf, g, hcl, g_17, g_34, c_142], rfl⟩
            · refine j_iconst (v := 1) dX4_bellOf_145 (by decide) ?_
              refine j_goto 150 dX4_bellOf_146 (by decide) ?_
              refine j_iret rfl (Nat.le_of_ble_eq_true rfl) (Nat.le_of_ble_eq_true rfl) dX4_bellOf_150 ?_
              exact ⟨by simp [xBellOf, g, hcl, g_17, g_34, c_142], rfl⟩
          · refine j_tableIn (x := 8) 151 dX4_bellOf_48 (by decide) (by decide) rfl (by decide) ?_
            refine j_aload_n dX4_bellOf_151 rfl ?_
            refine gX4_127 rfl (hR.1 _ ⟨by first | assumption | exact Nat.zero_lt_one, rfl⟩) rfl dX4_bellOf_152 ?_
            refine j_iret rfl (Nat.le_of_ble_eq_true rfl) (Nat.le_of_ble_eq_true rfl) dX4_bellOf_155 ?_
            exact ⟨by simp [xBellOf, g, hcl, g_17, g_34], rfl⟩
          · refine j_tableIn (x := 9) 156 dX4_bellOf_48 (by decide) (by decide) rfl (by decide) ?_
            refine j_aload_n dX4_bellOf_156 rfl ?_
            refine j_aload_n dX4_bellOf_157 rfl ?_
            refine gX4_127 rfl (hR.1 _ ⟨by first | assumption | exact Nat.zero_lt_one, rfl⟩) rfl dX4_bellOf_158 ?_
            refine j_aload_n dX4_bellOf_161 rfl ?_
            refine j_aload_n dX4_bellOf_162 rfl ?_
            refine gX4_127 rfl (hR.1 _ ⟨by first | assumption | exact Nat.zero_lt_one, rfl⟩) rfl dX4_bellOf_163 ?_
            refine j_callV (rest := [.int (Z (4, j, 0) 5), .ref (ad (4, j, 0))]) (c_X4_shareOf l G hR) (hR.1 _ ⟨by first | assumption | exact Nat.zero_lt_one, rfl⟩) rfl cw_X4_shareOf wl_X4_140 wm_X4_shareOf wx_X4_shareOf rfl rfl (Nat.le_of_ble_eq_true rfl) (Nat.le_of_ble_eq_true rfl) (Nat.le_of_ble_eq_true rfl) (Nat.le_of_ble_eq_true rfl) (Nat.le_of_ble_eq_true rfl) dX4_bellOf_166 (fun v_166 h_166 e_166 => ?_)
            obtain ⟨rfl, hh⟩ := e_166
            have hh := hh.symm
            subst hh
            refine j_callS (rest := []) (c_X4_pullBy l G hR hj) cw_X4_pullBy wl_X4_143 ws_X4_pullBy rfl rfl (Nat.le_of_ble_eq_true rfl) (Nat.le_of_ble_eq_true rfl) (Nat.le_of_ble_eq_true rfl) (Nat.le_of_ble_eq_true rfl) (Nat.le_of_ble_eq_true rfl) dX4_bellOf_169 (fun v_169 h_169 e_169 => ?_)
            obtain ⟨rfl, hh⟩ := e_169
            have hh := hh.symm
            subst hh
            refine j_iret rfl (Nat.le_of_ble_eq_true rfl) (Nat.le_of_ble_eq_true rfl) dX4_bellOf_172 ?_
            exact ⟨by simp [xBellOf, g, hcl, g_17, g_34], rfl⟩
          · refine j_tableIn (x := 10) 178 dX4_bellOf_48 (by decide) (by decide) rfl (by decide) ?_
            refine j_ldc (own := RX4) rfl wc_X4_136 dX4_bellOf_178 ?_
            refine j_iret rfl (Nat.le_of_ble_eq_true rfl) (Nat.le_of_ble_eq_true rfl) dX4_bellOf_180 ?_
            exact ⟨by simp [xBellOf, g, hcl, g_17, g_34], rfl⟩
          · refine j_tableIn (x := 11) 178 dX4_bellOf_48 (by decide) (by decide) rfl (by decide) ?_
            refine j_ldc (own := RX4) rfl wc_X4_136 dX4_bellOf_178 ?_
            refine j_iret rfl (Nat.le_of_ble_eq_true rfl) (Nat.le_of_ble_eq_true rfl) dX4_bellOf_180 ?_
            exact ⟨by simp [xBellOf, g, hcl, g_17, g_34], rfl⟩
          · refine j_tableIn (x := 12) 178 dX4_bellOf_48 (by decide) (by decide) rfl (by decide) ?_
            refine j_ldc (own := RX4) rfl wc_X4_136 dX4_bellOf_178 ?_
            refine j_iret rfl (Nat.le_of_ble_eq_true rfl) (Nat.le_of_ble_eq_true rfl) dX4_bellOf_180 ?_
            exact ⟨by simp [xBellOf, g, hcl, g_17, g_34], rfl⟩
          · refine j_tableIn (x := 13) 178 dX4_bellOf_48 (by decide) (by decide) rfl (by decide) ?_
            refine j_ldc (own := RX4) rfl wc_X4_136 dX4_bellOf_178 ?_
            refine j_iret rfl (Nat.le_of_ble_eq_true rfl) (Nat.le_of_ble_eq_true rfl) dX4_bellOf_180 ?_
            exact ⟨by simp [xBellOf, g, hcl, g_17, g_34], rfl⟩
          · refine j_tableIn (x := 14) 178 dX4_bellOf_48 (by decide) (by decide) rfl (by decide) ?_
            refine j_ldc (own := RX4) rfl wc_X4_136 dX4_bellOf_178 ?_
            refine j_iret rfl (Nat.le_of_ble_eq_true rfl) (Nat.le_of_ble_eq_true rfl) dX4_bellOf_180 ?_
            exact ⟨by simp [xBellOf, g, hcl, g_17, g_34], rfl⟩
          · refine j_tableIn (x := 15) 178 dX4_bellOf_48 (by decide) (by decide) rfl (by decide) ?_
            refine j_ldc (own := RX4) rfl wc_X4_136 dX4_bellOf_178 ?_
            refine j_iret rfl (Nat.le_of_ble_eq_true rfl) (Nat.le_of_ble_eq_true rfl) dX4_bellOf_180 ?_
            exact ⟨by simp [xBellOf, g, hcl, g_17, g_34], rfl⟩
          · refine j_tableIn (x := 16) 178 dX4_bellOf_48 (by decide) (by decide) rfl (by decide) ?_
            refine j_ldc (own := RX4) rfl wc_X4_136 dX4_bellOf_178 ?_
            refine j_iret rfl (Nat.le_of_ble_eq_true rfl) (Nat.le_of_ble_eq_true rfl) dX4_bellOf_180 ?_
            exact ⟨by simp [xBellOf, g, hcl, g_17, g_34], rfl⟩
          · refine j_tableIn (x := 17) 178 dX4_bellOf_48 (by decide) (by decide) rfl (by decide) ?_
            refine j_ldc (own := RX4) rfl wc_X4_136 dX4_bellOf_178 ?_
            refine j_iret rfl (Nat.le_of_ble_eq_true rfl) (Nat.le_of_ble_eq_true rfl) dX4_bellOf_180 ?_
            exact ⟨by simp [xBellOf, g, hcl, g_17, g_34], rfl⟩
          · refine j_tableIn (x := 18) 173 dX4_bellOf_48 (by decide) (by decide) rfl (by decide) ?_
            refine j_aload_n dX4_bellOf_173 rfl ?_
            refine gX4_147 rfl (hR.1 _ ⟨by first | assumption | exact Nat.zero_lt_one, rfl⟩) rfl dX4_bellOf_174 ?_
            refine j_iret rfl (Nat.le_of_ble_eq_true rfl) (Nat.le_of_ble_eq_true rfl) dX4_bellOf_177 ?_
            exact ⟨by simp [xBellOf, g, hcl, g_17, g_34], rfl⟩
      · have g_34 := (bi_ne0 _).mp c_34
        obtain ⟨i, hi1, hi2, rfl, hclw⟩ := iw_ab 10 17 (by omega) g_34 (by omega)
        refine j_aload_n dX4_bellOf_37 rfl ?_
        refine gX4_117 rfl (hR.1 _ ⟨by first | assumption | exact Nat.zero_lt_one, rfl⟩) rfl dX4_bellOf_38 ?_
        refine j_iload_n dX4_bellOf_41 rfl ?_
        refine j_bipush (v := 10) dX4_bellOf_42 (by decide) ?_
        refine j_isub dX4_bellOf_44 ?_
        refine j_iald (hR.1 _ ⟨by first | assumption | exact Nat.zero_lt_one, rfl⟩) (i - 10) (sub10' i hi1) (by omega) (by decide) dX4_bellOf_45 ?_
        refine j_iret rfl (Nat.le_of_ble_eq_true rfl) (Nat.le_of_ble_eq_true rfl) dX4_bellOf_46 ?_
        exact ⟨by simp [xBellOf, g, hcl, g_17, g_34, hclw], rfl⟩
    · have g_17 := (bi_ne0 _).mp c_17
      obtain ⟨q, hq, rfl, hclw⟩ := iw_le (n := 4) (by omega) g_17
      have hclw : cl (nI q) = q := hclw
      refine j_aload_n dX4_bellOf_20 rfl ?_
      refine j_iload_n dX4_bellOf_21 rfl ?_
      refine j_callV (rest := []) (c_X0_partNow l G hR hj (q := q) (by omega)) (hR.1 _ ⟨by first | assumption | exact Nat.zero_lt_one, rfl⟩) rfl cw_X0_partNow wl_X4_137 wm_X0_partNow wx_X0_partNow rfl rfl (Nat.le_of_ble_eq_true rfl) (Nat.le_of_ble_eq_true rfl) (Nat.le_of_ble_eq_true rfl) (Nat.le_of_ble_eq_true rfl) (Nat.le_of_ble_eq_true rfl) dX4_bellOf_22 (fun v_22 h_22 e_22 => ?_)
      obtain ⟨rfl, hh⟩ := e_22
      have hh := hh.symm
      subst hh
      refine j_iret rfl (Nat.le_of_ble_eq_true rfl) (Nat.le_of_ble_eq_true rfl) dX4_bellOf_25 ?_
      exact ⟨by simp [xBellOf, g, hcl, g_17, hclw], rfl⟩
  | false =>
    rw [bAt_f g]
    refine j_astore_nN dX4_bellOf_5 (Nat.le_of_ble_eq_true rfl) rfl ?_
    refine j_aload_nN dX4_bellOf_6 rfl ?_
    refine j_ifnonnullN dX4_bellOf_7 ?_
    refine j_ldc (own := RX4) rfl wc_X4_136 dX4_bellOf_10 ?_
    refine j_iret rfl (Nat.le_of_ble_eq_true rfl) (Nat.le_of_ble_eq_true rfl) dX4_bellOf_12 ?_
    exact ⟨by simp [xBellOf, g], rfl⟩

def xGood (Z : ZT) (p q k : Nat) (v : Int32) : Bool := if q < 5 then iw v (-50) 50 else if q = 5 then iw v 1 50 else if q = 6 then iw v 0 (Z (2, p, 6) k) else if q = 7 then iw v (Z (2, p, 5) k) 99 else false
def xShape (np : Nat) (p w k v : Int32) (Z : ZT) : Int32 × ZT :=
  if iw p 0 (nI np - 1) && iw k 0 7 && iw w 0 7 && xGood Z (cl p) (cl w) (cl k) v then
    (1, if cl w < 5 then upZ Z (2, cl p, 3) (cl w * 8 + cl k) v else if cl w = 5 then upZ Z (2, cl p, 4) (cl k) v else if cl w = 6 then upZ Z (2, cl p, 5) (cl k) v else upZ Z (2, cl p, 6) (cl k) v) else (0, Z)
theorem iw_wide {w : Int32} (h : iw w 0 4 = true) : iw w 0 7 = true := by
  obtain ⟨q, hq, rfl, -⟩ := iw_le (n := 4) (by omega) h
  exact iw_iff.mpr ⟨nI_pos' (by omega), (nI_leI (a := q) (b := 7) (by omega) (by omega)).mpr (by omega)⟩
theorem iw_none {w : Int32} (h : iw w 0 4 = false) (ho : w.toInt < 5 ∨ 7 < w.toInt) : iw w 0 7 = false := by
  cases h7 : iw w 0 7 with
  | false => rfl
  | true =>
    obtain ⟨q, hq, rfl, -⟩ := iw_le (n := 7) (by omega) h7
    rw [nI_toInt (by omega)] at ho
    rw [show iw (nI q) 0 4 = true from iw_iff.mpr ⟨nI_pos' (by omega), (nI_leI (a := q) (b := 4) (by omega) (by omega)).mpr (by omega)⟩] at h
    cases h
set_option maxRecDepth 100000 in
set_option maxHeartbeats 4000000 in
theorem c_X4_shape (l : Launch) (G : GG) {ad : NM → Nat} {np nb : Nat} {Z : ZT} {L : LT} {h : AH} (hR : Rm ad np nb Z L h) (hnp : Z (0, 0, 0) 1 = nI np) (hp4 : np ≤ 4) {p w k v : Int32} : Con l G mX4_shape 2 0 0 [.ref (ad (0, 0, 0)), .int p, .int w, .int k, .int v] h (fun r h2 => r = some (.int (xShape np p w k v Z).1) ∧ Rm ad np nb (xShape np p w k v Z).2 L h2) := by
  refine Con.of 1 rfl (Nat.le_of_ble_eq_true rfl) ?_
  refine j_aload_n dX4_shape_0 rfl ?_
  refine j_iload_n dX4_shape_1 rfl ?_
  refine j_callV (rest := []) (c_X4_profileAt l G hR hnp hp4) (hR.1 _ ⟨by first | assumption | exact Nat.zero_lt_one, rfl⟩) rfl cw_X4_profileAt wl_X4_50 wm_X4_profileAt wx_X4_profileAt rfl rfl (Nat.le_of_ble_eq_true rfl) (Nat.le_of_ble_eq_true rfl) (Nat.le_of_ble_eq_true rfl) (Nat.le_of_ble_eq_true rfl) (Nat.le_of_ble_eq_true rfl) dX4_shape_2 (fun v_2 h_2 e_2 => ?_)
  obtain ⟨rfl, hh⟩ := e_2
  have hh := hh.symm
  subst hh
  cases g : iw p 0 (nI np - 1) with
  | true =>
    obtain ⟨p, hj, rfl, hcl⟩ := iw_lt (by omega) g
    have hcl : cl (nI p) = p := hcl
    rw [pAt_t g (by omega)]
    refine j_astore dX4_shape_5 (Nat.le_of_ble_eq_true rfl) rfl ?_
    refine j_aload dX4_shape_7 rfl ?_
    refine j_ifnull dX4_shape_9 ?_
    refine j_iload_n dX4_shape_12 rfl ?_
    refine j_callS (rest := []) (c_X4_isHeight l G) cw_X4_isHeight wl_X4_54 ws_X4_isHeight rfl rfl (Nat.le_of_ble_eq_true rfl) (Nat.le_of_ble_eq_true rfl) (Nat.le_of_ble_eq_true rfl) (Nat.le_of_ble_eq_true rfl) (Nat.le_of_ble_eq_true rfl) dX4_shape_13 (fun v_13 h_13 e_13 => ?_)
    obtain ⟨rfl, hh⟩ := e_13
    have hh := hh.symm
    subst hh
    refine j_if_ne 21 dX4_shape_16 (by decide) (fun c_16 => ?_) (fun c_16 => ?_)
    · have g_16 := (bi_ne0 _).mp c_16
      obtain ⟨k, hk, rfl, hclk⟩ := iw_le (n := 7) (by omega) g_16
      have hclk : cl (nI k) = k := hclk
      refine j_iload_n dX4_shape_21 rfl ?_
      refine j_callS (rest := []) (c_X4_isPart l G) cw_X4_isPart wl_X4_58 ws_X4_isPart rfl rfl (Nat.le_of_ble_eq_true rfl) (Nat.le_of_ble_eq_true rfl) (Nat.le_of_ble_eq_true rfl) (Nat.le_of_ble_eq_true rfl) (Nat.le_of_ble_eq_true rfl) dX4_shape_22 (fun v_22 h_22 e_22 => ?_)
      obtain ⟨rfl, hh⟩ := e_22
      have hh := hh.symm
      subst hh
      refine j_if_eq 38 dX4_shape_25 (by decide) (fun c_25 => ?_) (fun c_25 => ?_)
      · have g_25 := (bi_eq0 _).mp c_25
        refine j_iload_n dX4_shape_38 rfl ?_
        by_cases ho : w.toInt < 5 ∨ 7 < w.toInt
        · refine j_tableOut 91 dX4_shape_39 ho (by decide) ?_
          refine j_iconst (v := 0) dX4_shape_91 (by decide) ?_
          refine j_zret rfl rfl (Nat.le_of_ble_eq_true rfl) (Nat.le_of_ble_eq_true rfl) dX4_shape_92 ?_
          exact ⟨by simp [xShape, g, hcl, g_16, hclk, iw_none g_25 ho], by simpa [xShape, g, hcl, g_16, hclk, iw_none g_25 ho] using hR⟩
        · rcases sw_5_7 (fun q => ho (Or.inl q)) (fun q => ho (Or.inr q)) with rfl | rfl | rfl
          · refine j_tableIn (x := 5) 64 dX4_shape_39 (by decide) (by decide) rfl (by decide) ?_
            refine j_aload dX4_shape_64 rfl ?_
            refine j_iload_n dX4_shape_66 rfl ?_
            refine j_iload dX4_shape_67 rfl ?_
            refine j_callV (rest := []) (c_X2_setMetal l G hR hj (k := k) (by omega)) (hR.1 _ ⟨by first | assumption | exact Nat.zero_lt_one, rfl⟩) rfl cw_X2_setMetal wl_X4_64 wm_X2_setMetal wx_X2_setMetal rfl rfl (Nat.le_of_ble_eq_true rfl) (Nat.le_of_ble_eq_true rfl) (Nat.le_of_ble_eq_true rfl) (Nat.le_of_ble_eq_true rfl) (Nat.le_of_ble_eq_true rfl) dX4_shape_69 (fun v_69 h_69 e_69 => ?_)
            obtain ⟨rfl, hR⟩ := e_69
            refine j_zret rfl (bi_nar _) (Nat.le_of_ble_eq_true rfl) (Nat.le_of_ble_eq_true rfl) dX4_shape_72 ?_
            cases hgv : iw v 1 50 <;> simp only [hgv] at hR ⊢ <;> exact ⟨by simp [xShape, xGood, bi, g, hcl, g_16, hclk, g_25, hgv, show iw 5 0 7 = true by decide, show cl 5 = 5 by decide], by simpa [xShape, xGood, g, hcl, g_16, hclk, g_25, hgv, show iw 5 0 7 = true by decide, show cl 5 = 5 by decide] using hR⟩
          · refine j_tableIn (x := 6) 73 dX4_shape_39 (by decide) (by decide) rfl (by decide) ?_
            refine j_aload dX4_shape_73 rfl ?_
            refine j_iload_n dX4_shape_75 rfl ?_
            refine j_iload dX4_shape_76 rfl ?_
            refine j_callV (rest := []) (c_X2_setLeast l G hR hj (k := k) (by omega)) (hR.1 _ ⟨by first | assumption | exact Nat.zero_lt_one, rfl⟩) rfl cw_X2_setLeast wl_X4_68 wm_X2_setLeast wx_X2_setLeast rfl rfl (Nat.le_of_ble_eq_true rfl) (Nat.le_of_ble_eq_true rfl) (Nat.le_of_ble_eq_true rfl) (Nat.le_of_ble_eq_true rfl) (Nat.le_of_ble_eq_true rfl) dX4_shape_78 (fun v_78 h_78 e_78 => ?_)
            obtain ⟨rfl, hR⟩ := e_78
            refine j_zret rfl (bi_nar _) (Nat.le_of_ble_eq_true rfl) (Nat.le_of_ble_eq_true rfl) dX4_shape_81 ?_
            cases hgv : iw v 0 (Z (2, p, 6) k) <;> simp only [hgv] at hR ⊢ <;> exact ⟨by simp [xShape, xGood, bi, g, hcl, g_16, hclk, g_25, hgv, show iw 6 0 7 = true by decide, show cl 6 = 6 by decide], by simpa [xShape, xGood, g, hcl, g_16, hclk, g_25, hgv, show iw 6 0 7 = true by decide, show cl 6 = 6 by decide] using hR⟩
          · refine j_tableIn (x := 7) 82 dX4_shape_39 (by decide) (by decide) rfl (by decide) ?_
            refine j_aload dX4_shape_82 rfl ?_
            refine j_iload_n dX4_shape_84 rfl ?_
            refine j_iload dX4_shape_85 rfl ?_
            refine j_callV (rest := []) (c_X2_setThickness l G hR hj (k := k) (by omega)) (hR.1 _ ⟨by first | assumption | exact Nat.zero_lt_one, rfl⟩) rfl cw_X2_setThickness wl_X4_71 wm_X2_setThickness wx_X2_setThickness rfl rfl (Nat.le_of_ble_eq_true rfl) (Nat.le_of_ble_eq_true rfl) (Nat.le_of_ble_eq_true rfl) (Nat.le_of_ble_eq_true rfl) (Nat.le_of_ble_eq_true rfl) dX4_shape_87 (fun v_87 h_87 e_87 => ?_)
            obtain ⟨rfl, hR⟩ := e_87
            refine j_zret rfl (bi_nar _) (Nat.le_of_ble_eq_true rfl) (Nat.le_of_ble_eq_true rfl) dX4_shape_90 ?_
            cases hgv : iw v (Z (2, p, 5) k) 99 <;> simp only [hgv] at hR ⊢ <;> exact ⟨by simp [xShape, xGood, bi, g, hcl, g_16, hclk, g_25, hgv, show iw 7 0 7 = true by decide, show cl 7 = 7 by decide], by simpa [xShape, xGood, g, hcl, g_16, hclk, g_25, hgv, show iw 7 0 7 = true by decide, show cl 7 = 7 by decide] using hR⟩
      · have g_25 := (bi_ne0 _).mp c_25
        obtain ⟨q, hq, rfl, hclq⟩ := iw_le (n := 4) (by omega) g_25
        have hclq : cl (nI q) = q := hclq
        refine j_aload dX4_shape_28 rfl ?_
        refine j_iload_n dX4_shape_30 rfl ?_
        refine j_iload_n dX4_shape_31 rfl ?_
        refine j_iload dX4_shape_32 rfl ?_
        refine j_callV (rest := []) (c_X2_setTable l G hR hj (k := k) (by omega) (q := q) (by omega)) (hR.1 _ ⟨by first | assumption | exact Nat.zero_lt_one, rfl⟩) rfl cw_X2_setTable wl_X4_61 wm_X2_setTable wx_X2_setTable rfl rfl (Nat.le_of_ble_eq_true rfl) (Nat.le_of_ble_eq_true rfl) (Nat.le_of_ble_eq_true rfl) (Nat.le_of_ble_eq_true rfl) (Nat.le_of_ble_eq_true rfl) dX4_shape_34 (fun v_34 h_34 e_34 => ?_)
        obtain ⟨rfl, hR⟩ := e_34
        refine j_zret rfl (bi_nar _) (Nat.le_of_ble_eq_true rfl) (Nat.le_of_ble_eq_true rfl) dX4_shape_37 ?_
        cases hgv : iw v (-50) 50 <;> simp only [hgv] at hR ⊢ <;> exact ⟨by simp [xShape, xGood, bi, g, hcl, g_16, hclk, g_25, hgv, hclq, iw_wide g_25, show q < 5 by omega], by simpa [xShape, xGood, g, hcl, g_16, hclk, g_25, hgv, hclq, iw_wide g_25, show q < 5 by omega] using hR⟩
    · have g_16 := (bi_eq0 _).mp c_16
      refine j_iconst (v := 0) dX4_shape_19 (by decide) ?_
      refine j_zret rfl rfl (Nat.le_of_ble_eq_true rfl) (Nat.le_of_ble_eq_true rfl) dX4_shape_20 ?_
      exact ⟨by simp [xShape, g, hcl, g_16], by simpa [xShape, g, hcl, g_16] using hR⟩
  | false =>
    rw [pAt_f g]
    refine j_astoreN dX4_shape_5 (Nat.le_of_ble_eq_true rfl) rfl ?_
    refine j_aloadN dX4_shape_7 rfl ?_
    refine j_ifnullN 19 dX4_shape_9 (by decide) ?_
    refine j_iconst (v := 0) dX4_shape_19 (by decide) ?_
    refine j_zret rfl rfl (Nat.le_of_ble_eq_true rfl) (Nat.le_of_ble_eq_true rfl) dX4_shape_20 ?_
    exact ⟨by simp [xShape, g], by simpa [xShape, g] using hR⟩

