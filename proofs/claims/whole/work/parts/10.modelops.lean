def mBuy (c t : Int32) (Z : ZT) : Int32 × ZT :=
  if iw c 0 1000000 && iw t 0 1000000 && !decide (100000000 < Z (5, 0, 0) 18 + c) && decide (Z (5, 0, 0) 19 + t ≤ 100000000) then
    (1, upZ (upZ Z (5, 0, 0) 18 (Z (5, 0, 0) 18 + c)) (5, 0, 0) 19 (upZ Z (5, 0, 0) 18 (Z (5, 0, 0) 18 + c) (5, 0, 0) 19 + t)) else (0, Z)
set_option maxRecDepth 100000 in
set_option maxHeartbeats 4000000 in
theorem c_X5_buy (l : Launch) (G : GG) {ad : NM → Nat} {np nb : Nat} {Z : ZT} {L : LT} {h : AH} (hR : Rm ad np nb Z L h) {c t : Int32} : Con l G mX5_buy 1 0 0 [.ref (ad (5, 0, 0)), .int c, .int t] h (fun r h2 => r = some (.int (mBuy c t Z).1) ∧ Rm ad np nb (mBuy c t Z).2 L h2) := by
  refine Con.of 0 rfl (Nat.le_of_ble_eq_true rfl) ?_
  refine j_iload_n dX5_buy_0 rfl ?_
  refine j_iconst (v := 0) dX5_buy_1 (by decide) ?_
  refine j_ldc (own := RX5) rfl wc_X5_97 dX5_buy_2 ?_
  refine j_callS (rest := []) (c_X5_in l G) cw_X5_in wl_X5_90 ws_X5_in rfl rfl (Nat.le_of_ble_eq_true rfl) (Nat.le_of_ble_eq_true rfl) (Nat.le_of_ble_eq_true rfl) (Nat.le_of_ble_eq_true rfl) (Nat.le_of_ble_eq_true rfl) dX5_buy_4 (fun v_4 h_4 e_4 => ?_)
  obtain ⟨rfl, hh⟩ := e_4
  have hh := hh.symm
  subst hh
  refine j_if_eq 42 dX5_buy_7 (by decide) (fun c_7 => ?_) (fun c_7 => ?_)
  · have g_7 := (bi_eq0 _).mp c_7
    refine j_iconst (v := 0) dX5_buy_42 (by decide) ?_
    refine j_zret rfl rfl (Nat.le_of_ble_eq_true rfl) (Nat.le_of_ble_eq_true rfl) dX5_buy_43 ?_
    exact ⟨by simp [mBuy, g_7], by simpa [mBuy, g_7] using hR⟩
  · have g_7 := (bi_ne0 _).mp c_7
    refine j_iload_n dX5_buy_10 rfl ?_
    refine j_iconst (v := 0) dX5_buy_11 (by decide) ?_
    refine j_ldc (own := RX5) rfl wc_X5_97 dX5_buy_12 ?_
    refine j_callS (rest := []) (c_X5_in l G) cw_X5_in wl_X5_90 ws_X5_in rfl rfl (Nat.le_of_ble_eq_true rfl) (Nat.le_of_ble_eq_true rfl) (Nat.le_of_ble_eq_true rfl) (Nat.le_of_ble_eq_true rfl) (Nat.le_of_ble_eq_true rfl) dX5_buy_14 (fun v_14 h_14 e_14 => ?_)
    obtain ⟨rfl, hh⟩ := e_14
    have hh := hh.symm
    subst hh
    refine j_if_eq 42 dX5_buy_17 (by decide) (fun c_17 => ?_) (fun c_17 => ?_)
    · have g_17 := (bi_eq0 _).mp c_17
      refine j_iconst (v := 0) dX5_buy_42 (by decide) ?_
      refine j_zret rfl rfl (Nat.le_of_ble_eq_true rfl) (Nat.le_of_ble_eq_true rfl) dX5_buy_43 ?_
      exact ⟨by simp [mBuy, g_7, g_17], by simpa [mBuy, g_7, g_17] using hR⟩
    · have g_17 := (bi_ne0 _).mp c_17
      refine j_aload_n dX5_buy_20 rfl ?_
      refine gX5_98 rfl (hR.1 _ ⟨by first | assumption | exact Nat.zero_lt_one, rfl⟩) rfl dX5_buy_21 ?_
      refine j_iload_n dX5_buy_24 rfl ?_
      refine j_iadd dX5_buy_25 ?_
      refine j_ldc (own := RX5) rfl wc_X5_101 dX5_buy_26 ?_
      refine j_icmp_gt 42 dX5_buy_28 (by decide) (fun c_28 => ?_) (fun c_28 => ?_)
      · refine j_iconst (v := 0) dX5_buy_42 (by decide) ?_
        refine j_zret rfl rfl (Nat.le_of_ble_eq_true rfl) (Nat.le_of_ble_eq_true rfl) dX5_buy_43 ?_
        exact ⟨by simp [mBuy, g_7, g_17, c_28], by simpa [mBuy, g_7, g_17, c_28] using hR⟩
      · refine j_aload_n dX5_buy_31 rfl ?_
        refine gX5_102 rfl (hR.1 _ ⟨by first | assumption | exact Nat.zero_lt_one, rfl⟩) rfl dX5_buy_32 ?_
        refine j_iload_n dX5_buy_35 rfl ?_
        refine j_iadd dX5_buy_36 ?_
        refine j_ldc (own := RX5) rfl wc_X5_101 dX5_buy_37 ?_
        refine j_icmp_le 44 dX5_buy_39 (by decide) (fun c_39 => ?_) (fun c_39 => ?_)
        · refine j_aload_n dX5_buy_44 rfl ?_
          refine j_dup dX5_buy_45 rfl ?_
          refine gX5_98 rfl (hR.1 _ ⟨by first | assumption | exact Nat.zero_lt_one, rfl⟩) rfl dX5_buy_46 ?_
          refine j_iload_n dX5_buy_49 rfl ?_
          refine j_iadd dX5_buy_50 ?_
          refine qX5_98 rfl hR dX5_buy_51 (fun h hR => ?_)
          refine j_aload_n dX5_buy_54 rfl ?_
          refine j_dup dX5_buy_55 rfl ?_
          refine gX5_102 rfl (hR.1 _ ⟨by first | assumption | exact Nat.zero_lt_one, rfl⟩) rfl dX5_buy_56 ?_
          refine j_iload_n dX5_buy_59 rfl ?_
          refine j_iadd dX5_buy_60 ?_
          refine qX5_102 rfl hR dX5_buy_61 (fun h hR => ?_)
          refine j_iconst (v := 1) dX5_buy_64 (by decide) ?_
          refine j_zret rfl rfl (Nat.le_of_ble_eq_true rfl) (Nat.le_of_ble_eq_true rfl) dX5_buy_65 ?_
          exact ⟨by simp [mBuy, g_7, g_17, c_28, c_39], by simpa [mBuy, g_7, g_17, c_28, c_39] using hR⟩
        · refine j_iconst (v := 0) dX5_buy_42 (by decide) ?_
          refine j_zret rfl rfl (Nat.le_of_ble_eq_true rfl) (Nat.le_of_ble_eq_true rfl) dX5_buy_43 ?_
          exact ⟨by simp [mBuy, g_7, g_17, c_28, c_39], by simpa [mBuy, g_7, g_17, c_28, c_39] using hR⟩

def mBase (p q v : Int32) (Z : ZT) : Int32 × ZT :=
  if iw p 0 (Z (5, 0, 0) 0 - 1) && iw q 0 4 && iw v (-20000) 20000 then (1, upZ Z (5, 0, 6) (5 * cl p + cl q) v) else (0, Z)
set_option maxRecDepth 100000 in
set_option maxHeartbeats 4000000 in
theorem c_X5_base (l : Launch) (G : GG) {ad : NM → Nat} {np nb : Nat} {Z : ZT} {L : LT} {h : AH} (hR : Rm ad np nb Z L h) {mp : Nat} (hmp : Z (5, 0, 0) 0 = nI mp) (hp4 : mp ≤ 4) {p q v : Int32} : Con l G mX5_base 1 0 0 [.ref (ad (5, 0, 0)), .int p, .int q, .int v] h (fun r h2 => r = some (.int (mBase p q v Z).1) ∧ Rm ad np nb (mBase p q v Z).2 L h2) := by
  refine Con.of 0 rfl (Nat.le_of_ble_eq_true rfl) ?_
  refine j_iload_n dX5_base_0 rfl ?_
  refine j_iconst (v := 0) dX5_base_1 (by decide) ?_
  refine j_aload_n dX5_base_2 rfl ?_
  refine gX5_94 rfl (hR.1 _ ⟨by first | assumption | exact Nat.zero_lt_one, rfl⟩) rfl dX5_base_3 ?_
  refine j_iconst (v := 1) dX5_base_6 (by decide) ?_
  refine j_isub dX5_base_7 ?_
  refine j_callS (rest := []) (c_X5_in l G) cw_X5_in wl_X5_90 ws_X5_in rfl rfl (Nat.le_of_ble_eq_true rfl) (Nat.le_of_ble_eq_true rfl) (Nat.le_of_ble_eq_true rfl) (Nat.le_of_ble_eq_true rfl) (Nat.le_of_ble_eq_true rfl) dX5_base_8 (fun v_8 h_8 e_8 => ?_)
  obtain ⟨rfl, hh⟩ := e_8
  have hh := hh.symm
  subst hh
  refine j_if_eq 36 dX5_base_11 (by decide) (fun c_11 => ?_) (fun c_11 => ?_)
  · have g_11 := (bi_eq0 _).mp c_11
    refine j_iconst (v := 0) dX5_base_36 (by decide) ?_
    refine j_zret rfl rfl (Nat.le_of_ble_eq_true rfl) (Nat.le_of_ble_eq_true rfl) dX5_base_37 ?_
    exact ⟨by simp [mBase, g_11], by simpa [mBase, g_11] using hR⟩
  · have g_11 := (bi_ne0 _).mp c_11
    obtain ⟨p, hp, rfl, hclp⟩ := iw_lt (by omega) (hmp ▸ g_11)
    have hclp : cl (nI p) = p := hclp
    refine j_iload_n dX5_base_14 rfl ?_
    refine j_iconst (v := 0) dX5_base_15 (by decide) ?_
    refine j_iconst (v := 4) dX5_base_16 (by decide) ?_
    refine j_callS (rest := []) (c_X5_in l G) cw_X5_in wl_X5_90 ws_X5_in rfl rfl (Nat.le_of_ble_eq_true rfl) (Nat.le_of_ble_eq_true rfl) (Nat.le_of_ble_eq_true rfl) (Nat.le_of_ble_eq_true rfl) (Nat.le_of_ble_eq_true rfl) dX5_base_17 (fun v_17 h_17 e_17 => ?_)
    obtain ⟨rfl, hh⟩ := e_17
    have hh := hh.symm
    subst hh
    refine j_if_eq 36 dX5_base_20 (by decide) (fun c_20 => ?_) (fun c_20 => ?_)
    · have g_20 := (bi_eq0 _).mp c_20
      refine j_iconst (v := 0) dX5_base_36 (by decide) ?_
      refine j_zret rfl rfl (Nat.le_of_ble_eq_true rfl) (Nat.le_of_ble_eq_true rfl) dX5_base_37 ?_
      exact ⟨by simp [mBase, g_11, hclp, g_20], by simpa [mBase, g_11, hclp, g_20] using hR⟩
    · have g_20 := (bi_ne0 _).mp c_20
      obtain ⟨q, hq, rfl, hclq⟩ := iw_le (n := 4) (by omega) g_20
      have hclq : cl (nI q) = q := hclq
      refine j_iload_n dX5_base_23 rfl ?_
      refine j_sipush (v := (-20000)) dX5_base_24 (by decide) ?_
      refine j_sipush (v := 20000) dX5_base_27 (by decide) ?_
      refine j_callS (rest := []) (c_X5_in l G) cw_X5_in wl_X5_90 ws_X5_in rfl rfl (Nat.le_of_ble_eq_true rfl) (Nat.le_of_ble_eq_true rfl) (Nat.le_of_ble_eq_true rfl) (Nat.le_of_ble_eq_true rfl) (Nat.le_of_ble_eq_true rfl) dX5_base_30 (fun v_30 h_30 e_30 => ?_)
      obtain ⟨rfl, hh⟩ := e_30
      have hh := hh.symm
      subst hh
      refine j_if_ne 38 dX5_base_33 (by decide) (fun c_33 => ?_) (fun c_33 => ?_)
      · have g_33 := (bi_ne0 _).mp c_33
        refine j_aload_n dX5_base_38 rfl ?_
        refine gX5_22 rfl (hR.1 _ ⟨by first | assumption | exact Nat.zero_lt_one, rfl⟩) rfl dX5_base_39 ?_
        refine j_iconst (v := 5) dX5_base_42 (by decide) ?_
        refine j_iload_n dX5_base_43 rfl ?_
        refine j_imul dX5_base_44 ?_
        refine j_iload_n dX5_base_45 rfl ?_
        refine j_iadd dX5_base_46 ?_
        refine j_iload_n dX5_base_47 rfl ?_
        refine r_iast hR ⟨Nat.zero_lt_one, rfl⟩ (fun _ => rfl) (5 * p + q) (xi5 p q) (by omega) (by decide) dX5_base_48 (fun h hR => ?_)
        refine j_iconst (v := 1) dX5_base_49 (by decide) ?_
        refine j_zret rfl rfl (Nat.le_of_ble_eq_true rfl) (Nat.le_of_ble_eq_true rfl) dX5_base_50 ?_
        exact ⟨by simp [mBase, g_11, hclp, g_20, hclq, g_33], by simpa [mBase, g_11, hclp, g_20, hclq, g_33] using hR⟩
      · have g_33 := (bi_eq0 _).mp c_33
        refine j_iconst (v := 0) dX5_base_36 (by decide) ?_
        refine j_zret rfl rfl (Nat.le_of_ble_eq_true rfl) (Nat.le_of_ble_eq_true rfl) dX5_base_37 ?_
        exact ⟨by simp [mBase, g_11, hclp, g_20, hclq, g_33], by simpa [mBase, g_11, hclp, g_20, hclq, g_33] using hR⟩

def mOld (v : Int32) (Z : ZT) : Int32 × ZT := if iw v 0 (Z (5, 0, 0) 7 - 1) then (1, upZ Z (5, 0, 16) (cl v) 1) else (0, Z)
set_option maxRecDepth 100000 in
set_option maxHeartbeats 4000000 in
theorem c_X5_old (l : Launch) (G : GG) {ad : NM → Nat} {np nb : Nat} {Z : ZT} {L : LT} {h : AH} (hR : Rm ad np nb Z L h) {mb : Nat} (hmb : Z (5, 0, 0) 7 = nI mb) (hm : mb ≤ 24) {v : Int32} : Con l G mX5_old 2 0 0 [.ref (ad (5, 0, 0)), .int v] h (fun r h2 => r = some (.int (mOld v Z).1) ∧ Rm ad np nb (mOld v Z).2 L h2) := by
  refine Con.of 0 rfl (Nat.le_of_ble_eq_true rfl) ?_
  refine j_aload_n dX5_old_0 rfl ?_
  refine j_iload_n dX5_old_1 rfl ?_
  refine j_callV (rest := []) (c_X5_isBell l G hR) (hR.1 _ ⟨by first | assumption | exact Nat.zero_lt_one, rfl⟩) rfl cw_X5_isBell wl_X5_108 wm_X5_isBell wx_X5_isBell rfl rfl (Nat.le_of_ble_eq_true rfl) (Nat.le_of_ble_eq_true rfl) (Nat.le_of_ble_eq_true rfl) (Nat.le_of_ble_eq_true rfl) (Nat.le_of_ble_eq_true rfl) dX5_old_2 (fun v_2 h_2 e_2 => ?_)
  obtain ⟨rfl, hh⟩ := e_2
  have hh := hh.symm
  subst hh
  refine j_if_ne 10 dX5_old_5 (by decide) (fun c_5 => ?_) (fun c_5 => ?_)
  · have g_5 := (bi_ne0 _).mp c_5
    obtain ⟨j, hj, rfl, hcl⟩ := iw_lt (by omega) (hmb ▸ g_5)
    have hcl : cl (nI j) = j := hcl
    refine j_aload_n dX5_old_10 rfl ?_
    refine gX5_49 rfl (hR.1 _ ⟨by first | assumption | exact Nat.zero_lt_one, rfl⟩) rfl dX5_old_11 ?_
    refine j_iload_n dX5_old_14 rfl ?_
    refine j_iconst (v := 1) dX5_old_15 (by decide) ?_
    refine r_zast hR ⟨Nat.zero_lt_one, rfl⟩ (fun _ => rfl) j rfl (by omega) (by decide) rfl dX5_old_16 (fun h hR => ?_)
    refine j_iconst (v := 1) dX5_old_17 (by decide) ?_
    refine j_zret rfl rfl (Nat.le_of_ble_eq_true rfl) (Nat.le_of_ble_eq_true rfl) dX5_old_18 ?_
    exact ⟨by simp [mOld, g_5, hcl], by simpa [mOld, g_5, hcl] using hR⟩
  · have g_5 := (bi_eq0 _).mp c_5
    refine j_iconst (v := 0) dX5_old_8 (by decide) ?_
    refine j_zret rfl rfl (Nat.le_of_ble_eq_true rfl) (Nat.le_of_ble_eq_true rfl) dX5_old_9 ?_
    exact ⟨by simp [mOld, g_5], by simpa [mOld, g_5] using hR⟩

def mSpan (p a b : Int32) (Z : ZT) : Int32 × ZT := if iw p 0 4 && iw a (-30000) 30000 && iw b a 30000 then (1, upZ (upZ Z (5, 0, 22) (cl p) a) (5, 0, 23) (cl p) b) else (0, Z)
set_option maxRecDepth 100000 in
set_option maxHeartbeats 4000000 in
theorem c_X5_span (l : Launch) (G : GG) {ad : NM → Nat} {np nb : Nat} {Z : ZT} {L : LT} {h : AH} (hR : Rm ad np nb Z L h) {p a b : Int32} : Con l G mX5_span 1 0 0 [.ref (ad (5, 0, 0)), .int p, .int a, .int b] h (fun r h2 => r = some (.int (mSpan p a b Z).1) ∧ Rm ad np nb (mSpan p a b Z).2 L h2) := by
  refine Con.of 0 rfl (Nat.le_of_ble_eq_true rfl) ?_
  refine j_iload_n dX5_span_0 rfl ?_
  refine j_iconst (v := 0) dX5_span_1 (by decide) ?_
  refine j_iconst (v := 4) dX5_span_2 (by decide) ?_
  refine j_callS (rest := []) (c_X5_in l G) cw_X5_in wl_X5_90 ws_X5_in rfl rfl (Nat.le_of_ble_eq_true rfl) (Nat.le_of_ble_eq_true rfl) (Nat.le_of_ble_eq_true rfl) (Nat.le_of_ble_eq_true rfl) (Nat.le_of_ble_eq_true rfl) dX5_span_3 (fun v_3 h_3 e_3 => ?_)
  obtain ⟨rfl, hh⟩ := e_3
  have hh := hh.symm
  subst hh
  refine j_if_eq 33 dX5_span_6 (by decide) (fun c_6 => ?_) (fun c_6 => ?_)
  · have g_6 := (bi_eq0 _).mp c_6
    refine j_iconst (v := 0) dX5_span_33 (by decide) ?_
    refine j_zret rfl rfl (Nat.le_of_ble_eq_true rfl) (Nat.le_of_ble_eq_true rfl) dX5_span_34 ?_
    exact ⟨by simp [mSpan, g_6], by simpa [mSpan, g_6] using hR⟩
  · have g_6 := (bi_ne0 _).mp c_6
    obtain ⟨p, hp, rfl, hclp⟩ := iw_le (n := 4) (by omega) g_6
    have hclp : cl (nI p) = p := hclp
    refine j_iload_n dX5_span_9 rfl ?_
    refine j_sipush (v := (-30000)) dX5_span_10 (by decide) ?_
    refine j_sipush (v := 30000) dX5_span_13 (by decide) ?_
    refine j_callS (rest := []) (c_X5_in l G) cw_X5_in wl_X5_90 ws_X5_in rfl rfl (Nat.le_of_ble_eq_true rfl) (Nat.le_of_ble_eq_true rfl) (Nat.le_of_ble_eq_true rfl) (Nat.le_of_ble_eq_true rfl) (Nat.le_of_ble_eq_true rfl) dX5_span_16 (fun v_16 h_16 e_16 => ?_)
    obtain ⟨rfl, hh⟩ := e_16
    have hh := hh.symm
    subst hh
    refine j_if_eq 33 dX5_span_19 (by decide) (fun c_19 => ?_) (fun c_19 => ?_)
    · have g_19 := (bi_eq0 _).mp c_19
      refine j_iconst (v := 0) dX5_span_33 (by decide) ?_
      refine j_zret rfl rfl (Nat.le_of_ble_eq_true rfl) (Nat.le_of_ble_eq_true rfl) dX5_span_34 ?_
      exact ⟨by simp [mSpan, g_6, hclp, g_19], by simpa [mSpan, g_6, hclp, g_19] using hR⟩
    · have g_19 := (bi_ne0 _).mp c_19
      refine j_iload_n dX5_span_22 rfl ?_
      refine j_iload_n dX5_span_23 rfl ?_
      refine j_sipush (v := 30000) dX5_span_24 (by decide) ?_
      refine j_callS (rest := []) (c_X5_in l G) cw_X5_in wl_X5_90 ws_X5_in rfl rfl (Nat.le_of_ble_eq_true rfl) (Nat.le_of_ble_eq_true rfl) (Nat.le_of_ble_eq_true rfl) (Nat.le_of_ble_eq_true rfl) (Nat.le_of_ble_eq_true rfl) dX5_span_27 (fun v_27 h_27 e_27 => ?_)
      obtain ⟨rfl, hh⟩ := e_27
      have hh := hh.symm
      subst hh
      refine j_if_ne 35 dX5_span_30 (by decide) (fun c_30 => ?_) (fun c_30 => ?_)
      · have g_30 := (bi_ne0 _).mp c_30
        refine j_aload_n dX5_span_35 rfl ?_
        refine gX5_59 rfl (hR.1 _ ⟨by first | assumption | exact Nat.zero_lt_one, rfl⟩) rfl dX5_span_36 ?_
        refine j_iload_n dX5_span_39 rfl ?_
        refine j_iload_n dX5_span_40 rfl ?_
        refine r_iast hR ⟨Nat.zero_lt_one, rfl⟩ (fun _ => rfl) p rfl (by omega) (by decide) dX5_span_41 (fun h hR => ?_)
        refine j_aload_n dX5_span_42 rfl ?_
        refine gX5_62 rfl (hR.1 _ ⟨by first | assumption | exact Nat.zero_lt_one, rfl⟩) rfl dX5_span_43 ?_
        refine j_iload_n dX5_span_46 rfl ?_
        refine j_iload_n dX5_span_47 rfl ?_
        refine r_iast hR ⟨Nat.zero_lt_one, rfl⟩ (fun _ => rfl) p rfl (by omega) (by decide) dX5_span_48 (fun h hR => ?_)
        refine j_iconst (v := 1) dX5_span_49 (by decide) ?_
        refine j_zret rfl rfl (Nat.le_of_ble_eq_true rfl) (Nat.le_of_ble_eq_true rfl) dX5_span_50 ?_
        exact ⟨by simp [mSpan, g_6, hclp, g_19, g_30], by simpa [mSpan, g_6, hclp, g_19, g_30] using hR⟩
      · have g_30 := (bi_eq0 _).mp c_30
        refine j_iconst (v := 0) dX5_span_33 (by decide) ?_
        refine j_zret rfl rfl (Nat.le_of_ble_eq_true rfl) (Nat.le_of_ble_eq_true rfl) dX5_span_34 ?_
        exact ⟨by simp [mSpan, g_6, hclp, g_19, g_30], by simpa [mSpan, g_6, hclp, g_19, g_30] using hR⟩

def mRing (a : Int32) (Z : ZT) : Int32 × ZT := if iw a 0 200 then (1, upZ (upZ Z (5, 0, 0) 25 a) (5, 0, 0) 23 0) else (0, Z)
set_option maxRecDepth 100000 in
set_option maxHeartbeats 4000000 in
theorem c_X5_ring (l : Launch) (G : GG) {ad : NM → Nat} {np nb : Nat} {Z : ZT} {L : LT} {h : AH} (hR : Rm ad np nb Z L h) {a : Int32} : Con l G mX5_ring 1 0 0 [.ref (ad (5, 0, 0)), .int a] h (fun r h2 => r = some (.int (mRing a Z).1) ∧ Rm ad np nb (mRing a Z).2 L h2) := by
  refine Con.of 0 rfl (Nat.le_of_ble_eq_true rfl) ?_
  refine j_iload_n dX5_ring_0 rfl ?_
  refine j_iconst (v := 0) dX5_ring_1 (by decide) ?_
  refine j_sipush (v := 200) dX5_ring_2 (by decide) ?_
  refine j_callS (rest := []) (c_X5_in l G) cw_X5_in wl_X5_90 ws_X5_in rfl rfl (Nat.le_of_ble_eq_true rfl) (Nat.le_of_ble_eq_true rfl) (Nat.le_of_ble_eq_true rfl) (Nat.le_of_ble_eq_true rfl) (Nat.le_of_ble_eq_true rfl) dX5_ring_5 (fun v_5 h_5 e_5 => ?_)
  obtain ⟨rfl, hh⟩ := e_5
  have hh := hh.symm
  subst hh
  refine j_if_ne 13 dX5_ring_8 (by decide) (fun c_8 => ?_) (fun c_8 => ?_)
  · have g_8 := (bi_ne0 _).mp c_8
    refine j_aload_n dX5_ring_13 rfl ?_
    refine j_iload_n dX5_ring_14 rfl ?_
    refine qX5_143 rfl hR dX5_ring_15 (fun h hR => ?_)
    refine j_aload_n dX5_ring_18 rfl ?_
    refine j_iconst (v := 0) dX5_ring_19 (by decide) ?_
    refine qX5_140 rfl hR dX5_ring_20 (fun h hR => ?_)
    refine j_iconst (v := 1) dX5_ring_23 (by decide) ?_
    refine j_zret rfl rfl (Nat.le_of_ble_eq_true rfl) (Nat.le_of_ble_eq_true rfl) dX5_ring_24 ?_
    exact ⟨by simp [mRing, g_8], by simpa [mRing, g_8] using hR⟩
  · have g_8 := (bi_eq0 _).mp c_8
    refine j_iconst (v := 0) dX5_ring_11 (by decide) ?_
    refine j_zret rfl rfl (Nat.le_of_ble_eq_true rfl) (Nat.le_of_ble_eq_true rfl) dX5_ring_12 ?_
    exact ⟨by simp [mRing, g_8], by simpa [mRing, g_8] using hR⟩

