theorem mCan_lt {Z : ZT} {v : Int32} {mb : Nat} (hmb : Z (5, 0, 0) 7 = nI mb) (hm : mb ≤ 24) (h : mCan Z v = true) : ∃ j, j < mb ∧ v = nI j ∧ cl v = j := by
  simp only [mCan, Bool.and_eq_true] at h
  exact iw_lt (by omega) (hmb ▸ h.1.1)
theorem wayOk_of {w : Int32} (h : iw w (-1) 4 = true) : wayOk w := by
  obtain ⟨h1, h2⟩ := iw_iff.mp h
  by_cases h0 : w < 0
  · left
    have a := Int32.le_iff_toInt_le.mp h1
    have b := Int32.lt_iff_toInt_lt.mp h0
    have e1 : (-1 : Int32).toInt = -1 := by decide
    have e0 : (0 : Int32).toInt = 0 := rfl
    rw [e1] at a
    rw [e0] at b
    exact Int32.toInt_inj.mp (by rw [e1]; omega)
  · right
    obtain ⟨j, hj, rfl⟩ := nI_of2 (M := 4) (n := 4) (by decide) h0 h2
    exact ⟨j, by omega, rfl⟩
theorem itZ_keep {f : Nat → ZT → ZT} {Z : ZT} {n : NM} (hf : ∀ k Y, f k Y n = Y n) (k : Nat) : itZ f Z k n = Z n := by
  induction k with
  | zero => rfl
  | succ k ih => rw [itZ, hf, ih]
def mCut1 (Z : ZT) (i : Nat) : ZT := upZ Z (5, 0, 11) i (Z (5, 0, 11) i - 1)
def mCut2 (Z : ZT) (i : Nat) : ZT := upZ (mCut1 Z i) (5, 0, 0) 20 (mCut1 Z i (5, 0, 0) 20 + mCut1 Z i (5, 0, 13) i)
def mCut (v k : Int32) (Z : ZT) : Int32 × ZT :=
  if mCan Z v && iw k 0 7 && !decide (Z (5, 0, 11) (8 * cl v + cl k) = Z (5, 0, 12) (8 * cl v + cl k)) then (mCut2 Z (8 * cl v + cl k) (5, 0, 11) (8 * cl v + cl k), mCut2 Z (8 * cl v + cl k)) else (-1, Z)
set_option maxRecDepth 100000 in
set_option maxHeartbeats 4000000 in
theorem c_X5_cut (l : Launch) (G : GG) {ad : NM → Nat} {np nb : Nat} {Z : ZT} {L : LT} {h : AH} (hR : Rm ad np nb Z L h) {mb : Nat} (hmb : Z (5, 0, 0) 7 = nI mb) (hm : mb ≤ 24) {v k : Int32} : Con l G mX5_cut 3 0 0 [.ref (ad (5, 0, 0)), .int v, .int k] h (fun r h2 => r = some (.int (mCut v k Z).1) ∧ Rm ad np nb (mCut v k Z).2 L h2) := by
  refine Con.of 0 rfl (Nat.le_of_ble_eq_true rfl) ?_
  refine j_aload_n dX5_cut_0 rfl ?_
  refine j_iload_n dX5_cut_1 rfl ?_
  refine j_callV (rest := []) (c_X5_canCut l G hR hmb hm) (hR.1 _ ⟨by first | assumption | exact Nat.zero_lt_one, rfl⟩) rfl cw_X5_canCut wl_X5_112 wm_X5_canCut wx_X5_canCut rfl rfl (Nat.le_of_ble_eq_true rfl) (Nat.le_of_ble_eq_true rfl) (Nat.le_of_ble_eq_true rfl) (Nat.le_of_ble_eq_true rfl) (Nat.le_of_ble_eq_true rfl) dX5_cut_2 (fun v_2 h_2 e_2 => ?_)
  obtain ⟨rfl, hh⟩ := e_2
  have hh := hh.symm
  subst hh
  refine j_if_eq 43 dX5_cut_5 (by decide) (fun c_5 => ?_) (fun c_5 => ?_)
  · have g_5 := (bi_eq0 _).mp c_5
    refine j_iconst (v := (-1)) dX5_cut_43 (by decide) ?_
    refine j_iret rfl (Nat.le_of_ble_eq_true rfl) (Nat.le_of_ble_eq_true rfl) dX5_cut_44 ?_
    exact ⟨by simp [mCut, g_5, mCut2, mCut1], by simpa [mCut, g_5, mCut2, mCut1] using hR⟩
  · have g_5 := (bi_ne0 _).mp c_5
    obtain ⟨j, hj, rfl, hcl⟩ := mCan_lt hmb hm g_5
    refine j_iload_n dX5_cut_8 rfl ?_
    refine j_iconst (v := 0) dX5_cut_9 (by decide) ?_
    refine j_bipush (v := 7) dX5_cut_10 (by decide) ?_
    refine j_callS (rest := []) (c_X5_in l G) cw_X5_in wl_X5_90 ws_X5_in rfl rfl (Nat.le_of_ble_eq_true rfl) (Nat.le_of_ble_eq_true rfl) (Nat.le_of_ble_eq_true rfl) (Nat.le_of_ble_eq_true rfl) (Nat.le_of_ble_eq_true rfl) dX5_cut_12 (fun v_12 h_12 e_12 => ?_)
    obtain ⟨rfl, hh⟩ := e_12
    have hh := hh.symm
    subst hh
    refine j_if_eq 43 dX5_cut_15 (by decide) (fun c_15 => ?_) (fun c_15 => ?_)
    · have g_15 := (bi_eq0 _).mp c_15
      refine j_iconst (v := (-1)) dX5_cut_43 (by decide) ?_
      refine j_iret rfl (Nat.le_of_ble_eq_true rfl) (Nat.le_of_ble_eq_true rfl) dX5_cut_44 ?_
      exact ⟨by simp [mCut, g_5, hcl, g_15, mCut2, mCut1], by simpa [mCut, g_5, hcl, g_15, mCut2, mCut1] using hR⟩
    · have g_15 := (bi_ne0 _).mp c_15
      obtain ⟨i, hi, rfl, hcli⟩ := iw_le (n := 7) (by omega) g_15
      have hcli : cl (nI i) = i := hcli
      refine j_aload_n dX5_cut_18 rfl ?_
      refine gX5_34 rfl (hR.1 _ ⟨by first | assumption | exact Nat.zero_lt_one, rfl⟩) rfl dX5_cut_19 ?_
      refine j_bipush (v := 8) dX5_cut_22 (by decide) ?_
      refine j_iload_n dX5_cut_24 rfl ?_
      refine j_imul dX5_cut_25 ?_
      refine j_iload_n dX5_cut_26 rfl ?_
      refine j_iadd dX5_cut_27 ?_
      refine j_iald (hR.1 _ ⟨by first | assumption | exact Nat.zero_lt_one, rfl⟩) (8 * j + i) (xi8 j i) (by omega) (by decide) dX5_cut_28 ?_
      refine j_aload_n dX5_cut_29 rfl ?_
      refine gX5_37 rfl (hR.1 _ ⟨by first | assumption | exact Nat.zero_lt_one, rfl⟩) rfl dX5_cut_30 ?_
      refine j_bipush (v := 8) dX5_cut_33 (by decide) ?_
      refine j_iload_n dX5_cut_35 rfl ?_
      refine j_imul dX5_cut_36 ?_
      refine j_iload_n dX5_cut_37 rfl ?_
      refine j_iadd dX5_cut_38 ?_
      refine j_iald (hR.1 _ ⟨by first | assumption | exact Nat.zero_lt_one, rfl⟩) (8 * j + i) (xi8 j i) (by omega) (by decide) dX5_cut_39 ?_
      refine j_icmp_ne 45 dX5_cut_40 (by decide) (fun c_40 => ?_) (fun c_40 => ?_)
      · refine j_aload_n dX5_cut_45 rfl ?_
        refine gX5_34 rfl (hR.1 _ ⟨by first | assumption | exact Nat.zero_lt_one, rfl⟩) rfl dX5_cut_46 ?_
        refine j_bipush (v := 8) dX5_cut_49 (by decide) ?_
        refine j_iload_n dX5_cut_51 rfl ?_
        refine j_imul dX5_cut_52 ?_
        refine j_iload_n dX5_cut_53 rfl ?_
        refine j_iadd dX5_cut_54 ?_
        refine j_dup2 dX5_cut_55 rfl rfl ?_
        refine j_iald (hR.1 _ ⟨by first | assumption | exact Nat.zero_lt_one, rfl⟩) (8 * j + i) (xi8 j i) (by omega) (by decide) dX5_cut_56 ?_
        refine j_iconst (v := 1) dX5_cut_57 (by decide) ?_
        refine j_isub dX5_cut_58 ?_
        refine r_iast hR ⟨by first | assumption | exact Nat.zero_lt_one, rfl⟩ (fun _ => rfl) (8 * j + i) (xi8 j i) (by omega) (by decide) dX5_cut_59 (fun h hR => ?_)
        refine j_aload_n dX5_cut_60 rfl ?_
        refine j_dup dX5_cut_61 rfl ?_
        refine gX5_105 rfl (hR.1 _ ⟨by first | assumption | exact Nat.zero_lt_one, rfl⟩) rfl dX5_cut_62 ?_
        refine j_aload_n dX5_cut_65 rfl ?_
        refine gX5_40 rfl (hR.1 _ ⟨by first | assumption | exact Nat.zero_lt_one, rfl⟩) rfl dX5_cut_66 ?_
        refine j_bipush (v := 8) dX5_cut_69 (by decide) ?_
        refine j_iload_n dX5_cut_71 rfl ?_
        refine j_imul dX5_cut_72 ?_
        refine j_iload_n dX5_cut_73 rfl ?_
        refine j_iadd dX5_cut_74 ?_
        refine j_iald (hR.1 _ ⟨by first | assumption | exact Nat.zero_lt_one, rfl⟩) (8 * j + i) (xi8 j i) (by omega) (by decide) dX5_cut_75 ?_
        refine j_iadd dX5_cut_76 ?_
        refine qX5_105 rfl hR dX5_cut_77 (fun h hR => ?_)
        refine j_aload_n dX5_cut_80 rfl ?_
        refine gX5_34 rfl (hR.1 _ ⟨by first | assumption | exact Nat.zero_lt_one, rfl⟩) rfl dX5_cut_81 ?_
        refine j_bipush (v := 8) dX5_cut_84 (by decide) ?_
        refine j_iload_n dX5_cut_86 rfl ?_
        refine j_imul dX5_cut_87 ?_
        refine j_iload_n dX5_cut_88 rfl ?_
        refine j_iadd dX5_cut_89 ?_
        refine j_iald (hR.1 _ ⟨by first | assumption | exact Nat.zero_lt_one, rfl⟩) (8 * j + i) (xi8 j i) (by omega) (by decide) dX5_cut_90 ?_
        refine j_iret rfl (Nat.le_of_ble_eq_true rfl) (Nat.le_of_ble_eq_true rfl) dX5_cut_91 ?_
        exact ⟨by simp [mCut, g_5, hcl, g_15, hcli, c_40, mCut2, mCut1], by simpa [mCut, g_5, hcl, g_15, hcli, c_40, mCut2, mCut1] using hR⟩
      · refine j_iconst (v := (-1)) dX5_cut_43 (by decide) ?_
        refine j_iret rfl (Nat.le_of_ble_eq_true rfl) (Nat.le_of_ble_eq_true rfl) dX5_cut_44 ?_
        exact ⟨by simp [mCut, g_5, hcl, g_15, hcli, c_40, mCut2, mCut1], by simpa [mCut, g_5, hcl, g_15, hcli, c_40, mCut2, mCut1] using hR⟩

def mCrack1 (Z : ZT) (j : Nat) : ZT := upZ (upZ Z (5, 0, 17) j 1) (5, 0, 18) j (-1)
def mCrack2 (Z : ZT) (j : Nat) : ZT := upZ (mCrack1 Z j) (5, 0, 0) 20 (mCrack1 Z j (5, 0, 0) 20 + mW (mCrack1 Z j) j)
def mCrack (v : Int32) (Z : ZT) : Int32 × ZT := if iw v 0 (Z (5, 0, 0) 7 - 1) && decide (Z (5, 0, 17) (cl v) = 0) then (1, mCrack2 Z (cl v)) else (0, Z)
set_option maxRecDepth 100000 in
set_option maxHeartbeats 4000000 in
theorem c_X5_crack (l : Launch) (G : GG) {ad : NM → Nat} {np nb : Nat} {Z : ZT} {L : LT} {h : AH} (hR : Rm ad np nb Z L h) {mb : Nat} (hmb : Z (5, 0, 0) 7 = nI mb) (hm : mb ≤ 24) {v : Int32} : Con l G mX5_crack 2 0 0 [.ref (ad (5, 0, 0)), .int v] h (fun r h2 => r = some (.int (mCrack v Z).1) ∧ Rm ad np nb (mCrack v Z).2 L h2) := by
  refine Con.of 0 rfl (Nat.le_of_ble_eq_true rfl) ?_
  refine j_aload_n dX5_crack_0 rfl ?_
  refine j_iload_n dX5_crack_1 rfl ?_
  refine j_callV (rest := []) (c_X5_isBell l G hR) (hR.1 _ ⟨by first | assumption | exact Nat.zero_lt_one, rfl⟩) rfl cw_X5_isBell wl_X5_108 wm_X5_isBell wx_X5_isBell rfl rfl (Nat.le_of_ble_eq_true rfl) (Nat.le_of_ble_eq_true rfl) (Nat.le_of_ble_eq_true rfl) (Nat.le_of_ble_eq_true rfl) (Nat.le_of_ble_eq_true rfl) dX5_crack_2 (fun v_2 h_2 e_2 => ?_)
  obtain ⟨rfl, hh⟩ := e_2
  have hh := hh.symm
  subst hh
  refine j_if_eq 17 dX5_crack_5 (by decide) (fun c_5 => ?_) (fun c_5 => ?_)
  · have g_5 := (bi_eq0 _).mp c_5
    refine j_iconst (v := 0) dX5_crack_17 (by decide) ?_
    refine j_zret rfl rfl (Nat.le_of_ble_eq_true rfl) (Nat.le_of_ble_eq_true rfl) dX5_crack_18 ?_
    exact ⟨by simp [mCrack, g_5], by simpa [mCrack, g_5, mCrack2, mCrack1] using hR⟩
  · have g_5 := (bi_ne0 _).mp c_5
    obtain ⟨j, hj, rfl, hcl⟩ := iw_lt (by omega) (hmb ▸ g_5)
    have hcl : cl (nI j) = j := hcl
    refine j_aload_n dX5_crack_8 rfl ?_
    refine gX5_53 rfl (hR.1 _ ⟨by first | assumption | exact Nat.zero_lt_one, rfl⟩) rfl dX5_crack_9 ?_
    refine j_iload_n dX5_crack_12 rfl ?_
    refine j_zald (hR.1 _ ⟨by first | assumption | exact Nat.zero_lt_one, rfl⟩) j rfl (by omega) (by decide) dX5_crack_13 ?_
    refine j_if_eq 19 dX5_crack_14 (by decide) (fun c_14 => ?_) (fun c_14 => ?_)
    · refine j_aload_n dX5_crack_19 rfl ?_
      refine gX5_53 rfl (hR.1 _ ⟨by first | assumption | exact Nat.zero_lt_one, rfl⟩) rfl dX5_crack_20 ?_
      refine j_iload_n dX5_crack_23 rfl ?_
      refine j_iconst (v := 1) dX5_crack_24 (by decide) ?_
      refine r_zast hR ⟨by first | assumption | exact Nat.zero_lt_one, rfl⟩ (fun _ => rfl) j rfl (by omega) (by decide) rfl dX5_crack_25 (fun h hR => ?_)
      refine j_aload_n dX5_crack_26 rfl ?_
      refine gX5_56 rfl (hR.1 _ ⟨by first | assumption | exact Nat.zero_lt_one, rfl⟩) rfl dX5_crack_27 ?_
      refine j_iload_n dX5_crack_30 rfl ?_
      refine j_iconst (v := (-1)) dX5_crack_31 (by decide) ?_
      refine r_iast hR ⟨by first | assumption | exact Nat.zero_lt_one, rfl⟩ (fun _ => rfl) j rfl (by omega) (by decide) dX5_crack_32 (fun h hR => ?_)
      refine j_aload_n dX5_crack_33 rfl ?_
      refine j_dup dX5_crack_34 rfl ?_
      refine gX5_105 rfl (hR.1 _ ⟨by first | assumption | exact Nat.zero_lt_one, rfl⟩) rfl dX5_crack_35 ?_
      refine j_aload_n dX5_crack_38 rfl ?_
      refine j_iload_n dX5_crack_39 rfl ?_
      refine j_callV (rest := [.int (mCrack1 Z j (5, 0, 0) 20), .ref (ad (5, 0, 0))]) (c_X5_weightOf l G hR (by omega)) (hR.1 _ ⟨by first | assumption | exact Nat.zero_lt_one, rfl⟩) rfl cw_X5_weightOf wl_X5_115 wm_X5_weightOf wx_X5_weightOf rfl rfl (Nat.le_of_ble_eq_true rfl) (Nat.le_of_ble_eq_true rfl) (Nat.le_of_ble_eq_true rfl) (Nat.le_of_ble_eq_true rfl) (Nat.le_of_ble_eq_true rfl) dX5_crack_40 (fun v_40 h_40 e_40 => ?_)
      obtain ⟨rfl, hh⟩ := e_40
      have hh := hh.symm
      subst hh
      refine j_iadd dX5_crack_43 ?_
      refine qX5_105 rfl hR dX5_crack_44 (fun h hR => ?_)
      refine j_iconst (v := 1) dX5_crack_47 (by decide) ?_
      refine j_zret rfl rfl (Nat.le_of_ble_eq_true rfl) (Nat.le_of_ble_eq_true rfl) dX5_crack_48 ?_
      exact ⟨by simp [mCrack, g_5, hcl, c_14], by simpa [mCrack, g_5, hcl, c_14, mCrack2, mCrack1] using hR⟩
    · refine j_iconst (v := 0) dX5_crack_17 (by decide) ?_
      refine j_zret rfl rfl (Nat.le_of_ble_eq_true rfl) (Nat.le_of_ble_eq_true rfl) dX5_crack_18 ?_
      exact ⟨by simp [mCrack, g_5, hcl, c_14], by simpa [mCrack, g_5, hcl, c_14, mCrack2, mCrack1] using hR⟩

def mNote (s : Int32) (Z : ZT) : Int32 × ZT :=
  if iw s (-5000) 5000 && !decide (Z (5, 0, 0) 23 = 8) then
    (upZ Z (5, 0, 25) (cl (Z (5, 0, 0) 23)) s (5, 0, 0) 23 + 1, upZ (upZ Z (5, 0, 25) (cl (Z (5, 0, 0) 23)) s) (5, 0, 0) 23 (upZ Z (5, 0, 25) (cl (Z (5, 0, 0) 23)) s (5, 0, 0) 23 + 1)) else (-1, Z)
set_option maxRecDepth 100000 in
set_option maxHeartbeats 4000000 in
theorem c_X5_note (l : Launch) (G : GG) {ad : NM → Nat} {np nb : Nat} {Z : ZT} {L : LT} {h : AH} (hR : Rm ad np nb Z L h) {nn : Nat} (hnn : Z (5, 0, 0) 23 = nI nn) (hn8 : nn ≤ 8) {s : Int32} : Con l G mX5_note 1 0 0 [.ref (ad (5, 0, 0)), .int s] h (fun r h2 => r = some (.int (mNote s Z).1) ∧ Rm ad np nb (mNote s Z).2 L h2) := by
  refine Con.of 0 rfl (Nat.le_of_ble_eq_true rfl) ?_
  refine j_iload_n dX5_note_0 rfl ?_
  refine j_sipush (v := (-5000)) dX5_note_1 (by decide) ?_
  refine j_sipush (v := 5000) dX5_note_4 (by decide) ?_
  refine j_callS (rest := []) (c_X5_in l G) cw_X5_in wl_X5_90 ws_X5_in rfl rfl (Nat.le_of_ble_eq_true rfl) (Nat.le_of_ble_eq_true rfl) (Nat.le_of_ble_eq_true rfl) (Nat.le_of_ble_eq_true rfl) (Nat.le_of_ble_eq_true rfl) dX5_note_7 (fun v_7 h_7 e_7 => ?_)
  obtain ⟨rfl, hh⟩ := e_7
  have hh := hh.symm
  subst hh
  refine j_if_eq 22 dX5_note_10 (by decide) (fun c_10 => ?_) (fun c_10 => ?_)
  · have g_10 := (bi_eq0 _).mp c_10
    refine j_iconst (v := (-1)) dX5_note_22 (by decide) ?_
    refine j_iret rfl (Nat.le_of_ble_eq_true rfl) (Nat.le_of_ble_eq_true rfl) dX5_note_23 ?_
    exact ⟨by simp [mNote, g_10, upZ_at], by simpa [mNote, g_10] using hR⟩
  · have g_10 := (bi_ne0 _).mp c_10
    refine j_aload_n dX5_note_13 rfl ?_
    refine gX5_140 rfl (hR.1 _ ⟨by first | assumption | exact Nat.zero_lt_one, rfl⟩) rfl dX5_note_14 ?_
    refine j_bipush (v := 8) dX5_note_17 (by decide) ?_
    refine j_icmp_ne 24 dX5_note_19 (by decide) (fun c_19 => ?_) (fun c_19 => ?_)
    · have hlt : nn < 8 := by
        rcases Nat.lt_or_ge nn 8 with q | q
        · exact q
        · obtain rfl : nn = 8 := by omega
          exact absurd hnn c_19
      have hcl : cl (Z (5, 0, 0) 23) = nn := by rw [hnn]; exact cl_nI (by omega)
      refine j_aload_n dX5_note_24 rfl ?_
      refine gX5_65 rfl (hR.1 _ ⟨by first | assumption | exact Nat.zero_lt_one, rfl⟩) rfl dX5_note_25 ?_
      refine j_aload_n dX5_note_28 rfl ?_
      refine gX5_140 rfl (hR.1 _ ⟨by first | assumption | exact Nat.zero_lt_one, rfl⟩) rfl dX5_note_29 ?_
      refine j_iload_n dX5_note_32 rfl ?_
      refine r_iast hR ⟨by first | assumption | exact Nat.zero_lt_one, rfl⟩ (fun _ => rfl) nn hnn hlt (by decide) dX5_note_33 (fun h hR => ?_)
      refine j_aload_n dX5_note_34 rfl ?_
      refine j_dup dX5_note_35 rfl ?_
      refine gX5_140 rfl (hR.1 _ ⟨by first | assumption | exact Nat.zero_lt_one, rfl⟩) rfl dX5_note_36 ?_
      refine j_iconst (v := 1) dX5_note_39 (by decide) ?_
      refine j_iadd dX5_note_40 ?_
      refine qX5_140 rfl hR dX5_note_41 (fun h hR => ?_)
      refine j_aload_n dX5_note_44 rfl ?_
      refine gX5_140 rfl (hR.1 _ ⟨by first | assumption | exact Nat.zero_lt_one, rfl⟩) rfl dX5_note_45 ?_
      refine j_iret rfl (Nat.le_of_ble_eq_true rfl) (Nat.le_of_ble_eq_true rfl) dX5_note_48 ?_
      exact ⟨by simp [mNote, g_10, c_19, hcl, upZ_at], by simpa [mNote, g_10, c_19, hcl] using hR⟩
    · refine j_iconst (v := (-1)) dX5_note_22 (by decide) ?_
      refine j_iret rfl (Nat.le_of_ble_eq_true rfl) (Nat.le_of_ble_eq_true rfl) dX5_note_23 ?_
      exact ⟨by simp [mNote, g_10, c_19, upZ_at], by simpa [mNote, g_10, c_19] using hR⟩

def mHang (mb : Nat) (v w : Int32) (Z : ZT) : Int32 × ZT :=
  if iw v 0 (Z (5, 0, 0) 7 - 1) && decide (Z (5, 0, 17) (cl v) = 0) && iw w (-1) 4 then
    (if mPulls (upZ Z (5, 0, 18) (cl v) w) mb ≤ upZ Z (5, 0, 18) (cl v) w (5, 0, 0) 27 then (1, upZ Z (5, 0, 18) (cl v) w) else (0, upZ (upZ Z (5, 0, 18) (cl v) w) (5, 0, 18) (cl v) (Z (5, 0, 18) (cl v)))) else (0, Z)
set_option maxRecDepth 100000 in
set_option maxHeartbeats 4000000 in
theorem c_X5_hang (l : Launch) (G : GG) {ad : NM → Nat} {np nb : Nat} {Z : ZT} {L : LT} {h : AH} (hR : Rm ad np nb Z L h) {mb : Nat} (hmb : Z (5, 0, 0) 7 = nI mb) (hm : mb ≤ 24) (hg : ∀ b, b < mb → wayOk (Z (5, 0, 18) b)) {v w : Int32} : Con l G mX5_hang 3 0 0 [.ref (ad (5, 0, 0)), .int v, .int w] h (fun r h2 => r = some (.int (mHang mb v w Z).1) ∧ Rm ad np nb (mHang mb v w Z).2 L h2) := by
  refine Con.of 1 rfl (Nat.le_of_ble_eq_true rfl) ?_
  refine j_aload_n dX5_hang_0 rfl ?_
  refine j_iload_n dX5_hang_1 rfl ?_
  refine j_callV (rest := []) (c_X5_isBell l G hR) (hR.1 _ ⟨by first | assumption | exact Nat.zero_lt_one, rfl⟩) rfl cw_X5_isBell wl_X5_108 wm_X5_isBell wx_X5_isBell rfl rfl (Nat.le_of_ble_eq_true rfl) (Nat.le_of_ble_eq_true rfl) (Nat.le_of_ble_eq_true rfl) (Nat.le_of_ble_eq_true rfl) (Nat.le_of_ble_eq_true rfl) dX5_hang_2 (fun v_2 h_2 e_2 => ?_)
  obtain ⟨rfl, hh⟩ := e_2
  have hh := hh.symm
  subst hh
  refine j_if_eq 26 dX5_hang_5 (by decide) (fun c_5 => ?_) (fun c_5 => ?_)
  · have g_5 := (bi_eq0 _).mp c_5
    refine j_iconst (v := 0) dX5_hang_26 (by decide) ?_
    refine j_zret rfl rfl (Nat.le_of_ble_eq_true rfl) (Nat.le_of_ble_eq_true rfl) dX5_hang_27 ?_
    exact ⟨by simp [mHang, g_5], by simpa [mHang, g_5] using hR⟩
  · have g_5 := (bi_ne0 _).mp c_5
    obtain ⟨j, hj, rfl, hcl⟩ := iw_lt (by omega) (hmb ▸ g_5)
    have hcl : cl (nI j) = j := hcl
    refine j_aload_n dX5_hang_8 rfl ?_
    refine gX5_53 rfl (hR.1 _ ⟨by first | assumption | exact Nat.zero_lt_one, rfl⟩) rfl dX5_hang_9 ?_
    refine j_iload_n dX5_hang_12 rfl ?_
    refine j_zald (hR.1 _ ⟨by first | assumption | exact Nat.zero_lt_one, rfl⟩) j rfl (by omega) (by decide) dX5_hang_13 ?_
    refine j_if_ne 26 dX5_hang_14 (by decide) (fun c_14 => ?_) (fun c_14 => ?_)
    · refine j_iconst (v := 0) dX5_hang_26 (by decide) ?_
      refine j_zret rfl rfl (Nat.le_of_ble_eq_true rfl) (Nat.le_of_ble_eq_true rfl) dX5_hang_27 ?_
      exact ⟨by simp [mHang, g_5, hcl, c_14], by simpa [mHang, g_5, hcl, c_14] using hR⟩
    · refine j_iload_n dX5_hang_17 rfl ?_
      refine j_iconst (v := (-1)) dX5_hang_18 (by decide) ?_
      refine j_iconst (v := 4) dX5_hang_19 (by decide) ?_
      refine j_callS (rest := []) (c_X5_in l G) cw_X5_in wl_X5_90 ws_X5_in rfl rfl (Nat.le_of_ble_eq_true rfl) (Nat.le_of_ble_eq_true rfl) (Nat.le_of_ble_eq_true rfl) (Nat.le_of_ble_eq_true rfl) (Nat.le_of_ble_eq_true rfl) dX5_hang_20 (fun v_20 h_20 e_20 => ?_)
      obtain ⟨rfl, hh⟩ := e_20
      have hh := hh.symm
      subst hh
      refine j_if_ne 28 dX5_hang_23 (by decide) (fun c_23 => ?_) (fun c_23 => ?_)
      · have g_23 := (bi_ne0 _).mp c_23
        have hwo := wayOk_of g_23
        refine j_aload_n dX5_hang_28 rfl ?_
        refine gX5_56 rfl (hR.1 _ ⟨by first | assumption | exact Nat.zero_lt_one, rfl⟩) rfl dX5_hang_29 ?_
        refine j_iload_n dX5_hang_32 rfl ?_
        refine j_iald (hR.1 _ ⟨by first | assumption | exact Nat.zero_lt_one, rfl⟩) j rfl (by omega) (by decide) dX5_hang_33 ?_
        refine j_istore_n dX5_hang_34 (Nat.le_of_ble_eq_true rfl) rfl ?_
        refine j_aload_n dX5_hang_35 rfl ?_
        refine gX5_56 rfl (hR.1 _ ⟨by first | assumption | exact Nat.zero_lt_one, rfl⟩) rfl dX5_hang_36 ?_
        refine j_iload_n dX5_hang_39 rfl ?_
        refine j_iload_n dX5_hang_40 rfl ?_
        refine r_iast hR ⟨by first | assumption | exact Nat.zero_lt_one, rfl⟩ (fun _ => rfl) j rfl (by omega) (by decide) dX5_hang_41 (fun h hR => ?_)
        refine j_aload_n dX5_hang_42 rfl ?_
        refine j_callV (rest := []) (c_X5_pulls l G hR (mb := mb) (by rw [upZ_nk (Or.inl (by decide))]; exact hmb) hm (fun b hb => by
          by_cases hbj : b = j
          · subst hbj; rw [upZ_at]; exact hwo
          · rw [upZ_nk (Or.inr hbj)]; exact hg b hb)) (hR.1 _ ⟨by first | assumption | exact Nat.zero_lt_one, rfl⟩) rfl cw_X5_pulls wl_X5_161 wm_X5_pulls wx_X5_pulls rfl rfl (Nat.le_of_ble_eq_true rfl) (Nat.le_of_ble_eq_true rfl) (Nat.le_of_ble_eq_true rfl) (Nat.le_of_ble_eq_true rfl) (Nat.le_of_ble_eq_true rfl) dX5_hang_43 (fun v_43 h_43 e_43 => ?_)
        obtain ⟨rfl, hh⟩ := e_43
        have hh := hh.symm
        subst hh
        refine j_aload_n dX5_hang_46 rfl ?_
        refine gX5_164 rfl (hR.1 _ ⟨by first | assumption | exact Nat.zero_lt_one, rfl⟩) rfl dX5_hang_47 ?_
        refine j_icmp_le 62 dX5_hang_50 (by decide) (fun c_50 => ?_) (fun c_50 => ?_)
        · refine j_iconst (v := 1) dX5_hang_62 (by decide) ?_
          refine j_zret rfl rfl (Nat.le_of_ble_eq_true rfl) (Nat.le_of_ble_eq_true rfl) dX5_hang_63 ?_
          exact ⟨by simp [mHang, g_5, hcl, c_14, g_23, c_50], by simpa [mHang, g_5, hcl, c_14, g_23, c_50] using hR⟩
        · refine j_aload_n dX5_hang_53 rfl ?_
          refine gX5_56 rfl (hR.1 _ ⟨by first | assumption | exact Nat.zero_lt_one, rfl⟩) rfl dX5_hang_54 ?_
          refine j_iload_n dX5_hang_57 rfl ?_
          refine j_iload_n dX5_hang_58 rfl ?_
          refine r_iast hR ⟨by first | assumption | exact Nat.zero_lt_one, rfl⟩ (fun _ => rfl) j rfl (by omega) (by decide) dX5_hang_59 (fun h hR => ?_)
          refine j_iconst (v := 0) dX5_hang_60 (by decide) ?_
          refine j_zret rfl rfl (Nat.le_of_ble_eq_true rfl) (Nat.le_of_ble_eq_true rfl) dX5_hang_61 ?_
          exact ⟨by simp [mHang, g_5, hcl, c_14, g_23, c_50], by simpa [mHang, g_5, hcl, c_14, g_23, c_50] using hR⟩
      · have g_23 := (bi_eq0 _).mp c_23
        refine j_iconst (v := 0) dX5_hang_26 (by decide) ?_
        refine j_zret rfl rfl (Nat.le_of_ble_eq_true rfl) (Nat.le_of_ble_eq_true rfl) dX5_hang_27 ?_
        exact ⟨by simp [mHang, g_5, hcl, c_14, g_23], by simpa [mHang, g_5, hcl, c_14, g_23] using hR⟩

def mTow1 (w s : Int32) (Z : ZT) : ZT := if 0 ≤ w then upZ Z (5, 0, 27) (cl w) s else Z
def mTower (mb : Nat) (w s b : Int32) (Z : ZT) : Int32 × ZT :=
  if iw w (-1) 4 && (decide (w < 0) || iw s 0 300) && iw b 0 1000000 then
    (if mPulls (mTow1 w s Z) mb ≤ b then (1, upZ (mTow1 w s Z) (5, 0, 0) 27 b) else (0, mTow1 w (Z (5, 0, 27) (cl w)) (mTow1 w s Z))) else (0, Z)
set_option maxRecDepth 100000 in
set_option maxHeartbeats 4000000 in
theorem c_X5_tower (l : Launch) (G : GG) {ad : NM → Nat} {np nb : Nat} {Z : ZT} {L : LT} {h : AH} (hR : Rm ad np nb Z L h) {mb : Nat} (hmb : Z (5, 0, 0) 7 = nI mb) (hm : mb ≤ 24) (hg : ∀ b, b < mb → wayOk (Z (5, 0, 18) b)) {w s b : Int32} : Con l G mX5_tower 3 0 0 [.ref (ad (5, 0, 0)), .int w, .int s, .int b] h (fun r h2 => r = some (.int (mTower mb w s b Z).1) ∧ Rm ad np nb (mTower mb w s b Z).2 L h2) := by
  refine Con.of 1 rfl (Nat.le_of_ble_eq_true rfl) ?_
  by_cases hw : iw w (-1) 4 = true
  · rcases wayOk_of hw with rfl | ⟨j, hj, rfl⟩
    · have hcl : True := trivial
      refine j_iload_n dX5_tower_0 rfl ?_
      refine j_iconst (v := (-1)) dX5_tower_1 (by decide) ?_
      refine j_iconst (v := 4) dX5_tower_2 (by decide) ?_
      refine j_callS (rest := []) (c_X5_in l G) cw_X5_in wl_X5_90 ws_X5_in rfl rfl (Nat.le_of_ble_eq_true rfl) (Nat.le_of_ble_eq_true rfl) (Nat.le_of_ble_eq_true rfl) (Nat.le_of_ble_eq_true rfl) (Nat.le_of_ble_eq_true rfl) dX5_tower_3 (fun v_3 h_3 e_3 => ?_)
      obtain ⟨rfl, hh⟩ := e_3
      have hh := hh.symm
      subst hh
      refine j_if_eq 34 dX5_tower_6 (by decide) (fun c_6 => ?_) (fun c_6 => ?_)
      · have g_6 := (bi_eq0 _).mp c_6
        exact absurd g_6 (by decide)
      · have g_6 := (bi_ne0 _).mp c_6
        refine j_iload_n dX5_tower_9 rfl ?_
        refine j_if_lt 24 dX5_tower_10 (by decide) (fun c_10 => ?_) (fun c_10 => ?_)
        · refine j_iload_n dX5_tower_24 rfl ?_
          refine j_iconst (v := 0) dX5_tower_25 (by decide) ?_
          refine j_ldc (own := RX5) rfl wc_X5_97 dX5_tower_26 ?_
          refine j_callS (rest := []) (c_X5_in l G) cw_X5_in wl_X5_90 ws_X5_in rfl rfl (Nat.le_of_ble_eq_true rfl) (Nat.le_of_ble_eq_true rfl) (Nat.le_of_ble_eq_true rfl) (Nat.le_of_ble_eq_true rfl) (Nat.le_of_ble_eq_true rfl) dX5_tower_28 (fun v_28 h_28 e_28 => ?_)
          obtain ⟨rfl, hh⟩ := e_28
          have hh := hh.symm
          subst hh
          refine j_if_ne 36 dX5_tower_31 (by decide) (fun c_31 => ?_) (fun c_31 => ?_)
          · have g_31 := (bi_ne0 _).mp c_31
            refine j_iload_n dX5_tower_36 rfl ?_
            refine j_if_ge 44 dX5_tower_37 (by decide) (fun c_37 => ?_) (fun c_37 => ?_)
            · exact absurd c_37 (by decide)
            · refine j_iconst (v := 0) dX5_tower_40 (by decide) ?_
              refine j_goto 50 dX5_tower_41 (by decide) ?_
              refine j_istore dX5_tower_50 (Nat.le_of_ble_eq_true rfl) rfl ?_
              refine j_iload_n dX5_tower_52 rfl ?_
              refine j_if_lt 63 dX5_tower_53 (by decide) (fun c_53 => ?_) (fun c_53 => ?_)
              · refine j_aload_n dX5_tower_63 rfl ?_
                refine j_callV (rest := []) (c_X5_pulls l G hR hmb hm hg) (hR.1 _ ⟨by first | assumption | exact Nat.zero_lt_one, rfl⟩) rfl cw_X5_pulls wl_X5_161 wm_X5_pulls wx_X5_pulls rfl rfl (Nat.le_of_ble_eq_true rfl) (Nat.le_of_ble_eq_true rfl) (Nat.le_of_ble_eq_true rfl) (Nat.le_of_ble_eq_true rfl) (Nat.le_of_ble_eq_true rfl) dX5_tower_64 (fun v_64 h_64 e_64 => ?_)
                obtain ⟨rfl, hh⟩ := e_64
                have hh := hh.symm
                subst hh
                refine j_iload_n dX5_tower_67 rfl ?_
                refine j_icmp_le 85 dX5_tower_68 (by decide) (fun c_68 => ?_) (fun c_68 => ?_)
                · refine j_aload_n dX5_tower_85 rfl ?_
                  refine j_iload_n dX5_tower_86 rfl ?_
                  refine qX5_164 rfl hR dX5_tower_87 (fun h hR => ?_)
                  refine j_iconst (v := 1) dX5_tower_90 (by decide) ?_
                  refine j_zret rfl rfl (Nat.le_of_ble_eq_true rfl) (Nat.le_of_ble_eq_true rfl) dX5_tower_91 ?_
                  exact ⟨by simp [mTower, mTow1, g_6, c_10, g_31, c_37, c_53, c_68], by simpa [mTower, mTow1, g_6, c_10, g_31, c_37, c_53, c_68] using hR⟩
                · refine j_iload_n dX5_tower_71 rfl ?_
                  refine j_if_lt 83 dX5_tower_72 (by decide) (fun c_72 => ?_) (fun c_72 => ?_)
                  · refine j_iconst (v := 0) dX5_tower_83 (by decide) ?_
                    refine j_zret rfl rfl (Nat.le_of_ble_eq_true rfl) (Nat.le_of_ble_eq_true rfl) dX5_tower_84 ?_
                    exact ⟨by simp [mTower, mTow1, g_6, c_10, g_31, c_37, c_53, c_68, c_72], by simpa [mTower, mTow1, g_6, c_10, g_31, c_37, c_53, c_68, c_72] using hR⟩
                  · exact absurd (show (-1 : Int32) < 0 by decide) c_72
              · exact absurd (show (-1 : Int32) < 0 by decide) c_53
          · have g_31 := (bi_eq0 _).mp c_31
            refine j_iconst (v := 0) dX5_tower_34 (by decide) ?_
            refine j_zret rfl rfl (Nat.le_of_ble_eq_true rfl) (Nat.le_of_ble_eq_true rfl) dX5_tower_35 ?_
            exact ⟨by simp [mTower, mTow1, g_6, c_10, g_31], by simpa [mTower, mTow1, g_6, c_10, g_31] using hR⟩
        · exact absurd (show (-1 : Int32) < 0 by decide) c_10
    · have hcl : cl (nI j) = j := cl_nI (by omega)
      refine j_iload_n dX5_tower_0 rfl ?_
      refine j_iconst (v := (-1)) dX5_tower_1 (by decide) ?_
      refine j_iconst (v := 4) dX5_tower_2 (by decide) ?_
      refine j_callS (rest := []) (c_X5_in l G) cw_X5_in wl_X5_90 ws_X5_in rfl rfl (Nat.le_of_ble_eq_true rfl) (Nat.le_of_ble_eq_true rfl) (Nat.le_of_ble_eq_true rfl) (Nat.le_of_ble_eq_true rfl) (Nat.le_of_ble_eq_true rfl) dX5_tower_3 (fun v_3 h_3 e_3 => ?_)
      obtain ⟨rfl, hh⟩ := e_3
      have hh := hh.symm
      subst hh
      refine j_if_eq 34 dX5_tower_6 (by decide) (fun c_6 => ?_) (fun c_6 => ?_)
      · have g_6 := (bi_eq0 _).mp c_6
        rw [hw] at g_6
        exact absurd g_6 (by decide)
      · have g_6 := (bi_ne0 _).mp c_6
        refine j_iload_n dX5_tower_9 rfl ?_
        refine j_if_lt 24 dX5_tower_10 (by decide) (fun c_10 => ?_) (fun c_10 => ?_)
        · exact absurd c_10 (nI_pos (n := j) (by omega))
        · refine j_iload_n dX5_tower_13 rfl ?_
          refine j_iconst (v := 0) dX5_tower_14 (by decide) ?_
          refine j_sipush (v := 300) dX5_tower_15 (by decide) ?_
          refine j_callS (rest := []) (c_X5_in l G) cw_X5_in wl_X5_90 ws_X5_in rfl rfl (Nat.le_of_ble_eq_true rfl) (Nat.le_of_ble_eq_true rfl) (Nat.le_of_ble_eq_true rfl) (Nat.le_of_ble_eq_true rfl) (Nat.le_of_ble_eq_true rfl) dX5_tower_18 (fun v_18 h_18 e_18 => ?_)
          obtain ⟨rfl, hh⟩ := e_18
          have hh := hh.symm
          subst hh
          refine j_if_eq 34 dX5_tower_21 (by decide) (fun c_21 => ?_) (fun c_21 => ?_)
          · have g_21 := (bi_eq0 _).mp c_21
            refine j_iconst (v := 0) dX5_tower_34 (by decide) ?_
            refine j_zret rfl rfl (Nat.le_of_ble_eq_true rfl) (Nat.le_of_ble_eq_true rfl) dX5_tower_35 ?_
            exact ⟨by simp [mTower, mTow1, hw, hcl, g_6, c_10, g_21], by simpa [mTower, mTow1, hw, hcl, g_6, c_10, g_21] using hR⟩
          · have g_21 := (bi_ne0 _).mp c_21
            refine j_iload_n dX5_tower_24 rfl ?_
            refine j_iconst (v := 0) dX5_tower_25 (by decide) ?_
            refine j_ldc (own := RX5) rfl wc_X5_97 dX5_tower_26 ?_
            refine j_callS (rest := []) (c_X5_in l G) cw_X5_in wl_X5_90 ws_X5_in rfl rfl (Nat.le_of_ble_eq_true rfl) (Nat.le_of_ble_eq_true rfl) (Nat.le_of_ble_eq_true rfl) (Nat.le_of_ble_eq_true rfl) (Nat.le_of_ble_eq_true rfl) dX5_tower_28 (fun v_28 h_28 e_28 => ?_)
            obtain ⟨rfl, hh⟩ := e_28
            have hh := hh.symm
            subst hh
            refine j_if_ne 36 dX5_tower_31 (by decide) (fun c_31 => ?_) (fun c_31 => ?_)
            · have g_31 := (bi_ne0 _).mp c_31
              refine j_iload_n dX5_tower_36 rfl ?_
              refine j_if_ge 44 dX5_tower_37 (by decide) (fun c_37 => ?_) (fun c_37 => ?_)
              · refine j_aload_n dX5_tower_44 rfl ?_
                refine gX5_68 rfl (hR.1 _ ⟨by first | assumption | exact Nat.zero_lt_one, rfl⟩) rfl dX5_tower_45 ?_
                refine j_iload_n dX5_tower_48 rfl ?_
                refine j_iald (hR.1 _ ⟨by first | assumption | exact Nat.zero_lt_one, rfl⟩) j rfl hj (by decide) dX5_tower_49 ?_
                refine j_istore dX5_tower_50 (Nat.le_of_ble_eq_true rfl) rfl ?_
                refine j_iload_n dX5_tower_52 rfl ?_
                refine j_if_lt 63 dX5_tower_53 (by decide) (fun c_53 => ?_) (fun c_53 => ?_)
                · exact absurd c_53 (nI_pos (n := j) (by omega))
                · refine j_aload_n dX5_tower_56 rfl ?_
                  refine gX5_68 rfl (hR.1 _ ⟨by first | assumption | exact Nat.zero_lt_one, rfl⟩) rfl dX5_tower_57 ?_
                  refine j_iload_n dX5_tower_60 rfl ?_
                  refine j_iload_n dX5_tower_61 rfl ?_
                  refine r_iast hR ⟨by first | assumption | exact Nat.zero_lt_one, rfl⟩ (fun _ => rfl) j rfl hj (by decide) dX5_tower_62 (fun h hR => ?_)
                  refine j_aload_n dX5_tower_63 rfl ?_
                  refine j_callV (rest := []) (c_X5_pulls l G hR (mb := mb) (by rw [upZ_nk (Or.inl (by decide))]; exact hmb) hm (fun b hb => by rw [upZ_nk (Or.inl (by decide))]; exact hg b hb)) (hR.1 _ ⟨by first | assumption | exact Nat.zero_lt_one, rfl⟩) rfl cw_X5_pulls wl_X5_161 wm_X5_pulls wx_X5_pulls rfl rfl (Nat.le_of_ble_eq_true rfl) (Nat.le_of_ble_eq_true rfl) (Nat.le_of_ble_eq_true rfl) (Nat.le_of_ble_eq_true rfl) (Nat.le_of_ble_eq_true rfl) dX5_tower_64 (fun v_64 h_64 e_64 => ?_)
                  obtain ⟨rfl, hh⟩ := e_64
                  have hh := hh.symm
                  subst hh
                  refine j_iload_n dX5_tower_67 rfl ?_
                  refine j_icmp_le 85 dX5_tower_68 (by decide) (fun c_68 => ?_) (fun c_68 => ?_)
                  · refine j_aload_n dX5_tower_85 rfl ?_
                    refine j_iload_n dX5_tower_86 rfl ?_
                    refine qX5_164 rfl hR dX5_tower_87 (fun h hR => ?_)
                    refine j_iconst (v := 1) dX5_tower_90 (by decide) ?_
                    refine j_zret rfl rfl (Nat.le_of_ble_eq_true rfl) (Nat.le_of_ble_eq_true rfl) dX5_tower_91 ?_
                    exact ⟨by simp [mTower, mTow1, hw, hcl, g_6, c_10, g_21, g_31, c_37, c_53, c_68], by simpa [mTower, mTow1, hw, hcl, g_6, c_10, g_21, g_31, c_37, c_53, c_68] using hR⟩
                  · refine j_iload_n dX5_tower_71 rfl ?_
                    refine j_if_lt 83 dX5_tower_72 (by decide) (fun c_72 => ?_) (fun c_72 => ?_)
                    · exact absurd c_72 (nI_pos (n := j) (by omega))
                    · refine j_aload_n dX5_tower_75 rfl ?_
                      refine gX5_68 rfl (hR.1 _ ⟨by first | assumption | exact Nat.zero_lt_one, rfl⟩) rfl dX5_tower_76 ?_
                      refine j_iload_n dX5_tower_79 rfl ?_
                      refine j_iload dX5_tower_80 rfl ?_
                      refine r_iast hR ⟨by first | assumption | exact Nat.zero_lt_one, rfl⟩ (fun _ => rfl) j rfl hj (by decide) dX5_tower_82 (fun h hR => ?_)
                      refine j_iconst (v := 0) dX5_tower_83 (by decide) ?_
                      refine j_zret rfl rfl (Nat.le_of_ble_eq_true rfl) (Nat.le_of_ble_eq_true rfl) dX5_tower_84 ?_
                      exact ⟨by simp [mTower, mTow1, hw, hcl, g_6, c_10, g_21, g_31, c_37, c_53, c_68, c_72], by simpa [mTower, mTow1, hw, hcl, g_6, c_10, g_21, g_31, c_37, c_53, c_68, c_72] using hR⟩
              · exact absurd (nI_pos' (n := j) (by omega)) c_37
            · have g_31 := (bi_eq0 _).mp c_31
              refine j_iconst (v := 0) dX5_tower_34 (by decide) ?_
              refine j_zret rfl rfl (Nat.le_of_ble_eq_true rfl) (Nat.le_of_ble_eq_true rfl) dX5_tower_35 ?_
              exact ⟨by simp [mTower, mTow1, hw, hcl, g_6, c_10, g_21, g_31], by simpa [mTower, mTow1, hw, hcl, g_6, c_10, g_21, g_31] using hR⟩
  · have hcl : True := trivial
    refine j_iload_n dX5_tower_0 rfl ?_
    refine j_iconst (v := (-1)) dX5_tower_1 (by decide) ?_
    refine j_iconst (v := 4) dX5_tower_2 (by decide) ?_
    refine j_callS (rest := []) (c_X5_in l G) cw_X5_in wl_X5_90 ws_X5_in rfl rfl (Nat.le_of_ble_eq_true rfl) (Nat.le_of_ble_eq_true rfl) (Nat.le_of_ble_eq_true rfl) (Nat.le_of_ble_eq_true rfl) (Nat.le_of_ble_eq_true rfl) dX5_tower_3 (fun v_3 h_3 e_3 => ?_)
    obtain ⟨rfl, hh⟩ := e_3
    have hh := hh.symm
    subst hh
    refine j_if_eq 34 dX5_tower_6 (by decide) (fun c_6 => ?_) (fun c_6 => ?_)
    · have g_6 := (bi_eq0 _).mp c_6
      refine j_iconst (v := 0) dX5_tower_34 (by decide) ?_
      refine j_zret rfl rfl (Nat.le_of_ble_eq_true rfl) (Nat.le_of_ble_eq_true rfl) dX5_tower_35 ?_
      exact ⟨by simp [mTower, hw], by simpa [mTower, hw] using hR⟩
    · have g_6 := (bi_ne0 _).mp c_6
      exact absurd g_6 hw

def mProf1 (mp : Nat) (w : Int32) (Z : ZT) : ZT := itZ (fun i Y => upZ Y (5, 0, 5) (8 * mp + i) 1) (upZ Z (5, 0, 2) mp w) 8
def mProfile (mp : Nat) (w : Int32) (Z : ZT) : Int32 × ZT := if iw w 0 5000 && !decide (Z (5, 0, 0) 0 = 4) then (nI mp, upZ (mProf1 mp w Z) (5, 0, 0) 0 (nI (mp + 1))) else (-1, Z)
set_option maxRecDepth 100000 in
set_option maxHeartbeats 4000000 in
theorem c_X5_profile (l : Launch) (G : GG) {ad : NM → Nat} {np nb : Nat} {Z : ZT} {L : LT} {h : AH} (hR : Rm ad np nb Z L h) {mp : Nat} (hmp : Z (5, 0, 0) 0 = nI mp) (hp4 : mp ≤ 4) {w : Int32} : Con l G mX5_profile 1 0 0 [.ref (ad (5, 0, 0)), .int w] h (fun r h2 => r = some (.int (mProfile mp w Z).1) ∧ Rm ad np nb (mProfile mp w Z).2 L h2) := by
  refine Con.of 1 rfl (Nat.le_of_ble_eq_true rfl) ?_
  refine j_iload_n dX5_profile_0 rfl ?_
  refine j_iconst (v := 0) dX5_profile_1 (by decide) ?_
  refine j_sipush (v := 5000) dX5_profile_2 (by decide) ?_
  refine j_callS (rest := []) (c_X5_in l G) cw_X5_in wl_X5_90 ws_X5_in rfl rfl (Nat.le_of_ble_eq_true rfl) (Nat.le_of_ble_eq_true rfl) (Nat.le_of_ble_eq_true rfl) (Nat.le_of_ble_eq_true rfl) (Nat.le_of_ble_eq_true rfl) dX5_profile_5 (fun v_5 h_5 e_5 => ?_)
  obtain ⟨rfl, hh⟩ := e_5
  have hh := hh.symm
  subst hh
  refine j_if_eq 19 dX5_profile_8 (by decide) (fun c_8 => ?_) (fun c_8 => ?_)
  · have g_8 := (bi_eq0 _).mp c_8
    refine j_iconst (v := (-1)) dX5_profile_19 (by decide) ?_
    refine j_iret rfl (Nat.le_of_ble_eq_true rfl) (Nat.le_of_ble_eq_true rfl) dX5_profile_20 ?_
    exact ⟨by simp [mProfile, g_8], by simpa [mProfile, g_8] using hR⟩
  · have g_8 := (bi_ne0 _).mp c_8
    refine j_aload_n dX5_profile_11 rfl ?_
    refine gX5_94 rfl (hR.1 _ ⟨by first | assumption | exact Nat.zero_lt_one, rfl⟩) rfl dX5_profile_12 ?_
    refine j_iconst (v := 4) dX5_profile_15 (by decide) ?_
    refine j_icmp_ne 21 dX5_profile_16 (by decide) (fun c_16 => ?_) (fun c_16 => ?_)
    · have hlt : mp < 4 := by
        rcases Nat.lt_or_ge mp 4 with q | q
        · exact q
        · obtain rfl : mp = 4 := by omega
          exact absurd hmp c_16
      refine j_aload_n dX5_profile_21 rfl ?_
      refine gX5_7 rfl (hR.1 _ ⟨by first | assumption | exact Nat.zero_lt_one, rfl⟩) rfl dX5_profile_22 ?_
      refine j_aload_n dX5_profile_25 rfl ?_
      refine gX5_94 rfl (hR.1 _ ⟨by first | assumption | exact Nat.zero_lt_one, rfl⟩) rfl dX5_profile_26 ?_
      refine j_iload_n dX5_profile_29 rfl ?_
      refine r_iast hR ⟨by first | assumption | exact Nat.zero_lt_one, rfl⟩ (fun _ => rfl) mp hmp hlt (by decide) dX5_profile_30 (fun h hR => ?_)
      refine j_iconst (v := 0) dX5_profile_31 (by decide) ?_
      refine j_istore_n dX5_profile_32 (Nat.le_of_ble_eq_true rfl) rfl ?_
      have key : ∀ nn i, 8 < i + nn → i ≤ 8 → ∀ h, Rm ad np nb (itZ (fun i Y => upZ Y (5, 0, 5) (8 * mp + i) 1) (upZ Z (5, 0, 2) mp w) i) L h → J (thM l G mX5_profile 1 0 0 (fun r h2 => r = some (.int (mProfile mp w Z).1) ∧ Rm ad np nb (mProfile mp w Z).2 L h2)) cX5_profile h (0, 0) [some (.ref (ad (5, 0, 0))), some (.int w), some (.int (nI i))] 33 [] := by
        intro nn
        induction nn with
        | zero => intro i h1 h2; omega
        | succ nn ih =>
          intro i h1 h2 h hR
          have hpi : itZ (fun i Y => upZ Y (5, 0, 5) (8 * mp + i) 1) (upZ Z (5, 0, 2) mp w) i (5, 0, 0) 0 = nI mp := by
            rw [itZ_keep (n := (5, 0, 0)) (fun k Y => upZ_ne (by decide)), upZ_nk (Or.inl (by decide))]
            exact hmp
          refine j_iload_n dX5_profile_33 rfl ?_
          refine j_bipush (v := 8) dX5_profile_34 (by decide) ?_
          refine j_icmp_ge 60 dX5_profile_36 (by decide) (fun c_36 => ?_) (fun c_36 => ?_)
          · have hl8 : 8 ≤ i := (nI_leI (a := 8) (b := i) (by omega) (by omega)).mp c_36
            obtain rfl : i = 8 := by omega
            refine j_aload_n dX5_profile_60 rfl ?_
            refine j_dup dX5_profile_61 rfl ?_
            refine gX5_94 rfl (hR.1 _ ⟨by first | assumption | exact Nat.zero_lt_one, rfl⟩) rfl dX5_profile_62 ?_
            refine j_iconst (v := 1) dX5_profile_65 (by decide) ?_
            refine j_iadd dX5_profile_66 ?_
            rw [hpi, nI_1]
            refine qX5_94 rfl hR dX5_profile_67 (fun h hR => ?_)
            refine j_aload_n dX5_profile_70 rfl ?_
            refine gX5_94 rfl (hR.1 _ ⟨by first | assumption | exact Nat.zero_lt_one, rfl⟩) rfl dX5_profile_71 ?_
            rw [upZ_at]
            refine j_iconst (v := 1) dX5_profile_74 (by decide) ?_
            refine j_isub dX5_profile_75 ?_
            refine j_iret rfl (Nat.le_of_ble_eq_true rfl) (Nat.le_of_ble_eq_true rfl) dX5_profile_76 ?_
            exact ⟨by simp [mProfile, g_8, c_16, nI_pred], by simpa [mProfile, g_8, c_16, mProf1] using hR⟩
          · have hl8 : i < 8 := Nat.not_le.mp (fun q => c_36 ((nI_leI (a := 8) (b := i) (by omega) (by omega)).mpr q))
            refine j_aload_n dX5_profile_39 rfl ?_
            refine gX5_19 rfl (hR.1 _ ⟨by first | assumption | exact Nat.zero_lt_one, rfl⟩) rfl dX5_profile_40 ?_
            refine j_bipush (v := 8) dX5_profile_43 (by decide) ?_
            refine j_aload_n dX5_profile_45 rfl ?_
            refine gX5_94 rfl (hR.1 _ ⟨by first | assumption | exact Nat.zero_lt_one, rfl⟩) rfl dX5_profile_46 ?_
            refine j_imul dX5_profile_49 ?_
            refine j_iload_n dX5_profile_50 rfl ?_
            refine j_iadd dX5_profile_51 ?_
            refine j_iconst (v := 1) dX5_profile_52 (by decide) ?_
            refine r_iast hR ⟨by first | assumption | exact Nat.zero_lt_one, rfl⟩ (fun _ => rfl) (8 * mp + i) (by rw [hpi]; exact xi8 mp i) (by omega) (by decide) dX5_profile_53 (fun h hR => ?_)
            refine j_iinc dX5_profile_54 rfl (nI_inc _) (Nat.le_of_ble_eq_true rfl) rfl ?_
            refine j_goto 33 dX5_profile_57 (by decide) ?_
            exact ih (i + 1) (by omega) (by omega) _ hR
      exact key 9 0 (by omega) (by omega) _ hR
    · refine j_iconst (v := (-1)) dX5_profile_19 (by decide) ?_
      refine j_iret rfl (Nat.le_of_ble_eq_true rfl) (Nat.le_of_ble_eq_true rfl) dX5_profile_20 ?_
      exact ⟨by simp [mProfile, g_8, c_16], by simpa [mProfile, g_8, c_16] using hR⟩

