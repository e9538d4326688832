def mT1 (Y : ZT) (b k : Nat) (c : Int32) : ZT := upZ Y (5, 0, 11) (8 * b + k) (Y (5, 0, 11) (8 * b + k) - c)
def mT2 (Y : ZT) (b k : Nat) (c : Int32) : ZT := upZ (mT1 Y b k c) (5, 0, 0) 20 (mT1 Y b k c (5, 0, 0) 20 + mT1 Y b k c (5, 0, 13) (8 * b + k) * c)
def mTuneZ (X : ZT) (b n : Nat) : ZT := itZ (fun k Y => mT2 Y b k (X (5, 0, 29) k)) X n
theorem mTuneZ_cuts (X : ZT) (b n : Nat) : mTuneZ X b n (5, 0, 29) = X (5, 0, 29) :=
  itZ_keep (fun k Y => by unfold mT2 mT1; rw [upZ_ne (by simp), upZ_ne (by simp)]) n
def mTune (v : Int32) (Z : ZT) (x : Int32) (Y : ZT) : Prop := ∃ X, keep1 (5, 0, 29) Z X ∧ tuningPost Z v x X ∧ Y = if x < 0 then X else mTuneZ X (cl v) 8
def mTunAt (v k : Int32) (Z : ZT) (r : Int32) (Y : ZT) : Prop := (iw k 0 7 = false ∧ r = -1 ∧ Y = Z) ∨ (iw k 0 7 = true ∧ ∃ x, keep1 (5, 0, 29) Z Y ∧ tuningPost Z v x Y ∧ r = if x < 0 then -1 else Y (5, 0, 29) (cl k))
theorem tuningPost_j {Z : ZT} {v x : Int32} {Y : ZT} (h : tuningPost Z v x Y) (hx : ¬ x < 0) : mCan Z v = true := by
  rcases h with ⟨_, rfl, _⟩ | ⟨h, _⟩
  · exact absurd (by decide) hx
  · exact h
set_option maxRecDepth 100000 in
set_option maxHeartbeats 4000000 in
theorem c_X5_tune (l : Launch) (G : GG) {ad : NM → Nat} {np nb : Nat} {Z : ZT} {L : LT} {h : AH} (hR : Rm ad np nb Z L h) {mb : Nat} (hmb : Z (5, 0, 0) 7 = nI mb) (hm : mb ≤ 24) {v : Int32} : Con l G mX5_tune 4 0 0 [.ref (ad (5, 0, 0)), .int v] h (fun r h2 => ∃ x Y, r = some (.int x) ∧ Rm ad np nb Y L h2 ∧ mTune v Z x Y) := by
  refine Con.of 2 rfl (Nat.le_of_ble_eq_true rfl) ?_
  refine j_aload_n dX5_tune_0 rfl ?_
  refine j_iload_n dX5_tune_1 rfl ?_
  refine j_callV (rest := []) (c_X5_tuning l G hR hmb hm) (hR.1 _ ⟨by first | assumption | exact Nat.zero_lt_one, rfl⟩) rfl cw_X5_tuning wl_X5_137 wm_X5_tuning wx_X5_tuning rfl rfl (Nat.le_of_ble_eq_true rfl) (Nat.le_of_ble_eq_true rfl) (Nat.le_of_ble_eq_true rfl) (Nat.le_of_ble_eq_true rfl) (Nat.le_of_ble_eq_true rfl) dX5_tune_2 (fun v_2 h_2 e_2 => ?_)
  obtain ⟨x, X, rfl, hR, hkp, htp⟩ := e_2
  refine j_istore_n dX5_tune_5 (Nat.le_of_ble_eq_true rfl) rfl ?_
  refine j_iconst (v := 0) dX5_tune_6 (by decide) ?_
  refine j_istore_n dX5_tune_7 (Nat.le_of_ble_eq_true rfl) rfl ?_
  by_cases hx : x < 0
  · skip
    refine j_iload_n dX5_tune_8 rfl ?_
    refine j_bipush (v := 8) dX5_tune_9 (by decide) ?_
    refine j_icmp_ge 71 dX5_tune_11 (by decide) (fun c_11 => ?_) (fun c_11 => ?_)
    · exact absurd c_11 (by decide)
    · refine j_iload_n dX5_tune_14 rfl ?_
      refine j_if_lt 71 dX5_tune_15 (by decide) (fun c_15 => ?_) (fun c_15 => ?_)
      · refine j_iload_n dX5_tune_71 rfl ?_
        refine j_iret rfl (Nat.le_of_ble_eq_true rfl) (Nat.le_of_ble_eq_true rfl) dX5_tune_72 ?_
        exact ⟨_, _, rfl, hR, X, hkp, htp, by rw [if_pos hx]⟩
      · exact absurd hx c_15
  · obtain ⟨j, hj, rfl, hcl⟩ := mCan_lt hmb hm (tuningPost_j htp hx)
    have key : ∀ nn i, 8 < i + nn → i ≤ 8 → ∀ h, Rm ad np nb (mTuneZ X j i) L h → J (thM l G mX5_tune 4 0 0 (fun r h2 => ∃ x Y, r = some (.int x) ∧ Rm ad np nb Y L h2 ∧ mTune (nI j) Z x Y)) cX5_tune h (0, 0) [some (.ref (ad (5, 0, 0))), some (.int (nI j)), some (.int x), some (.int (nI i))] 8 [] := by
      intro nn
      induction nn with
      | zero => intro i h1 h2; omega
      | succ nn ih =>
        intro i h1 h2 h hR
        refine j_iload_n dX5_tune_8 rfl ?_
        refine j_bipush (v := 8) dX5_tune_9 (by decide) ?_
        refine j_icmp_ge 71 dX5_tune_11 (by decide) (fun c_11 => ?_) (fun c_11 => ?_)
        · have hl : 8 ≤ i := (nI_leI (a := 8) (b := i) (by omega) (by omega)).mp c_11
          obtain rfl : i = 8 := by omega
          refine j_iload_n dX5_tune_71 rfl ?_
          refine j_iret rfl (Nat.le_of_ble_eq_true rfl) (Nat.le_of_ble_eq_true rfl) dX5_tune_72 ?_
          exact ⟨_, _, rfl, hR, X, hkp, htp, by rw [if_neg hx, hcl]⟩
        · have hl : i < 8 := Nat.not_le.mp (fun q => c_11 ((nI_leI (a := 8) (b := i) (by omega) (by omega)).mpr q))
          refine j_iload_n dX5_tune_14 rfl ?_
          refine j_if_lt 71 dX5_tune_15 (by decide) (fun c_15 => ?_) (fun c_15 => ?_)
          · exact absurd c_15 hx
          · refine j_aload_n dX5_tune_18 rfl ?_
            refine gX5_34 rfl (hR.1 _ ⟨by first | assumption | exact Nat.zero_lt_one, rfl⟩) rfl dX5_tune_19 ?_
            refine j_bipush (v := 8) dX5_tune_22 (by decide) ?_
            refine j_iload_n dX5_tune_24 rfl ?_
            refine j_imul dX5_tune_25 ?_
            refine j_iload_n dX5_tune_26 rfl ?_
            refine j_iadd dX5_tune_27 ?_
            refine j_dup2 dX5_tune_28 rfl rfl ?_
            refine j_iald (hR.1 _ ⟨by first | assumption | exact Nat.zero_lt_one, rfl⟩) (8 * j + i) (xi8 j i) (by omega) (by decide) dX5_tune_29 ?_
            refine j_aload_n dX5_tune_30 rfl ?_
            refine gX5_71 rfl (hR.1 _ ⟨by first | assumption | exact Nat.zero_lt_one, rfl⟩) rfl dX5_tune_31 ?_
            refine j_iload_n dX5_tune_34 rfl ?_
            refine j_iald (hR.1 _ ⟨by first | assumption | exact Nat.zero_lt_one, rfl⟩) i rfl (by omega) (by decide) dX5_tune_35 ?_
            rw [show mTuneZ X j i (5, 0, 29) i = X (5, 0, 29) i by rw [mTuneZ_cuts]]
            refine j_isub dX5_tune_36 ?_
            refine r_iast hR ⟨by first | assumption | exact Nat.zero_lt_one, rfl⟩ (fun _ => rfl) (8 * j + i) (xi8 j i) (by omega) (by decide) dX5_tune_37 (fun h hR => ?_)
            refine j_aload_n dX5_tune_38 rfl ?_
            refine j_dup dX5_tune_39 rfl ?_
            refine gX5_105 rfl (hR.1 _ ⟨by first | assumption | exact Nat.zero_lt_one, rfl⟩) rfl dX5_tune_40 ?_
            refine j_aload_n dX5_tune_43 rfl ?_
            refine gX5_40 rfl (hR.1 _ ⟨by first | assumption | exact Nat.zero_lt_one, rfl⟩) rfl dX5_tune_44 ?_
            refine j_bipush (v := 8) dX5_tune_47 (by decide) ?_
            refine j_iload_n dX5_tune_49 rfl ?_
            refine j_imul dX5_tune_50 ?_
            refine j_iload_n dX5_tune_51 rfl ?_
            refine j_iadd dX5_tune_52 ?_
            refine j_iald (hR.1 _ ⟨by first | assumption | exact Nat.zero_lt_one, rfl⟩) (8 * j + i) (xi8 j i) (by omega) (by decide) dX5_tune_53 ?_
            refine j_aload_n dX5_tune_54 rfl ?_
            refine gX5_71 rfl (hR.1 _ ⟨by first | assumption | exact Nat.zero_lt_one, rfl⟩) rfl dX5_tune_55 ?_
            refine j_iload_n dX5_tune_58 rfl ?_
            refine j_iald (hR.1 _ ⟨by first | assumption | exact Nat.zero_lt_one, rfl⟩) i rfl (by omega) (by decide) dX5_tune_59 ?_
            rw [show upZ (mTuneZ X j i) (5, 0, 11) (8 * j + i) (mTuneZ X j i (5, 0, 11) (8 * j + i) - X (5, 0, 29) i) (5, 0, 29) i = X (5, 0, 29) i by rw [upZ_ne (by simp), mTuneZ_cuts]]
            refine j_imul dX5_tune_60 ?_
            refine j_iadd dX5_tune_61 ?_
            refine qX5_105 rfl hR dX5_tune_62 (fun h hR => ?_)
            refine j_iinc dX5_tune_65 rfl (nI_inc _) (Nat.le_of_ble_eq_true rfl) rfl ?_
            refine j_goto 8 dX5_tune_68 (by decide) ?_
            exact ih (i + 1) (by omega) (by omega) _ hR
    exact key 9 0 (by omega) (by omega) _ hR

set_option maxRecDepth 100000 in
set_option maxHeartbeats 4000000 in
theorem c_X5_tuningAt (l : Launch) (G : GG) {ad : NM → Nat} {np nb : Nat} {Z : ZT} {L : LT} {h : AH} (hR : Rm ad np nb Z L h) {mb : Nat} (hmb : Z (5, 0, 0) 7 = nI mb) (hm : mb ≤ 24) {v k : Int32} : Con l G mX5_tuningAt 4 0 0 [.ref (ad (5, 0, 0)), .int v, .int k] h (fun r h2 => ∃ x Y, r = some (.int x) ∧ Rm ad np nb Y L h2 ∧ mTunAt v k Z x Y) := by
  refine Con.of 0 rfl (Nat.le_of_ble_eq_true rfl) ?_
  refine j_iload_n dX5_tuningAt_0 rfl ?_
  refine j_iconst (v := 0) dX5_tuningAt_1 (by decide) ?_
  refine j_bipush (v := 7) dX5_tuningAt_2 (by decide) ?_
  refine j_callS (rest := []) (c_X5_in l G) cw_X5_in wl_X5_90 ws_X5_in rfl rfl (Nat.le_of_ble_eq_true rfl) (Nat.le_of_ble_eq_true rfl) (Nat.le_of_ble_eq_true rfl) (Nat.le_of_ble_eq_true rfl) (Nat.le_of_ble_eq_true rfl) dX5_tuningAt_4 (fun v_4 h_4 e_4 => ?_)
  obtain ⟨rfl, hh⟩ := e_4
  have hh := hh.symm
  subst hh
  refine j_if_eq 27 dX5_tuningAt_7 (by decide) (fun c_7 => ?_) (fun c_7 => ?_)
  · have g_7 := (bi_eq0 _).mp c_7
    have hfin : ∃ x Y, some (Value.int (-1)) = some (.int x) ∧ Rm ad np nb Y L h ∧ mTunAt v k Z x Y := ⟨_, _, rfl, hR, Or.inl ⟨g_7, rfl, rfl⟩⟩
    refine j_iconst (v := (-1)) dX5_tuningAt_27 (by decide) ?_
    refine j_iret rfl (Nat.le_of_ble_eq_true rfl) (Nat.le_of_ble_eq_true rfl) dX5_tuningAt_28 ?_
    exact hfin
  · have g_7 := (bi_ne0 _).mp c_7
    obtain ⟨i, hi, rfl, hcli⟩ := iw_le (n := 7) (by omega) g_7
    have hcli : cl (nI i) = i := hcli
    refine j_aload_n dX5_tuningAt_10 rfl ?_
    refine j_iload_n dX5_tuningAt_11 rfl ?_
    refine j_callV (rest := []) (c_X5_tuning l G hR hmb hm) (hR.1 _ ⟨by first | assumption | exact Nat.zero_lt_one, rfl⟩) rfl cw_X5_tuning wl_X5_137 wm_X5_tuning wx_X5_tuning rfl rfl (Nat.le_of_ble_eq_true rfl) (Nat.le_of_ble_eq_true rfl) (Nat.le_of_ble_eq_true rfl) (Nat.le_of_ble_eq_true rfl) (Nat.le_of_ble_eq_true rfl) dX5_tuningAt_12 (fun v_12 h_12 e_12 => ?_)
    obtain ⟨x, X, rfl, hR, hkp, htp⟩ := e_12
    refine j_if_lt 27 dX5_tuningAt_15 (by decide) (fun c_15 => ?_) (fun c_15 => ?_)
    · have hfin : ∃ x Y, some (Value.int (-1)) = some (.int x) ∧ Rm ad np nb Y L h_12 ∧ mTunAt v (nI i) Z x Y := ⟨_, _, rfl, hR, Or.inr ⟨g_7, x, hkp, htp, by rw [if_pos c_15]⟩⟩
      refine j_iconst (v := (-1)) dX5_tuningAt_27 (by decide) ?_
      refine j_iret rfl (Nat.le_of_ble_eq_true rfl) (Nat.le_of_ble_eq_true rfl) dX5_tuningAt_28 ?_
      exact hfin
    · have hfin : ∃ x Y, some (Value.int (X (5, 0, 29) i)) = some (.int x) ∧ Rm ad np nb Y L h_12 ∧ mTunAt v (nI i) Z x Y := ⟨_, _, rfl, hR, Or.inr ⟨g_7, x, hkp, htp, by rw [if_neg c_15, hcli]⟩⟩
      refine j_aload_n dX5_tuningAt_18 rfl ?_
      refine gX5_71 rfl (hR.1 _ ⟨by first | assumption | exact Nat.zero_lt_one, rfl⟩) rfl dX5_tuningAt_19 ?_
      refine j_iload_n dX5_tuningAt_22 rfl ?_
      refine j_iald (hR.1 _ ⟨by first | assumption | exact Nat.zero_lt_one, rfl⟩) i rfl (by omega) (by decide) dX5_tuningAt_23 ?_
      refine j_goto 28 dX5_tuningAt_24 (by decide) ?_
      refine j_iret rfl (Nat.le_of_ble_eq_true rfl) (Nat.le_of_ble_eq_true rfl) dX5_tuningAt_28 ?_
      exact hfin

