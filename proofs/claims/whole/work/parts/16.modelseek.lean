def seekPost (Z : ZT) (b : Nat) (v : Int32) (Y : ZT) : Prop := (v = -1 ∧ ∀ c, sm c 8 ≤ 12 → mTun Z b c = false) ∨ ∃ (n : Nat) (c : Nat → Nat), n ≤ 12 ∧ v = nI n ∧ (∀ i, i < 8 → Y (5, 0, 29) i = nI (c i)) ∧ First (mTun Z b) n c
theorem p13 : (13 : Nat) ^ 8 = 815730721 := by decide
set_option maxRecDepth 100000 in
set_option maxHeartbeats 4000000 in
theorem c_X5_seeks (l : Launch) (G : GG) {ad : NM → Nat} {np nb : Nat} {Z : ZT} {L : LT} {h : AH} (hR : Rm ad np nb Z L h) {b : Nat} (hb : b < 24) : Con l G mX5_seeks 2 0 0 [.ref (ad (5, 0, 0)), .int (nI b)] h (fun r h2 => ∃ (v : Int32) (Y : ZT), r = some (.int v) ∧ Rm ad np nb Y L h2 ∧ keep1 (5, 0, 29) Z Y ∧ seekPost Z b v Y) := by
  have k1 : ∀ nn n, 13 < n + nn → n ≤ 13 → ∀ h Y, Rm ad np nb Y L h → keep1 (5, 0, 29) Z Y → (∀ c', sm c' 8 < n → mTun Z b c' = false) → J (thM l G mX5_seeks 2 0 0 (fun r h2 => ∃ (v : Int32) (Y : ZT), r = some (.int v) ∧ Rm ad np nb Y L h2 ∧ keep1 (5, 0, 29) Z Y ∧ seekPost Z b v Y)) cX5_seeks h (0, 0) [some (.ref (ad (5, 0, 0))), some (.int (nI b)), some (.int (nI n)), none] 2 [] := by
    intro nn
    induction nn with
    | zero => intro n h1 h2; omega
    | succ nn ih =>
      intro n h1 h2 h Y hR hkp hlo
      refine j_iload_n dX5_seeks_2 rfl ?_
      refine j_bipush (v := 12) dX5_seeks_3 (by decide) ?_
      refine j_icmp_gt 67 dX5_seeks_5 (by decide) (fun c_5 => ?_) (fun c_5 => ?_)
      · have hn12 : 12 < n := (nI_ltI (a := 12) (b := n) (by omega) (by omega)).mp c_5
        refine j_iconst (v := (-1)) dX5_seeks_67 (by decide) ?_
        refine j_iret rfl (Nat.le_of_ble_eq_true rfl) (Nat.le_of_ble_eq_true rfl) dX5_seeks_68 ?_
        exact ⟨_, _, rfl, hR, hkp, Or.inl ⟨rfl, fun c hc => hlo c (by omega)⟩⟩
      · have hn12 : n ≤ 12 := Nat.not_lt.mp (fun q => c_5 ((nI_ltI (a := 12) (b := n) (by omega) (by omega)).mpr q))
        refine j_iconst (v := 0) dX5_seeks_8 (by decide) ?_
        refine j_istore_n dX5_seeks_9 (Nat.le_of_ble_eq_true rfl) rfl ?_
        have k3 : ∀ nn3 (c : Nat → Nat), 815730721 ≤ vl c 8 + nn3 → ∀ h Y, Rm ad np nb Y L h → keep1 (5, 0, 29) Z Y → (∀ i, i < 8 → Y (5, 0, 29) i = nI (c i)) → sm c 8 = n → (∀ c', sm c' 8 = n → lexlt 8 c' c → mTun Z b c' = false) → J (thM l G mX5_seeks 2 0 0 (fun r h2 => ∃ (v : Int32) (Y : ZT), r = some (.int v) ∧ Rm ad np nb Y L h2 ∧ keep1 (5, 0, 29) Z Y ∧ seekPost Z b v Y)) cX5_seeks h (0, 0) [some (.ref (ad (5, 0, 0))), some (.int (nI b)), some (.int (nI n)), some (.int 1)] 39 [] := by
          intro nn3
          induction nn3 with
          | zero =>
            intro c hv h Y hR hkp hcu hsm hbe
            have := vl_bd (c := c) (n := 8) (fun i hi => by have := sm_le (c := c) hi; omega)
            rw [p13] at this
            omega
          | succ nn3 ih3 =>
            intro c hv h Y hR hkp hcu hsm hbe
            refine j_iload_n dX5_seeks_39 rfl ?_
            refine j_if_eq 61 dX5_seeks_40 (by decide) (fun c_40 => ?_) (fun c_40 => ?_)
            · exact absurd c_40 (by decide)
            · refine j_aload_n dX5_seeks_43 rfl ?_
              refine j_iload_n dX5_seeks_44 rfl ?_
              refine j_callV (rest := []) (c_X5_isTuned l G hR hb hcu) (hR.1 _ ⟨by first | assumption | exact Nat.zero_lt_one, rfl⟩) rfl cw_X5_isTuned wl_X5_127 wm_X5_isTuned wx_X5_isTuned rfl rfl (Nat.le_of_ble_eq_true rfl) (Nat.le_of_ble_eq_true rfl) (Nat.le_of_ble_eq_true rfl) (Nat.le_of_ble_eq_true rfl) (Nat.le_of_ble_eq_true rfl) dX5_seeks_45 (fun v_45 h_45 e_45 => ?_)
              obtain ⟨rfl, hh⟩ := e_45
              have hh := hh.symm
              subst hh
              rw [mTun_keep hkp b]
              refine j_if_eq 53 dX5_seeks_48 (by decide) (fun c_48 => ?_) (fun c_48 => ?_)
              · have g_48 := (bi_eq0 _).mp c_48
                refine j_aload_n dX5_seeks_53 rfl ?_
                refine j_callV (rest := []) (c_X5_nextCuts l G hR hcu (by omega)) (hR.1 _ ⟨by first | assumption | exact Nat.zero_lt_one, rfl⟩) rfl cw_X5_nextCuts wl_X5_130 wm_X5_nextCuts wx_X5_nextCuts rfl rfl (Nat.le_of_ble_eq_true rfl) (Nat.le_of_ble_eq_true rfl) (Nat.le_of_ble_eq_true rfl) (Nat.le_of_ble_eq_true rfl) (Nat.le_of_ble_eq_true rfl) dX5_seeks_54 (fun v_54 h_54 e_54 => ?_)
                rcases e_54 with ⟨rfl, hR, hall⟩ | ⟨rfl, k, Y2, hk6, hklt, hkz, hR, hkp2, hcu2⟩
                · have hnone : ∀ c', sm c' 8 = n → mTun Z b c' = false := fun c' hc' => by
                    rcases lex_tri 8 c c' with h9 | h9 | h9
                    · exact absurd h9 (nxt_none hall (by omega))
                    · unfold mTun at g_48 ⊢
                      rw [← tunC_congr h9]
                      exact g_48
                    · exact hbe c' hc' h9
                  refine j_istore_n dX5_seeks_57 (Nat.le_of_ble_eq_true rfl) rfl ?_
                  refine j_goto 39 dX5_seeks_58 (by decide) ?_
                  refine j_iload_n dX5_seeks_39 rfl ?_
                  refine j_if_eq 61 dX5_seeks_40 (by decide) (fun c_40 => ?_) (fun c_40 => absurd rfl c_40)
                  refine j_iinc dX5_seeks_61 rfl (nI_inc _) (Nat.le_of_ble_eq_true rfl) rfl ?_
                  refine j_goto 2 dX5_seeks_64 (by decide) ?_
                  refine J.drop 3 ?_
                  exact ih (n + 1) (by omega) (by omega) _ _ hR hkp (fun c' hc' => by
                    rcases Nat.lt_or_ge (sm c' 8) n with h9 | h9
                    · exact hlo c' h9
                    · exact hnone c' (by omega))
                · refine j_istore_n dX5_seeks_57 (Nat.le_of_ble_eq_true rfl) rfl ?_
                  refine j_goto 39 dX5_seeks_58 (by decide) ?_
                  have hgt := nxt_gt (c := c) hk6
                  have hvl := vl_lt hgt (fun i hi => by have := sm_le (c := c) hi; omega)
                  refine ih3 (nxt c k) (by omega) _ _ hR (hkp.tr hkp2) hcu2 (by rw [nxt_sm hk6 hklt]; exact hsm) (fun c' hc' hx => ?_)
                  rcases lex_tri 8 c c' with h9 | h9 | h9
                  · exact absurd hx (nxt_between hk6 hkz (by omega) h9)
                  · unfold mTun at g_48 ⊢
                    rw [← tunC_congr h9]
                    exact g_48
                  · exact hbe c' hc' h9
              · have g_48 := (bi_ne0 _).mp c_48
                refine j_iload_n dX5_seeks_51 rfl ?_
                refine j_iret rfl (Nat.le_of_ble_eq_true rfl) (Nat.le_of_ble_eq_true rfl) dX5_seeks_52 ?_
                exact ⟨_, _, rfl, hR, hkp, Or.inr ⟨n, c, by omega, rfl, hcu, hsm, g_48, hlo, hbe⟩⟩
        have k2 : ∀ nn2 i, 7 < i + nn2 → i ≤ 7 → ∀ h Y, Rm ad np nb Y L h → keep1 (5, 0, 29) Z Y → (∀ x, x < i → Y (5, 0, 29) x = nI 0) → J (thM l G mX5_seeks 2 0 0 (fun r h2 => ∃ (v : Int32) (Y : ZT), r = some (.int v) ∧ Rm ad np nb Y L h2 ∧ keep1 (5, 0, 29) Z Y ∧ seekPost Z b v Y)) cX5_seeks h (0, 0) [some (.ref (ad (5, 0, 0))), some (.int (nI b)), some (.int (nI n)), some (.int (nI i))] 10 [] := by
          intro nn2
          induction nn2 with
          | zero => intro i h1 h2; omega
          | succ nn2 ih2 =>
            intro i h1 h2 h Y hR hkp hzx
            refine j_iload_n dX5_seeks_10 rfl ?_
            refine j_bipush (v := 7) dX5_seeks_11 (by decide) ?_
            refine j_icmp_ge 29 dX5_seeks_13 (by decide) (fun c_13 => ?_) (fun c_13 => ?_)
            · have hl : 7 ≤ i := (nI_leI (a := 7) (b := i) (by omega) (by omega)).mp c_13
              obtain rfl : i = 7 := by omega
              refine j_aload_n dX5_seeks_29 rfl ?_
              refine gX5_71 rfl (hR.1 _ ⟨by first | assumption | exact Nat.zero_lt_one, rfl⟩) rfl dX5_seeks_30 ?_
              refine j_bipush (v := 7) dX5_seeks_33 (by decide) ?_
              refine j_iload_n dX5_seeks_35 rfl ?_
              refine r_iast hR ⟨by first | assumption | exact Nat.zero_lt_one, rfl⟩ (fun _ => rfl) 7 rfl (by omega) (by decide) dX5_seeks_36 (fun h hR => ?_)
              refine j_iconst (v := 1) dX5_seeks_37 (by decide) ?_
              refine j_istore_n dX5_seeks_38 (Nat.le_of_ble_eq_true rfl) rfl ?_
              exact k3 815730721 (c0f n) (by omega) _ _ hR (hkp.up _ _) (fun x hx => by
                rcases Nat.lt_or_ge x 7 with h9 | h9
                · rw [upZ_nk (Or.inr (by omega)), hzx x h9, c0f, if_neg (by omega)]
                · obtain rfl : x = 7 := by omega
                  rw [upZ_at, c0f, if_pos rfl]) (c0f_sm n) (fun c' hc' hx => absurd hx (c0f_first hc'))
            · have hl : i < 7 := Nat.not_le.mp (fun q => c_13 ((nI_leI (a := 7) (b := i) (by omega) (by omega)).mpr q))
              refine j_aload_n dX5_seeks_16 rfl ?_
              refine gX5_71 rfl (hR.1 _ ⟨by first | assumption | exact Nat.zero_lt_one, rfl⟩) rfl dX5_seeks_17 ?_
              refine j_iload_n dX5_seeks_20 rfl ?_
              refine j_iconst (v := 0) dX5_seeks_21 (by decide) ?_
              refine r_iast hR ⟨by first | assumption | exact Nat.zero_lt_one, rfl⟩ (fun _ => rfl) i rfl (by omega) (by decide) dX5_seeks_22 (fun h hR => ?_)
              refine j_iinc dX5_seeks_23 rfl (nI_inc _) (Nat.le_of_ble_eq_true rfl) rfl ?_
              refine j_goto 10 dX5_seeks_26 (by decide) ?_
              exact ih2 (i + 1) (by omega) (by omega) _ _ hR (hkp.up _ _) (fun x hx => by
                rcases Nat.lt_or_ge x i with h9 | h9
                · rw [upZ_nk (Or.inr (by omega))]; exact hzx x h9
                · obtain rfl : x = i := by omega
                  rw [upZ_at]
                  rfl)
        exact k2 8 0 (by omega) (by omega) _ _ hR hkp (fun x hx => absurd hx (by omega))
  refine Con.of 2 rfl (Nat.le_of_ble_eq_true rfl) ?_
  refine j_iconst (v := 0) dX5_seeks_0 (by decide) ?_
  refine j_istore_n dX5_seeks_1 (Nat.le_of_ble_eq_true rfl) rfl ?_
  exact k1 14 0 (by omega) (by omega) _ _ hR keep1.rf (fun c' hc' => absurd hc' (by omega))

def tuningPost (Z : ZT) (v : Int32) (r : Int32) (Y : ZT) : Prop := (mCan Z v = false ∧ r = -1 ∧ Y = Z) ∨ (mCan Z v = true ∧ seekPost Z (cl v) r Y)
set_option maxRecDepth 100000 in
set_option maxHeartbeats 4000000 in
theorem c_X5_tuning (l : Launch) (G : GG) {ad : NM → Nat} {np nb : Nat} {Z : ZT} {L : LT} {h : AH} (hR : Rm ad np nb Z L h) {mb : Nat} (hmb : Z (5, 0, 0) 7 = nI mb) (hm : mb ≤ 24) {v : Int32} : Con l G mX5_tuning 3 0 0 [.ref (ad (5, 0, 0)), .int v] h (fun r h2 => ∃ (x : Int32) (Y : ZT), r = some (.int x) ∧ Rm ad np nb Y L h2 ∧ keep1 (5, 0, 29) Z Y ∧ tuningPost Z v x Y) := by
  refine Con.of 0 rfl (Nat.le_of_ble_eq_true rfl) ?_
  refine j_aload_n dX5_tuning_0 rfl ?_
  refine j_iload_n dX5_tuning_1 rfl ?_
  refine j_callV (rest := []) (c_X5_canCut l G hR hmb hm) (hR.1 _ ⟨by first | assumption | exact Nat.zero_lt_one, rfl⟩) rfl cw_X5_canCut wl_X5_112 wm_X5_canCut wx_X5_canCut rfl rfl (Nat.le_of_ble_eq_true rfl) (Nat.le_of_ble_eq_true rfl) (Nat.le_of_ble_eq_true rfl) (Nat.le_of_ble_eq_true rfl) (Nat.le_of_ble_eq_true rfl) dX5_tuning_2 (fun v_2 h_2 e_2 => ?_)
  obtain ⟨rfl, hh⟩ := e_2
  have hh := hh.symm
  subst hh
  refine j_if_eq 16 dX5_tuning_5 (by decide) (fun c_5 => ?_) (fun c_5 => ?_)
  · have g_5 := (bi_eq0 _).mp c_5
    have hfin : ∃ (x : Int32) (Y : ZT), some (Value.int (-1)) = some (.int x) ∧ Rm ad np nb Y L h ∧ keep1 (5, 0, 29) Z Y ∧ tuningPost Z v x Y := ⟨_, _, rfl, hR, keep1.rf, Or.inl ⟨g_5, rfl, rfl⟩⟩
    refine j_iconst (v := (-1)) dX5_tuning_16 (by decide) ?_
    refine j_iret rfl (Nat.le_of_ble_eq_true rfl) (Nat.le_of_ble_eq_true rfl) dX5_tuning_17 ?_
    exact hfin
  · have g_5 := (bi_ne0 _).mp c_5
    obtain ⟨j, hj, rfl, hcl⟩ := mCan_lt hmb hm g_5
    refine j_aload_n dX5_tuning_8 rfl ?_
    refine j_iload_n dX5_tuning_9 rfl ?_
    refine j_callV (rest := []) (c_X5_seeks l G hR (by omega)) (hR.1 _ ⟨by first | assumption | exact Nat.zero_lt_one, rfl⟩) rfl cw_X5_seeks wl_X5_134 wm_X5_seeks wx_X5_seeks rfl rfl (Nat.le_of_ble_eq_true rfl) (Nat.le_of_ble_eq_true rfl) (Nat.le_of_ble_eq_true rfl) (Nat.le_of_ble_eq_true rfl) (Nat.le_of_ble_eq_true rfl) dX5_tuning_10 (fun v_10 h_10 e_10 => ?_)
    obtain ⟨x, Y, rfl, hR, hkp, hsp⟩ := e_10
    have hfin : ∃ (y : Int32) (Y : ZT), some (Value.int x) = some (.int y) ∧ Rm ad np nb Y L h_10 ∧ keep1 (5, 0, 29) Z Y ∧ tuningPost Z (nI j) y Y := ⟨_, _, rfl, hR, hkp, Or.inr ⟨g_5, by rw [hcl]; exact hsp⟩⟩
    refine j_goto 17 dX5_tuning_13 (by decide) ?_
    refine j_iret rfl (Nat.le_of_ble_eq_true rfl) (Nat.le_of_ble_eq_true rfl) dX5_tuning_17 ?_
    exact hfin

