theorem ix5 (q i : Nat) : nI q * 5 + nI i = nI (q * 5 + i) := by
  rw [show (5 : Int32) = nI 5 from rfl, pk_mul, nI_add]
set_option maxRecDepth 100000 in
set_option maxHeartbeats 4000000 in
theorem c_X3_mayReach (l : Launch) (G : GG) {ad : NM → Nat} {np nb : Nat} {Z : ZT} {L : LT} {h : AH} (hR : Rm ad np nb Z L h) {k left : Nat} (hk : k ≤ 8) : Con l G mX3_mayReach 0 0 0 [.ref (ad (3, 0, 0)), .int (nI k), .int (nI left)] h (fun r h2 => r = some (.int (bi (reachB (Z (3, 0, 4)) (Z (3, 0, 1)) (Z (3, 0, 2)) (fun q => Z (3, 0, 7) (k * 5 + q)) (fun q => Z (3, 0, 6) (k * 5 + q)) left))) ∧ h2 = h) := by
  have key : ∀ nn i, 5 < i + nn → i ≤ 5 → (∀ x, x < i → (fun q => !decide (Z (3, 0, 4) q - nI left * Z (3, 0, 7) (k * 5 + q) < Z (3, 0, 1) q) && decide (Z (3, 0, 4) q - nI left * Z (3, 0, 6) (k * 5 + q) ≤ Z (3, 0, 2) q)) x = true) → J (thM l G mX3_mayReach 0 0 0 (fun r h2 => r = some (.int (bi (reachB (Z (3, 0, 4)) (Z (3, 0, 1)) (Z (3, 0, 2)) (fun q => Z (3, 0, 7) (k * 5 + q)) (fun q => Z (3, 0, 6) (k * 5 + q)) left))) ∧ h2 = h)) cX3_mayReach h (0, 0) [some (.ref (ad (3, 0, 0))), some (.int (nI k)), some (.int (nI left)), some (.int (nI i)), none] 2 [] := by
    intro nn
    induction nn with
    | zero => intro i h1 h2; omega
    | succ nn ih =>
      intro i h1 h2 hall
      refine j_iload_n dX3_mayReach_2 rfl ?_
      refine j_iconst (v := 5) dX3_mayReach_3 (by decide) ?_
      refine j_icmp_ge 72 dX3_mayReach_4 (by decide) (fun c_4 => ?_) (fun c_4 => ?_)
      · have hl : 5 ≤ i := (nI_leI (a := 5) (b := i) (by omega) (by omega)).mp c_4
        obtain rfl : i = 5 := by omega
        refine j_iconst (v := 1) dX3_mayReach_72 (by decide) ?_
        refine j_zret rfl rfl (Nat.le_of_ble_eq_true rfl) (Nat.le_of_ble_eq_true rfl) dX3_mayReach_73 ?_
        exact ⟨by
          rw [show reachB (Z (3, 0, 4)) (Z (3, 0, 1)) (Z (3, 0, 2)) (fun q => Z (3, 0, 7) (k * 5 + q)) (fun q => Z (3, 0, 6) (k * 5 + q)) left = true from allB_iff.mpr hall]
          rfl, rfl⟩
      · have hl : i < 5 := Nat.not_le.mp (fun q => c_4 ((nI_leI (a := 5) (b := i) (by omega) (by omega)).mpr q))
        refine j_iload_n dX3_mayReach_7 rfl ?_
        refine j_iconst (v := 5) dX3_mayReach_8 (by decide) ?_
        refine j_imul dX3_mayReach_9 ?_
        refine j_iload_n dX3_mayReach_10 rfl ?_
        refine j_iadd dX3_mayReach_11 ?_
        rw [ix5]
        refine j_istore dX3_mayReach_12 (Nat.le_of_ble_eq_true rfl) rfl ?_
        refine j_aload_n dX3_mayReach_14 rfl ?_
        refine gX3_24 rfl (hR.1 _ ⟨by first | assumption | exact Nat.zero_lt_one, rfl⟩) rfl dX3_mayReach_15 ?_
        refine j_iload_n dX3_mayReach_18 rfl ?_
        refine j_iald (hR.1 _ ⟨by first | assumption | exact Nat.zero_lt_one, rfl⟩) _ rfl (by omega) (by decide) dX3_mayReach_19 ?_
        refine j_iload_n dX3_mayReach_20 rfl ?_
        refine j_aload_n dX3_mayReach_21 rfl ?_
        refine gX3_33 rfl (hR.1 _ ⟨by first | assumption | exact Nat.zero_lt_one, rfl⟩) rfl dX3_mayReach_22 ?_
        refine j_iload dX3_mayReach_25 rfl ?_
        refine j_iald (hR.1 _ ⟨by first | assumption | exact Nat.zero_lt_one, rfl⟩) (k * 5 + i) rfl (by omega) (by decide) dX3_mayReach_27 ?_
        refine j_imul dX3_mayReach_28 ?_
        refine j_isub dX3_mayReach_29 ?_
        refine j_aload_n dX3_mayReach_30 rfl ?_
        refine gX3_9 rfl (hR.1 _ ⟨by first | assumption | exact Nat.zero_lt_one, rfl⟩) rfl dX3_mayReach_31 ?_
        refine j_iload_n dX3_mayReach_34 rfl ?_
        refine j_iald (hR.1 _ ⟨by first | assumption | exact Nat.zero_lt_one, rfl⟩) _ rfl (by omega) (by decide) dX3_mayReach_35 ?_
        refine j_icmp_lt 64 dX3_mayReach_36 (by decide) (fun c_36 => ?_) (fun c_36 => ?_)
        · refine j_iconst (v := 0) dX3_mayReach_64 (by decide) ?_
          refine j_zret rfl rfl (Nat.le_of_ble_eq_true rfl) (Nat.le_of_ble_eq_true rfl) dX3_mayReach_65 ?_
          exact ⟨by
            rw [show reachB (Z (3, 0, 4)) (Z (3, 0, 1)) (Z (3, 0, 2)) (fun q => Z (3, 0, 7) (k * 5 + q)) (fun q => Z (3, 0, 6) (k * 5 + q)) left = false from allB_no (n := 5) (f := (fun q => !decide (Z (3, 0, 4) q - nI left * Z (3, 0, 7) (k * 5 + q) < Z (3, 0, 1) q) && decide (Z (3, 0, 4) q - nI left * Z (3, 0, 6) (k * 5 + q) ≤ Z (3, 0, 2) q))) hl (by simp [c_36])]
            rfl, rfl⟩
        · refine j_aload_n dX3_mayReach_39 rfl ?_
          refine gX3_24 rfl (hR.1 _ ⟨by first | assumption | exact Nat.zero_lt_one, rfl⟩) rfl dX3_mayReach_40 ?_
          refine j_iload_n dX3_mayReach_43 rfl ?_
          refine j_iald (hR.1 _ ⟨by first | assumption | exact Nat.zero_lt_one, rfl⟩) _ rfl (by omega) (by decide) dX3_mayReach_44 ?_
          refine j_iload_n dX3_mayReach_45 rfl ?_
          refine j_aload_n dX3_mayReach_46 rfl ?_
          refine gX3_30 rfl (hR.1 _ ⟨by first | assumption | exact Nat.zero_lt_one, rfl⟩) rfl dX3_mayReach_47 ?_
          refine j_iload dX3_mayReach_50 rfl ?_
          refine j_iald (hR.1 _ ⟨by first | assumption | exact Nat.zero_lt_one, rfl⟩) (k * 5 + i) rfl (by omega) (by decide) dX3_mayReach_52 ?_
          refine j_imul dX3_mayReach_53 ?_
          refine j_isub dX3_mayReach_54 ?_
          refine j_aload_n dX3_mayReach_55 rfl ?_
          refine gX3_15 rfl (hR.1 _ ⟨by first | assumption | exact Nat.zero_lt_one, rfl⟩) rfl dX3_mayReach_56 ?_
          refine j_iload_n dX3_mayReach_59 rfl ?_
          refine j_iald (hR.1 _ ⟨by first | assumption | exact Nat.zero_lt_one, rfl⟩) _ rfl (by omega) (by decide) dX3_mayReach_60 ?_
          refine j_icmp_le 66 dX3_mayReach_61 (by decide) (fun c_61 => ?_) (fun c_61 => ?_)
          · refine j_iinc dX3_mayReach_66 rfl (nI_inc _) (Nat.le_of_ble_eq_true rfl) rfl ?_
            refine j_goto 2 dX3_mayReach_69 (by decide) ?_
            refine J.drop 4 ?_
            exact ih (i + 1) (by omega) (by omega) (fun x hx => by
              rcases Nat.lt_or_ge x i with h9 | h9
              · exact hall x h9
              · rw [show x = i by omega]; simp [c_36, c_61])
          · refine j_iconst (v := 0) dX3_mayReach_64 (by decide) ?_
            refine j_zret rfl rfl (Nat.le_of_ble_eq_true rfl) (Nat.le_of_ble_eq_true rfl) dX3_mayReach_65 ?_
            exact ⟨by
              rw [show reachB (Z (3, 0, 4)) (Z (3, 0, 1)) (Z (3, 0, 2)) (fun q => Z (3, 0, 7) (k * 5 + q)) (fun q => Z (3, 0, 6) (k * 5 + q)) left = false from allB_no (n := 5) (f := (fun q => !decide (Z (3, 0, 4) q - nI left * Z (3, 0, 7) (k * 5 + q) < Z (3, 0, 1) q) && decide (Z (3, 0, 4) q - nI left * Z (3, 0, 6) (k * 5 + q) ≤ Z (3, 0, 2) q))) hl (by simp [c_36, c_61])]
              rfl, rfl⟩
  refine Con.of 2 rfl (Nat.le_of_ble_eq_true rfl) ?_
  refine j_iconst (v := 0) dX3_mayReach_0 (by decide) ?_
  refine j_istore_n dX3_mayReach_1 (Nat.le_of_ble_eq_true rfl) rfl ?_
  exact key 6 0 (by omega) (by omega) (fun x hx => absurd hx (by omega))

set_option maxRecDepth 100000 in
set_option maxHeartbeats 4000000 in
theorem c_X3_lower (l : Launch) (G : GG) {ad : NM → Nat} {np nb : Nat} {Z : ZT} {L : LT} {h : AH} (hR : Rm ad np nb Z L h) {b : Nat} (hb : b < nb) {k : Nat} (hk : k < 8) {c : Int32} : Con l G mX3_lower 1 0 0 [.ref (ad (3, 0, 0)), .ref (ad (4, b, 0)), .int (nI k), .int c] h (fun r h2 => r = none ∧ ∃ Y, Rm ad np nb Y L h2 ∧ keep1 (3, 0, 4) Z Y ∧ ∀ x, x < 5 → Y (3, 0, 4) x = Z (3, 0, 4) x - c * Z (6, b, 3) (x * 8 + k)) := by
  have key : ∀ nn i, 5 < i + nn → i ≤ 5 → ∀ h Y, Rm ad np nb Y L h → keep1 (3, 0, 4) Z Y → (∀ x, x < i → Y (3, 0, 4) x = Z (3, 0, 4) x - c * Z (6, b, 3) (x * 8 + k)) → (∀ x, i ≤ x → Y (3, 0, 4) x = Z (3, 0, 4) x) → J (thM l G mX3_lower 1 0 0 (fun r h2 => r = none ∧ ∃ Y, Rm ad np nb Y L h2 ∧ keep1 (3, 0, 4) Z Y ∧ ∀ x, x < 5 → Y (3, 0, 4) x = Z (3, 0, 4) x - c * Z (6, b, 3) (x * 8 + k))) cX3_lower h (0, 0) [some (.ref (ad (3, 0, 0))), some (.ref (ad (4, b, 0))), some (.int (nI k)), some (.int c), some (.int (nI i))] 3 [] := by
    intro nn
    induction nn with
    | zero => intro i h1 h2; omega
    | succ nn ih =>
      intro i h1 h2 h Y hR hkp hlo hhi
      refine j_iload dX3_lower_3 rfl ?_
      refine j_iconst (v := 5) dX3_lower_5 (by decide) ?_
      refine j_icmp_ge 34 dX3_lower_6 (by decide) (fun c_6 => ?_) (fun c_6 => ?_)
      · have hl : 5 ≤ i := (nI_leI (a := 5) (b := i) (by omega) (by omega)).mp c_6
        obtain rfl : i = 5 := by omega
        refine j_vret rfl (Nat.le_of_ble_eq_true rfl) (Nat.le_of_ble_eq_true rfl) dX3_lower_34 ?_
        exact ⟨rfl, Y, hR, hkp, hlo⟩
      · have hl : i < 5 := Nat.not_le.mp (fun q => c_6 ((nI_leI (a := 5) (b := i) (by omega) (by omega)).mpr q))
        refine j_aload_n dX3_lower_9 rfl ?_
        refine gX3_24 rfl (hR.1 _ ⟨by first | assumption | exact Nat.zero_lt_one, rfl⟩) rfl dX3_lower_10 ?_
        refine j_iload dX3_lower_13 rfl ?_
        refine j_dup2 dX3_lower_15 rfl rfl ?_
        refine j_iald (hR.1 _ ⟨by first | assumption | exact Nat.zero_lt_one, rfl⟩) i rfl (by omega) (by decide) dX3_lower_16 ?_
        refine j_iload_n dX3_lower_17 rfl ?_
        refine j_aload_n dX3_lower_18 rfl ?_
        refine j_iload dX3_lower_19 rfl ?_
        refine j_iload_n dX3_lower_21 rfl ?_
        refine j_callV (rest := [.int c, .int (Y (3, 0, 4) i), .int (nI i), .ref (ad (3, 0, 4))]) (c_X0_tableAt l G hR hb (q := i) hl hk) (hR.1 _ ⟨by first | assumption | exact Nat.zero_lt_one, rfl⟩) rfl cw_X0_tableAt wl_X3_76 wm_X0_tableAt wx_X0_tableAt rfl rfl (Nat.le_of_ble_eq_true rfl) (Nat.le_of_ble_eq_true rfl) (Nat.le_of_ble_eq_true rfl) (Nat.le_of_ble_eq_true rfl) (Nat.le_of_ble_eq_true rfl) dX3_lower_22 (fun v_22 h_22 e_22 => ?_)
        obtain ⟨rfl, hh⟩ := e_22
        have hh := hh.symm
        subst hh
        refine j_imul dX3_lower_25 ?_
        refine j_isub dX3_lower_26 ?_
        refine r_iast hR ⟨by first | assumption | exact Nat.zero_lt_one, rfl⟩ (fun _ => rfl) i rfl (by omega) (by decide) dX3_lower_27 (fun h hR => ?_)
        refine j_iinc dX3_lower_28 rfl (nI_inc _) (Nat.le_of_ble_eq_true rfl) rfl ?_
        refine j_goto 3 dX3_lower_31 (by decide) ?_
        exact ih (i + 1) (by omega) (by omega) _ _ hR (hkp.up _ _) (fun x hx => by
          rcases Nat.lt_or_ge x i with h9 | h9
          · rw [upZ_nk (Or.inr (by omega))]; exact hlo x h9
          · obtain rfl : x = i := by omega
            rw [upZ_at, hhi x (Nat.le_refl _), hkp (6, b, 3) (by simp)]) (fun x hx => by rw [upZ_nk (Or.inr (by omega))]; exact hhi x (by omega))
  refine Con.of 1 rfl (Nat.le_of_ble_eq_true rfl) ?_
  refine j_iconst (v := 0) dX3_lower_0 (by decide) ?_
  refine j_istore dX3_lower_1 (Nat.le_of_ble_eq_true rfl) rfl ?_
  exact key 6 0 (by omega) (by omega) _ _ hR keep1.rf (fun x hx => absurd hx (by omega)) (fun _ _ => rfl)

