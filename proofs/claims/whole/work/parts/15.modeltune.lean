def mTun (Z : ZT) (b : Nat) : (Nat → Nat) → Bool := tunC (fun i => Z (5, 0, 11) (8 * b + i)) (fun i => Z (5, 0, 12) (8 * b + i)) (mP Z b) (fun q i => Z (5, 0, 15) (40 * b + 8 * q + i)) (Z (5, 0, 22)) (Z (5, 0, 23))
/-- nothing but the array n has changed -/
def keep1 (n : NM) (Z Y : ZT) : Prop := ∀ m, m ≠ n → Y m = Z m
theorem keep1.rf {n : NM} {Z : ZT} : keep1 n Z Z := fun _ _ => rfl
theorem keep1.up {n : NM} {Z Y : ZT} (h : keep1 n Z Y) (k : Nat) (v : Int32) : keep1 n Z (upZ Y n k v) := fun m hm => by rw [upZ_ne hm]; exact h m hm
theorem keep1.tr {n : NM} {Z Y X : ZT} (h : keep1 n Z Y) (h2 : keep1 n Y X) : keep1 n Z X := fun m hm => (h2 m hm).trans (h m hm)
theorem mTun_keep {Z Y : ZT} (h : keep1 (5, 0, 29) Z Y) (b : Nat) : mTun Y b = mTun Z b := by
  unfold mTun mP
  rw [h (5, 0, 11) (by decide), h (5, 0, 12) (by decide), h (5, 0, 14) (by decide), h (5, 0, 15) (by decide), h (5, 0, 22) (by decide), h (5, 0, 23) (by decide)]
set_option maxRecDepth 100000 in
set_option maxHeartbeats 4000000 in
theorem c_X5_isTuned (l : Launch) (G : GG) {ad : NM → Nat} {np nb : Nat} {Z : ZT} {L : LT} {h : AH} (hR : Rm ad np nb Z L h) {b : Nat} (hb : b < 24) {c : Nat → Nat} (hcu : ∀ i, i < 8 → Z (5, 0, 29) i = nI (c i))  : Con l G mX5_isTuned 1 0 0 [.ref (ad (5, 0, 0)), .int (nI b)] h (fun r h2 => r = some (.int (bi (mTun Z b c))) ∧ h2 = h) := by
  have k0 : ∀ nn i, 8 < i + nn → i ≤ 8 → (∀ x, x < i → (fun i => decide (Z (5, 0, 12) (8 * b + i) ≤ Z (5, 0, 11) (8 * b + i) - nI (c i))) x = true) → J (thM l G mX5_isTuned 1 0 0 (fun r h2 => r = some (.int (bi (mTun Z b c))) ∧ h2 = h)) cX5_isTuned h (0, 0) [some (.ref (ad (5, 0, 0))), some (.int (nI b)), some (.int (nI i)), none, none] 2 [] := by
    intro nn
    induction nn with
    | zero => intro i h1 h2; omega
    | succ nn ih =>
      intro i h1 h2 hall
      refine j_iload_n dX5_isTuned_2 rfl ?_
      refine j_bipush (v := 8) dX5_isTuned_3 (by decide) ?_
      refine j_icmp_ge 48 dX5_isTuned_5 (by decide) (fun c_5 => ?_) (fun c_5 => ?_)
      · have hl : 8 ≤ i := (nI_leI (a := 8) (b := i) (by omega) (by omega)).mp c_5
        obtain rfl : i = 8 := by omega
        refine j_iconst (v := 0) dX5_isTuned_48 (by decide) ?_
        refine j_istore_n dX5_isTuned_49 (Nat.le_of_ble_eq_true rfl) rfl ?_
        have k1 : ∀ nn1 q, 5 < q + nn1 → q ≤ 5 → (∀ x, x < q → (fun q => iw (dsum (mP Z b q) (fun i => Z (5, 0, 15) (40 * b + 8 * q + i)) (fun i => nI (c i)) 8) (Z (5, 0, 22) q) (Z (5, 0, 23) q)) x = true) → J (thM l G mX5_isTuned 1 0 0 (fun r h2 => r = some (.int (bi (mTun Z b c))) ∧ h2 = h)) cX5_isTuned h (0, 0) [some (.ref (ad (5, 0, 0))), some (.int (nI b)), some (.int (nI q)), none, none] 50 [] := by
          intro nn1
          induction nn1 with
          | zero => intro q h1 h2; omega
          | succ nn1 ih1 =>
            intro q h1 h2 hqs
            refine j_iload_n dX5_isTuned_50 rfl ?_
            refine j_iconst (v := 5) dX5_isTuned_51 (by decide) ?_
            refine j_icmp_ge 133 dX5_isTuned_52 (by decide) (fun c_52 => ?_) (fun c_52 => ?_)
            · have hq5 : 5 ≤ q := (nI_leI (a := 5) (b := q) (by omega) (by omega)).mp c_52
              obtain rfl : q = 5 := by omega
              refine j_iconst (v := 1) dX5_isTuned_133 (by decide) ?_
              refine j_zret rfl rfl (Nat.le_of_ble_eq_true rfl) (Nat.le_of_ble_eq_true rfl) dX5_isTuned_134 ?_
              exact ⟨by
                rw [show mTun Z b c = true by
                  unfold mTun tunC
                  rw [allB_iff.mpr hall, allB_iff.mpr hqs]
                  rfl]
                rfl, rfl⟩
            · have hq5 : q < 5 := Nat.not_le.mp (fun q9 => c_52 ((nI_leI (a := 5) (b := q) (by omega) (by omega)).mpr q9))
              refine j_aload_n dX5_isTuned_55 rfl ?_
              refine j_iload_n dX5_isTuned_56 rfl ?_
              refine j_iload_n dX5_isTuned_57 rfl ?_
              refine j_callV (rest := []) (c_X5_partOf l G hR hb (q := q) (by omega)) (hR.1 _ ⟨by first | assumption | exact Nat.zero_lt_one, rfl⟩) rfl cw_X5_partOf wl_X5_120 wm_X5_partOf wx_X5_partOf rfl rfl (Nat.le_of_ble_eq_true rfl) (Nat.le_of_ble_eq_true rfl) (Nat.le_of_ble_eq_true rfl) (Nat.le_of_ble_eq_true rfl) (Nat.le_of_ble_eq_true rfl) dX5_isTuned_58 (fun v_58 h_58 e_58 => ?_)
              obtain ⟨rfl, hh⟩ := e_58
              have hh := hh.symm
              subst hh
              refine j_istore_n dX5_isTuned_61 (Nat.le_of_ble_eq_true rfl) rfl ?_
              refine j_iconst (v := 0) dX5_isTuned_62 (by decide) ?_
              refine j_istore dX5_isTuned_63 (Nat.le_of_ble_eq_true rfl) rfl ?_
              have k2 : ∀ nn2 i, 8 < i + nn2 → i ≤ 8 → J (thM l G mX5_isTuned 1 0 0 (fun r h2 => r = some (.int (bi (mTun Z b c))) ∧ h2 = h)) cX5_isTuned h (0, 0) [some (.ref (ad (5, 0, 0))), some (.int (nI b)), some (.int (nI q)), some (.int (dsum (mP Z b q) (fun i => Z (5, 0, 15) (40 * b + 8 * q + i)) (fun i => nI (c i)) i)), some (.int (nI i))] 65 [] := by
                intro nn2
                induction nn2 with
                | zero => intro i h1 h2; omega
                | succ nn2 ih2 =>
                  intro i h1 h2 
                  refine j_iload dX5_isTuned_65 rfl ?_
                  refine j_bipush (v := 8) dX5_isTuned_67 (by decide) ?_
                  refine j_icmp_ge 106 dX5_isTuned_69 (by decide) (fun c_69 => ?_) (fun c_69 => ?_)
                  · have hl : 8 ≤ i := (nI_leI (a := 8) (b := i) (by omega) (by omega)).mp c_69
                    obtain rfl : i = 8 := by omega
                    refine j_iload_n dX5_isTuned_106 rfl ?_
                    refine j_aload_n dX5_isTuned_107 rfl ?_
                    refine gX5_59 rfl (hR.1 _ ⟨by first | assumption | exact Nat.zero_lt_one, rfl⟩) rfl dX5_isTuned_108 ?_
                    refine j_iload_n dX5_isTuned_111 rfl ?_
                    refine j_iald (hR.1 _ ⟨by first | assumption | exact Nat.zero_lt_one, rfl⟩) q rfl (by omega) (by decide) dX5_isTuned_112 ?_
                    refine j_aload_n dX5_isTuned_113 rfl ?_
                    refine gX5_62 rfl (hR.1 _ ⟨by first | assumption | exact Nat.zero_lt_one, rfl⟩) rfl dX5_isTuned_114 ?_
                    refine j_iload_n dX5_isTuned_117 rfl ?_
                    refine j_iald (hR.1 _ ⟨by first | assumption | exact Nat.zero_lt_one, rfl⟩) q rfl (by omega) (by decide) dX5_isTuned_118 ?_
                    refine j_callS (rest := []) (c_X5_in l G) cw_X5_in wl_X5_90 ws_X5_in rfl rfl (Nat.le_of_ble_eq_true rfl) (Nat.le_of_ble_eq_true rfl) (Nat.le_of_ble_eq_true rfl) (Nat.le_of_ble_eq_true rfl) (Nat.le_of_ble_eq_true rfl) dX5_isTuned_119 (fun v_119 h_119 e_119 => ?_)
                    obtain ⟨rfl, hh⟩ := e_119
                    have hh := hh.symm
                    subst hh
                    refine j_if_ne 127 dX5_isTuned_122 (by decide) (fun c_122 => ?_) (fun c_122 => ?_)
                    · have g_122 := (bi_ne0 _).mp c_122
                      refine j_iinc dX5_isTuned_127 rfl (nI_inc _) (Nat.le_of_ble_eq_true rfl) rfl ?_
                      refine j_goto 50 dX5_isTuned_130 (by decide) ?_
                      refine J.drop 3 ?_
                      refine J.drop 4 ?_
                      exact ih1 (q + 1) (by omega) (by omega) (fun x hx => by
                        rcases Nat.lt_or_ge x q with h9 | h9
                        · exact hqs x h9
                        · rw [show x = q by omega]; exact g_122)
                    · have g_122 := (bi_eq0 _).mp c_122
                      refine j_iconst (v := 0) dX5_isTuned_125 (by decide) ?_
                      refine j_zret rfl rfl (Nat.le_of_ble_eq_true rfl) (Nat.le_of_ble_eq_true rfl) dX5_isTuned_126 ?_
                      exact ⟨by
                        rw [show mTun Z b c = false by
                          unfold mTun tunC
                          rw [allB_no (n := 5) hq5 g_122, Bool.and_false]]
                        rfl, rfl⟩
                  · have hl : i < 8 := Nat.not_le.mp (fun q => c_69 ((nI_leI (a := 8) (b := i) (by omega) (by omega)).mpr q))
                    refine j_iload_n dX5_isTuned_72 rfl ?_
                    refine j_aload_n dX5_isTuned_73 rfl ?_
                    refine gX5_46 rfl (hR.1 _ ⟨by first | assumption | exact Nat.zero_lt_one, rfl⟩) rfl dX5_isTuned_74 ?_
                    refine j_bipush (v := 40) dX5_isTuned_77 (by decide) ?_
                    refine j_iload_n dX5_isTuned_79 rfl ?_
                    refine j_imul dX5_isTuned_80 ?_
                    refine j_bipush (v := 8) dX5_isTuned_81 (by decide) ?_
                    refine j_iload_n dX5_isTuned_83 rfl ?_
                    refine j_imul dX5_isTuned_84 ?_
                    refine j_iadd dX5_isTuned_85 ?_
                    refine j_iload dX5_isTuned_86 rfl ?_
                    refine j_iadd dX5_isTuned_88 ?_
                    refine j_iald (hR.1 _ ⟨by first | assumption | exact Nat.zero_lt_one, rfl⟩) (40 * b + 8 * q + i) (xi40 b q i) (by omega) (by decide) dX5_isTuned_89 ?_
                    refine j_aload_n dX5_isTuned_90 rfl ?_
                    refine gX5_71 rfl (hR.1 _ ⟨by first | assumption | exact Nat.zero_lt_one, rfl⟩) rfl dX5_isTuned_91 ?_
                    refine j_iload dX5_isTuned_94 rfl ?_
                    refine j_iald (hR.1 _ ⟨by first | assumption | exact Nat.zero_lt_one, rfl⟩) _ rfl (by omega) (by decide) dX5_isTuned_96 ?_
                    rw [hcu i hl]
                    refine j_imul dX5_isTuned_97 ?_
                    refine j_isub dX5_isTuned_98 ?_
                    refine j_istore_n dX5_isTuned_99 (Nat.le_of_ble_eq_true rfl) rfl ?_
                    refine j_iinc dX5_isTuned_100 rfl (nI_inc _) (Nat.le_of_ble_eq_true rfl) rfl ?_
                    refine j_goto 65 dX5_isTuned_103 (by decide) ?_
                    exact ih2 (i + 1) (by omega) (by omega)
              exact k2 9 0 (by omega) (by omega)
        exact k1 6 0 (by omega) (by omega) (fun x hx => absurd hx (by omega))
      · have hl : i < 8 := Nat.not_le.mp (fun q => c_5 ((nI_leI (a := 8) (b := i) (by omega) (by omega)).mpr q))
        refine j_aload_n dX5_isTuned_8 rfl ?_
        refine gX5_34 rfl (hR.1 _ ⟨by first | assumption | exact Nat.zero_lt_one, rfl⟩) rfl dX5_isTuned_9 ?_
        refine j_bipush (v := 8) dX5_isTuned_12 (by decide) ?_
        refine j_iload_n dX5_isTuned_14 rfl ?_
        refine j_imul dX5_isTuned_15 ?_
        refine j_iload_n dX5_isTuned_16 rfl ?_
        refine j_iadd dX5_isTuned_17 ?_
        refine j_iald (hR.1 _ ⟨by first | assumption | exact Nat.zero_lt_one, rfl⟩) (8 * b + i) (xi8 b i) (by omega) (by decide) dX5_isTuned_18 ?_
        refine j_aload_n dX5_isTuned_19 rfl ?_
        refine gX5_71 rfl (hR.1 _ ⟨by first | assumption | exact Nat.zero_lt_one, rfl⟩) rfl dX5_isTuned_20 ?_
        refine j_iload_n dX5_isTuned_23 rfl ?_
        refine j_iald (hR.1 _ ⟨by first | assumption | exact Nat.zero_lt_one, rfl⟩) _ rfl (by omega) (by decide) dX5_isTuned_24 ?_
        rw [hcu i hl]
        refine j_isub dX5_isTuned_25 ?_
        refine j_aload_n dX5_isTuned_26 rfl ?_
        refine gX5_37 rfl (hR.1 _ ⟨by first | assumption | exact Nat.zero_lt_one, rfl⟩) rfl dX5_isTuned_27 ?_
        refine j_bipush (v := 8) dX5_isTuned_30 (by decide) ?_
        refine j_iload_n dX5_isTuned_32 rfl ?_
        refine j_imul dX5_isTuned_33 ?_
        refine j_iload_n dX5_isTuned_34 rfl ?_
        refine j_iadd dX5_isTuned_35 ?_
        refine j_iald (hR.1 _ ⟨by first | assumption | exact Nat.zero_lt_one, rfl⟩) (8 * b + i) (xi8 b i) (by omega) (by decide) dX5_isTuned_36 ?_
        refine j_icmp_ge 42 dX5_isTuned_37 (by decide) (fun c_37 => ?_) (fun c_37 => ?_)
        · refine j_iinc dX5_isTuned_42 rfl (nI_inc _) (Nat.le_of_ble_eq_true rfl) rfl ?_
          refine j_goto 2 dX5_isTuned_45 (by decide) ?_
          exact ih (i + 1) (by omega) (by omega) (fun x hx => by
            rcases Nat.lt_or_ge x i with h9 | h9
            · exact hall x h9
            · rw [show x = i by omega]; exact decide_eq_true c_37)
        · refine j_iconst (v := 0) dX5_isTuned_40 (by decide) ?_
          refine j_zret rfl rfl (Nat.le_of_ble_eq_true rfl) (Nat.le_of_ble_eq_true rfl) dX5_isTuned_41 ?_
          exact ⟨by
            rw [show mTun Z b c = false by
              unfold mTun tunC
              rw [allB_no (n := 8) (f := (fun i => decide (Z (5, 0, 12) (8 * b + i) ≤ Z (5, 0, 11) (8 * b + i) - nI (c i)))) hl (decide_eq_false c_37), Bool.false_and]]
            rfl, rfl⟩
  refine Con.of 3 rfl (Nat.le_of_ble_eq_true rfl) ?_
  refine j_iconst (v := 0) dX5_isTuned_0 (by decide) ?_
  refine j_istore_n dX5_isTuned_1 (Nat.le_of_ble_eq_true rfl) rfl ?_
  exact k0 9 0 (by omega) (by omega) (fun x hx => absurd hx (by omega))

set_option maxRecDepth 100000 in
set_option maxHeartbeats 4000000 in
theorem c_X5_nextCuts (l : Launch) (G : GG) {ad : NM → Nat} {np nb : Nat} {Z : ZT} {L : LT} {h : AH} (hR : Rm ad np nb Z L h) {c : Nat → Nat} (hcu : ∀ i, i < 8 → Z (5, 0, 29) i = nI (c i)) (hs : sm c 8 ≤ 12) : Con l G mX5_nextCuts 0 0 0 [.ref (ad (5, 0, 0))] h (fun r h2 => (r = some (.int 0) ∧ Rm ad np nb Z L h2 ∧ ∀ j, j ≤ 6 → sm c 8 = sm c (j + 1)) ∨ (r = some (.int 1) ∧ ∃ (k : Nat) (Y : ZT), k ≤ 6 ∧ sm c (k + 1) < sm c 8 ∧ (∀ j, k < j → j ≤ 6 → sm c 8 = sm c (j + 1)) ∧ Rm ad np nb Y L h2 ∧ keep1 (5, 0, 29) Z Y ∧ ∀ i, i < 8 → Y (5, 0, 29) i = nI (nxt c k i))) := by
  have key : ∀ k, k ≤ 7 → (∀ j, k ≤ j → j ≤ 6 → sm c 8 = sm c (j + 1)) → J (thM l G mX5_nextCuts 0 0 0 (fun r h2 => (r = some (.int 0) ∧ Rm ad np nb Z L h2 ∧ ∀ j, j ≤ 6 → sm c 8 = sm c (j + 1)) ∨ (r = some (.int 1) ∧ ∃ (k : Nat) (Y : ZT), k ≤ 6 ∧ sm c (k + 1) < sm c 8 ∧ (∀ j, k < j → j ≤ 6 → sm c 8 = sm c (j + 1)) ∧ Rm ad np nb Y L h2 ∧ keep1 (5, 0, 29) Z Y ∧ ∀ i, i < 8 → Y (5, 0, 29) i = nI (nxt c k i)))) cX5_nextCuts h (0, 0) [some (.ref (ad (5, 0, 0))), some (.int (nI (sm c 8 - sm c k))), some (.int (nI k - 1)), none] 11 [] := by
    intro k
    induction k with
    | zero =>
      intro hk hz
      refine j_iload_n dX5_nextCuts_11 rfl ?_
      refine j_if_lt 79 dX5_nextCuts_12 (by decide) (fun c_12 => ?_) (fun c_12 => ?_)
      · refine j_iconst (v := 0) dX5_nextCuts_79 (by decide) ?_
        refine j_zret rfl rfl (Nat.le_of_ble_eq_true rfl) (Nat.le_of_ble_eq_true rfl) dX5_nextCuts_80 ?_
        exact Or.inl ⟨rfl, hR, fun j hj => hz j (by omega) hj⟩
      · exact absurd (by decide) c_12
    | succ k ih =>
      intro hk hz
      rw [nI_pred]
      have hz2 : ∀ j, k < j → j ≤ 6 → sm c 8 = sm c (j + 1) := fun j h1 h2 => hz j (by omega) h2
      refine j_iload_n dX5_nextCuts_11 rfl ?_
      refine j_if_lt 79 dX5_nextCuts_12 (by decide) (fun c_12 => ?_) (fun c_12 => ?_)
      · exact absurd c_12 (nI_pos (n := k) (by omega))
      · refine j_iload_n dX5_nextCuts_15 rfl ?_
        refine j_if_le 64 dX5_nextCuts_16 (by decide) (fun c_16 => ?_) (fun c_16 => ?_)
        · have hle : sm c 8 - sm c (k + 1) ≤ 0 := (nI_leI (a := sm c 8 - sm c (k + 1)) (b := 0) (by omega) (by omega)).mp c_16
          have hmo := sm_mono (c := c) (show k + 1 ≤ 8 by omega)
          have hck : sm c (k + 1) = sm c k + c k := rfl
          refine j_iload_n dX5_nextCuts_64 rfl ?_
          refine j_aload_n dX5_nextCuts_65 rfl ?_
          refine gX5_71 rfl (hR.1 _ ⟨by first | assumption | exact Nat.zero_lt_one, rfl⟩) rfl dX5_nextCuts_66 ?_
          refine j_iload_n dX5_nextCuts_69 rfl ?_
          refine j_iald (hR.1 _ ⟨by first | assumption | exact Nat.zero_lt_one, rfl⟩) k rfl (by omega) (by decide) dX5_nextCuts_70 ?_
          rw [hcu k (by omega)]
          refine j_iadd dX5_nextCuts_71 ?_
          rw [nI_add, show sm c 8 - sm c (k + 1) + c k = sm c 8 - sm c k by omega]
          refine j_istore_n dX5_nextCuts_72 (Nat.le_of_ble_eq_true rfl) rfl ?_
          refine j_iinc dX5_nextCuts_73 rfl ((rfl : nI k + Int32.ofInt (-1) = _)) (Nat.le_of_ble_eq_true rfl) rfl ?_
          refine j_goto 11 dX5_nextCuts_76 (by decide) ?_
          rw [show nI k + Int32.ofInt (-1) = nI k - 1 from (Int32.sub_eq_add_neg (nI k) 1).symm]
          exact ih (by omega) (fun j h1 h2 => by
            rcases Nat.lt_or_ge k j with h9 | h9
            · exact hz j (by omega) h2
            · obtain rfl : j = k := by omega
              omega)
        · have hgt : 0 < sm c 8 - sm c (k + 1) := Nat.not_le.mp (fun q => c_16 ((nI_leI (a := sm c 8 - sm c (k + 1)) (b := 0) (by omega) (by omega)).mpr q))
          refine j_aload_n dX5_nextCuts_19 rfl ?_
          refine gX5_71 rfl (hR.1 _ ⟨by first | assumption | exact Nat.zero_lt_one, rfl⟩) rfl dX5_nextCuts_20 ?_
          refine j_iload_n dX5_nextCuts_23 rfl ?_
          refine j_dup2 dX5_nextCuts_24 rfl rfl ?_
          refine j_iald (hR.1 _ ⟨by first | assumption | exact Nat.zero_lt_one, rfl⟩) k rfl (by omega) (by decide) dX5_nextCuts_25 ?_
          refine j_iconst (v := 1) dX5_nextCuts_26 (by decide) ?_
          refine j_iadd dX5_nextCuts_27 ?_
          rw [hcu k (by omega), nI_1]
          refine r_iast hR ⟨by first | assumption | exact Nat.zero_lt_one, rfl⟩ (fun _ => rfl) k rfl (by omega) (by decide) dX5_nextCuts_28 (fun h hR => ?_)
          refine j_iload_n dX5_nextCuts_29 rfl ?_
          refine j_iconst (v := 1) dX5_nextCuts_30 (by decide) ?_
          refine j_iadd dX5_nextCuts_31 ?_
          rw [nI_1]
          refine j_istore_n dX5_nextCuts_32 (Nat.le_of_ble_eq_true rfl) rfl ?_
          have k2 : ∀ nn2 i, 7 < i + nn2 → i ≤ 7 → k + 1 ≤ i → ∀ h Y, Rm ad np nb Y L h → keep1 (5, 0, 29) Z Y → (∀ x, x < i → Y (5, 0, 29) x = nI (nxt c k x)) → J (thM l G mX5_nextCuts 0 0 0 (fun r h2 => (r = some (.int 0) ∧ Rm ad np nb Z L h2 ∧ ∀ j, j ≤ 6 → sm c 8 = sm c (j + 1)) ∨ (r = some (.int 1) ∧ ∃ (k : Nat) (Y : ZT), k ≤ 6 ∧ sm c (k + 1) < sm c 8 ∧ (∀ j, k < j → j ≤ 6 → sm c 8 = sm c (j + 1)) ∧ Rm ad np nb Y L h2 ∧ keep1 (5, 0, 29) Z Y ∧ ∀ i, i < 8 → Y (5, 0, 29) i = nI (nxt c k i)))) cX5_nextCuts h (0, 0) [some (.ref (ad (5, 0, 0))), some (.int (nI (sm c 8 - sm c (k + 1)))), some (.int (nI k)), some (.int (nI i))] 33 [] := by
            intro nn2
            induction nn2 with
            | zero => intro i h1 h2; omega
            | succ nn2 ih2 =>
              intro i h1 h2 hki h Y hR hkp hx2
              refine j_iload_n dX5_nextCuts_33 rfl ?_
              refine j_bipush (v := 7) dX5_nextCuts_34 (by decide) ?_
              refine j_icmp_ge 52 dX5_nextCuts_36 (by decide) (fun c_36 => ?_) (fun c_36 => ?_)
              · have hl : 7 ≤ i := (nI_leI (a := 7) (b := i) (by omega) (by omega)).mp c_36
                obtain rfl : i = 7 := by omega
                refine j_aload_n dX5_nextCuts_52 rfl ?_
                refine gX5_71 rfl (hR.1 _ ⟨by first | assumption | exact Nat.zero_lt_one, rfl⟩) rfl dX5_nextCuts_53 ?_
                refine j_bipush (v := 7) dX5_nextCuts_56 (by decide) ?_
                refine j_iload_n dX5_nextCuts_58 rfl ?_
                refine j_iconst (v := 1) dX5_nextCuts_59 (by decide) ?_
                refine j_isub dX5_nextCuts_60 ?_
                refine r_iast hR ⟨by first | assumption | exact Nat.zero_lt_one, rfl⟩ (fun _ => rfl) 7 rfl (by omega) (by decide) dX5_nextCuts_61 (fun h hR => ?_)
                refine j_iconst (v := 1) dX5_nextCuts_62 (by decide) ?_
                refine j_zret rfl rfl (Nat.le_of_ble_eq_true rfl) (Nat.le_of_ble_eq_true rfl) dX5_nextCuts_63 ?_
                refine Or.inr ⟨rfl, k, _, by omega, by omega, hz2, hR, hkp.up _ _, fun i hi => ?_⟩
                rcases Nat.lt_or_ge i 7 with h9 | h9
                · rw [upZ_nk (Or.inr (by omega))]; exact hx2 i h9
                · obtain rfl : i = 7 := by omega
                  rw [upZ_at, nxt_end (by omega), show (1 : Int32) = nI 1 from rfl, pk_sub (by omega)]
              · have hl : i < 7 := Nat.not_le.mp (fun q => c_36 ((nI_leI (a := 7) (b := i) (by omega) (by omega)).mpr q))
                refine j_aload_n dX5_nextCuts_39 rfl ?_
                refine gX5_71 rfl (hR.1 _ ⟨by first | assumption | exact Nat.zero_lt_one, rfl⟩) rfl dX5_nextCuts_40 ?_
                refine j_iload_n dX5_nextCuts_43 rfl ?_
                refine j_iconst (v := 0) dX5_nextCuts_44 (by decide) ?_
                refine r_iast hR ⟨by first | assumption | exact Nat.zero_lt_one, rfl⟩ (fun _ => rfl) i rfl (by omega) (by decide) dX5_nextCuts_45 (fun h hR => ?_)
                refine j_iinc dX5_nextCuts_46 rfl (nI_inc _) (Nat.le_of_ble_eq_true rfl) rfl ?_
                refine j_goto 33 dX5_nextCuts_49 (by decide) ?_
                exact ih2 (i + 1) (by omega) (by omega) (by omega) _ _ hR (hkp.up _ _) (fun x hx => by
                  rcases Nat.lt_or_ge x i with h9 | h9
                  · rw [upZ_nk (Or.inr (by omega))]; exact hx2 x h9
                  · obtain rfl : x = i := by omega
                    rw [upZ_at, nxt_mid (by omega) hl]
                    rfl)
          exact k2 9 (k + 1) (by omega) (by omega) (Nat.le_refl _) _ _ hR (keep1.rf.up _ _) (fun x hx => by
            rcases Nat.lt_or_ge x k with h9 | h9
            · rw [upZ_nk (Or.inr (by omega)), nxt_lo h9]; exact hcu x (by omega)
            · obtain rfl : x = k := by omega
              rw [upZ_at, nxt_at])
  refine Con.of 3 rfl (Nat.le_of_ble_eq_true rfl) ?_
  refine j_aload_n dX5_nextCuts_0 rfl ?_
  refine gX5_71 rfl (hR.1 _ ⟨by first | assumption | exact Nat.zero_lt_one, rfl⟩) rfl dX5_nextCuts_1 ?_
  refine j_bipush (v := 7) dX5_nextCuts_4 (by decide) ?_
  refine j_iald (hR.1 _ ⟨by first | assumption | exact Nat.zero_lt_one, rfl⟩) 7 rfl (by omega) (by decide) dX5_nextCuts_6 ?_
  rw [hcu 7 (by omega)]
  refine j_istore_n dX5_nextCuts_7 (Nat.le_of_ble_eq_true rfl) rfl ?_
  refine j_bipush (v := 6) dX5_nextCuts_8 (by decide) ?_
  refine j_istore_n dX5_nextCuts_10 (Nat.le_of_ble_eq_true rfl) rfl ?_
  have k7 := key 7 (by omega) (fun j h1 h2 => by omega)
  rw [show sm c 8 - sm c 7 = c 7 by simp only [sm]; omega] at k7
  exact k7

