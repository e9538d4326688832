/-- nothing but the tuner's working rows has changed -/
def keepT (Z Y : ZT) : Prop := ∀ m, m ≠ (3, 0, 4) → m ≠ (3, 0, 5) → m ≠ (3, 0, 6) → m ≠ (3, 0, 7) → Y m = Z m
theorem keepT.rf {Z : ZT} : keepT Z Z := fun _ _ _ _ _ => rfl
theorem keepT.tr {Z Y X : ZT} (h : keepT Z Y) (h2 : keepT Y X) : keepT Z X := fun m a b c d => (h2 m a b c d).trans (h m a b c d)
theorem keepT.up4 {Z Y : ZT} (h : keepT Z Y) (k : Nat) (v : Int32) : keepT Z (upZ Y (3, 0, 4) k v) := fun m a b c d => by rw [upZ_ne a]; exact h m a b c d
theorem keepT.up5 {Z Y : ZT} (h : keepT Z Y) (k : Nat) (v : Int32) : keepT Z (upZ Y (3, 0, 5) k v) := fun m a b c d => by rw [upZ_ne b]; exact h m a b c d
theorem keepT.ofB {Z Y : ZT} (h : keepB Z Y) : keepT Z Y := fun m _ _ c d => h m c d
theorem keepT.bell {Z Y : ZT} (h : keepT Z Y) (b : Nat) : Y (4, b, 3) = Z (4, b, 3) ∧ Y (6, b, 5) = Z (6, b, 5) ∧ Y (6, b, 3) = Z (6, b, 3) ∧ Y (6, b, 2) = Z (6, b, 2) :=
  ⟨h _ (by simp) (by simp) (by simp) (by simp), h _ (by simp) (by simp) (by simp) (by simp), h _ (by simp) (by simp) (by simp) (by simp), h _ (by simp) (by simp) (by simp) (by simp)⟩
theorem keepT.part {Z Y : ZT} (h : keepT Z Y) (b q : Nat) : pNow Y b q = pNow Z b q := by
  unfold pNow
  rw [(h.bell b).1, (h.bell b).2.2.1, (h.bell b).2.2.2]
theorem keepT.tb {Z Y : ZT} (h : keepT Z Y) (b : Nat) : xtb Y b = xtb Z b := by
  unfold xtb
  rw [(h.bell b).2.2.1]
/-- the rows behind the last height -/
def T8 (Z : ZT) : Prop := Z (3, 0, 5) 8 = 0 ∧ ∀ q, q < 5 → (-50 ≤ (Z (3, 0, 7) (8 * 5 + q)).toInt ∧ (Z (3, 0, 7) (8 * 5 + q)).toInt ≤ 50) ∧ (-50 ≤ (Z (3, 0, 6) (8 * 5 + q)).toInt ∧ (Z (3, 0, 6) (8 * 5 + q)).toInt ≤ 50)
theorem TIk_8 {Z : ZT} {b : Nat} {r : Nat → Nat} (h : T8 Z) : TIk Z b r 8 := by
  refine ⟨fun j h1 h2 => ?_, fun j q h1 h2 h3 => ?_, fun j q i h1 h2 h3 h4 h5 => by omega⟩
  · obtain rfl : j = 8 := by omega
    rw [h.1, Nat.sub_self]
    rfl
  · obtain rfl : j = 8 := by omega
    exact h.2 q h3
theorem TIk.t8 {Z : ZT} {b k : Nat} {r : Nat → Nat} (h : TIk Z b r k) (hk : k ≤ 8) : T8 Z := by
  refine ⟨?_, fun q hq => h.2.1 8 q hk (by omega) hq⟩
  rw [h.1 8 hk (by omega), Nat.sub_self]
  rfl
theorem TIk_step {Z Y : ZT} {b k q : Nat} {r : Nat → Nat} (hT : TIk Z b r (k + 1)) (hk : k < 8) (hq : q < 5) (htb : ∀ q i, q < 5 → i < 8 → -50 ≤ (xtb Z b q i).toInt ∧ (xtb Z b q i).toInt ≤ 50) (hB : keepB Z Y) (hx : ∀ x, x ≠ k * 5 + q → Y (3, 0, 6) x = Z (3, 0, 6) x ∧ Y (3, 0, 7) x = Z (3, 0, 7) x) (h6 : Y (3, 0, 6) (k * 5 + q) = hiE Z b q k (decide (0 < r k)) (decide (sm r (k + 1) < sm r 8))) (h7 : Y (3, 0, 7) (k * 5 + q) = loE Z b q k (decide (0 < r k)) (decide (sm r (k + 1) < sm r 8))) :
    TIk Y b r (k + 1) ∧ ((-50 ≤ (Y (3, 0, 7) (k * 5 + q)).toInt ∧ (Y (3, 0, 7) (k * 5 + q)).toInt ≤ 50) ∧ (-50 ≤ (Y (3, 0, 6) (k * 5 + q)).toInt ∧ (Y (3, 0, 6) (k * 5 + q)).toInt ≤ 50)) ∧ ∀ i, k ≤ i → i < 8 → 0 < r i → (Y (3, 0, 7) (k * 5 + q)).toInt ≤ (xtb Z b q i).toInt ∧ (xtb Z b q i).toInt ≤ (Y (3, 0, 6) (k * 5 + q)).toInt := by
  have etb : xtb Y b = xtb Z b := by
    unfold xtb
    rw [hB _ (by simp) (by simp)]
  refine ⟨⟨fun j h1 h2 => ?_, fun j p h1 h2 h3 => ?_, fun j p i h1 h2 h3 h4 h5 h8 => ?_⟩, ⟨?_, ?_⟩, fun i h1 h2 h3 => ?_⟩
  · rw [hB (3, 0, 5) (by decide) (by decide)]
    exact hT.1 j h1 h2
  · rw [(hx (j * 5 + p) (by omega)).1, (hx (j * 5 + p) (by omega)).2]
    exact hT.2.1 j p h1 h2 h3
  · rw [(hx (j * 5 + p) (by omega)).1, (hx (j * 5 + p) (by omega)).2, etb]
    exact hT.2.2 j p i h1 h2 h3 h4 h5 h8
  · rw [h7]
    rcases loE_or (Z := Z) (b := b) (q := q) (k := k) (u := decide (0 < r k)) (v := decide (sm r (k + 1) < sm r 8)) with e | e
    · rw [e]; exact htb q k hq hk
    · rw [e]; exact (hT.2.1 (k + 1) q (Nat.le_refl _) (by omega) hq).1
  · rw [h6]
    rcases hiE_or (Z := Z) (b := b) (q := q) (k := k) (u := decide (0 < r k)) (v := decide (sm r (k + 1) < sm r 8)) with e | e
    · rw [e]; exact htb q k hq hk
    · rw [e]; exact (hT.2.1 (k + 1) q (Nat.le_refl _) (by omega) hq).2
  · have a := hiE_ge (Z := Z) (b := b) (q := q) (k := k) (u := decide (0 < r k)) (v := decide (sm r (k + 1) < sm r 8))
    have c := loE_le (Z := Z) (b := b) (q := q) (k := k) (u := decide (0 < r k)) (v := decide (sm r (k + 1) < sm r 8))
    rw [h6, h7]
    rcases Nat.lt_or_ge k i with w | w
    · have hv : decide (sm r (k + 1) < sm r 8) = true := by
        rw [decide_eq_true_eq]
        have e1 := sm_mono (c := r) (show k + 1 ≤ i by omega)
        have e2 := sm_mono (c := r) (show i + 1 ≤ 8 by omega)
        have e3 : sm r (i + 1) = sm r i + r i := rfl
        omega
      have d := hT.2.2 (k + 1) q i (Nat.le_refl _) (by omega) hq (by omega) h2 h3
      have a2 := a.2 hv
      have c2 := c.2 hv
      omega
    · obtain rfl : i = k := by omega
      have hu : decide (0 < r i) = true := by rw [decide_eq_true_eq]; exact h3
      exact ⟨c.1 hu, a.1 hu⟩
set_option maxRecDepth 100000 in
set_option maxHeartbeats 4000000 in
theorem c_X3_prepare (l : Launch) (G : GG) {ad : NM → Nat} {np nb : Nat} {Z : ZT} {L : LT} {h : AH} (hR : Rm ad np nb Z L h) {b : Nat} (hb : b < nb) (hBD : BD Z b) (hT8 : T8 Z) : Con l G mX3_prepare 2 0 0 [.ref (ad (3, 0, 0)), .ref (ad (4, b, 0))] h (fun rr h2 => rr = none ∧ ∃ Y, Rm ad np nb Y L h2 ∧ keepT Z Y ∧ (∀ q, q < 5 → Y (3, 0, 4) q = pNow Z b q) ∧ TIk Y b (roomN Z b) 0) := by
  have hrs : sm (roomN Z b) 8 ≤ 792 := by
    have a : ∀ n, n ≤ 8 → sm (roomN Z b) n ≤ 99 * n := by
      intro n
      induction n with
      | zero => intro _; exact Nat.le_refl _
      | succ n ihn =>
        intro hn
        have := ihn (by omega)
        have := (hBD.room n (by omega)).2
        rw [sm]
        omega
    exact a 8 (by omega)
  have kd : ∀ k, k ≤ 8 → ∀ h Y, Rm ad np nb Y L h → keepT Z Y → (∀ p, p < 5 → Y (3, 0, 4) p = pNow Z b p) → TIk Y b (roomN Z b) k → J (thM l G mX3_prepare 2 0 0 (fun rr h2 => rr = none ∧ ∃ Y, Rm ad np nb Y L h2 ∧ keepT Z Y ∧ (∀ q, q < 5 → Y (3, 0, 4) q = pNow Z b q) ∧ TIk Y b (roomN Z b) 0)) cX3_prepare h (0, 0) [some (.ref (ad (3, 0, 0))), some (.ref (ad (4, b, 0))), some (.int (nI k - 1)), none] 27 [] := by
    intro k
    induction k with
    | zero =>
      intro hk h Y hR hkp hvl hT
      refine j_iload_n dX3_prepare_27 rfl ?_
      refine j_if_lt 77 dX3_prepare_28 (by decide) (fun c_28 => ?_) (fun c_28 => ?_)
      · refine j_vret rfl (Nat.le_of_ble_eq_true rfl) (Nat.le_of_ble_eq_true rfl) dX3_prepare_77 ?_
        exact ⟨rfl, Y, hR, hkp, hvl, hT⟩
      · exact absurd (by decide) c_28
    | succ k ih =>
      intro hk h Y hR hkp hvl hT
      rw [nI_pred]
      refine j_iload_n dX3_prepare_27 rfl ?_
      refine j_if_lt 77 dX3_prepare_28 (by decide) (fun c_28 => ?_) (fun c_28 => ?_)
      · exact absurd c_28 (nI_pos (n := k) (by omega))
      · refine j_iconst (v := 0) dX3_prepare_31 (by decide) ?_
        refine j_istore_n dX3_prepare_32 (Nat.le_of_ble_eq_true rfl) rfl ?_
        have k2 : ∀ nn2 q, 5 < q + nn2 → q ≤ 5 → ∀ h Y, Rm ad np nb Y L h → keepT Z Y → (∀ p, p < 5 → Y (3, 0, 4) p = pNow Z b p) → TIk Y b (roomN Z b) (k + 1) → (∀ p, p < q → ((-50 ≤ (Y (3, 0, 7) (k * 5 + p)).toInt ∧ (Y (3, 0, 7) (k * 5 + p)).toInt ≤ 50) ∧ (-50 ≤ (Y (3, 0, 6) (k * 5 + p)).toInt ∧ (Y (3, 0, 6) (k * 5 + p)).toInt ≤ 50)) ∧ ∀ i, k ≤ i → i < 8 → 0 < roomN Z b i → (Y (3, 0, 7) (k * 5 + p)).toInt ≤ (xtb Z b p i).toInt ∧ (xtb Z b p i).toInt ≤ (Y (3, 0, 6) (k * 5 + p)).toInt) → J (thM l G mX3_prepare 2 0 0 (fun rr h2 => rr = none ∧ ∃ Y, Rm ad np nb Y L h2 ∧ keepT Z Y ∧ (∀ q, q < 5 → Y (3, 0, 4) q = pNow Z b q) ∧ TIk Y b (roomN Z b) 0)) cX3_prepare h (0, 0) [some (.ref (ad (3, 0, 0))), some (.ref (ad (4, b, 0))), some (.int (nI k)), some (.int (nI q))] 33 [] := by
          intro nn2
          induction nn2 with
          | zero => intro q h1 h2; omega
          | succ nn2 ih2 =>
            intro q h1 h2 h Y hR hkp hvl hT hrow
            refine j_iload_n dX3_prepare_33 rfl ?_
            refine j_iconst (v := 5) dX3_prepare_34 (by decide) ?_
            refine j_icmp_ge 51 dX3_prepare_35 (by decide) (fun c_35 => ?_) (fun c_35 => ?_)
            · have hl : 5 ≤ q := (nI_leI (a := 5) (b := q) (by omega) (by omega)).mp c_35
              obtain rfl : q = 5 := by omega
              refine j_aload_n dX3_prepare_51 rfl ?_
              refine gX3_27 rfl (hR.1 _ ⟨by first | assumption | exact Nat.zero_lt_one, rfl⟩) rfl dX3_prepare_52 ?_
              refine j_iload_n dX3_prepare_55 rfl ?_
              refine j_aload_n dX3_prepare_56 rfl ?_
              refine gX3_27 rfl (hR.1 _ ⟨by first | assumption | exact Nat.zero_lt_one, rfl⟩) rfl dX3_prepare_57 ?_
              refine j_iload_n dX3_prepare_60 rfl ?_
              refine j_iconst (v := 1) dX3_prepare_61 (by decide) ?_
              refine j_iadd dX3_prepare_62 ?_
              refine j_iald (hR.1 _ ⟨by first | assumption | exact Nat.zero_lt_one, rfl⟩) (k + 1) (nI_1 k) (by omega) (by decide) dX3_prepare_63 ?_
              refine j_aload_n dX3_prepare_64 rfl ?_
              refine j_iload_n dX3_prepare_65 rfl ?_
              refine j_callV (rest := [.int (Y (3, 0, 5) (k + 1)), .int (nI k), .ref (ad (3, 0, 5))]) (c_X0_roomAt l G hR hb (i := k) (by omega)) (hR.1 _ ⟨by first | assumption | exact Nat.zero_lt_one, rfl⟩) rfl cw_X0_roomAt wl_X3_73 wm_X0_roomAt wx_X0_roomAt rfl rfl (Nat.le_of_ble_eq_true rfl) (Nat.le_of_ble_eq_true rfl) (Nat.le_of_ble_eq_true rfl) (Nat.le_of_ble_eq_true rfl) (Nat.le_of_ble_eq_true rfl) dX3_prepare_66 (fun v_66 h_66 e_66 => ?_)
              obtain ⟨rfl, hh⟩ := e_66
              have hh := hh.symm
              subst hh
              rw [(hkp.bell b).1, (hkp.bell b).2.1, (hBD.room k (by omega)).1, hT.1 (k + 1) (Nat.le_refl _) (by omega)]
              refine j_iadd dX3_prepare_69 ?_
              rw [nI_add]
              refine r_iast hR ⟨Nat.zero_lt_one, rfl⟩ (fun _ => rfl) k rfl (by omega) (by decide) dX3_prepare_70 (fun h hR => ?_)
              refine j_iinc dX3_prepare_71 rfl ((rfl : nI k + Int32.ofInt (-1) = _)) (Nat.le_of_ble_eq_true rfl) rfl ?_
              refine j_goto 27 dX3_prepare_74 (by decide) ?_
              rw [show nI k + Int32.ofInt (-1) = nI k - 1 from (Int32.sub_eq_add_neg (nI k) 1).symm]
              refine J.drop 3 ?_
              have hmo := sm_mono (c := roomN Z b) (show k + 1 ≤ 8 by omega)
              have hsk : sm (roomN Z b) (k + 1) = sm (roomN Z b) k + roomN Z b k := rfl
              exact ih (by omega) _ _ hR (hkp.up5 _ _) (fun p hp => by rw [upZ_nk (Or.inl (by decide))]; exact hvl p hp) ⟨fun j h1 h2 => by
                rcases Nat.lt_or_ge k j with w | w
                · rw [upZ_nk (Or.inr (by omega))]
                  exact hT.1 j (by omega) h2
                · obtain rfl : j = k := by omega
                  rw [upZ_at]
                  congr 1
                  omega, fun j p h1 h2 h3 => by
                rw [upZ_ne (by decide), upZ_ne (by decide)]
                rcases Nat.lt_or_ge k j with w | w
                · exact hT.2.1 j p (by omega) h2 h3
                · obtain rfl : j = k := by omega
                  exact (hrow p h3).1, fun j p i h1 h2 h3 h4 h5 h6 => by
                rw [show xtb (upZ Y (3, 0, 5) k (nI (sm (roomN Z b) 8 - sm (roomN Z b) (k + 1) + roomN Z b k))) b = xtb Z b from (hkp.up5 _ _).tb b, upZ_ne (by decide), upZ_ne (by decide)]
                rcases Nat.lt_or_ge k j with w | w
                · have := hT.2.2 j p i (by omega) h2 h3 h4 h5 h6
                  rw [hkp.tb b] at this
                  exact this
                · obtain rfl : j = k := by omega
                  exact (hrow p h3).2 i h4 h5 h6⟩
            · have hl : q < 5 := Nat.not_le.mp (fun w => c_35 ((nI_leI (a := 5) (b := q) (by omega) (by omega)).mpr w))
              refine j_aload_n dX3_prepare_38 rfl ?_
              refine j_aload_n dX3_prepare_39 rfl ?_
              refine j_iload_n dX3_prepare_40 rfl ?_
              refine j_iload_n dX3_prepare_41 rfl ?_
              refine j_callV (rest := []) (c_X3_boundTables l G hR hb (r := roomN Z b) (by rw [(hkp.bell b).1, (hkp.bell b).2.1]; exact hBD.room) (q := q) (k := k) hl (by omega) (hT.1 (k + 1) (Nat.le_refl _) (by omega)) hrs) (hR.1 _ ⟨by first | assumption | exact Nat.zero_lt_one, rfl⟩) rfl cw_X3_boundTables wl_X3_69 wm_X3_boundTables wx_X3_boundTables rfl rfl (Nat.le_of_ble_eq_true rfl) (Nat.le_of_ble_eq_true rfl) (Nat.le_of_ble_eq_true rfl) (Nat.le_of_ble_eq_true rfl) (Nat.le_of_ble_eq_true rfl) dX3_prepare_42 (fun v_42 h_42 e_42 => ?_)
              obtain ⟨rfl, Y2, hR, hB, hx, h6, h7⟩ := e_42
              obtain ⟨hT2, hbd, hcv⟩ := TIk_step hT (by omega) hl (by rw [hkp.tb b]; exact hBD.2.1) hB hx h6 h7
              rw [hkp.tb b] at hcv
              refine j_iinc dX3_prepare_45 rfl (nI_inc _) (Nat.le_of_ble_eq_true rfl) rfl ?_
              refine j_goto 33 dX3_prepare_48 (by decide) ?_
              exact ih2 (q + 1) (by omega) (by omega) _ _ hR (hkp.tr (keepT.ofB hB)) (fun p hp => by rw [hB (3, 0, 4) (by decide) (by decide)]; exact hvl p hp) hT2 (fun p hp => by
                rcases Nat.lt_or_ge p q with w | w
                · rw [(hx (k * 5 + p) (by omega)).1, (hx (k * 5 + p) (by omega)).2]
                  exact hrow p w
                · obtain rfl : p = q := by omega
                  exact ⟨hbd, hcv⟩)
        exact k2 6 0 (by omega) (by omega) _ _ hR hkp hvl hT (fun p hp => absurd hp (by omega))
  have k1 : ∀ nn i, 5 < i + nn → i ≤ 5 → ∀ h Y, Rm ad np nb Y L h → keepT Z Y → (∀ p, p < i → Y (3, 0, 4) p = pNow Z b p) → T8 Y → J (thM l G mX3_prepare 2 0 0 (fun rr h2 => rr = none ∧ ∃ Y, Rm ad np nb Y L h2 ∧ keepT Z Y ∧ (∀ q, q < 5 → Y (3, 0, 4) q = pNow Z b q) ∧ TIk Y b (roomN Z b) 0)) cX3_prepare h (0, 0) [some (.ref (ad (3, 0, 0))), some (.ref (ad (4, b, 0))), some (.int (nI i)), none] 2 [] := by
    intro nn
    induction nn with
    | zero => intro i h1 h2; omega
    | succ nn ih =>
      intro i h1 h2 h Y hR hkp hvl h8
      refine j_iload_n dX3_prepare_2 rfl ?_
      refine j_iconst (v := 5) dX3_prepare_3 (by decide) ?_
      refine j_icmp_ge 24 dX3_prepare_4 (by decide) (fun c_4 => ?_) (fun c_4 => ?_)
      · have hl : 5 ≤ i := (nI_leI (a := 5) (b := i) (by omega) (by omega)).mp c_4
        obtain rfl : i = 5 := by omega
        refine j_bipush (v := 7) dX3_prepare_24 (by decide) ?_
        refine j_istore_n dX3_prepare_26 (Nat.le_of_ble_eq_true rfl) rfl ?_
        exact kd 8 (by omega) _ _ hR hkp hvl (TIk_8 h8)
      · have hl : i < 5 := Nat.not_le.mp (fun q => c_4 ((nI_leI (a := 5) (b := i) (by omega) (by omega)).mpr q))
        refine j_aload_n dX3_prepare_7 rfl ?_
        refine gX3_24 rfl (hR.1 _ ⟨by first | assumption | exact Nat.zero_lt_one, rfl⟩) rfl dX3_prepare_8 ?_
        refine j_iload_n dX3_prepare_11 rfl ?_
        refine j_aload_n dX3_prepare_12 rfl ?_
        refine j_iload_n dX3_prepare_13 rfl ?_
        refine j_callV (rest := [.int (nI i), .ref (ad (3, 0, 4))]) (c_X0_partNow l G hR hb (q := i) hl) (hR.1 _ ⟨by first | assumption | exact Nat.zero_lt_one, rfl⟩) rfl cw_X0_partNow wl_X3_65 wm_X0_partNow wx_X0_partNow rfl rfl (Nat.le_of_ble_eq_true rfl) (Nat.le_of_ble_eq_true rfl) (Nat.le_of_ble_eq_true rfl) (Nat.le_of_ble_eq_true rfl) (Nat.le_of_ble_eq_true rfl) dX3_prepare_14 (fun v_14 h_14 e_14 => ?_)
        obtain ⟨rfl, hh⟩ := e_14
        have hh := hh.symm
        subst hh
        rw [hkp.part b i]
        refine r_iast hR ⟨by first | assumption | exact Nat.zero_lt_one, rfl⟩ (fun _ => rfl) i rfl (by omega) (by decide) dX3_prepare_17 (fun h hR => ?_)
        refine j_iinc dX3_prepare_18 rfl (nI_inc _) (Nat.le_of_ble_eq_true rfl) rfl ?_
        refine j_goto 2 dX3_prepare_21 (by decide) ?_
        exact ih (i + 1) (by omega) (by omega) _ _ hR (hkp.up4 _ _) (fun x hx => by
          rcases Nat.lt_or_ge x i with w | w
          · rw [upZ_nk (Or.inr (by omega))]; exact hvl x w
          · obtain rfl : x = i := by omega
            rw [upZ_at]) (by
          refine ⟨?_, fun p hp => ?_⟩
          · rw [upZ_nk (Or.inl (by decide))]; exact h8.1
          · rw [upZ_ne (by decide), upZ_ne (by decide)]; exact h8.2 p hp)
  refine Con.of 2 rfl (Nat.le_of_ble_eq_true rfl) ?_
  refine j_iconst (v := 0) dX3_prepare_0 (by decide) ?_
  refine j_istore_n dX3_prepare_1 (Nat.le_of_ble_eq_true rfl) rfl ?_
  exact k1 6 0 (by omega) (by omega) _ _ hR keepT.rf (fun p hp => absurd hp (by omega)) hT8

