theorem wsum_toInt {V : Int32} {f : Nat → Int32} {c : Nat → Nat} {n : Nat} (hn : n ≤ 8) (hf : ∀ i, i < n → -50 ≤ (f i).toInt ∧ (f i).toInt ≤ 50) (hs : ∀ i, i < n → c i ≤ 99) (hV : -20000 ≤ V.toInt ∧ V.toInt ≤ 20000) : -20000 - 4950 * (n : Int) ≤ (wsum V f (fun i => nI (c i)) n).toInt ∧ (wsum V f (fun i => nI (c i)) n).toInt ≤ 20000 + 4950 * (n : Int) := by
  induction n with
  | zero => simp [wsum]; omega
  | succ n ih =>
    obtain ⟨h1, h2⟩ := ih (by omega) (fun i hi => hf i (by omega)) (fun i hi => hs i (by omega))
    obtain ⟨h4, h5⟩ := hf n (by omega)
    have hc := hs n (by omega)
    have hm := mul_bd (c := c n) h4 h5
    have e1 : (f n * nI (c n)).toInt = (f n).toInt * (c n : Int) := by
      rw [Kit.i32_mul, nI_toInt (by omega)]
      · rw [nI_toInt (by omega)]; omega
      · rw [nI_toInt (by omega)]; omega
    rw [wsum, Kit.i32_add (by rw [e1]; omega) (by rw [e1]; omega), e1]
    omega
/-- a bell's numbers are in their bounds -/
def BD (Z : ZT) (b : Nat) : Prop := (∀ i, i < 8 → ∃ t s : Nat, Z (4, b, 3) i = nI t ∧ Z (6, b, 5) i = nI s ∧ s ≤ t ∧ t ≤ 99) ∧ (∀ q i, q < 5 → i < 8 → -50 ≤ (xtb Z b q i).toInt ∧ (xtb Z b q i).toInt ≤ 50) ∧ ∀ q, q < 5 → -20000 ≤ (Z (6, b, 2) q).toInt ∧ (Z (6, b, 2) q).toInt ≤ 20000
def roomN (Z : ZT) (b : Nat) : Nat → Nat := fun i => cl (Z (4, b, 3) i - Z (6, b, 5) i)
theorem BD.room {Z : ZT} {b : Nat} (h : BD Z b) : ∀ i, i < 8 → Z (4, b, 3) i - Z (6, b, 5) i = nI (roomN Z b i) ∧ roomN Z b i ≤ 99 := by
  intro i hi
  obtain ⟨t, s, h1, h2, h3, h4⟩ := h.1 i hi
  unfold roomN
  rw [h1, h2, pk_sub h3, cl_nI (by omega)]
  exact ⟨rfl, by omega⟩
theorem BD.part {Z : ZT} {b : Nat} (h : BD Z b) : ∀ q, q < 5 → -60000 ≤ (pNow Z b q).toInt ∧ (pNow Z b q).toInt ≤ 60000 := by
  intro q hq
  have e : pNow Z b q = wsum (Z (6, b, 2) q) (fun i => xtb Z b q i) (fun i => nI (cl (Z (4, b, 3) i))) 8 := by
    unfold pNow xtb
    refine wsum_congr rfl (fun _ _ => rfl) (fun i hi => ?_)
    obtain ⟨t, s, h1, h2, h3, h4⟩ := h.1 i hi
    rw [h1, cl_nI (by omega)]
  have := wsum_toInt (V := Z (6, b, 2) q) (f := fun i => xtb Z b q i) (c := fun i => cl (Z (4, b, 3) i)) (n := 8) (by omega) (fun i hi => h.2.1 q i hq hi) (fun i hi => by
    obtain ⟨t, s, h1, h2, h3, h4⟩ := h.1 i hi
    rw [h1, cl_nI (by omega)]
    exact h4) (h.2.2 q hq)
  rw [e]
  omega
def xTun (Z : ZT) (b : Nat) : (Nat → Nat) → Bool := tunC (Z (4, b, 3)) (Z (6, b, 5)) (pNow Z b) (xtb Z b) (Z (3, 0, 1)) (Z (3, 0, 2))
theorem xTun_ok {Z : ZT} {b : Nat} {c : Nat → Nat} (h : BD Z b) (hs : sm c 8 ≤ 12) : xTun Z b c = true ↔ okS (roomN Z b) (xtb Z b) (pNow Z b) (Z (3, 0, 1)) (Z (3, 0, 2)) 0 (sm c 8) c := by
  unfold xTun tunC okS
  rw [Bool.and_eq_true, allB_iff, allB_iff]
  have key : ∀ i, i < 8 → (decide (Z (6, b, 5) i ≤ Z (4, b, 3) i - nI (c i)) = true ↔ c i ≤ roomN Z b i) := by
    intro i hi
    obtain ⟨t, s, h1, h2, h3, h4⟩ := h.1 i hi
    have hc := sm_le (c := c) hi
    have e := (h.room i hi).1
    rw [h1, h2, pk_sub h3] at e
    have e2 : t - s = roomN Z b i := (nI_eq (by omega) (by have := (h.room i hi).2; omega)).mp e
    rw [h1, h2, decide_eq_true_eq, Int32.le_iff_toInt_le, pk_sub_toInt (by omega) (by omega), nI_toInt (by omega)]
    omega
  constructor
  · rintro ⟨h1, h2⟩
    refine ⟨by simp [sm], fun i _ hi => (key i hi).mp (h1 i hi), fun q hq => ?_⟩
    have := h2 q hq
    simpa using this
  · rintro ⟨-, h2, h3⟩
    refine ⟨fun i hi => (key i hi).mpr (h2 i (Nat.zero_le _) hi), fun q hq => ?_⟩
    have := h3 q hq
    simpa using this
/-- a bell's plan is TUNING's, for the spans that stand -/
def planOK (Z : ZT) (b : Nat) : Prop := (Z (4, b, 0) 7 = -1 ∧ ∀ c, sm c 8 ≤ 12 → xTun Z b c = false) ∨ ∃ (n : Nat) (c : Nat → Nat), n ≤ 12 ∧ Z (4, b, 0) 7 = nI n ∧ (∀ i, i < 8 → Z (4, b, 7) i = nI (c i)) ∧ First (xTun Z b) n c
theorem First_of {Z : ZT} {b n : Nat} {c : Nat → Nat} (h : BD Z b) (hn : n ≤ 12) (hF : FirstS (roomN Z b) (xtb Z b) (pNow Z b) (Z (3, 0, 1)) (Z (3, 0, 2)) 0 n c) (hlo : ∀ d, sm d 8 < n → xTun Z b d = false) : First (xTun Z b) n c := by
  have hsm : sm c 8 = n := by have := hF.1.1; simpa [sm] using this
  refine ⟨hsm, (xTun_ok h (by omega)).mpr (by rw [hsm]; exact hF.1), hlo, fun d hd hl => ?_⟩
  cases hx : xTun Z b d with
  | false => rfl
  | true =>
    exfalso
    have := (xTun_ok h (by omega)).mp hx
    rw [hd] at this
    obtain ⟨k, k1, k2, k3⟩ := hl
    exact hF.2 d this ⟨k, Nat.zero_le _, k1, fun i _ hi => k2 i hi, k3⟩
/-- the tuner's rows from a height on -/
def TIk (Z : ZT) (b : Nat) (r : Nat → Nat) (k : Nat) : Prop :=
  (∀ j, k ≤ j → j ≤ 8 → Z (3, 0, 5) j = nI (sm r 8 - sm r j))
  ∧ (∀ j q, k ≤ j → j ≤ 8 → q < 5 → (-50 ≤ (Z (3, 0, 7) (j * 5 + q)).toInt ∧ (Z (3, 0, 7) (j * 5 + q)).toInt ≤ 50) ∧ (-50 ≤ (Z (3, 0, 6) (j * 5 + q)).toInt ∧ (Z (3, 0, 6) (j * 5 + q)).toInt ≤ 50))
  ∧ ∀ j q i, k ≤ j → j ≤ 8 → q < 5 → j ≤ i → i < 8 → 0 < r i → (Z (3, 0, 7) (j * 5 + q)).toInt ≤ (xtb Z b q i).toInt ∧ (xtb Z b q i).toInt ≤ (Z (3, 0, 6) (j * 5 + q)).toInt
def hiE (Z : ZT) (b q k : Nat) (u v : Bool) : Int32 := if u && v then (if Z (3, 0, 6) ((k + 1) * 5 + q) < xtb Z b q k then xtb Z b q k else Z (3, 0, 6) ((k + 1) * 5 + q)) else if u then xtb Z b q k else Z (3, 0, 6) ((k + 1) * 5 + q)
def loE (Z : ZT) (b q k : Nat) (u v : Bool) : Int32 := if u && v then (if xtb Z b q k < Z (3, 0, 7) ((k + 1) * 5 + q) then xtb Z b q k else Z (3, 0, 7) ((k + 1) * 5 + q)) else if u then xtb Z b q k else Z (3, 0, 7) ((k + 1) * 5 + q)
/-- only the rows of bounds have changed -/
def keepB (Z Y : ZT) : Prop := ∀ m, m ≠ (3, 0, 6) → m ≠ (3, 0, 7) → Y m = Z m
theorem hiE_ge {Z : ZT} {b q k : Nat} {u v : Bool} : (u = true → (xtb Z b q k).toInt ≤ (hiE Z b q k u v).toInt) ∧ (v = true → (Z (3, 0, 6) ((k + 1) * 5 + q)).toInt ≤ (hiE Z b q k u v).toInt) := by
  unfold hiE
  cases u <;> cases v <;> simp
  by_cases h : Z (3, 0, 6) ((k + 1) * 5 + q) < xtb Z b q k
  · rw [if_pos h]
    have := Int32.lt_iff_toInt_lt.mp h
    omega
  · rw [if_neg h]
    have := Int32.le_iff_toInt_le.mp (Int32.not_lt.mp h)
    omega
theorem loE_le {Z : ZT} {b q k : Nat} {u v : Bool} : (u = true → (loE Z b q k u v).toInt ≤ (xtb Z b q k).toInt) ∧ (v = true → (loE Z b q k u v).toInt ≤ (Z (3, 0, 7) ((k + 1) * 5 + q)).toInt) := by
  unfold loE
  cases u <;> cases v <;> simp
  by_cases h : xtb Z b q k < Z (3, 0, 7) ((k + 1) * 5 + q)
  · rw [if_pos h]
    have := Int32.lt_iff_toInt_lt.mp h
    omega
  · rw [if_neg h]
    have := Int32.le_iff_toInt_le.mp (Int32.not_lt.mp h)
    omega
theorem hiE_or {Z : ZT} {b q k : Nat} {u v : Bool} : hiE Z b q k u v = xtb Z b q k ∨ hiE Z b q k u v = Z (3, 0, 6) ((k + 1) * 5 + q) := by
  unfold hiE
  split
  · split
    · exact Or.inl rfl
    · exact Or.inr rfl
  · split
    · exact Or.inl rfl
    · exact Or.inr rfl
theorem loE_or {Z : ZT} {b q k : Nat} {u v : Bool} : loE Z b q k u v = xtb Z b q k ∨ loE Z b q k u v = Z (3, 0, 7) ((k + 1) * 5 + q) := by
  unfold loE
  split
  · split
    · exact Or.inl rfl
    · exact Or.inr rfl
  · split
    · exact Or.inl rfl
    · exact Or.inr rfl

set_option maxRecDepth 100000 in
set_option maxHeartbeats 4000000 in
theorem c_X3_boundTables (l : Launch) (G : GG) {ad : NM → Nat} {np nb : Nat} {Z : ZT} {L : LT} {h : AH} (hR : Rm ad np nb Z L h) {b : Nat} (hb : b < nb) {r : Nat → Nat} (hr : ∀ i, i < 8 → Z (4, b, 3) i - Z (6, b, 5) i = nI (r i) ∧ r i ≤ 99) {q k : Nat} (hq : q < 5) (hk : k < 8) (hrf : Z (3, 0, 5) (k + 1) = nI (sm r 8 - sm r (k + 1))) (hrs : sm r 8 ≤ 792) : Con l G mX3_boundTables 1 0 0 [.ref (ad (3, 0, 0)), .ref (ad (4, b, 0)), .int (nI q), .int (nI k)] h (fun rr h2 => rr = none ∧ ∃ Y, Rm ad np nb Y L h2 ∧ keepB Z Y ∧ (∀ x, x ≠ (k * 5 + q) → Y (3, 0, 6) x = Z (3, 0, 6) x ∧ Y (3, 0, 7) x = Z (3, 0, 7) x) ∧ Y (3, 0, 6) (k * 5 + q) = hiE Z b q k (decide (0 < r k)) (decide (sm r (k + 1) < sm r 8)) ∧ Y (3, 0, 7) (k * 5 + q) = loE Z b q k (decide (0 < r k)) (decide (sm r (k + 1) < sm r 8))) := by
  have hrk := (hr k hk).2
  refine Con.of 5 rfl (Nat.le_of_ble_eq_true rfl) ?_
  refine j_iload_n dX3_boundTables_0 rfl ?_
  refine j_iconst (v := 5) dX3_boundTables_1 (by decide) ?_
  refine j_imul dX3_boundTables_2 ?_
  refine j_iload_n dX3_boundTables_3 rfl ?_
  refine j_iadd dX3_boundTables_4 ?_
  rw [ix5 k q]
  refine j_istore dX3_boundTables_5 (Nat.le_of_ble_eq_true rfl) rfl ?_
  refine j_iload dX3_boundTables_7 rfl ?_
  refine j_iconst (v := 5) dX3_boundTables_9 (by decide) ?_
  refine j_iadd dX3_boundTables_10 ?_
  rw [show nI (k * 5 + q) + 5 = nI ((k + 1) * 5 + q) by rw [show (5 : Int32) = nI 5 from rfl, nI_add]; congr 1; omega]
  refine j_istore dX3_boundTables_11 (Nat.le_of_ble_eq_true rfl) rfl ?_
  refine j_aload_n dX3_boundTables_13 rfl ?_
  refine j_iload_n dX3_boundTables_14 rfl ?_
  refine j_iload_n dX3_boundTables_15 rfl ?_
  refine j_callV (rest := []) (c_X0_tableAt l G hR hb hq hk) (hR.1 _ ⟨by first | assumption | exact Nat.zero_lt_one, rfl⟩) rfl cw_X0_tableAt wl_X3_76 wm_X0_tableAt wx_X0_tableAt rfl rfl (Nat.le_of_ble_eq_true rfl) (Nat.le_of_ble_eq_true rfl) (Nat.le_of_ble_eq_true rfl) (Nat.le_of_ble_eq_true rfl) (Nat.le_of_ble_eq_true rfl) dX3_boundTables_16 (fun v_16 h_16 e_16 => ?_)
  obtain ⟨rfl, hh⟩ := e_16
  have hh := hh.symm
  subst hh
  rw [show Z (6, b, 3) (q * 8 + k) = xtb Z b q k from rfl]
  refine j_istore dX3_boundTables_19 (Nat.le_of_ble_eq_true rfl) rfl ?_
  refine j_aload_n dX3_boundTables_21 rfl ?_
  refine j_iload_n dX3_boundTables_22 rfl ?_
  refine j_callV (rest := []) (c_X0_roomAt l G hR hb hk) (hR.1 _ ⟨by first | assumption | exact Nat.zero_lt_one, rfl⟩) rfl cw_X0_roomAt wl_X3_73 wm_X0_roomAt wx_X0_roomAt rfl rfl (Nat.le_of_ble_eq_true rfl) (Nat.le_of_ble_eq_true rfl) (Nat.le_of_ble_eq_true rfl) (Nat.le_of_ble_eq_true rfl) (Nat.le_of_ble_eq_true rfl) dX3_boundTables_23 (fun v_23 h_23 e_23 => ?_)
  obtain ⟨rfl, hh⟩ := e_23
  have hh := hh.symm
  subst hh
  rw [(hr k hk).1]
  refine j_if_le 33 dX3_boundTables_26 (by decide) (fun c_26 => ?_) (fun c_26 => ?_)
  · have n26 : r k ≤ 0 := (nI_leI (a := r k) (b := 0) (by omega) (by omega)).mp c_26
    refine j_iconst (v := 0) dX3_boundTables_33 (by decide) ?_
    refine j_istore dX3_boundTables_34 (Nat.le_of_ble_eq_true rfl) rfl ?_
    refine j_aload_n dX3_boundTables_36 rfl ?_
    refine gX3_27 rfl (hR.1 _ ⟨by first | assumption | exact Nat.zero_lt_one, rfl⟩) rfl dX3_boundTables_37 ?_
    refine j_iload_n dX3_boundTables_40 rfl ?_
    refine j_iconst (v := 1) dX3_boundTables_41 (by decide) ?_
    refine j_iadd dX3_boundTables_42 ?_
    refine j_iald (hR.1 _ ⟨by first | assumption | exact Nat.zero_lt_one, rfl⟩) (k + 1) (nI_1 k) (by omega) (by decide) dX3_boundTables_43 ?_
    rw [hrf]
    refine j_if_le 51 dX3_boundTables_44 (by decide) (fun c_44 => ?_) (fun c_44 => ?_)
    · have n44 : sm r 8 - sm r (k + 1) ≤ 0 := (nI_leI (a := sm r 8 - sm r (k + 1)) (b := 0) (by omega) (by omega)).mp c_44
      have hmo := sm_mono (c := r) (show k + 1 ≤ 8 by omega)
      refine j_iconst (v := 0) dX3_boundTables_51 (by decide) ?_
      refine j_istore dX3_boundTables_52 (Nat.le_of_ble_eq_true rfl) rfl ?_
      refine j_iload dX3_boundTables_54 rfl ?_
      refine j_if_eq 105 dX3_boundTables_56 (by decide) (fun c_56 => ?_) (fun c_56 => ?_)
      · refine j_aload_n dX3_boundTables_105 rfl ?_
        refine gX3_30 rfl (hR.1 _ ⟨by first | assumption | exact Nat.zero_lt_one, rfl⟩) rfl dX3_boundTables_106 ?_
        refine j_iload dX3_boundTables_109 rfl ?_
        refine j_iload dX3_boundTables_111 rfl ?_
        refine j_if_eq 121 dX3_boundTables_113 (by decide) (fun c_113 => ?_) (fun c_113 => ?_)
        · refine j_aload_n dX3_boundTables_121 rfl ?_
          refine gX3_30 rfl (hR.1 _ ⟨by first | assumption | exact Nat.zero_lt_one, rfl⟩) rfl dX3_boundTables_122 ?_
          refine j_iload dX3_boundTables_125 rfl ?_
          refine j_iald (hR.1 _ ⟨by first | assumption | exact Nat.zero_lt_one, rfl⟩) ((k + 1) * 5 + q) rfl (by omega) (by decide) dX3_boundTables_127 ?_
          refine r_iast hR ⟨by first | assumption | exact Nat.zero_lt_one, rfl⟩ (fun _ => rfl) (k * 5 + q) rfl (by omega) (by decide) dX3_boundTables_128 (fun h hR => ?_)
          refine j_aload_n dX3_boundTables_129 rfl ?_
          refine gX3_33 rfl (hR.1 _ ⟨by first | assumption | exact Nat.zero_lt_one, rfl⟩) rfl dX3_boundTables_130 ?_
          refine j_iload dX3_boundTables_133 rfl ?_
          refine j_iload dX3_boundTables_135 rfl ?_
          refine j_if_eq 145 dX3_boundTables_137 (by decide) (fun c_137 => ?_) (fun c_137 => ?_)
          · refine j_aload_n dX3_boundTables_145 rfl ?_
            refine gX3_33 rfl (hR.1 _ ⟨by first | assumption | exact Nat.zero_lt_one, rfl⟩) rfl dX3_boundTables_146 ?_
            refine j_iload dX3_boundTables_149 rfl ?_
            refine j_iald (hR.1 _ ⟨by first | assumption | exact Nat.zero_lt_one, rfl⟩) ((k + 1) * 5 + q) rfl (by omega) (by decide) dX3_boundTables_151 ?_
            refine r_iast hR ⟨by first | assumption | exact Nat.zero_lt_one, rfl⟩ (fun _ => rfl) (k * 5 + q) rfl (by omega) (by decide) dX3_boundTables_152 (fun h hR => ?_)
            refine j_vret rfl (Nat.le_of_ble_eq_true rfl) (Nat.le_of_ble_eq_true rfl) dX3_boundTables_153 ?_
            refine ⟨rfl, _, hR, fun m h1 h2 => ?_, fun x hx => ?_, ?_⟩
            · rw [upZ_ne h2, upZ_ne h1]
            · rw [upZ_nk (Or.inl (by decide)), upZ_nk (Or.inr hx), upZ_nk (Or.inr hx), upZ_nk (Or.inl (by decide))]
              exact ⟨rfl, rfl⟩
            · rw [show decide (0 < r k) = false by simp; omega, show decide (sm r (k + 1) < sm r 8) = false by simp; omega, upZ_nk (Or.inl (by decide)), upZ_at, upZ_at]
              exact ⟨rfl, rfl⟩
          · exact absurd rfl c_137
        · exact absurd rfl c_113
      · exact absurd rfl c_56
    · have n44 : 0 < sm r 8 - sm r (k + 1) := Nat.not_le.mp (fun w => c_44 ((nI_leI (a := sm r 8 - sm r (k + 1)) (b := 0) (by omega) (by omega)).mpr w))
      have hmo := sm_mono (c := r) (show k + 1 ≤ 8 by omega)
      refine j_iconst (v := 1) dX3_boundTables_47 (by decide) ?_
      refine j_goto 52 dX3_boundTables_48 (by decide) ?_
      refine j_istore dX3_boundTables_52 (Nat.le_of_ble_eq_true rfl) rfl ?_
      refine j_iload dX3_boundTables_54 rfl ?_
      refine j_if_eq 105 dX3_boundTables_56 (by decide) (fun c_56 => ?_) (fun c_56 => ?_)
      · refine j_aload_n dX3_boundTables_105 rfl ?_
        refine gX3_30 rfl (hR.1 _ ⟨by first | assumption | exact Nat.zero_lt_one, rfl⟩) rfl dX3_boundTables_106 ?_
        refine j_iload dX3_boundTables_109 rfl ?_
        refine j_iload dX3_boundTables_111 rfl ?_
        refine j_if_eq 121 dX3_boundTables_113 (by decide) (fun c_113 => ?_) (fun c_113 => ?_)
        · refine j_aload_n dX3_boundTables_121 rfl ?_
          refine gX3_30 rfl (hR.1 _ ⟨by first | assumption | exact Nat.zero_lt_one, rfl⟩) rfl dX3_boundTables_122 ?_
          refine j_iload dX3_boundTables_125 rfl ?_
          refine j_iald (hR.1 _ ⟨by first | assumption | exact Nat.zero_lt_one, rfl⟩) ((k + 1) * 5 + q) rfl (by omega) (by decide) dX3_boundTables_127 ?_
          refine r_iast hR ⟨by first | assumption | exact Nat.zero_lt_one, rfl⟩ (fun _ => rfl) (k * 5 + q) rfl (by omega) (by decide) dX3_boundTables_128 (fun h hR => ?_)
          refine j_aload_n dX3_boundTables_129 rfl ?_
          refine gX3_33 rfl (hR.1 _ ⟨by first | assumption | exact Nat.zero_lt_one, rfl⟩) rfl dX3_boundTables_130 ?_
          refine j_iload dX3_boundTables_133 rfl ?_
          refine j_iload dX3_boundTables_135 rfl ?_
          refine j_if_eq 145 dX3_boundTables_137 (by decide) (fun c_137 => ?_) (fun c_137 => ?_)
          · refine j_aload_n dX3_boundTables_145 rfl ?_
            refine gX3_33 rfl (hR.1 _ ⟨by first | assumption | exact Nat.zero_lt_one, rfl⟩) rfl dX3_boundTables_146 ?_
            refine j_iload dX3_boundTables_149 rfl ?_
            refine j_iald (hR.1 _ ⟨by first | assumption | exact Nat.zero_lt_one, rfl⟩) ((k + 1) * 5 + q) rfl (by omega) (by decide) dX3_boundTables_151 ?_
            refine r_iast hR ⟨by first | assumption | exact Nat.zero_lt_one, rfl⟩ (fun _ => rfl) (k * 5 + q) rfl (by omega) (by decide) dX3_boundTables_152 (fun h hR => ?_)
            refine j_vret rfl (Nat.le_of_ble_eq_true rfl) (Nat.le_of_ble_eq_true rfl) dX3_boundTables_153 ?_
            refine ⟨rfl, _, hR, fun m h1 h2 => ?_, fun x hx => ?_, ?_⟩
            · rw [upZ_ne h2, upZ_ne h1]
            · rw [upZ_nk (Or.inl (by decide)), upZ_nk (Or.inr hx), upZ_nk (Or.inr hx), upZ_nk (Or.inl (by decide))]
              exact ⟨rfl, rfl⟩
            · rw [show decide (0 < r k) = false by simp; omega, show decide (sm r (k + 1) < sm r 8) = true by simp; omega, upZ_nk (Or.inl (by decide)), upZ_at, upZ_at]
              exact ⟨rfl, rfl⟩
          · exact absurd rfl c_137
        · exact absurd rfl c_113
      · exact absurd rfl c_56
  · have n26 : 0 < r k := Nat.not_le.mp (fun w => c_26 ((nI_leI (a := r k) (b := 0) (by omega) (by omega)).mpr w))
    refine j_iconst (v := 1) dX3_boundTables_29 (by decide) ?_
    refine j_goto 34 dX3_boundTables_30 (by decide) ?_
    refine j_istore dX3_boundTables_34 (Nat.le_of_ble_eq_true rfl) rfl ?_
    refine j_aload_n dX3_boundTables_36 rfl ?_
    refine gX3_27 rfl (hR.1 _ ⟨by first | assumption | exact Nat.zero_lt_one, rfl⟩) rfl dX3_boundTables_37 ?_
    refine j_iload_n dX3_boundTables_40 rfl ?_
    refine j_iconst (v := 1) dX3_boundTables_41 (by decide) ?_
    refine j_iadd dX3_boundTables_42 ?_
    refine j_iald (hR.1 _ ⟨by first | assumption | exact Nat.zero_lt_one, rfl⟩) (k + 1) (nI_1 k) (by omega) (by decide) dX3_boundTables_43 ?_
    rw [hrf]
    refine j_if_le 51 dX3_boundTables_44 (by decide) (fun c_44 => ?_) (fun c_44 => ?_)
    · have n44 : sm r 8 - sm r (k + 1) ≤ 0 := (nI_leI (a := sm r 8 - sm r (k + 1)) (b := 0) (by omega) (by omega)).mp c_44
      have hmo := sm_mono (c := r) (show k + 1 ≤ 8 by omega)
      refine j_iconst (v := 0) dX3_boundTables_51 (by decide) ?_
      refine j_istore dX3_boundTables_52 (Nat.le_of_ble_eq_true rfl) rfl ?_
      refine j_iload dX3_boundTables_54 rfl ?_
      refine j_if_eq 105 dX3_boundTables_56 (by decide) (fun c_56 => ?_) (fun c_56 => ?_)
      · exact absurd c_56 (by decide)
      · refine j_iload dX3_boundTables_59 rfl ?_
        refine j_if_eq 105 dX3_boundTables_61 (by decide) (fun c_61 => ?_) (fun c_61 => ?_)
        · refine j_aload_n dX3_boundTables_105 rfl ?_
          refine gX3_30 rfl (hR.1 _ ⟨by first | assumption | exact Nat.zero_lt_one, rfl⟩) rfl dX3_boundTables_106 ?_
          refine j_iload dX3_boundTables_109 rfl ?_
          refine j_iload dX3_boundTables_111 rfl ?_
          refine j_if_eq 121 dX3_boundTables_113 (by decide) (fun c_113 => ?_) (fun c_113 => ?_)
          · exact absurd c_113 (by decide)
          · refine j_iload dX3_boundTables_116 rfl ?_
            refine j_goto 128 dX3_boundTables_118 (by decide) ?_
            refine r_iast hR ⟨by first | assumption | exact Nat.zero_lt_one, rfl⟩ (fun _ => rfl) (k * 5 + q) rfl (by omega) (by decide) dX3_boundTables_128 (fun h hR => ?_)
            refine j_aload_n dX3_boundTables_129 rfl ?_
            refine gX3_33 rfl (hR.1 _ ⟨by first | assumption | exact Nat.zero_lt_one, rfl⟩) rfl dX3_boundTables_130 ?_
            refine j_iload dX3_boundTables_133 rfl ?_
            refine j_iload dX3_boundTables_135 rfl ?_
            refine j_if_eq 145 dX3_boundTables_137 (by decide) (fun c_137 => ?_) (fun c_137 => ?_)
            · exact absurd c_137 (by decide)
            · refine j_iload dX3_boundTables_140 rfl ?_
              refine j_goto 152 dX3_boundTables_142 (by decide) ?_
              refine r_iast hR ⟨by first | assumption | exact Nat.zero_lt_one, rfl⟩ (fun _ => rfl) (k * 5 + q) rfl (by omega) (by decide) dX3_boundTables_152 (fun h hR => ?_)
              refine j_vret rfl (Nat.le_of_ble_eq_true rfl) (Nat.le_of_ble_eq_true rfl) dX3_boundTables_153 ?_
              refine ⟨rfl, _, hR, fun m h1 h2 => ?_, fun x hx => ?_, ?_⟩
              · rw [upZ_ne h2, upZ_ne h1]
              · rw [upZ_nk (Or.inl (by decide)), upZ_nk (Or.inr hx), upZ_nk (Or.inr hx), upZ_nk (Or.inl (by decide))]
                exact ⟨rfl, rfl⟩
              · rw [show decide (0 < r k) = true by simp; omega, show decide (sm r (k + 1) < sm r 8) = false by simp; omega, upZ_nk (Or.inl (by decide)), upZ_at, upZ_at]
                exact ⟨rfl, rfl⟩
        · exact absurd rfl c_61
    · have n44 : 0 < sm r 8 - sm r (k + 1) := Nat.not_le.mp (fun w => c_44 ((nI_leI (a := sm r 8 - sm r (k + 1)) (b := 0) (by omega) (by omega)).mpr w))
      have hmo := sm_mono (c := r) (show k + 1 ≤ 8 by omega)
      refine j_iconst (v := 1) dX3_boundTables_47 (by decide) ?_
      refine j_goto 52 dX3_boundTables_48 (by decide) ?_
      refine j_istore dX3_boundTables_52 (Nat.le_of_ble_eq_true rfl) rfl ?_
      refine j_iload dX3_boundTables_54 rfl ?_
      refine j_if_eq 105 dX3_boundTables_56 (by decide) (fun c_56 => ?_) (fun c_56 => ?_)
      · exact absurd c_56 (by decide)
      · refine j_iload dX3_boundTables_59 rfl ?_
        refine j_if_eq 105 dX3_boundTables_61 (by decide) (fun c_61 => ?_) (fun c_61 => ?_)
        · exact absurd c_61 (by decide)
        · refine j_aload_n dX3_boundTables_64 rfl ?_
          refine gX3_30 rfl (hR.1 _ ⟨by first | assumption | exact Nat.zero_lt_one, rfl⟩) rfl dX3_boundTables_65 ?_
          refine j_iload dX3_boundTables_68 rfl ?_
          refine j_aload_n dX3_boundTables_70 rfl ?_
          refine gX3_30 rfl (hR.1 _ ⟨by first | assumption | exact Nat.zero_lt_one, rfl⟩) rfl dX3_boundTables_71 ?_
          refine j_iload dX3_boundTables_74 rfl ?_
          refine j_iald (hR.1 _ ⟨by first | assumption | exact Nat.zero_lt_one, rfl⟩) ((k + 1) * 5 + q) rfl (by omega) (by decide) dX3_boundTables_76 ?_
          refine j_iload dX3_boundTables_77 rfl ?_
          refine j_mmax wl_X3_79 ws_J9_max_7cf53 (Nat.le_of_ble_eq_true rfl) (Nat.le_of_ble_eq_true rfl) (Nat.le_of_ble_eq_true rfl) (Nat.le_of_ble_eq_true rfl) (Nat.le_of_ble_eq_true rfl) dX3_boundTables_79 ?_
          refine r_iast hR ⟨by first | assumption | exact Nat.zero_lt_one, rfl⟩ (fun _ => rfl) (k * 5 + q) rfl (by omega) (by decide) dX3_boundTables_82 (fun h hR => ?_)
          refine j_aload_n dX3_boundTables_83 rfl ?_
          refine gX3_33 rfl (hR.1 _ ⟨by first | assumption | exact Nat.zero_lt_one, rfl⟩) rfl dX3_boundTables_84 ?_
          refine j_iload dX3_boundTables_87 rfl ?_
          refine j_aload_n dX3_boundTables_89 rfl ?_
          refine gX3_33 rfl (hR.1 _ ⟨by first | assumption | exact Nat.zero_lt_one, rfl⟩) rfl dX3_boundTables_90 ?_
          refine j_iload dX3_boundTables_93 rfl ?_
          refine j_iald (hR.1 _ ⟨by first | assumption | exact Nat.zero_lt_one, rfl⟩) ((k + 1) * 5 + q) rfl (by omega) (by decide) dX3_boundTables_95 ?_
          refine j_iload dX3_boundTables_96 rfl ?_
          refine j_mmin wl_X3_55 ws_J9_min_7cf53 (Nat.le_of_ble_eq_true rfl) (Nat.le_of_ble_eq_true rfl) (Nat.le_of_ble_eq_true rfl) (Nat.le_of_ble_eq_true rfl) (Nat.le_of_ble_eq_true rfl) dX3_boundTables_98 ?_
          refine r_iast hR ⟨by first | assumption | exact Nat.zero_lt_one, rfl⟩ (fun _ => rfl) (k * 5 + q) rfl (by omega) (by decide) dX3_boundTables_101 (fun h hR => ?_)
          refine j_goto 153 dX3_boundTables_102 (by decide) ?_
          refine j_vret rfl (Nat.le_of_ble_eq_true rfl) (Nat.le_of_ble_eq_true rfl) dX3_boundTables_153 ?_
          refine ⟨rfl, _, hR, fun m h1 h2 => ?_, fun x hx => ?_, ?_⟩
          · rw [upZ_ne h2, upZ_ne h1]
          · rw [upZ_nk (Or.inl (by decide)), upZ_nk (Or.inr hx), upZ_nk (Or.inr hx), upZ_nk (Or.inl (by decide))]
            exact ⟨rfl, rfl⟩
          · rw [show decide (0 < r k) = true by simp; omega, show decide (sm r (k + 1) < sm r 8) = true by simp; omega, upZ_nk (Or.inl (by decide)), upZ_at, upZ_at]
            exact ⟨rfl, rfl⟩

