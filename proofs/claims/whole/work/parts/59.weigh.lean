/-! ===== what the least choice is ===== -/
def okR (sd : Nat → Bool) (t st : Nat → Int32) (aw : Int32) (f i b : Nat) : Bool := if i = 0 then decide (b = f) else sd b && !decide (b = f) && iw (t b - t f - st i) (-aw) aw
def RV (sd : Nat → Bool) (t st : Nat → Int32) (aw : Int32) (n : Nat) (r : Nat → Nat) : Prop := sd (r 0) = true ∧ Va (okR sd t st aw (r 0)) n r
def Best (sd : Nat → Bool) (w : Nat → Nat) (t st : Nat → Int32) (aw : Int32) (n : Nat) (cv : Int) : Prop := (∀ r, RV sd t st aw n r → cv ≤ (cs (cN w) r n : Int)) ∧ (cv < NO → ∃ r, RV sd t st aw n r ∧ cv = (cs (cN w) r n : Int))
theorem Va_congr {ok ok2 : Nat → Nat → Bool} {n : Nat} {a : Nat → Nat} (h : ∀ i, i < n → ok i (a i) = true → ok2 i (a i) = true) (hv : Va ok n a) : Va ok2 n a := ⟨fun i hi => h i hi (hv.1 i hi), hv.2⟩
theorem okR_congr {sd : Nat → Bool} {t t2 st st2 : Nat → Int32} {aw : Int32} {f i b : Nat} (ht : ∀ b, sd b = true → t b = t2 b) (hs : st i = st2 i) (hf : sd f = true) (h : okR sd t st aw f i b = true) : okR sd t2 st2 aw f i b = true := by
  unfold okR at *
  split
  · rename_i q; rw [if_pos q] at h; exact h
  · rename_i q
    rw [if_neg q] at h
    simp only [Bool.and_eq_true] at h ⊢
    rw [← ht b h.1.1, ← ht f hf, ← hs]
    exact h
theorem RV_congr {sd : Nat → Bool} {t t2 st st2 : Nat → Int32} {aw : Int32} {n : Nat} {r : Nat → Nat} (ht : ∀ b, sd b = true → t b = t2 b) (hs : ∀ i, i < n → st i = st2 i) (h : RV sd t st aw n r) : RV sd t2 st2 aw n r :=
  ⟨h.1, Va_congr (fun i hi ho => okR_congr ht (hs i hi) h.1 ho) h.2⟩
theorem RV_sd {sd : Nat → Bool} {t st : Nat → Int32} {aw : Int32} {n : Nat} {r : Nat → Nat} (h : RV sd t st aw n r) {i : Nat} (hi : i < n) : sd (r i) = true := by
  have := h.2.1 i hi
  unfold okR at this
  split at this
  · rw [decide_eq_true_iff.mp this]; exact h.1
  · simp only [Bool.and_eq_true] at this; exact this.1.1
theorem cs_cN_congr {w w2 : Nat → Nat} {r : Nat → Nat} {n : Nat} (h : ∀ i, i < n → w (r i) = w2 (r i)) : cs (cN w) r n = cs (cN w2) r n := by
  induction n with
  | zero => simp only [cs]
  | succ n ih => rw [cs, cs, ih (fun i hi => h i (by omega)), cN, cN, h n (by omega)]
theorem Best_congr {sd : Nat → Bool} {w w2 : Nat → Nat} {t t2 st st2 : Nat → Int32} {aw : Int32} {n : Nat} {cv : Int} (ht : ∀ b, sd b = true → t b = t2 b) (hs : ∀ i, i < n → st i = st2 i) (hw : ∀ b, sd b = true → w b = w2 b) (h : Best sd w t st aw n cv) : Best sd w2 t2 st2 aw n cv := by
  refine ⟨fun r hr => ?_, fun hc => ?_⟩
  · have hr2 := RV_congr (fun b hb => (ht b hb).symm) (fun i hi => (hs i hi).symm) hr
    have := h.1 r hr2
    rwa [cs_cN_congr (fun i hi => hw _ (RV_sd hr hi))] at this
  · obtain ⟨r, hr, e⟩ := h.2 hc
    refine ⟨r, RV_congr ht hs hr, ?_⟩
    rwa [cs_cN_congr (fun i hi => hw _ (RV_sd hr hi))] at e
def sdX (Z : ZT) (nb : Nat) (b : Nat) : Bool := decide (b < nb) && decide (Z (4, b, 0) 4 = 0)
def CVok (Z : ZT) (nb nn : Nat) (cv : Int) : Prop := 0 ≤ cv ∧ cv ≤ NO ∧ (nn = 0 → cv = NO) ∧ (0 < nn → Best (sdX Z nb) (fun b => cl (wNow Z b)) (fun b => pNow Z b 0) (Z (1, 0, 1)) (Z (1, 0, 0) 2) nn cv)
/-- nothing but the chooser's weighing has changed -/
def keepW (Z Y : ZT) : Prop := (∀ m, m ≠ (1, 0, 0) → m ≠ (1, 0, 6) → m ≠ (1, 0, 8) → m ≠ (1, 0, 9) → Y m = Z m) ∧ ∀ k, k ≠ 6 → Y (1, 0, 0) k = Z (1, 0, 0) k
theorem keepW.rf {Z : ZT} : keepW Z Z := ⟨fun _ _ _ _ _ => rfl, fun _ _ => rfl⟩
theorem keepW.up0 {Z Y : ZT} (h : keepW Z Y) (v : Int32) : keepW Z (upZ Y (1, 0, 0) 6 v) := ⟨fun m a b c d => by rw [upZ_ne a]; exact h.1 m a b c d, fun k hk => by rw [upZ_nk (Or.inr hk)]; exact h.2 k hk⟩
theorem keepW.up6 {Z Y : ZT} (h : keepW Z Y) (k : Nat) (v : Int32) : keepW Z (upZ Y (1, 0, 6) k v) := ⟨fun m a b c d => by rw [upZ_ne b]; exact h.1 m a b c d, fun k hk => by rw [upZ_ne (by simp)]; exact h.2 k hk⟩
theorem keepW.up8 {Z Y : ZT} (h : keepW Z Y) (k : Nat) (v : Int32) : keepW Z (upZ Y (1, 0, 8) k v) := ⟨fun m a b c d => by rw [upZ_ne c]; exact h.1 m a b c d, fun k hk => by rw [upZ_ne (by simp)]; exact h.2 k hk⟩
theorem keepW.up9 {Z Y : ZT} (h : keepW Z Y) (k : Nat) (v : Int32) : keepW Z (upZ Y (1, 0, 9) k v) := ⟨fun m a b c d => by rw [upZ_ne d]; exact h.1 m a b c d, fun k hk => by rw [upZ_ne (by simp)]; exact h.2 k hk⟩
theorem keepW.now {Z Y : ZT} (h : keepW Z Y) (b : Nat) : wNow Y b = wNow Z b ∧ (∀ q, pNow Y b q = pNow Z b q) ∧ Y (4, b, 0) = Z (4, b, 0) := by
  have e1 := h.1 (4, b, 3) (by simp) (by simp) (by simp) (by simp)
  have e2 := h.1 (6, b, 0) (by simp) (by simp) (by simp) (by simp)
  have e3 := h.1 (6, b, 2) (by simp) (by simp) (by simp) (by simp)
  have e4 := h.1 (6, b, 3) (by simp) (by simp) (by simp) (by simp)
  have e5 := h.1 (6, b, 4) (by simp) (by simp) (by simp) (by simp)
  have e6 := h.1 (4, b, 0) (by simp) (by simp) (by simp) (by simp)
  unfold wNow pNow
  rw [e1, e2, e3, e4, e5, e6]
  exact ⟨rfl, fun _ => rfl, rfl⟩
/-- the weighing of the first i bells -/
def Wg (Z : ZT) (i : Nat) (S : Nat → Nat) (sc : Nat) (Y : ZT) : Prop := sc ≤ i ∧ Y (1, 0, 0) 6 = nI sc ∧ (∀ j, j < sc → Y (1, 0, 6) j = nI (S j) ∧ S j < i ∧ Y (1, 0, 8) (S j) = wNow Z (S j) ∧ Y (1, 0, 9) (S j) = pNow Z (S j) 0 ∧ Z (4, S j, 0) 4 = 0) ∧ (∀ j k, j < k → k < sc → S j ≠ S k) ∧ ∀ b, b < i → Z (4, b, 0) 4 = 0 → ∃ j, j < sc ∧ S j = b
theorem Wg.skip {Z : ZT} {i : Nat} {S : Nat → Nat} {sc : Nat} {Y : ZT} (h : Wg Z i S sc Y) (hc : ¬ Z (4, i, 0) 4 = 0) : Wg Z (i + 1) S sc Y := by
  refine ⟨by have := h.1; omega, h.2.1, fun j hj => ?_, h.2.2.2.1, fun b hb hz => ?_⟩
  · have := h.2.2.1 j hj
    exact ⟨this.1, by omega, this.2.2⟩
  · rcases Nat.lt_or_ge b i with q | q
    · exact h.2.2.2.2 b q hz
    · rw [show b = i by omega] at hz; exact absurd hz hc
theorem Wg.add {Z : ZT} {i : Nat} {S : Nat → Nat} {sc : Nat} {Y : ZT} (h : Wg Z i S sc Y) (hc : Z (4, i, 0) 4 = 0) : Wg Z (i + 1) (upf S sc i) (sc + 1) (upZ (upZ (upZ (upZ Y (1, 0, 8) i (wNow Z i)) (1, 0, 9) i (pNow Z i 0)) (1, 0, 6) sc (nI i)) (1, 0, 0) 6 (nI (sc + 1))) := by
  obtain ⟨h1, h2, h3, h4, h5⟩ := h
  refine ⟨by omega, upZ_at _ _ _ _, fun j hj => ?_, fun j k hjk hk => ?_, fun b hb hz => ?_⟩
  · by_cases q : j = sc
    · rw [q, upf_at]
      refine ⟨?_, by omega, ?_, ?_, hc⟩
      · rw [upZ_ne (by simp), upZ_at]
      · rw [upZ_ne (by simp), upZ_ne (by simp), upZ_ne (by simp), upZ_at]
      · rw [upZ_ne (by simp), upZ_ne (by simp), upZ_at]
    · have h3 := h3 j (by omega)
      rw [upf_ne q]
      refine ⟨?_, by omega, ?_, ?_, h3.2.2.2.2⟩
      · rw [upZ_ne (by simp), upZ_nk (Or.inr q), upZ_ne (by simp), upZ_ne (by simp)]; exact h3.1
      · rw [upZ_ne (by simp), upZ_ne (by simp), upZ_ne (by simp), upZ_nk (Or.inr (by omega))]; exact h3.2.2.1
      · rw [upZ_ne (by simp), upZ_ne (by simp), upZ_nk (Or.inr (by omega)), upZ_ne (by simp)]; exact h3.2.2.2.1
  · by_cases q : k = sc
    · rw [q, upf_at, upf_ne (by omega)]
      have := (h3 j (by omega)).2.1
      omega
    · rw [upf_ne q, upf_ne (by omega)]
      exact h4 j k hjk (by omega)
  · rcases Nat.lt_or_ge b i with q | q
    · obtain ⟨j, hj, e⟩ := h5 b q hz
      exact ⟨j, by omega, by rw [upf_ne (by omega)]; exact e⟩
    · exact ⟨sc, by omega, by rw [upf_at]; omega⟩
set_option maxRecDepth 100000 in
set_option maxHeartbeats 4000000 in
theorem c_X1_weigh (l : Launch) (G : GG) {ad : NM → Nat} {np nb : Nat} {Z : ZT} {L : LT} {h : AH} (hR : Rm ad np nb Z L h) (hb24 : nb ≤ 24) : Con l G mX1_weigh 2 0 0 [.ref (ad (1, 0, 0)), .ref (ad (0, 0, 3)), .int (nI nb)] h (fun r h2 => r = none ∧ ∃ Y S sc, Rm ad np nb Y L h2 ∧ keepW Z Y ∧ Wg Z nb S sc Y) := by
  have key : ∀ nn i, nb < i + nn → i ≤ nb → ∀ S sc h Y, Rm ad np nb Y L h → keepW Z Y → Wg Z i S sc Y → J (thM l G mX1_weigh 2 0 0 (fun r h2 => r = none ∧ ∃ Y S sc, Rm ad np nb Y L h2 ∧ keepW Z Y ∧ Wg Z nb S sc Y)) cX1_weigh h (0, 0) [some (.ref (ad (1, 0, 0))), some (.ref (ad (0, 0, 3))), some (.int (nI nb)), some (.int (nI i)), none] 7 [] := by
    intro nn
    induction nn with
    | zero => intro i h1 h2; omega
    | succ nn ih =>
      intro i h1 h2 S sc h Y hR hk hw
      refine j_iload_n dX1_weigh_7 rfl ?_
      refine j_iload_n dX1_weigh_8 rfl ?_
      refine j_icmp_ge 79 dX1_weigh_9 (by decide) (fun c_9 => ?_) (fun c_9 => ?_)
      · have hlt : nb ≤ i := (nI_leI (a := nb) (b := i) (by omega) (by omega)).mp c_9
        obtain rfl : i = nb := by omega
        refine j_vret rfl (Nat.le_of_ble_eq_true rfl) (Nat.le_of_ble_eq_true rfl) dX1_weigh_79 ?_
        exact ⟨rfl, Y, S, sc, hR, hk, hw⟩
      · have hlt : i < nb := Nat.not_le.mp (fun q => c_9 ((nI_leI (a := nb) (b := i) (by omega) (by omega)).mpr q))
        refine j_aload_n dX1_weigh_12 rfl ?_
        refine j_iload_n dX1_weigh_13 rfl ?_
        refine j_aldB (hR.1 _ ⟨by first | assumption | exact Nat.zero_lt_one, rfl⟩) i rfl (by omega) (by decide) dX1_weigh_14 ?_
        rw [if_pos hlt]
        refine j_astore dX1_weigh_15 (Nat.le_of_ble_eq_true rfl) rfl ?_
        refine j_aload dX1_weigh_17 rfl ?_
        refine j_ifnull dX1_weigh_19 ?_
        refine j_aload dX1_weigh_22 rfl ?_
        refine gX1_72 rfl (hR.1 _ ⟨by first | assumption | exact Nat.zero_lt_one, rfl⟩) rfl dX1_weigh_24 ?_
        refine j_if_ne 73 dX1_weigh_27 (by decide) (fun c_27 => ?_) (fun c_27 => ?_)
        · refine j_iinc dX1_weigh_73 rfl (nI_inc _) (Nat.le_of_ble_eq_true rfl) rfl ?_
          refine j_goto 7 dX1_weigh_76 (by decide) ?_
          refine J.drop 4 ?_
          exact ih (i + 1) (by omega) (by omega) S sc _ _ hR hk (hw.skip (by rw [← (hk.now i).2.2]; exact c_27))
        · refine j_aload_n dX1_weigh_30 rfl ?_
          refine gX1_24 rfl (hR.1 _ ⟨by first | assumption | exact Nat.zero_lt_one, rfl⟩) rfl dX1_weigh_31 ?_
          refine j_iload_n dX1_weigh_34 rfl ?_
          refine j_aload dX1_weigh_35 rfl ?_
          refine j_callV (rest := [.int (nI i), .ref (ad (1, 0, 8))]) (c_X0_weightNow l G hR hlt) (hR.1 _ ⟨by first | assumption | exact Nat.zero_lt_one, rfl⟩) rfl cw_X0_weightNow wl_X1_77 wm_X0_weightNow wx_X0_weightNow rfl rfl (Nat.le_of_ble_eq_true rfl) (Nat.le_of_ble_eq_true rfl) (Nat.le_of_ble_eq_true rfl) (Nat.le_of_ble_eq_true rfl) (Nat.le_of_ble_eq_true rfl) dX1_weigh_37 (fun v_37 h_37 e_37 => ?_)
          obtain ⟨rfl, hh⟩ := e_37
          have hh := hh.symm
          subst hh
          rw [(hk.now i).1]
          refine r_iast hR ⟨by first | assumption | exact Nat.zero_lt_one, rfl⟩ (fun _ => rfl) i rfl (by omega) (by decide) dX1_weigh_40 (fun h hR => ?_)
          refine j_aload_n dX1_weigh_41 rfl ?_
          refine gX1_27 rfl (hR.1 _ ⟨by first | assumption | exact Nat.zero_lt_one, rfl⟩) rfl dX1_weigh_42 ?_
          refine j_iload_n dX1_weigh_45 rfl ?_
          refine j_aload dX1_weigh_46 rfl ?_
          refine j_iconst (v := 0) dX1_weigh_48 (by decide) ?_
          refine j_callV (rest := [.int (nI i), .ref (ad (1, 0, 9))]) (c_X0_partNow l G hR hlt (q := 0) (by omega)) (hR.1 _ ⟨by first | assumption | exact Nat.zero_lt_one, rfl⟩) rfl cw_X0_partNow wl_X1_81 wm_X0_partNow wx_X0_partNow rfl rfl (Nat.le_of_ble_eq_true rfl) (Nat.le_of_ble_eq_true rfl) (Nat.le_of_ble_eq_true rfl) (Nat.le_of_ble_eq_true rfl) (Nat.le_of_ble_eq_true rfl) dX1_weigh_49 (fun v_49 h_49 e_49 => ?_)
          obtain ⟨rfl, hh⟩ := e_49
          have hh := hh.symm
          subst hh
          rw [((hk.up8 i _).now i).2.1 0]
          refine r_iast hR ⟨by first | assumption | exact Nat.zero_lt_one, rfl⟩ (fun _ => rfl) i rfl (by omega) (by decide) dX1_weigh_52 (fun h hR => ?_)
          refine j_aload_n dX1_weigh_53 rfl ?_
          refine gX1_21 rfl (hR.1 _ ⟨by first | assumption | exact Nat.zero_lt_one, rfl⟩) rfl dX1_weigh_54 ?_
          refine j_aload_n dX1_weigh_57 rfl ?_
          refine gX1_59 rfl (hR.1 _ ⟨by first | assumption | exact Nat.zero_lt_one, rfl⟩) rfl dX1_weigh_58 ?_
          rw [upZ_ne (by simp), upZ_ne (by simp), hw.2.1]
          refine j_iload_n dX1_weigh_61 rfl ?_
          refine r_iast hR ⟨by first | assumption | exact Nat.zero_lt_one, rfl⟩ (fun _ => rfl) sc rfl (by have := hw.1; omega) (by decide) dX1_weigh_62 (fun h hR => ?_)
          refine j_aload_n dX1_weigh_63 rfl ?_
          refine j_dup dX1_weigh_64 rfl ?_
          refine gX1_59 rfl (hR.1 _ ⟨by first | assumption | exact Nat.zero_lt_one, rfl⟩) rfl dX1_weigh_65 ?_
          rw [upZ_ne (by simp), upZ_ne (by simp), upZ_ne (by simp), hw.2.1]
          refine j_iconst (v := 1) dX1_weigh_68 (by decide) ?_
          refine j_iadd dX1_weigh_69 ?_
          rw [nI_1]
          refine qX1_59 rfl hR dX1_weigh_70 (fun h hR => ?_)
          refine j_iinc dX1_weigh_73 rfl (nI_inc _) (Nat.le_of_ble_eq_true rfl) rfl ?_
          refine j_goto 7 dX1_weigh_76 (by decide) ?_
          refine J.drop 4 ?_
          exact ih (i + 1) (by omega) (by omega) _ _ _ _ hR ((((hk.up8 _ _).up9 _ _).up6 _ _).up0 _) (hw.add (by rw [← (hk.now i).2.2]; exact c_27))
  refine Con.of 2 rfl (Nat.le_of_ble_eq_true rfl) ?_
  refine j_aload_n dX1_weigh_0 rfl ?_
  refine j_iconst (v := 0) dX1_weigh_1 (by decide) ?_
  refine qX1_59 rfl hR dX1_weigh_2 (fun h hR => ?_)
  refine j_iconst (v := 0) dX1_weigh_5 (by decide) ?_
  refine j_istore_n dX1_weigh_6 (Nat.le_of_ble_eq_true rfl) rfl ?_
  exact key (nb + 1) 0 (by omega) (by omega) (fun _ => 0) 0 _ _ hR (keepW.rf.up0 _) ⟨Nat.le_refl _, upZ_at _ _ _ _, fun j hj => absurd hj (by omega), fun j k _ hk => absurd hk (by omega), fun b hb => absurd hb (by omega)⟩

