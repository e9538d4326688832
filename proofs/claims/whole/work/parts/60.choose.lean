/-- nothing but the chooser's working rows, and that its choice is known, has changed -/
def keepCh (Z Y : ZT) : Prop := (∀ m, m ≠ (1, 0, 0) → m ≠ (1, 0, 6) → m ≠ (1, 0, 8) → m ≠ (1, 0, 9) → m ≠ (1, 0, 10) → m ≠ (1, 0, 12) → Y m = Z m) ∧ ∀ k, k ≠ 3 → k ≠ 6 → Y (1, 0, 0) k = Z (1, 0, 0) k
theorem keepCh.rf {Z : ZT} : keepCh Z Z := ⟨fun _ _ _ _ _ _ _ => rfl, fun _ _ _ => rfl⟩
theorem keepCh.of {Z Y X : ZT} {v : Int32} (h1 : keepW (upZ Z (1, 0, 0) 3 v) Y) (h2 : keepC Y X) : keepCh Z X := by
  refine ⟨fun m a b c d e f => ?_, fun k h3 h6 => ?_⟩
  · rw [h2 m e f, h1.1 m a b c d, upZ_ne a]
  · rw [h2 (1, 0, 0) (by simp) (by simp), h1.2 k h6, upZ_nk (Or.inr h3)]
theorem keepCh.up3 {Z : ZT} (v : Int32) : keepCh Z (upZ Z (1, 0, 0) 3 v) := ⟨fun m a _ _ _ _ _ => upZ_ne a, fun k h _ => upZ_nk (Or.inr h)⟩
theorem okC_okR (Z : ZT) (S : Nat → Nat) (sc f : Nat) : okC Z S sc f = okR (snd S sc) (Z (1, 0, 9)) (Z (1, 0, 1)) (Z (1, 0, 0) 2) f := rfl
def CHV (sd : Nat → Bool) (w : Nat → Nat) (t st : Nat → Int32) (aw : Int32) (n : Nat) (S : Nat → Nat) (k : Nat) (cv : Int) : Prop := 0 ≤ cv ∧ cv ≤ NO ∧ (∀ r, RV sd t st aw n r → (∃ j, j < k ∧ S j = r 0) → cv ≤ (cs (cN w) r n : Int)) ∧ (cv < NO → ∃ r, RV sd t st aw n r ∧ cv = (cs (cN w) r n : Int))
theorem CHV.step {sd : Nat → Bool} {w : Nat → Nat} {t st : Nat → Int32} {aw : Int32} {n : Nat} {S : Nat → Nat} {k : Nat} {cv T : Int} (h : CHV sd w t st aw n S k cv) (hS : sd (S k) = true) (hn : 0 < n) (hT : rg T) (h1 : ∀ B, Va (okR sd t st aw (S k)) n B → T ≤ (cs (cN w) B n : Int)) (h2 : T < cv → ∃ B, Va (okR sd t st aw (S k)) n B ∧ T = (cs (cN w) B n : Int)) : CHV sd w t st aw n S (k + 1) (if T < cv then T else cv) := by
  have hlb : ∀ r, RV sd t st aw n r → (∃ j, j < k + 1 ∧ S j = r 0) → (if T < cv then T else cv) ≤ (cs (cN w) r n : Int) := fun r hr ⟨j, hj, e⟩ => by
    rcases Nat.lt_or_ge j k with q | q
    · have := h.2.2.1 r hr ⟨j, q, e⟩
      split <;> omega
    · have hv := hr.2
      rw [← e, show j = k by omega] at hv
      have := h1 r hv
      split <;> omega
  have hc := h.2.1
  by_cases q : T < cv
  · rw [if_pos q] at hlb ⊢
    obtain ⟨B, hB, e⟩ := h2 q
    have hB0 : B 0 = S k := by
      have := hB.1 0 hn
      unfold okR at this
      rw [if_pos rfl] at this
      exact decide_eq_true_iff.mp this
    have hrv : RV sd t st aw n B := ⟨by rw [hB0]; exact hS, by rw [hB0]; exact hB⟩
    exact ⟨by omega, by omega, hlb, fun _ => ⟨B, hrv, e⟩⟩
  · rw [if_neg q] at hlb ⊢
    exact ⟨h.1, h.2.1, hlb, h.2.2.2⟩
theorem Wg_snd {Z : ZT} {nb : Nat} {S : Nat → Nat} {sc : Nat} {Y : ZT} (h : Wg Z nb S sc Y) : snd S sc = sdX Z nb := by
  funext b
  have : snd S sc b = true ↔ sdX Z nb b = true := by
    rw [snd_iff]
    unfold sdX
    rw [Bool.and_eq_true, decide_eq_true_iff, decide_eq_true_iff]
    constructor
    · rintro ⟨j, hj, rfl⟩
      exact ⟨(h.2.2.1 j hj).2.1, (h.2.2.1 j hj).2.2.2.2⟩
    · rintro ⟨h1, h2⟩
      exact h.2.2.2.2 b h1 h2
  exact Bool.eq_iff_iff.mpr this
theorem Wg.sd {Z : ZT} {nb : Nat} {S : Nat → Nat} {sc : Nat} {Y : ZT} (h : Wg Z nb S sc Y) (hb : nb ≤ 24) (hw : ∀ b, b < nb → wNow Z b = nI (cl (wNow Z b)) ∧ cl (wNow Z b) ≤ 44600) : Sd Y (fun b => cl (wNow Z b)) S sc :=
  ⟨h.2.1, by have := h.1; omega, fun j hj => by
    have h1 := h.2.2.1 j hj
    have h2 := hw (S j) h1.2.1
    exact ⟨h1.1, by omega, by rw [h1.2.2.1]; exact h2.1, h2.2⟩, h.2.2.2.1⟩
set_option maxRecDepth 100000 in
set_option maxHeartbeats 4000000 in
theorem c_X1_choose (l : Launch) (G : GG) {ad : NM → Nat} {np nb : Nat} {Z : ZT} {L : LT} {h : AH} (hR : Rm ad np nb Z L h) (hb24 : nb ≤ 24) {nn : Nat} (hnn : Z (1, 0, 0) 1 = nI nn) (hn8 : nn ≤ 8) (hw : ∀ b, b < nb → wNow Z b = nI (cl (wNow Z b)) ∧ cl (wNow Z b) ≤ 44600) (hkn : ¬ Z (1, 0, 0) 3 = 0 → ∃ cv, L (1, 0, 0) 4 = lI cv ∧ CVok Z nb nn cv)  : Con l G mX1_choose 6 0 0 [.ref (ad (1, 0, 0)), .ref (ad (0, 0, 3)), .int (nI nb)] h (fun r h2 => r = none ∧ ∃ Y M cv, Rm ad np nb Y M h2 ∧ keepCh Z Y ∧ ¬ Y (1, 0, 0) 3 = 0 ∧ M (1, 0, 0) 4 = lI cv ∧ CVok Z nb nn cv) := by
  refine Con.of 1 rfl (Nat.le_of_ble_eq_true rfl) ?_
  refine j_aload_n dX1_choose_0 rfl ?_
  refine gX1_40 rfl (hR.1 _ ⟨by first | assumption | exact Nat.zero_lt_one, rfl⟩) rfl dX1_choose_1 ?_
  refine j_if_eq 8 dX1_choose_4 (by decide) (fun c_4 => ?_) (fun c_4 => ?_)
  · refine j_aload_n dX1_choose_8 rfl ?_
    refine j_iconst (v := 1) dX1_choose_9 (by decide) ?_
    refine qX1_40 rfl hR rfl rfl dX1_choose_10 (fun h hR => ?_)
    refine j_aload_n dX1_choose_13 rfl ?_
    refine j_ldc2 (own := RX1) rfl wc_X1_15 dX1_choose_14 ?_
    rw [show (4611686018427387904 : Int64) = lI NO from lI_NO.symm]
    refine qX1_17 rfl hR dX1_choose_17 (fun h hR => ?_)
    refine j_aload_n dX1_choose_20 rfl ?_
    refine gX1_44 rfl (hR.1 _ ⟨by first | assumption | exact Nat.zero_lt_one, rfl⟩) rfl dX1_choose_21 ?_
    refine j_if_ne 28 dX1_choose_24 (by decide) (fun c_24 => ?_) (fun c_24 => ?_)
    · have hn1 : 1 ≤ nn := by
        rcases Nat.eq_zero_or_pos nn with z | z
        · rw [upZ_nk (Or.inr (by decide)), hnn, z] at c_24; exact absurd rfl c_24
        · exact z
      refine j_aload_n dX1_choose_28 rfl ?_
      refine j_aload_n dX1_choose_29 rfl ?_
      refine j_iload_n dX1_choose_30 rfl ?_
      refine j_callV (rest := []) (c_X1_weigh l G hR hb24) (hR.1 _ ⟨by first | assumption | exact Nat.zero_lt_one, rfl⟩) rfl cw_X1_weigh wl_X1_55 wm_X1_weigh wx_X1_weigh rfl rfl (Nat.le_of_ble_eq_true rfl) (Nat.le_of_ble_eq_true rfl) (Nat.le_of_ble_eq_true rfl) (Nat.le_of_ble_eq_true rfl) (Nat.le_of_ble_eq_true rfl) dX1_choose_31 (fun v_31 h_31 e_31 => ?_)
      obtain ⟨rfl, Y, S, sc, hR, hkw, hwg⟩ := e_31
      have hwz : ∀ b, wNow (upZ Z (1, 0, 0) 3 1) b = wNow Z b := fun b => by unfold wNow; rw [upZ_ne (by simp), upZ_ne (by simp), upZ_ne (by simp)]
      have hpz : ∀ b q, pNow (upZ Z (1, 0, 0) 3 1) b q = pNow Z b q := fun b q => by unfold pNow; rw [upZ_ne (by simp), upZ_ne (by simp), upZ_ne (by simp)]
      have hSd := hwg.sd hb24 (fun b hb => by rw [hwz]; exact hw b hb)
      have hws : (fun b => cl (wNow (upZ Z (1, 0, 0) 3 1) b)) = (fun b => cl (wNow Z b)) := funext (fun b => by rw [hwz])
      rw [hws] at hSd
      have hsc := hSd.2.1
      have hny : Y (1, 0, 0) 1 = nI nn := by rw [hkw.2 1 (by decide), upZ_nk (Or.inr (by decide))]; exact hnn
      have key : ∀ nq k, sc < k + nq → k ≤ sc → ∀ cv h X M, Rm ad np nb X M h → keepC Y X → M (1, 0, 0) 4 = lI cv → CHV (snd S sc) (fun b => cl (wNow Z b)) (Y (1, 0, 9)) (Y (1, 0, 1)) (Y (1, 0, 0) 2) nn S k cv → J (thM l G mX1_choose 6 0 0 (fun r h2 => r = none ∧ ∃ Y M cv, Rm ad np nb Y M h2 ∧ keepCh Z Y ∧ ¬ Y (1, 0, 0) 3 = 0 ∧ M (1, 0, 0) 4 = lI cv ∧ CVok Z nb nn cv)) cX1_choose h (0, 0) [some (.ref (ad (1, 0, 0))), some (.ref (ad (0, 0, 3))), some (.int (nI nb)), some (.int (nI k))] 36 [] := by
        intro nq
        induction nq with
        | zero => intro k h1 h2; omega
        | succ nq ih =>
          intro k h1 h2 cv h X M hR hkx hcv hch
          have hS := hSd.keep hkx
          refine j_iload_n dX1_choose_36 rfl ?_
          refine j_aload_n dX1_choose_37 rfl ?_
          refine gX1_59 rfl (hR.1 _ ⟨by first | assumption | exact Nat.zero_lt_one, rfl⟩) rfl dX1_choose_38 ?_
          refine j_icmp_ge 71 dX1_choose_41 (by decide) (fun c_41 => ?_) (fun c_41 => ?_)
          · have hlt : sc ≤ k := (nI_leI (a := sc) (b := k) (by omega) (by omega)).mp (hS.1 ▸ c_41)
            obtain rfl : k = sc := by omega
            refine j_vret rfl (Nat.le_of_ble_eq_true rfl) (Nat.le_of_ble_eq_true rfl) dX1_choose_71 ?_
            refine ⟨rfl, X, M, cv, hR, keepCh.of hkw hkx, by rw [hkx (1, 0, 0) (by simp) (by simp), hkw.2 3 (by decide), upZ_at]; decide, hcv, hch.1, hch.2.1, fun q => absurd q (by omega), fun _ => ?_⟩
            have hb : Best (snd S k) (fun b => cl (wNow Z b)) (Y (1, 0, 9)) (Y (1, 0, 1)) (Y (1, 0, 0) 2) nn cv := ⟨fun r hr => hch.2.2.1 r hr (snd_iff.mp hr.1), hch.2.2.2⟩
            rw [(Wg_snd hwg), hkw.1 (1, 0, 1) (by simp) (by simp) (by simp) (by simp), hkw.2 2 (by decide), upZ_ne (by simp), upZ_nk (Or.inr (by decide))] at hb
            have hsd : sdX (upZ Z (1, 0, 0) 3 1) nb = sdX Z nb := by
              funext b
              unfold sdX
              rw [upZ_ne (by simp)]
            rw [hsd] at hb
            refine Best_congr (fun b hb2 => ?_) (fun _ _ => rfl) (fun _ _ => rfl) hb
            rw [← hsd, ← (Wg_snd hwg)] at hb2
            obtain ⟨j, hj, rfl⟩ := snd_iff.mp hb2
            rw [(hwg.2.2.1 j hj).2.2.2.1, hpz]
          · have hlt : k < sc := Nat.not_le.mp (fun q => c_41 (hS.1 ▸ (nI_leI (a := sc) (b := k) (by omega) (by omega)).mpr q))
            have hSj := hS.2.2.1 k hlt
            refine j_aload_n dX1_choose_44 rfl ?_
            refine j_aload_n dX1_choose_45 rfl ?_
            refine gX1_17 rfl (hR.1 _ ⟨by first | assumption | exact Nat.zero_lt_one, rfl⟩) rfl dX1_choose_46 ?_
            rw [hcv]
            refine j_aload_n dX1_choose_49 rfl ?_
            refine j_aload_n dX1_choose_50 rfl ?_
            refine gX1_21 rfl (hR.1 _ ⟨by first | assumption | exact Nat.zero_lt_one, rfl⟩) rfl dX1_choose_51 ?_
            refine j_iload_n dX1_choose_54 rfl ?_
            refine j_iald (hR.1 _ ⟨by first | assumption | exact Nat.zero_lt_one, rfl⟩) k rfl (by omega) (by decide) dX1_choose_55 ?_
            rw [hSj.1]
            refine j_callV (rest := [.long (lI cv), .ref (ad (1, 0, 0))]) (c_X1_leastWithFirst l G hR hS (f := S k) (nn := nn) (snd_iff.mpr ⟨k, hlt, rfl⟩) (by rw [hkx (1, 0, 0) (by simp) (by simp)]; exact hny) (by omega) hn8 hcv ⟨by have := hch.1; omega, Int.le_trans hch.2.1 rg_NO.2⟩ hch.2.1) (hR.1 _ ⟨by first | assumption | exact Nat.zero_lt_one, rfl⟩) rfl cw_X1_leastWithFirst wl_X1_62 wm_X1_leastWithFirst wx_X1_leastWithFirst rfl rfl (Nat.le_of_ble_eq_true rfl) (Nat.le_of_ble_eq_true rfl) (Nat.le_of_ble_eq_true rfl) (Nat.le_of_ble_eq_true rfl) (Nat.le_of_ble_eq_true rfl) dX1_choose_56 (fun v_56 h_56 e_56 => ?_)
            obtain ⟨X2, M2, T, rfl, hR, hkx2, hkl2, hTr, hT1, hT2⟩ := e_56
            rw [okC_keep hkx, okC_okR] at hT1 hT2
            refine j_mminl wl_X1_66 ws_J9_min_f86c9 (Nat.le_of_ble_eq_true rfl) (Nat.le_of_ble_eq_true rfl) (Nat.le_of_ble_eq_true rfl) (Nat.le_of_ble_eq_true rfl) (Nat.le_of_ble_eq_true rfl) dX1_choose_59 ?_
            rw [show (if lI T < lI cv then lI T else lI cv) = lI (if T < cv then T else cv) by
              by_cases q : T < cv
              · rw [if_pos q, if_pos ((lI_lt hTr ⟨by have := hch.1; omega, Int.le_trans hch.2.1 rg_NO.2⟩).mpr q)]
              · rw [if_neg q, if_neg (fun p => q ((lI_lt hTr ⟨by have := hch.1; omega, Int.le_trans hch.2.1 rg_NO.2⟩).mp p))]]
            refine qX1_17 rfl hR dX1_choose_62 (fun h hR => ?_)
            refine j_iinc dX1_choose_65 rfl (nI_inc _) (Nat.le_of_ble_eq_true rfl) rfl ?_
            refine j_goto 36 dX1_choose_68 (by decide) ?_
            exact ih (k + 1) (by omega) (by omega) _ _ _ _ hR (hkx.tr hkx2) (upL_at _ _ _ _) (hch.step (snd_iff.mpr ⟨k, hlt, rfl⟩) (by omega) hTr hT1 hT2)
      refine j_iconst (v := 0) dX1_choose_34 (by decide) ?_
      refine j_istore_n dX1_choose_35 (Nat.le_of_ble_eq_true rfl) rfl ?_
      exact key (sc + 1) 0 (by omega) (by omega) NO _ _ _ hR keepC.rf (upL_at _ _ _ _) ⟨by decide, Int.le_refl _, fun r _ ⟨j, hj, _⟩ => absurd hj (by omega), fun q => absurd q (Int.lt_irrefl _)⟩
    · have hz : nn = 0 := by
        rw [upZ_nk (Or.inr (by decide)), hnn] at c_24
        exact (nI_eq (a := nn) (b := 0) (by omega) (by omega)).mp c_24
      refine j_vret rfl (Nat.le_of_ble_eq_true rfl) (Nat.le_of_ble_eq_true rfl) dX1_choose_27 ?_
      exact ⟨rfl, _, _, NO, hR, keepCh.up3 _, by rw [upZ_at]; decide, upL_at _ _ _ _, by decide, Int.le_refl _, fun _ => rfl, fun q => absurd q (by omega)⟩
  · refine j_vret rfl (Nat.le_of_ble_eq_true rfl) (Nat.le_of_ble_eq_true rfl) dX1_choose_7 ?_
    obtain ⟨cv, h1, h2⟩ := hkn c_4
    exact ⟨rfl, Z, L, cv, hR, keepCh.rf, c_4, h1, h2⟩

def rwX (cv : Int) : Int32 := if cv = NO then -1 else nI (cv.toNat / 1099511627776)
def rbX (cv : Int) (i : Nat) : Int32 := if cv = NO then -1 else nI (cv.toNat / 2 ^ (5 * (7 - i)) % 32)
set_option maxRecDepth 100000 in
set_option maxHeartbeats 4000000 in
theorem c_X1_chosenWeight (l : Launch) (G : GG) {ad : NM → Nat} {np nb : Nat} {Z : ZT} {L : LT} {h : AH} (hR : Rm ad np nb Z L h) {cv : Int} (hcv : L (1, 0, 0) 4 = lI cv) (h0 : 0 ≤ cv) (h1 : cv ≤ NO)  : Con l G mX1_chosenWeight 0 0 0 [.ref (ad (1, 0, 0))] h (fun r h2 => r = some (.int (rwX cv)) ∧ h2 = h) := by
  have hrg : rg cv := ⟨by omega, Int.le_trans h1 rg_NO.2⟩
  refine Con.of 0 rfl (Nat.le_of_ble_eq_true rfl) ?_
  refine j_aload_n dX1_chosenWeight_0 rfl ?_
  refine gX1_17 rfl (hR.1 _ ⟨by first | assumption | exact Nat.zero_lt_one, rfl⟩) rfl dX1_chosenWeight_1 ?_
  rw [hcv]
  refine j_ldc2 (own := RX1) rfl wc_X1_15 dX1_chosenWeight_4 ?_
  rw [show (4611686018427387904 : Int64) = lI NO from lI_NO.symm]
  refine j_lcmp dX1_chosenWeight_7 ?_
  refine j_if_ne 15 dX1_chosenWeight_8 (by decide) (fun c_8 => ?_) (fun c_8 => ?_)
  · have hno : ¬ cv = NO := fun q => c_8 ((lg_cmp_eq _ _).mpr (by rw [q]))
    obtain ⟨k, rfl⟩ := Int.eq_ofNat_of_zero_le h0
    refine j_aload_n dX1_chosenWeight_15 rfl ?_
    refine gX1_17 rfl (hR.1 _ ⟨by first | assumption | exact Nat.zero_lt_one, rfl⟩) rfl dX1_chosenWeight_16 ?_
    rw [hcv]
    refine j_bipush (v := 40) dX1_chosenWeight_19 (by decide) ?_
    refine j_lshr dX1_chosenWeight_21 ?_
    rw [lI_shr hrg _ 40 sh40]
    refine j_l2i dX1_chosenWeight_22 ?_
    rw [show ((k : Int) / (2 ^ 40 : Nat)) = ((k / 2 ^ 40 : Nat) : Int) from rfl, lI_int]
    refine j_iret rfl (Nat.le_of_ble_eq_true rfl) (Nat.le_of_ble_eq_true rfl) dX1_chosenWeight_23 ?_
    exact ⟨by unfold rwX; rw [if_neg hno]; rfl, rfl⟩
  · have hno : cv = NO := (lI_eq hrg rg_NO).mp ((lg_cmp_eq _ _).mp c_8)
    refine j_iconst (v := (-1)) dX1_chosenWeight_11 (by decide) ?_
    refine j_goto 23 dX1_chosenWeight_12 (by decide) ?_
    refine j_iret rfl (Nat.le_of_ble_eq_true rfl) (Nat.le_of_ble_eq_true rfl) dX1_chosenWeight_23 ?_
    exact ⟨by unfold rwX; rw [if_pos hno], rfl⟩

set_option maxRecDepth 100000 in
set_option maxHeartbeats 4000000 in
theorem c_X1_chosenBell (l : Launch) (G : GG) {ad : NM → Nat} {np nb : Nat} {Z : ZT} {L : LT} {h : AH} (hR : Rm ad np nb Z L h) {cv : Int} (hcv : L (1, 0, 0) 4 = lI cv) (h0 : 0 ≤ cv) (h1 : cv ≤ NO) {i : Nat} (hi : i < 8) : Con l G mX1_chosenBell 1 0 0 [.ref (ad (1, 0, 0)), .int (nI i)] h (fun r h2 => r = some (.int (rbX cv i)) ∧ h2 = h) := by
  have hrg : rg cv := ⟨by omega, Int.le_trans h1 rg_NO.2⟩
  refine Con.of 0 rfl (Nat.le_of_ble_eq_true rfl) ?_
  refine j_aload_n dX1_chosenBell_0 rfl ?_
  refine gX1_17 rfl (hR.1 _ ⟨by first | assumption | exact Nat.zero_lt_one, rfl⟩) rfl dX1_chosenBell_1 ?_
  rw [hcv]
  refine j_ldc2 (own := RX1) rfl wc_X1_15 dX1_chosenBell_4 ?_
  rw [show (4611686018427387904 : Int64) = lI NO from lI_NO.symm]
  refine j_lcmp dX1_chosenBell_7 ?_
  refine j_if_ne 13 dX1_chosenBell_8 (by decide) (fun c_8 => ?_) (fun c_8 => ?_)
  · have hno : ¬ cv = NO := fun q => c_8 ((lg_cmp_eq _ _).mpr (by rw [q]))
    obtain ⟨k, rfl⟩ := Int.eq_ofNat_of_zero_le h0
    refine j_aload_n dX1_chosenBell_13 rfl ?_
    refine gX1_17 rfl (hR.1 _ ⟨by first | assumption | exact Nat.zero_lt_one, rfl⟩) rfl dX1_chosenBell_14 ?_
    rw [hcv]
    refine j_iload_n dX1_chosenBell_17 rfl ?_
    refine j_callS (rest := [.long (lI (k : Int))]) (c_X1_placeOf l G hi) cw_X1_placeOf wl_X1_51 ws_X1_placeOf rfl rfl (Nat.le_of_ble_eq_true rfl) (Nat.le_of_ble_eq_true rfl) (Nat.le_of_ble_eq_true rfl) (Nat.le_of_ble_eq_true rfl) (Nat.le_of_ble_eq_true rfl) dX1_chosenBell_18 (fun v_18 h_18 e_18 => ?_)
    obtain ⟨rfl, hh⟩ := e_18
    have hh := hh.symm
    subst hh
    refine j_lshr dX1_chosenBell_21 ?_
    rw [lI_shr hrg _ _ (shp5 hi)]
    refine j_l2i dX1_chosenBell_22 ?_
    rw [show ((k : Int) / (2 ^ (5 * (7 - i)) : Nat)) = ((k / 2 ^ (5 * (7 - i)) : Nat) : Int) from rfl, lI_int]
    refine j_bipush (v := 31) dX1_chosenBell_23 (by decide) ?_
    refine j_iand dX1_chosenBell_25 ?_
    rw [nI_and31]
    refine j_iret rfl (Nat.le_of_ble_eq_true rfl) (Nat.le_of_ble_eq_true rfl) dX1_chosenBell_26 ?_
    exact ⟨by unfold rbX; rw [if_neg hno]; rfl, rfl⟩
  · have hno : cv = NO := (lI_eq hrg rg_NO).mp ((lg_cmp_eq _ _).mp c_8)
    refine j_iconst (v := (-1)) dX1_chosenBell_11 (by decide) ?_
    refine j_iret rfl (Nat.le_of_ble_eq_true rfl) (Nat.le_of_ble_eq_true rfl) dX1_chosenBell_12 ?_
    exact ⟨by unfold rbX; rw [if_pos hno], rfl⟩

def chX (Z : ZT) (nb nn : Nat) (cv : Int) (Y : ZT) (M : LT) : Prop := keepCh Z Y ∧ ¬ Y (1, 0, 0) 3 = 0 ∧ M (1, 0, 0) 4 = lI cv ∧ CVok Z nb nn cv
set_option maxRecDepth 100000 in
set_option maxHeartbeats 4000000 in
theorem c_X4_ringWeight (l : Launch) (G : GG) {ad : NM → Nat} {np nb : Nat} {Z : ZT} {L : LT} {h : AH} (hR : Rm ad np nb Z L h) (hnb : Z (0, 0, 0) 3 = nI nb) (hb24 : nb ≤ 24) {nn : Nat} (hnn : Z (1, 0, 0) 1 = nI nn) (hn8 : nn ≤ 8) (hw : ∀ b, b < nb → wNow Z b = nI (cl (wNow Z b)) ∧ cl (wNow Z b) ≤ 44600) (hkn : ¬ Z (1, 0, 0) 3 = 0 → ∃ cv, L (1, 0, 0) 4 = lI cv ∧ CVok Z nb nn cv)  : Con l G mX4_ringWeight 7 0 0 [.ref (ad (0, 0, 0))] h (fun r h2 => ∃ Y M cv, r = some (.int (rwX cv)) ∧ Rm ad np nb Y M h2 ∧ chX Z nb nn cv Y M) := by
  refine Con.of 0 rfl (Nat.le_of_ble_eq_true rfl) ?_
  refine j_aload_n dX4_ringWeight_0 rfl ?_
  refine gX4_31 rfl (hR.1 _ ⟨by first | assumption | exact Nat.zero_lt_one, rfl⟩) rfl dX4_ringWeight_1 ?_
  refine j_aload_n dX4_ringWeight_4 rfl ?_
  refine gX4_17 rfl (hR.1 _ ⟨by first | assumption | exact Nat.zero_lt_one, rfl⟩) rfl dX4_ringWeight_5 ?_
  refine j_aload_n dX4_ringWeight_8 rfl ?_
  refine gX4_85 rfl (hR.1 _ ⟨by first | assumption | exact Nat.zero_lt_one, rfl⟩) rfl dX4_ringWeight_9 ?_
  rw [hnb]
  refine j_callV (rest := []) (c_X1_choose l G hR hb24 hnn hn8 hw hkn) (hR.1 _ ⟨by first | assumption | exact Nat.zero_lt_one, rfl⟩) rfl cw_X1_choose wl_X4_170 wm_X1_choose wx_X1_choose rfl rfl (Nat.le_of_ble_eq_true rfl) (Nat.le_of_ble_eq_true rfl) (Nat.le_of_ble_eq_true rfl) (Nat.le_of_ble_eq_true rfl) (Nat.le_of_ble_eq_true rfl) dX4_ringWeight_12 (fun v_12 h_12 e_12 => ?_)
  obtain ⟨rfl, Y, M, cv, hR, hx1, hx2, hx3, hx4⟩ := e_12
  refine j_aload_n dX4_ringWeight_15 rfl ?_
  refine gX4_31 rfl (hR.1 _ ⟨by first | assumption | exact Nat.zero_lt_one, rfl⟩) rfl dX4_ringWeight_16 ?_
  refine j_callV (rest := []) (c_X1_chosenWeight l G hR hx3 hx4.1 hx4.2.1) (hR.1 _ ⟨by first | assumption | exact Nat.zero_lt_one, rfl⟩) rfl cw_X1_chosenWeight wl_X4_174 wm_X1_chosenWeight wx_X1_chosenWeight rfl rfl (Nat.le_of_ble_eq_true rfl) (Nat.le_of_ble_eq_true rfl) (Nat.le_of_ble_eq_true rfl) (Nat.le_of_ble_eq_true rfl) (Nat.le_of_ble_eq_true rfl) dX4_ringWeight_19 (fun v_19 h_19 e_19 => ?_)
  obtain ⟨rfl, hh⟩ := e_19
  have hh := hh.symm
  subst hh
  refine j_iret rfl (Nat.le_of_ble_eq_true rfl) (Nat.le_of_ble_eq_true rfl) dX4_ringWeight_22 ?_
  exact ⟨Y, M, cv, rfl, hR, hx1, hx2, hx3, hx4⟩

set_option maxRecDepth 100000 in
set_option maxHeartbeats 4000000 in
theorem c_X4_ringBell (l : Launch) (G : GG) {ad : NM → Nat} {np nb : Nat} {Z : ZT} {L : LT} {h : AH} (hR : Rm ad np nb Z L h) (hnb : Z (0, 0, 0) 3 = nI nb) (hb24 : nb ≤ 24) {nn : Nat} (hnn : Z (1, 0, 0) 1 = nI nn) (hn8 : nn ≤ 8) (hw : ∀ b, b < nb → wNow Z b = nI (cl (wNow Z b)) ∧ cl (wNow Z b) ≤ 44600) (hkn : ¬ Z (1, 0, 0) 3 = 0 → ∃ cv, L (1, 0, 0) 4 = lI cv ∧ CVok Z nb nn cv) {v : Int32} : Con l G mX4_ringBell 7 0 0 [.ref (ad (0, 0, 0)), .int v] h (fun r h2 => ∃ Y M x, r = some (.int x) ∧ Rm ad np nb Y M h2 ∧ ((iw v 0 (nI nn - 1) = false ∧ x = -1 ∧ Y = Z ∧ M = L) ∨ (iw v 0 (nI nn - 1) = true ∧ ∃ cv, x = rbX cv (cl v) ∧ chX Z nb nn cv Y M))) := by
  refine Con.of 0 rfl (Nat.le_of_ble_eq_true rfl) ?_
  refine j_iload_n dX4_ringBell_0 rfl ?_
  refine j_iconst (v := 0) dX4_ringBell_1 (by decide) ?_
  refine j_aload_n dX4_ringBell_2 rfl ?_
  refine gX4_31 rfl (hR.1 _ ⟨by first | assumption | exact Nat.zero_lt_one, rfl⟩) rfl dX4_ringBell_3 ?_
  refine gX4_161 rfl (hR.1 _ ⟨by first | assumption | exact Nat.zero_lt_one, rfl⟩) rfl dX4_ringBell_6 ?_
  rw [hnn]
  refine j_iconst (v := 1) dX4_ringBell_9 (by decide) ?_
  refine j_isub dX4_ringBell_10 ?_
  refine j_callS (rest := []) (c_X4_within l G) cw_X4_within wl_X4_43 ws_X4_within rfl rfl (Nat.le_of_ble_eq_true rfl) (Nat.le_of_ble_eq_true rfl) (Nat.le_of_ble_eq_true rfl) (Nat.le_of_ble_eq_true rfl) (Nat.le_of_ble_eq_true rfl) dX4_ringBell_11 (fun v_11 h_11 e_11 => ?_)
  obtain ⟨rfl, hh⟩ := e_11
  have hh := hh.symm
  subst hh
  refine j_if_ne 19 dX4_ringBell_14 (by decide) (fun c_14 => ?_) (fun c_14 => ?_)
  · have g_14 := (bi_ne0 _).mp c_14
    obtain ⟨i, hi, rfl, hcl⟩ := iw_lt (by omega) g_14
    have hcl : cl (nI i) = i := hcl
    refine j_aload_n dX4_ringBell_19 rfl ?_
    refine gX4_31 rfl (hR.1 _ ⟨by first | assumption | exact Nat.zero_lt_one, rfl⟩) rfl dX4_ringBell_20 ?_
    refine j_aload_n dX4_ringBell_23 rfl ?_
    refine gX4_17 rfl (hR.1 _ ⟨by first | assumption | exact Nat.zero_lt_one, rfl⟩) rfl dX4_ringBell_24 ?_
    refine j_aload_n dX4_ringBell_27 rfl ?_
    refine gX4_85 rfl (hR.1 _ ⟨by first | assumption | exact Nat.zero_lt_one, rfl⟩) rfl dX4_ringBell_28 ?_
    rw [hnb]
    refine j_callV (rest := []) (c_X1_choose l G hR hb24 hnn hn8 hw hkn) (hR.1 _ ⟨by first | assumption | exact Nat.zero_lt_one, rfl⟩) rfl cw_X1_choose wl_X4_170 wm_X1_choose wx_X1_choose rfl rfl (Nat.le_of_ble_eq_true rfl) (Nat.le_of_ble_eq_true rfl) (Nat.le_of_ble_eq_true rfl) (Nat.le_of_ble_eq_true rfl) (Nat.le_of_ble_eq_true rfl) dX4_ringBell_31 (fun v_31 h_31 e_31 => ?_)
    obtain ⟨rfl, Y, M, cv, hR, hx1, hx2, hx3, hx4⟩ := e_31
    refine j_aload_n dX4_ringBell_34 rfl ?_
    refine gX4_31 rfl (hR.1 _ ⟨by first | assumption | exact Nat.zero_lt_one, rfl⟩) rfl dX4_ringBell_35 ?_
    refine j_iload_n dX4_ringBell_38 rfl ?_
    refine j_callV (rest := []) (c_X1_chosenBell l G hR hx3 hx4.1 hx4.2.1 (i := i) (by omega)) (hR.1 _ ⟨by first | assumption | exact Nat.zero_lt_one, rfl⟩) rfl cw_X1_chosenBell wl_X4_177 wm_X1_chosenBell wx_X1_chosenBell rfl rfl (Nat.le_of_ble_eq_true rfl) (Nat.le_of_ble_eq_true rfl) (Nat.le_of_ble_eq_true rfl) (Nat.le_of_ble_eq_true rfl) (Nat.le_of_ble_eq_true rfl) dX4_ringBell_39 (fun v_39 h_39 e_39 => ?_)
    obtain ⟨rfl, hh⟩ := e_39
    have hh := hh.symm
    subst hh
    refine j_iret rfl (Nat.le_of_ble_eq_true rfl) (Nat.le_of_ble_eq_true rfl) dX4_ringBell_42 ?_
    exact ⟨Y, M, _, rfl, hR, Or.inr ⟨g_14, cv, by rw [hcl], hx1, hx2, hx3, hx4⟩⟩
  · have g_14 := (bi_eq0 _).mp c_14
    refine j_iconst (v := (-1)) dX4_ringBell_17 (by decide) ?_
    refine j_iret rfl (Nat.le_of_ble_eq_true rfl) (Nat.le_of_ble_eq_true rfl) dX4_ringBell_18 ?_
    exact ⟨Z, L, _, rfl, hR, Or.inl ⟨g_14, rfl, rfl, rfl⟩⟩

