def keepS (b : Nat) (Z Y : ZT) : Prop := ∀ m, m ≠ (3, 0, 4) → m ≠ (4, b, 7) → Y m = Z m
theorem keepS.rf {b : Nat} {Z : ZT} : keepS b Z Z := fun _ _ _ => rfl
theorem keepS.tr {b : Nat} {Z Y X : ZT} (h : keepS b Z Y) (h2 : keepS b Y X) : keepS b Z X := fun m h3 h4 => (h2 m h3 h4).trans (h m h3 h4)
theorem keepS.of1 {b : Nat} {Z Y : ZT} (h : keep1 (3, 0, 4) Z Y) : keepS b Z Y := fun m h3 _ => h m h3
theorem keepS.up {b : Nat} {Z Y : ZT} (h : keepS b Z Y) (k : Nat) (v : Int32) : keepS b Z (upZ Y (4, b, 7) k v) := fun m h3 h4 => by rw [upZ_ne h4]; exact h m h3 h4
def xtb (Z : ZT) (b : Nat) : Nat → Nat → Int32 := fun q i => Z (6, b, 3) (q * 8 + i)
/-- what the tuner's rows say of a bell that is prepared -/
def TI (Z : ZT) (b : Nat) (r : Nat → Nat) : Prop :=
  (∀ i, i < 8 → Z (4, b, 3) i - Z (6, b, 5) i = nI (r i) ∧ r i ≤ 99) ∧ (∀ k, k ≤ 8 → Z (3, 0, 5) k = nI (sm r 8 - sm r k)) ∧ (∀ q i, q < 5 → i < 8 → -50 ≤ (xtb Z b q i).toInt ∧ (xtb Z b q i).toInt ≤ 50)
  ∧ (∀ k q, k ≤ 8 → q < 5 → (-50 ≤ (Z (3, 0, 7) (k * 5 + q)).toInt ∧ (Z (3, 0, 7) (k * 5 + q)).toInt ≤ 50) ∧ (-50 ≤ (Z (3, 0, 6) (k * 5 + q)).toInt ∧ (Z (3, 0, 6) (k * 5 + q)).toInt ≤ 50))
  ∧ ∀ k q i, k ≤ 8 → q < 5 → k ≤ i → i < 8 → 0 < r i → (Z (3, 0, 7) (k * 5 + q)).toInt ≤ (xtb Z b q i).toInt ∧ (xtb Z b q i).toInt ≤ (Z (3, 0, 6) (k * 5 + q)).toInt
theorem keepS.e {b : Nat} {Z Y : ZT} (h : keepS b Z Y) : Y (4, b, 3) = Z (4, b, 3) ∧ Y (6, b, 5) = Z (6, b, 5) ∧ Y (6, b, 3) = Z (6, b, 3) ∧ Y (3, 0, 5) = Z (3, 0, 5) ∧ Y (3, 0, 6) = Z (3, 0, 6) ∧ Y (3, 0, 7) = Z (3, 0, 7) ∧ Y (3, 0, 1) = Z (3, 0, 1) ∧ Y (3, 0, 2) = Z (3, 0, 2) :=
  ⟨h _ (by simp) (by simp), h _ (by simp) (by simp), h _ (by simp) (by simp), h _ (by simp) (by simp), h _ (by simp) (by simp), h _ (by simp) (by simp), h _ (by simp) (by simp), h _ (by simp) (by simp)⟩
theorem TI.keep {Z Y : ZT} {b : Nat} {r : Nat → Nat} (h : TI Z b r) (hk : keepS b Z Y) : TI Y b r := by
  obtain ⟨e1, e2, e3, e4, e5, e6, -, -⟩ := hk.e
  unfold TI xtb at h ⊢
  rw [e1, e2, e3, e4, e5, e6]
  exact h
theorem xtb_keep {Z Y : ZT} {b : Nat} (hk : keepS b Z Y) : xtb Y b = xtb Z b := by
  unfold xtb
  rw [hk.e.2.2.1]
theorem nI_max0 {a b : Nat} (ha : a < 1073741824) (hb : b < 1073741824) : (if (0 : Int32) < nI a - nI b then nI a - nI b else 0) = nI (a - b) := by
  rcases Nat.lt_or_ge b a with h | h
  · rw [pk_sub (by omega)]
    exact if_pos (nI_lt (a := 0) (b := a - b) (by omega) (by omega))
  · rw [if_neg, show a - b = 0 by omega]
    · rfl
    · intro q
      have q := Int32.lt_iff_toInt_lt.mp q
      rw [pk_sub_toInt ha hb, show (0 : Int32).toInt = 0 from rfl] at q
      omega
theorem nI_min {a b : Nat} (ha : a < 2147483648) (hb : b < 2147483648) : (if nI b < nI a then nI b else nI a) = nI (min a b) := by
  by_cases h : b < a
  · rw [if_pos ((nI_ltI hb ha).mpr h), show min a b = b by omega]
  · rw [if_neg (fun q => h ((nI_ltI hb ha).mp q)), show min a b = a by omega]
theorem low_step (v t : Int32) (x : Nat) : v - nI x * t - 1 * t = v - nI (x + 1) * t := by
  rw [← nI_1, Int32.add_mul, Int32.sub_eq_add_neg, Int32.sub_eq_add_neg, Int32.sub_eq_add_neg, Int32.neg_add, Int32.add_assoc, Int32.sub_eq_add_neg]
theorem low_back (v t : Int32) (x : Nat) : v - nI x * t - -nI x * t = v := by
  rw [Int32.neg_mul, Int32.sub_eq_add_neg (v - nI x * t), Int32.neg_neg, Int32.sub_add_cancel]
set_option maxRecDepth 100000 in
set_option maxHeartbeats 8000000 in
theorem c_X3_search (l : Launch) (G : GG) {ad : NM → Nat} {np nb : Nat} {L : LT} {b : Nat} {r : Nat → Nat} : ∀ (k h : Nat), h + k = 8 → ∀ {Z : ZT} {h0 : AH}, Rm ad np nb Z L h0 → TI Z b r → b < nb → (∀ q, q < 5 → -60000 - 1000 * (h : Int) ≤ (Z (3, 0, 4) q).toInt ∧ (Z (3, 0, 4) q).toInt ≤ 60000 + 1000 * (h : Int)) → (∀ i, h ≤ i → i < 8 → Z (4, b, 7) i = 0) → ∀ {left : Nat}, left ≤ 12 → Con l G mX3_search (k + 2) 0 0 [.ref (ad (3, 0, 0)), .ref (ad (4, b, 0)), .int (nI h), .int (nI left)] h0 (fun rr h2 => ∃ Y, Rm ad np nb Y L h2 ∧ keepS b Z Y ∧ ((rr = some (.int 0) ∧ (∀ c, ¬ okS r (xtb Z b) (Z (3, 0, 4)) (Z (3, 0, 1)) (Z (3, 0, 2)) h left c) ∧ (∀ q, q < 5 → Y (3, 0, 4) q = Z (3, 0, 4) q) ∧ Y (4, b, 7) = Z (4, b, 7)) ∨ (rr = some (.int 1) ∧ ∃ c, FirstS r (xtb Z b) (Z (3, 0, 4)) (Z (3, 0, 1)) (Z (3, 0, 2)) h left c ∧ (∀ i, h ≤ i → i < 8 → Y (4, b, 7) i = nI (c i)) ∧ ∀ i, i < h → Y (4, b, 7) i = Z (4, b, 7) i))) := by
  intro k
  induction k with
  | zero =>
    intro h hk Z h0 hR hT hb hV hpl left hleft
    have h8 : h = 8 := by omega
    refine Con.of 2 rfl (Nat.le_of_ble_eq_true rfl) ?_
    refine j_aload_n dX3_search_0 rfl ?_
    refine j_iload_n dX3_search_1 rfl ?_
    refine j_iload_n dX3_search_2 rfl ?_
    refine j_callV (rest := []) (c_X3_mayReach l G hR (k := h) (left := left) (by omega)) (hR.1 _ ⟨by first | assumption | exact Nat.zero_lt_one, rfl⟩) rfl cw_X3_mayReach wl_X3_82 wm_X3_mayReach wx_X3_mayReach rfl rfl (Nat.le_of_ble_eq_true rfl) (Nat.le_of_ble_eq_true rfl) (Nat.le_of_ble_eq_true rfl) (Nat.le_of_ble_eq_true rfl) (Nat.le_of_ble_eq_true rfl) dX3_search_3 (fun v_3 h_3 e_3 => ?_)
    obtain ⟨rfl, hh⟩ := e_3
    have hh := hh.symm
    subst hh
    refine j_if_ne 11 dX3_search_6 (by decide) (fun c_6 => ?_) (fun c_6 => ?_)
    · have g_6 := (bi_ne0 _).mp c_6
      refine j_iload_n dX3_search_11 rfl ?_
      refine j_if_ne 17 dX3_search_12 (by decide) (fun c_12 => ?_) (fun c_12 => ?_)
      · have hl0 : left ≠ 0 := fun q => c_12 (by rw [q]; rfl)
        refine j_iload_n dX3_search_17 rfl ?_
        refine j_bipush (v := 8) dX3_search_18 (by decide) ?_
        refine j_icmp_lt 25 dX3_search_20 (by decide) (fun c_20 => ?_) (fun c_20 => ?_)
        · exact absurd ((nI_ltI (a := h) (b := 8) (by omega) (by omega)).mp c_20) (by omega)
        · have hnone : ∀ c, ¬ okS r (xtb Z b) (Z (3, 0, 4)) (Z (3, 0, 1)) (Z (3, 0, 2)) h left c := fun c hc => hl0 (by rw [h8] at hc; exact okS_8 hc)
          refine j_iconst (v := 0) dX3_search_23 (by decide) ?_
          refine j_zret rfl rfl (Nat.le_of_ble_eq_true rfl) (Nat.le_of_ble_eq_true rfl) dX3_search_24 ?_
          exact ⟨Z, hR, keepS.rf, Or.inl ⟨rfl, hnone, fun _ _ => rfl, rfl⟩⟩
      · have hl0 : left = 0 := by
          rcases Nat.eq_zero_or_pos left with q | q
          · exact q
          · exact absurd c_12 (nI_ne0 q (by omega))
        subst hl0
        refine j_iconst (v := 1) dX3_search_15 (by decide) ?_
        refine j_zret rfl rfl (Nat.le_of_ble_eq_true rfl) (Nat.le_of_ble_eq_true rfl) dX3_search_16 ?_
        exact ⟨Z, hR, keepS.rf, Or.inr ⟨rfl, _, okS_0 (by omega) (reachB_0 g_6), hpl, fun _ _ => rfl⟩⟩
    · have g_6 := (bi_eq0 _).mp c_6
      have hnone : ∀ c, ¬ okS r (xtb Z b) (Z (3, 0, 4)) (Z (3, 0, 1)) (Z (3, 0, 2)) h left c := fun c hc => by
        have := reachB_ok (lo := fun q => Z (3, 0, 7) (h * 5 + q)) (hi := fun q => Z (3, 0, 6) (h * 5 + q)) (by omega) hleft hT.2.2.1 (fun q hq => by have := hV q hq; omega) (fun q hq => hT.2.2.2.1 h q (by omega) hq) (fun q i hq h1 h2 h3 => hT.2.2.2.2 h q i (by omega) hq h1 h2 h3) hc
        rw [this] at g_6
        cases g_6
      refine j_iconst (v := 0) dX3_search_9 (by decide) ?_
      refine j_zret rfl rfl (Nat.le_of_ble_eq_true rfl) (Nat.le_of_ble_eq_true rfl) dX3_search_10 ?_
      exact ⟨Z, hR, keepS.rf, Or.inl ⟨rfl, hnone, fun _ _ => rfl, rfl⟩⟩
  | succ k ih =>
    intro h hk Z h0 hR hT hb hV hpl left hleft
    have hl8 : h < 8 := by omega
    refine Con.of 2 rfl (Nat.le_of_ble_eq_true rfl) ?_
    have hrh := (hT.1 h hl8).2
    have hrs : sm r 8 - sm r (h + 1) ≤ 792 := by
      have a : ∀ n, n ≤ 8 → sm r n ≤ 99 * n := by
        intro n
        induction n with
        | zero => intro _; exact Nat.le_refl _
        | succ n ihn =>
          intro hn
          have := ihn (by omega)
          have := (hT.1 n (by omega)).2
          rw [sm]
          omega
      have := a 8 (by omega)
      omega
    refine j_aload_n dX3_search_0 rfl ?_
    refine j_iload_n dX3_search_1 rfl ?_
    refine j_iload_n dX3_search_2 rfl ?_
    refine j_callV (rest := []) (c_X3_mayReach l G hR (k := h) (left := left) (by omega)) (hR.1 _ ⟨by first | assumption | exact Nat.zero_lt_one, rfl⟩) rfl cw_X3_mayReach wl_X3_82 wm_X3_mayReach wx_X3_mayReach rfl rfl (Nat.le_of_ble_eq_true rfl) (by show 0 + 1 ≤ k + 1 + 2; omega) (by show 40 * (0 + 1) ≤ 40 * (k + 1 + 2); omega) (Nat.le_of_ble_eq_true rfl) (Nat.le_of_ble_eq_true rfl) dX3_search_3 (fun v_3 h_3 e_3 => ?_)
    obtain ⟨rfl, hh⟩ := e_3
    have hh := hh.symm
    subst hh
    refine j_if_ne 11 dX3_search_6 (by decide) (fun c_6 => ?_) (fun c_6 => ?_)
    · have g_6 := (bi_ne0 _).mp c_6
      refine j_iload_n dX3_search_11 rfl ?_
      refine j_if_ne 17 dX3_search_12 (by decide) (fun c_12 => ?_) (fun c_12 => ?_)
      · have hl0 : left ≠ 0 := fun q => c_12 (by rw [q]; rfl)
        refine j_iload_n dX3_search_17 rfl ?_
        refine j_bipush (v := 8) dX3_search_18 (by decide) ?_
        refine j_icmp_lt 25 dX3_search_20 (by decide) (fun c_20 => ?_) (fun c_20 => ?_)
        · refine j_aload_n dX3_search_25 rfl ?_
          refine j_iload_n dX3_search_26 rfl ?_
          refine j_callV (rest := []) (c_X0_roomAt l G hR hb hl8) (hR.1 _ ⟨by first | assumption | exact Nat.zero_lt_one, rfl⟩) rfl cw_X0_roomAt wl_X3_73 wm_X0_roomAt wx_X0_roomAt rfl rfl (Nat.le_of_ble_eq_true rfl) (by show 0 + 1 ≤ k + 1 + 2; omega) (by show 40 * (0 + 1) ≤ 40 * (k + 1 + 2); omega) (Nat.le_of_ble_eq_true rfl) (Nat.le_of_ble_eq_true rfl) dX3_search_27 (fun v_27 h_27 e_27 => ?_)
          obtain ⟨rfl, hh9⟩ := e_27
          have hh9 := hh9.symm
          subst hh9
          rw [(hT.1 h hl8).1]
          refine j_iload_n dX3_search_30 rfl ?_
          refine j_mmin wl_X3_55 ws_J9_min_7cf53 (Nat.le_of_ble_eq_true rfl) (by show 1 ≤ k + 1 + 2; omega) (by show 40 ≤ 40 * (k + 1 + 2); omega) (Nat.le_of_ble_eq_true rfl) (Nat.le_of_ble_eq_true rfl) dX3_search_31 ?_
          rw [nI_min (a := r h) (b := left) (by omega) (by omega)]
          refine j_istore dX3_search_34 (Nat.le_of_ble_eq_true rfl) rfl ?_
          refine j_iconst (v := 0) dX3_search_36 (by decide) ?_
          refine j_iload_n dX3_search_37 rfl ?_
          refine j_aload_n dX3_search_38 rfl ?_
          refine gX3_27 rfl (hR.1 _ ⟨by first | assumption | exact Nat.zero_lt_one, rfl⟩) rfl dX3_search_39 ?_
          refine j_iload_n dX3_search_42 rfl ?_
          refine j_iconst (v := 1) dX3_search_43 (by decide) ?_
          refine j_iadd dX3_search_44 ?_
          refine j_iald (hR.1 _ ⟨by first | assumption | exact Nat.zero_lt_one, rfl⟩) (h + 1) (nI_1 h) (by omega) (by decide) dX3_search_45 ?_
          rw [hT.2.1 (h + 1) (by omega)]
          refine j_isub dX3_search_46 ?_
          refine j_mmax wl_X3_79 ws_J9_max_7cf53 (Nat.le_of_ble_eq_true rfl) (by show 1 ≤ k + 1 + 2; omega) (by show 40 ≤ 40 * (k + 1 + 2); omega) (Nat.le_of_ble_eq_true rfl) (Nat.le_of_ble_eq_true rfl) dX3_search_47 ?_
          rw [nI_max0 (by omega) (by omega)]
          refine j_istore dX3_search_50 (Nat.le_of_ble_eq_true rfl) rfl ?_
          refine j_aload_n dX3_search_52 rfl ?_
          refine j_aload_n dX3_search_53 rfl ?_
          refine j_iload_n dX3_search_54 rfl ?_
          refine j_iload dX3_search_55 rfl ?_
          refine j_callV (rest := []) (c_X3_lower l G hR hb hl8) (hR.1 _ ⟨by first | assumption | exact Nat.zero_lt_one, rfl⟩) rfl cw_X3_lower wl_X3_86 wm_X3_lower wx_X3_lower rfl rfl (Nat.le_of_ble_eq_true rfl) (by show 1 + 1 ≤ k + 1 + 2; omega) (by show 40 * (1 + 1) ≤ 40 * (k + 1 + 2); omega) (Nat.le_of_ble_eq_true rfl) (Nat.le_of_ble_eq_true rfl) dX3_search_57 (fun v_57 h_57 e_57 => ?_)
          obtain ⟨rfl, Y, hR1, hkp, hval⟩ := e_57
          have kx : ∀ nn x, 100 < x + nn → x ≤ 13 → ∀ h9 Y, Rm ad np nb Y L h9 → keepS b Z Y → (∀ q, q < 5 → Y (3, 0, 4) q = Z (3, 0, 4) q - nI x * Z (6, b, 3) (q * 8 + h)) → Y (4, b, 7) = Z (4, b, 7) → (∀ d, okS r (xtb Z b) (Z (3, 0, 4)) (Z (3, 0, 1)) (Z (3, 0, 2)) h left d → ¬ d h < x) → J (thM l G mX3_search (k + 1 + 2) 0 0 (fun rr h2 => ∃ Y, Rm ad np nb Y L h2 ∧ keepS b Z Y ∧ ((rr = some (.int 0) ∧ (∀ c, ¬ okS r (xtb Z b) (Z (3, 0, 4)) (Z (3, 0, 1)) (Z (3, 0, 2)) h left c) ∧ (∀ q, q < 5 → Y (3, 0, 4) q = Z (3, 0, 4) q) ∧ Y (4, b, 7) = Z (4, b, 7)) ∨ (rr = some (.int 1) ∧ ∃ c, FirstS r (xtb Z b) (Z (3, 0, 4)) (Z (3, 0, 1)) (Z (3, 0, 2)) h left c ∧ (∀ i, h ≤ i → i < 8 → Y (4, b, 7) i = nI (c i)) ∧ ∀ i, i < h → Y (4, b, 7) i = Z (4, b, 7) i)))) cX3_search h9 (0, 0) [some (.ref (ad (3, 0, 0))), some (.ref (ad (4, b, 0))), some (.int (nI h)), some (.int (nI left)), some (.int (nI (min (r h) left))), some (.int (nI x))] 60 [] := by
            intro nn
            induction nn with
            | zero => intro x h1 h2; omega
            | succ nn ihx =>
              intro x h1 h2 h9 Y hR hkp hval hpe hno
              refine j_iload dX3_search_60 rfl ?_
              refine j_iload dX3_search_62 rfl ?_
              refine j_icmp_gt 105 dX3_search_64 (by decide) (fun c_64 => ?_) (fun c_64 => ?_)
              · have hgt : min (r h) left < x := (nI_ltI (by omega) (by omega)).mp c_64
                refine j_aload_n dX3_search_105 rfl ?_
                refine j_aload_n dX3_search_106 rfl ?_
                refine j_iload_n dX3_search_107 rfl ?_
                refine j_iload dX3_search_108 rfl ?_
                refine j_ineg dX3_search_110 ?_
                refine j_callV (rest := []) (c_X3_lower l G hR hb hl8) (hR.1 _ ⟨by first | assumption | exact Nat.zero_lt_one, rfl⟩) rfl cw_X3_lower wl_X3_86 wm_X3_lower wx_X3_lower rfl rfl (Nat.le_of_ble_eq_true rfl) (by show 1 + 1 ≤ k + 1 + 2; omega) (by show 40 * (1 + 1) ≤ 40 * (k + 1 + 2); omega) (Nat.le_of_ble_eq_true rfl) (Nat.le_of_ble_eq_true rfl) dX3_search_111 (fun v_111 h_111 e_111 => ?_)
                obtain ⟨rfl, Y4, hR, hkp4, hv4⟩ := e_111
                refine j_iconst (v := 0) dX3_search_114 (by decide) ?_
                refine j_zret rfl rfl (Nat.le_of_ble_eq_true rfl) (Nat.le_of_ble_eq_true rfl) dX3_search_115 ?_
                refine ⟨Y4, hR, hkp.tr (keepS.of1 hkp4), Or.inl ⟨rfl, fun c hc => ?_, fun q hq => ?_, ?_⟩⟩
                · obtain ⟨h1, h2, -⟩ := (okS_step hl8).mp hc
                  exact hno c hc (by omega)
                · rw [hv4 q hq, hval q hq, hkp.e.2.2.1]
                  exact low_back _ _ _
                · rw [hkp4 (4, b, 7) (by simp), hpe]
              · have hle : x ≤ min (r h) left := Nat.not_lt.mp (fun q => c_64 ((nI_ltI (by omega) (by omega)).mpr q))
                refine j_aload_n dX3_search_67 rfl ?_
                refine j_aload_n dX3_search_68 rfl ?_
                refine j_iload_n dX3_search_69 rfl ?_
                refine j_iconst (v := 1) dX3_search_70 (by decide) ?_
                refine j_iadd dX3_search_71 ?_
                rw [nI_1]
                refine j_iload_n dX3_search_72 rfl ?_
                refine j_iload dX3_search_73 rfl ?_
                refine j_isub dX3_search_75 ?_
                rw [pk_sub (show x ≤ left by omega)]
                refine j_callS (rest := []) (ih (h + 1) (by omega) hR (hT.keep hkp) hb (by
                  intro q hq
                  have e1 := hV q hq
                  have e2 := hT.2.2.1 q h hq (by omega)
                  have e3 := mul_bd (c := x) e2.1 e2.2
                  rw [hval q hq]
                  have e4 : (nI x * Z (6, b, 3) (q * 8 + h)).toInt = (xtb Z b q h).toInt * (x : Int) := by
                    rw [Int32.mul_comm, Kit.i32_mul, nI_toInt (by omega)]
                    · rfl
                    · rw [nI_toInt (by omega)]; show _ ≤ (xtb Z b q h).toInt * _; omega
                    · rw [nI_toInt (by omega)]; show (xtb Z b q h).toInt * _ < _; omega
                  rw [Kit.i32_sub (by rw [e4]; omega) (by rw [e4]; omega), e4]
                  omega) (fun i h1 h2 => by rw [hpe]; exact hpl i (by omega) h2) (left := left - x) (by omega)) cw_X3_search wl_X3_61 ws_X3_search rfl rfl (Nat.le_of_ble_eq_true rfl) (by show k + 2 + 1 ≤ k + 1 + 2; omega) (by show 40 * (k + 2 + 1) ≤ 40 * (k + 1 + 2); omega) (Nat.le_of_ble_eq_true rfl) (Nat.le_of_ble_eq_true rfl) dX3_search_76 (fun v_76 h_76 e_76 => ?_)
                obtain ⟨Y2, hR, hkp2, hor⟩ := e_76
                have eV : ∀ q, q < 5 → Y (3, 0, 4) q = Z (3, 0, 4) q - xtb Z b q h * nI x := fun q hq => by rw [hval q hq, Int32.mul_comm]; rfl
                have ex := xtb_keep hkp
                have ef : Y (3, 0, 1) = Z (3, 0, 1) := hkp.e.2.2.2.2.2.2.1
                have et : Y (3, 0, 2) = Z (3, 0, 2) := hkp.e.2.2.2.2.2.2.2
                rcases hor with ⟨rfl, hnone, hv2, hp2⟩ | ⟨rfl, c, hF, hp2, hp3⟩
                · refine j_if_eq 92 dX3_search_79 (by decide) (fun c_79 => ?_) (fun c_79 => absurd rfl c_79)
                  have hno2 : ∀ d, okS r (xtb Z b) (Z (3, 0, 4)) (Z (3, 0, 1)) (Z (3, 0, 2)) h left d → ¬ d h < x + 1 := fun d hd hlt => by
                    rcases Nat.lt_or_ge (d h) x with q | q
                    · exact hno d hd q
                    · have hdx : d h = x := by omega
                      obtain ⟨-, -, hd2⟩ := (okS_step hl8).mp hd
                      rw [hdx] at hd2
                      refine hnone d ?_
                      rw [ex, ef, et]
                      exact okS_congr (fun q hq => (eV q hq).symm) (fun _ _ _ => rfl) hd2 (by omega)
                  refine j_iinc dX3_search_92 rfl (nI_inc _) (Nat.le_of_ble_eq_true rfl) rfl ?_
                  refine j_aload_n dX3_search_95 rfl ?_
                  refine j_aload_n dX3_search_96 rfl ?_
                  refine j_iload_n dX3_search_97 rfl ?_
                  refine j_iconst (v := 1) dX3_search_98 (by decide) ?_
                  refine j_callV (rest := []) (c_X3_lower l G hR hb hl8) (hR.1 _ ⟨by first | assumption | exact Nat.zero_lt_one, rfl⟩) rfl cw_X3_lower wl_X3_86 wm_X3_lower wx_X3_lower rfl rfl (Nat.le_of_ble_eq_true rfl) (by show 1 + 1 ≤ k + 1 + 2; omega) (by show 40 * (1 + 1) ≤ 40 * (k + 1 + 2); omega) (Nat.le_of_ble_eq_true rfl) (Nat.le_of_ble_eq_true rfl) dX3_search_99 (fun v_99 h_99 e_99 => ?_)
                  obtain ⟨rfl, Y3, hR, hkp3, hv3⟩ := e_99
                  refine j_goto 60 dX3_search_102 (by decide) ?_
                  exact ihx (x + 1) (by omega) (by omega) _ _ hR ((hkp.tr hkp2).tr (keepS.of1 hkp3)) (fun q hq => by
                    rw [hv3 q hq, hv2 q hq, hval q hq, hkp2.e.2.2.1, hkp.e.2.2.1]
                    exact low_step _ _ _) (by rw [hkp3 (4, b, 7) (by simp), hp2, hpe]) hno2
                · refine j_if_eq 92 dX3_search_79 (by decide) (fun c_79 => absurd c_79 (by decide)) (fun c_79 => ?_)
                  refine j_aload_n dX3_search_82 rfl ?_
                  refine gX3_48 rfl (hR.1 _ ⟨by first | assumption | exact Nat.zero_lt_one, rfl⟩) rfl dX3_search_83 ?_
                  refine j_iload_n dX3_search_86 rfl ?_
                  refine j_iload dX3_search_87 rfl ?_
                  refine r_iast hR ⟨hb, rfl⟩ (fun _ => rfl) h rfl hl8 (by decide) dX3_search_89 (fun h9 hR => ?_)
                  refine j_iconst (v := 1) dX3_search_90 (by decide) ?_
                  refine j_zret rfl rfl (Nat.le_of_ble_eq_true rfl) (Nat.le_of_ble_eq_true rfl) dX3_search_91 ?_
                  refine ⟨_, hR, (hkp.tr hkp2).up _ _, Or.inr ⟨rfl, setc c h x, FirstS_step hl8 (by omega) (by omega) hno ?_, fun i h1 h2 => ?_, fun i h1 => ?_⟩⟩
                  · rw [ex, ef, et] at hF
                    refine ⟨okS_congr eV (fun _ _ _ => rfl) hF.1 (by omega), fun d hd hl => hF.2 d ?_ hl⟩
                    exact okS_congr (fun q hq => (eV q hq).symm) (fun _ _ _ => rfl) hd (by omega)
                  · rcases Nat.lt_or_ge h i with q | q
                    · rw [upZ_nk (Or.inr (by omega)), setc_ne (by omega)]
                      exact hp2 i (by omega) h2
                    · obtain rfl : i = h := by omega
                      rw [upZ_at, setc_at]
                  · rw [upZ_nk (Or.inr (by omega)), hp3 i (by omega), hpe]
          exact kx 101 _ (by omega) (by omega) _ _ hR1 (keepS.of1 hkp) hval (hkp _ (by simp)) (fun d hd hlt => by
            obtain ⟨-, h2, h3⟩ := (okS_step hl8).mp hd
            have := okS_room h3 (by omega)
            omega)
        · exact absurd ((nI_ltI (a := h) (b := 8) (by omega) (by omega)).mpr hl8) c_20
      · have hl0 : left = 0 := by
          rcases Nat.eq_zero_or_pos left with q | q
          · exact q
          · exact absurd c_12 (nI_ne0 q (by omega))
        subst hl0
        refine j_iconst (v := 1) dX3_search_15 (by decide) ?_
        refine j_zret rfl rfl (Nat.le_of_ble_eq_true rfl) (Nat.le_of_ble_eq_true rfl) dX3_search_16 ?_
        exact ⟨Z, hR, keepS.rf, Or.inr ⟨rfl, _, okS_0 (by omega) (reachB_0 g_6), hpl, fun _ _ => rfl⟩⟩
    · have g_6 := (bi_eq0 _).mp c_6
      have hnone : ∀ c, ¬ okS r (xtb Z b) (Z (3, 0, 4)) (Z (3, 0, 1)) (Z (3, 0, 2)) h left c := fun c hc => by
        have := reachB_ok (lo := fun q => Z (3, 0, 7) (h * 5 + q)) (hi := fun q => Z (3, 0, 6) (h * 5 + q)) (by omega) hleft hT.2.2.1 (fun q hq => by have := hV q hq; omega) (fun q hq => hT.2.2.2.1 h q (by omega) hq) (fun q i hq h1 h2 h3 => hT.2.2.2.2 h q i (by omega) hq h1 h2 h3) hc
        rw [this] at g_6
        cases g_6
      refine j_iconst (v := 0) dX3_search_9 (by decide) ?_
      refine j_zret rfl rfl (Nat.le_of_ble_eq_true rfl) (Nat.le_of_ble_eq_true rfl) dX3_search_10 ?_
      exact ⟨Z, hR, keepS.rf, Or.inl ⟨rfl, hnone, fun _ _ => rfl, rfl⟩⟩

