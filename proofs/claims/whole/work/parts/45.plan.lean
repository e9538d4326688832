def setZ (Z : ZT) (n : NM) (g : Nat → Int32) : ZT := fun m => if m = n then g else Z m
theorem setZ_self (Z : ZT) (n : NM) (g : Nat → Int32) : setZ Z n g n = g := if_pos rfl
theorem setZ_ne {Z : ZT} {n m : NM} {g : Nat → Int32} (h : m ≠ n) : setZ Z n g m = Z m := if_neg h
theorem Rm.setz {ad : NM → Nat} {np nb : Nat} {Z : ZT} {L : LT} {h : AH} (hR : Rm ad np nb Z L h) (n : NM) (g : Nat → Int32) (hn : lvm np nb n) {e : AE} (he : e = shp ad np nb n g (L n)) : Rm ad np nb (setZ Z n g) L (upA h (ad n) e) := by
  refine ⟨fun m hm => ?_, hR.2⟩
  by_cases hmn : m = n
  · subst hmn
    rw [upA_self, setZ_self, he]
  · rw [upA_ne (fun q => hmn (hR.2 m n hm hn q)), setZ_ne hmn]
    exact hR.1 m hm
/-- nothing but the tuner's working rows and the bell's plan has changed -/
def keepP (b : Nat) (Z Y : ZT) : Prop := (∀ m, m ≠ (3, 0, 4) → m ≠ (3, 0, 5) → m ≠ (3, 0, 6) → m ≠ (3, 0, 7) → m ≠ (4, b, 0) → m ≠ (4, b, 7) → Y m = Z m) ∧ ∀ k, k ≠ 7 → k ≠ 8 → Y (4, b, 0) k = Z (4, b, 0) k
theorem keepP.rf {b : Nat} {Z : ZT} : keepP b Z Z := ⟨fun _ _ _ _ _ _ _ => rfl, fun _ _ _ => rfl⟩
theorem keepP.tun {b : Nat} {Z Y : ZT} (h : keepP b Z Y) : xTun Y b = xTun Z b ∧ (BD Y b ↔ BD Z b) := by
  have e1 := h.1 (4, b, 3) (by simp) (by simp) (by simp) (by simp) (by simp) (by simp)
  have e2 := h.1 (6, b, 5) (by simp) (by simp) (by simp) (by simp) (by simp) (by simp)
  have e3 := h.1 (6, b, 2) (by simp) (by simp) (by simp) (by simp) (by simp) (by simp)
  have e4 := h.1 (6, b, 3) (by simp) (by simp) (by simp) (by simp) (by simp) (by simp)
  have e5 := h.1 (3, 0, 1) (by simp) (by simp) (by simp) (by simp) (by simp) (by simp)
  have e6 := h.1 (3, 0, 2) (by simp) (by simp) (by simp) (by simp) (by simp) (by simp)
  constructor
  · unfold xTun pNow xtb
    rw [e1, e2, e3, e4, e5, e6]
  · unfold BD xtb
    rw [e1, e2, e3, e4]
theorem FirstS_congr {r : Nat → Nat} {tb : Nat → Nat → Int32} {V V' fr to : Nat → Int32} {h left : Nat} {c : Nat → Nat} (h8 : h ≤ 8) (hV : ∀ q, q < 5 → V q = V' q) (hF : FirstS r tb V fr to h left c) : FirstS r tb V' fr to h left c :=
  ⟨okS_congr hV (fun _ _ _ => rfl) hF.1 h8, fun d hd hl => hF.2 d (okS_congr (fun q hq => (hV q hq).symm) (fun _ _ _ => rfl) hd h8) hl⟩
set_option maxRecDepth 100000 in
set_option maxHeartbeats 4000000 in
theorem c_X3_plan (l : Launch) (G : GG) {ad : NM → Nat} {np nb : Nat} {Z : ZT} {L : LT} {h : AH} (hR : Rm ad np nb Z L h) {b : Nat} (hb : b < nb) (hBD : BD Z b) (hT8 : T8 Z) (hcache : Z (4, b, 0) 8 = Z (3, 0, 0) 2 → planOK Z b) : Con l G mX3_plan 11 0 0 [.ref (ad (3, 0, 0)), .ref (ad (4, b, 0))] h (fun rr h2 => rr = none ∧ ∃ Y, Rm ad np nb Y L h2 ∧ keepP b Z Y ∧ T8 Y ∧ Y (4, b, 0) 8 = Z (3, 0, 0) 2 ∧ planOK Y b) := by
  refine Con.of 2 rfl (Nat.le_of_ble_eq_true rfl) ?_
  refine j_aload_n dX3_plan_0 rfl ?_
  refine gX3_40 rfl (hR.1 _ ⟨by first | assumption | exact Nat.zero_lt_one, rfl⟩) rfl dX3_plan_1 ?_
  refine j_aload_n dX3_plan_4 rfl ?_
  refine gX3_36 rfl (hR.1 _ ⟨by first | assumption | exact Nat.zero_lt_one, rfl⟩) rfl dX3_plan_5 ?_
  refine j_icmp_ne 12 dX3_plan_8 (by decide) (fun c_8 => ?_) (fun c_8 => ?_)
  · refine j_aload_n dX3_plan_12 rfl ?_
    refine j_aload_n dX3_plan_13 rfl ?_
    refine gX3_36 rfl (hR.1 _ ⟨by first | assumption | exact Nat.zero_lt_one, rfl⟩) rfl dX3_plan_14 ?_
    refine qX3_40 rfl hR hb dX3_plan_17 (fun h hR => ?_)
    refine j_aload_n dX3_plan_20 rfl ?_
    refine j_iconst (v := (-1)) dX3_plan_21 (by decide) ?_
    refine qX3_45 rfl hR hb dX3_plan_22 (fun h hR => ?_)
    refine j_aload_n dX3_plan_25 rfl ?_
    refine gX3_48 rfl (hR.1 _ ⟨by first | assumption | exact Nat.zero_lt_one, rfl⟩) rfl dX3_plan_26 ?_
    refine j_iconst (v := 0) dX3_plan_29 (by decide) ?_
    skip
    refine j_callS (rest := []) (c_J7_fill_53178 l G (hR.1 (4, b, 7) ⟨hb, rfl⟩) (by decide)) cw_J7_fill_53178 wl_X3_18 ws_J7_fill_53178 rfl rfl (Nat.le_of_ble_eq_true rfl) (Nat.le_of_ble_eq_true rfl) (Nat.le_of_ble_eq_true rfl) (Nat.le_of_ble_eq_true rfl) (Nat.le_of_ble_eq_true rfl) dX3_plan_30 (fun v_30 h_30 e_30 => ?_)
    obtain ⟨rfl, rfl⟩ := e_30
    have hR := hR.setz (4, b, 7) (fun _ => 0) ⟨hb, rfl⟩ (e := iA 8 (fun _ => 0)) rfl
    generalize upA h (ad (4, b, 7)) (iA 8 (fun _ => 0)) = h3 at hR ⊢
    have k3 : keepP b Z (setZ (upZ (upZ Z (4, b, 0) 8 (Z (3, 0, 0) 2)) (4, b, 0) 7 (-1)) (4, b, 7) (fun _ => 0)) := ⟨fun m _ _ _ _ a1 a2 => by rw [setZ_ne a2, upZ_ne a1, upZ_ne a1], fun k a1 a2 => by rw [setZ_ne (by simp), upZ_nk (Or.inr a1), upZ_nk (Or.inr a2)]⟩
    have p3 : (setZ (upZ (upZ Z (4, b, 0) 8 (Z (3, 0, 0) 2)) (4, b, 0) 7 (-1)) (4, b, 7) (fun _ => 0)) (4, b, 0) 8 = Z (3, 0, 0) 2 := by rw [setZ_ne (by simp), upZ_nk (Or.inr (by decide)), upZ_at]
    have q3 : (setZ (upZ (upZ Z (4, b, 0) 8 (Z (3, 0, 0) 2)) (4, b, 0) 7 (-1)) (4, b, 7) (fun _ => 0)) (4, b, 0) 7 = -1 := by rw [setZ_ne (by simp), upZ_at]
    have w3 : ∀ i, (setZ (upZ (upZ Z (4, b, 0) 8 (Z (3, 0, 0) 2)) (4, b, 0) 7 (-1)) (4, b, 7) (fun _ => 0)) (4, b, 7) i = 0 := fun i => by rw [setZ_self]
    have t3 : T8 (setZ (upZ (upZ Z (4, b, 0) 8 (Z (3, 0, 0) 2)) (4, b, 0) 7 (-1)) (4, b, 7) (fun _ => 0)) := by
      refine ⟨?_, fun p hp => ?_⟩
      · rw [setZ_ne (by simp), upZ_ne (by simp), upZ_ne (by simp)]; exact hT8.1
      · rw [setZ_ne (by simp), upZ_ne (by simp), upZ_ne (by simp), setZ_ne (by simp), upZ_ne (by simp), upZ_ne (by simp)]; exact hT8.2 p hp
    generalize (setZ (upZ (upZ Z (4, b, 0) 8 (Z (3, 0, 0) 2)) (4, b, 0) 7 (-1)) (4, b, 7) (fun _ => 0)) = Z3 at hR k3 p3 q3 w3 t3
    have b3 : BD Z3 b := k3.tun.2.mpr hBD
    refine j_aload_n dX3_plan_33 rfl ?_
    refine j_aload_n dX3_plan_34 rfl ?_
    refine j_callV (rest := []) (c_X3_prepare l G hR hb b3 t3) (hR.1 _ ⟨by first | assumption | exact Nat.zero_lt_one, rfl⟩) rfl cw_X3_prepare wl_X3_51 wm_X3_prepare wx_X3_prepare rfl rfl (Nat.le_of_ble_eq_true rfl) (Nat.le_of_ble_eq_true rfl) (Nat.le_of_ble_eq_true rfl) (Nat.le_of_ble_eq_true rfl) (Nat.le_of_ble_eq_true rfl) dX3_plan_35 (fun v_35 h_35 e_35 => ?_)
    obtain ⟨rfl, Z4, hR, hk4, hv4, hT4⟩ := e_35
    have t4 := hT4.t8 (Nat.zero_le _)
    have hTI : TI Z4 b (roomN Z3 b) := ⟨by rw [(hk4.bell b).1, (hk4.bell b).2.1]; exact b3.room, fun k hk => hT4.1 k (Nat.zero_le _) hk, by rw [hk4.tb b]; exact b3.2.1, fun k q hk hq => hT4.2.1 k q (Nat.zero_le _) hk hq, fun k q i hk hq h1 h2 h3 => hT4.2.2 k q i (Nat.zero_le _) hk hq h1 h2 h3⟩
    have hR0 := hT4.1 0 (Nat.zero_le _) (by omega)
    rw [show sm (roomN Z3 b) 8 - sm (roomN Z3 b) 0 = sm (roomN Z3 b) 8 from Nat.sub_zero _] at hR0
    have hrs : sm (roomN Z3 b) 8 ≤ 792 := by
      have a : ∀ n, n ≤ 8 → sm (roomN Z3 b) n ≤ 99 * n := by
        intro n
        induction n with
        | zero => intro _; exact Nat.le_refl _
        | succ n ihn =>
          intro hn
          have := ihn (by omega)
          have := (b3.room n (by omega)).2
          rw [sm]
          omega
      exact a 8 (by omega)
    have f1 : Z4 (3, 0, 1) = Z3 (3, 0, 1) := hk4 _ (by simp) (by simp) (by simp) (by simp)
    have f2 : Z4 (3, 0, 2) = Z3 (3, 0, 2) := hk4 _ (by simp) (by simp) (by simp) (by simp)
    have f3 : Z4 (4, b, 0) = Z3 (4, b, 0) := hk4 _ (by simp) (by simp) (by simp) (by simp)
    have f4 : Z4 (4, b, 7) = Z3 (4, b, 7) := hk4 _ (by simp) (by simp) (by simp) (by simp)
    have ktr : ∀ Y, keepS b Z4 Y → keepP b Z Y := fun Y hk => ⟨fun m a1 a2 a3 a4 a5 a6 => (hk m a1 a6).trans ((hk4 m a1 a2 a3 a4).trans (k3.1 m a1 a2 a3 a4 a5 a6)), fun k a1 a2 => by rw [hk _ (by simp) (by simp), f3]; exact k3.2 k a1 a2⟩
    have ttr : ∀ Y, keepS b Z4 Y → T8 Y := fun Y hk => ⟨by rw [hk.e.2.2.2.1]; exact t4.1, fun p hp => by rw [hk.e.2.2.2.2.1, hk.e.2.2.2.2.2.1]; exact t4.2 p hp⟩
    refine j_bipush (v := 12) dX3_plan_38 (by decide) ?_
    refine j_aload_n dX3_plan_40 rfl ?_
    refine gX3_27 rfl (hR.1 _ ⟨by first | assumption | exact Nat.zero_lt_one, rfl⟩) rfl dX3_plan_41 ?_
    refine j_iconst (v := 0) dX3_plan_44 (by decide) ?_
    refine j_iald (hR.1 _ ⟨by first | assumption | exact Nat.zero_lt_one, rfl⟩) 0 rfl (by decide) (by decide) dX3_plan_45 ?_
    rw [hR0]
    refine j_mmin wl_X3_55 ws_J9_min_7cf53 (Nat.le_of_ble_eq_true rfl) (Nat.le_of_ble_eq_true rfl) (Nat.le_of_ble_eq_true rfl) (Nat.le_of_ble_eq_true rfl) (Nat.le_of_ble_eq_true rfl) dX3_plan_46 ?_
    rw [show (if nI (sm (roomN Z3 b) 8) < 12 then nI (sm (roomN Z3 b) 8) else 12) = nI (min 12 (sm (roomN Z3 b) 8)) from nI_min (a := 12) (by omega) (by omega)]
    refine j_istore_n dX3_plan_49 (Nat.le_of_ble_eq_true rfl) rfl ?_
    refine j_iconst (v := 0) dX3_plan_50 (by decide) ?_
    refine j_istore_n dX3_plan_51 (Nat.le_of_ble_eq_true rfl) rfl ?_
    have kn : ∀ nn n, 20 < n + nn → n ≤ 13 → ∀ h Y, Rm ad np nb Y L h → keepS b Z4 Y → (∀ q, q < 5 → Y (3, 0, 4) q = pNow Z3 b q) → (∀ i, Y (4, b, 7) i = 0) → (∀ d, sm d 8 < n → ¬ okS (roomN Z3 b) (xtb Z3 b) (pNow Z3 b) (Z3 (3, 0, 1)) (Z3 (3, 0, 2)) 0 (sm d 8) d) → J (thM l G mX3_plan 11 0 0 (fun rr h2 => rr = none ∧ ∃ Y, Rm ad np nb Y L h2 ∧ keepP b Z Y ∧ T8 Y ∧ Y (4, b, 0) 8 = Z (3, 0, 0) 2 ∧ planOK Y b)) cX3_plan h (0, 0) [some (.ref (ad (3, 0, 0))), some (.ref (ad (4, b, 0))), some (.int (nI (min 12 (sm (roomN Z3 b) 8)))), some (.int (nI n))] 52 [] := by
      intro nn
      induction nn with
      | zero => intro n h1 h2; omega
      | succ nn ihn =>
        intro n h1 h2 h Y hR hk hvl hpl hlo
        refine j_iload_n dX3_plan_52 rfl ?_
        refine j_iload_n dX3_plan_53 rfl ?_
        refine j_icmp_gt 79 dX3_plan_54 (by decide) (fun c_54 => ?_) (fun c_54 => ?_)
        · have hgt : min 12 (sm (roomN Z3 b) 8) < n := (nI_ltI (by omega) (by omega)).mp c_54
          refine j_vret rfl (Nat.le_of_ble_eq_true rfl) (Nat.le_of_ble_eq_true rfl) dX3_plan_79 ?_
          have kP := ktr _ hk
          refine ⟨rfl, Y, hR, kP, ttr _ hk, ?_, Or.inl ⟨?_, fun c hc => ?_⟩⟩
          · rw [hk _ (by simp) (by simp), f3]
            exact p3
          · rw [hk _ (by simp) (by simp), f3]
            exact q3
          · rw [kP.tun.1, ← k3.tun.1]
            cases hx : xTun Z3 b c with
            | false => rfl
            | true =>
              exfalso
              have hok := (xTun_ok b3 hc).mp hx
              rcases Nat.lt_or_ge (sm c 8) n with w | w
              · exact hlo c w hok
              · have := okS_room hok (by omega)
                have e0 : sm (roomN Z3 b) 0 = 0 := rfl
                omega
        · have hle : n ≤ min 12 (sm (roomN Z3 b) 8) := Nat.not_lt.mp (fun q => c_54 ((nI_ltI (by omega) (by omega)).mpr q))
          refine j_aload_n dX3_plan_57 rfl ?_
          refine j_aload_n dX3_plan_58 rfl ?_
          refine j_iconst (v := 0) dX3_plan_59 (by decide) ?_
          refine j_iload_n dX3_plan_60 rfl ?_
          refine j_callS (rest := []) (c_X3_search l G 8 0 rfl hR (hTI.keep hk) hb (fun q hq => by rw [hvl q hq]; have := b3.part q hq; omega) (fun i _ hi => hpl i) (left := n) (by omega)) cw_X3_search wl_X3_61 ws_X3_search rfl rfl (Nat.le_of_ble_eq_true rfl) (Nat.le_of_ble_eq_true rfl) (Nat.le_of_ble_eq_true rfl) (Nat.le_of_ble_eq_true rfl) (Nat.le_of_ble_eq_true rfl) dX3_plan_61 (fun v_61 h_61 e_61 => ?_)
          obtain ⟨Y2, hR, hk2, hor⟩ := e_61
          have ex : xtb Y b = xtb Z3 b := (xtb_keep hk).trans (hk4.tb b)
          have ef : Y (3, 0, 1) = Z3 (3, 0, 1) := hk.e.2.2.2.2.2.2.1.trans f1
          have et : Y (3, 0, 2) = Z3 (3, 0, 2) := hk.e.2.2.2.2.2.2.2.trans f2
          rcases hor with ⟨rfl, hnone, hv2, hp2⟩ | ⟨rfl, c, hF, hp2, -⟩
          · refine j_if_eq 73 dX3_plan_64 (by decide) (fun c_64 => ?_) (fun c_64 => absurd rfl c_64)
            refine j_iinc dX3_plan_73 rfl (nI_inc _) (Nat.le_of_ble_eq_true rfl) rfl ?_
            refine j_goto 52 dX3_plan_76 (by decide) ?_
            refine ihn (n + 1) (by omega) (by omega) _ _ hR (hk.tr hk2) (fun q hq => (hv2 q hq).trans (hvl q hq)) (by rw [hp2]; exact hpl) (fun d hd => ?_)
            rcases Nat.lt_or_ge (sm d 8) n with w | w
            · exact hlo d w
            · intro hd2
              refine hnone d ?_
              rw [ex, ef, et]
              rw [show sm d 8 = n by omega] at hd2
              exact okS_congr (fun q hq => (hvl q hq).symm) (fun _ _ _ => rfl) hd2 (by omega)
          · refine j_if_eq 73 dX3_plan_64 (by decide) (fun c_64 => absurd c_64 (by decide)) (fun c_64 => ?_)
            refine j_aload_n dX3_plan_67 rfl ?_
            refine j_iload_n dX3_plan_68 rfl ?_
            refine qX3_45 rfl hR hb dX3_plan_69 (fun h hR => ?_)
            refine j_vret rfl (Nat.le_of_ble_eq_true rfl) (Nat.le_of_ble_eq_true rfl) dX3_plan_72 ?_
            rw [ex, ef, et] at hF
            have hF := FirstS_congr (by omega) hvl hF
            have kk := ktr _ (hk.tr hk2)
            have kP : keepP b Z (upZ Y2 (4, b, 0) 7 (nI n)) := ⟨fun m a1 a2 a3 a4 a5 a6 => by rw [upZ_ne a5]; exact kk.1 m a1 a2 a3 a4 a5 a6, fun k a1 a2 => by rw [upZ_nk (Or.inr a1)]; exact kk.2 k a1 a2⟩
            refine ⟨rfl, _, hR, kP, ?_, ?_, ?_⟩
            · have t2 := ttr _ (hk.tr hk2)
              exact ⟨by rw [upZ_ne (by simp)]; exact t2.1, fun p hp => by rw [upZ_ne (by simp), upZ_ne (by simp)]; exact t2.2 p hp⟩
            · rw [upZ_nk (Or.inr (by decide)), (hk.tr hk2) _ (by simp) (by simp), f3]
              exact p3
            · refine Or.inr ⟨n, c, by omega, upZ_at _ _ _ _, fun i hi => ?_, ?_⟩
              · rw [upZ_ne (by simp)]
                exact hp2 i (Nat.zero_le _) hi
              · rw [kP.tun.1, ← k3.tun.1]
                refine First_of b3 (by omega) hF (fun d hd => ?_)
                cases hx : xTun Z3 b d with
                | false => rfl
                | true => exact absurd ((xTun_ok b3 (by omega)).mp hx) (hlo d hd)
    exact kn 21 0 (by omega) (by omega) _ _ hR keepS.rf hv4 (fun i => by rw [f4]; exact w3 i) (fun d hd => absurd hd (by omega))
  · have hca := hcache c_8
    refine j_vret rfl (Nat.le_of_ble_eq_true rfl) (Nat.le_of_ble_eq_true rfl) dX3_plan_11 ?_
    exact ⟨rfl, Z, hR, keepP.rf, hT8, c_8, hca⟩

