theorem Rm.ext {ad ad' : NM → Nat} {np nb np' nb' : Nat} {Z Z' : ZT} {L : LT} {h h2 : AH} (hR : Rm ad np nb Z L h) (new : NM → Prop) (ha : ∀ m, lvm np' nb' m → lvm np nb m ∨ new m) (hb : ∀ m, new m → h2 (ad' m) = some (shp ad' np' nb' m (Z' m) (L m))) (hc : ∀ m, lvm np nb m → ad' m = ad m ∧ h2 (ad m) = some (shp ad' np' nb' m (Z' m) (L m))) (hd : ∀ m, new m → h (ad' m) = none) (he : ∀ m n, new m → new n → ad' m = ad' n → m = n) : Rm ad' np' nb' Z' L h2 := by
  refine ⟨fun m hm => ?_, fun m n hm hn hq => ?_⟩
  · rcases ha m hm with h1 | h1
    · rw [(hc m h1).1]
      exact (hc m h1).2
    · exact hb m h1
  · rcases ha m hm with h1 | h1 <;> rcases ha n hn with h3 | h3
    · rw [(hc m h1).1, (hc n h3).1] at hq
      exact hR.2 m n h1 h3 hq
    · exfalso
      have h4 := hR.1 m h1
      have h5 := hd n h3
      rw [← hq, (hc m h1).1, h4] at h5
      cases h5
    · exfalso
      have h4 := hR.1 n h3
      have h5 := hd m h1
      rw [hq, (hc n h3).1, h4] at h5
      cases h5
    · exact he m n h1 h3 hq
def adP (ad : NM → Nat) (n : Nat) (q : Nat → Nat) : NM → Nat := fun m => if m.1 = 2 ∧ m.2.1 = n then q m.2.2 else ad m
def zP (Z : ZT) (n : Nat) (w : Int32) : ZT := fun m => if m.1 = 2 ∧ m.2.1 = n then (if m.2.2 = 0 then fun _ => w else if m.2.2 = 4 then fun _ => 1 else fun _ => 0) else Z m
theorem lvm_le {np nb : Nat} {m : NM} (h : lvm np nb m) : m.1 ≤ 6 := by
  rcases Nat.lt_or_ge 6 m.1 with q | q
  · exfalso
    have := h.1
    simp only [lvc] at this
    rw [if_neg (by omega), if_neg (by omega), if_neg (by omega), if_neg (by omega)] at this
    omega
  · exact q
theorem adP_shp {ad : NM → Nat} {np nb : Nat} {q : Nat → Nat} {m : NM} {z : Nat → Int32} {l : Nat → Int64} (hl : lvm np nb m) (hm : m ≠ (0, 0, 1)) : shp (adP ad np q) (np + 1) nb m z l = shp ad np nb m z l := by
  obtain ⟨k, i, j⟩ := m
  have h6 := lvm_le hl
  have hl1 := hl.1
  simp only at h6 hl1
  rcases (show k = 0 ∨ k = 1 ∨ k = 2 ∨ k = 3 ∨ k = 4 ∨ k = 5 ∨ k = 6 by omega) with rfl | rfl | rfl | rfl | rfl | rfl | rfl
  · simp only [lvc] at hl1
    have hi : i = 0 := by simp at hl1; omega
    subst hi
    by_cases h1 : j = 1
    · subst h1; exact absurd rfl hm
    · simp [shp, sh0, adP, h1]
  · simp [shp, sh1, adP]
  · have hi : i < np := by simpa [lvc] using hl1
    have hne : ¬ i = np := by omega
    simp [shp, sh2, adP, hne]
  · simp [shp, sh3, adP]
  · simp [shp, sh4, adP]
  · simp [shp, sh5, adP]
  · simp [shp, sh6, adP]
theorem Rm.addP {ad : NM → Nat} {np nb : Nat} {Z : ZT} {L : LT} {h h2 : AH} (hR : Rm ad np nb Z L h) {w : Int32} {p a1 a2 a3 a4 a5 : Nat} (l1 : p < a1) (l2 : a1 < a2) (l3 : a2 < a3) (l4 : a3 < a4) (l5 : a4 < a5) (hf : ∀ b, p ≤ b → h b = none)
    (e0 : h2 p = some (.inr (2, [.int w, .ref a1, .ref a2, .ref a3, .ref a4, .ref a5]))) (e1 : h2 a1 = some (iA 5 (fun _ => 0))) (e2 : h2 a2 = some (iA 40 (fun _ => 0))) (e3 : h2 a3 = some (iA 8 (fun _ => 1))) (e4 : h2 a4 = some (iA 8 (fun _ => 0))) (e5 : h2 a5 = some (iA 8 (fun _ => 0)))
    (ho : ∀ x, x < p → x ≠ ad (0, 0, 1) → h2 x = h x) (hr : h2 (ad (0, 0, 1)) = some (qA 3 4 (va_up (fun x => if x < np then some (ad (2, x, 0)) else none) np (some p)))) : ∃ q, q 0 = p ∧ Rm (adP ad np q) (np + 1) nb (zP Z np w) L h2 := by
  refine ⟨fun k => if k = 0 then p else if k = 2 then a1 else if k = 3 then a2 else if k = 4 then a3 else if k = 5 then a4 else a5, rfl, ?_⟩
  have key : ∀ k, lvk 2 k = true → k = 0 ∨ k = 2 ∨ k = 3 ∨ k = 4 ∨ k = 5 ∨ k = 6 := fun k hk => by
    simp [lvk] at hk
    omega
  have adq : ∀ k, adP ad np (fun k => if k = 0 then p else if k = 2 then a1 else if k = 3 then a2 else if k = 4 then a3 else if k = 5 then a4 else a5) (2, np, k) = (if k = 0 then p else if k = 2 then a1 else if k = 3 then a2 else if k = 4 then a3 else if k = 5 then a4 else a5) := fun k => by simp [adP]
  refine hR.ext (fun m => m.1 = 2 ∧ m.2.1 = np ∧ lvk 2 m.2.2 = true) ?_ ?_ ?_ ?_ ?_
  · rintro ⟨k, i, j⟩ ⟨h1, h3⟩
    simp only at h1 h3 ⊢
    by_cases hk : k = 2
    · subst hk
      have hi : i < np + 1 := by simpa [lvc] using h1
      by_cases hin : i = np
      · exact Or.inr ⟨rfl, hin, h3⟩
      · exact Or.inl ⟨by simp [lvc]; omega, h3⟩
    · exact Or.inl ⟨by simpa [lvc, hk] using h1, h3⟩
  · rintro ⟨k, i, j⟩ ⟨rfl, rfl, h3⟩
    simp only at h3
    rcases key j h3 with rfl | rfl | rfl | rfl | rfl | rfl
    · rw [adq]; simp [shp, sh2, adP, zP, e0]
    · rw [adq]; simp [shp, sh2, zP, e1]
    · rw [adq]; simp [shp, sh2, zP, e2]
    · rw [adq]; simp [shp, sh2, zP, e3]
    · rw [adq]; simp [shp, sh2, zP, e4]
    · rw [adq]; simp [shp, sh2, zP, e5]
  · intro m hm
    have hne : ¬ (m.1 = 2 ∧ m.2.1 = np) := by
      rintro ⟨h1, h3⟩
      have := hm.1
      rw [h1, h3] at this
      simp [lvc] at this
    have hz : zP Z np w m = Z m := if_neg hne
    have ha : adP ad np (fun k => if k = 0 then p else if k = 2 then a1 else if k = 3 then a2 else if k = 4 then a3 else if k = 5 then a4 else a5) m = ad m := if_neg hne
    refine ⟨ha, ?_⟩
    rw [hz]
    by_cases h01 : m = (0, 0, 1)
    · subst h01
      rw [hr]
      simp only [shp, sh0, if_true, if_false, if_neg (show ¬ (1 : Nat) = 0 by decide)]
      congr 1
      simp only [qA]
      congr 7
      funext x
      simp only [va_up, adP]
      by_cases hx : x = np
      · subst hx; simp
      · by_cases hx2 : x < np
        · simp [hx, hx2, show x < np + 1 by omega]
        · simp [hx, hx2, show ¬ x < np + 1 by omega]
    · rw [adP_shp hm h01, ← hR.1 m hm]
      have hlt : ad m < p := al_lt (hR.1 m hm) hf
      exact ho _ hlt (fun q => h01 (hR.2 m (0, 0, 1) hm ⟨Nat.zero_lt_one, rfl⟩ q))
  · rintro ⟨k, i, j⟩ ⟨rfl, rfl, h3⟩
    simp only at h3
    rw [adq]
    rcases key j h3 with rfl | rfl | rfl | rfl | rfl | rfl <;> simp <;> exact hf _ (by omega)
  · rintro ⟨k, i, j⟩ ⟨k', i', j'⟩ ⟨rfl, rfl, h3⟩ ⟨rfl, rfl, h4⟩ hq
    simp only at h3 h4
    rw [adq, adq] at hq
    rcases key j h3 with rfl | rfl | rfl | rfl | rfl | rfl <;> rcases key j' h4 with rfl | rfl | rfl | rfl | rfl | rfl <;> first | rfl | (exfalso; simp at hq; omega)

def xProf (np : Nat) (w : Int32) (Z : ZT) : ZT := upZ (zP Z np w) (0, 0, 0) 1 (nI (np + 1))
set_option maxRecDepth 100000 in
set_option maxHeartbeats 4000000 in
theorem c_X4_profile (l : Launch) (G : GG) {ad : NM → Nat} {np nb : Nat} {Z : ZT} {L : LT} {h : AH} (hR : Rm ad np nb Z L h) (hnp : Z (0, 0, 0) 1 = nI np) (hp4 : np ≤ 4) {w : Int32} : Con l G mX4_profile 2 6 75 [.ref (ad (0, 0, 0)), .int w] h (fun r g => ((Z (0, 0, 0) 1 = 4 ∨ iw w 0 5000 = false) ∧ r = some (.int (-1)) ∧ Rm ad np nb Z L g) ∨ (np < 4 ∧ iw w 0 5000 = true ∧ r = some (.int (nI np)) ∧ ∃ ad', Rm ad' (np + 1) nb (xProf np w Z) L g ∧ ad' (0, 0, 0) = ad (0, 0, 0) ∧ ad' (5, 0, 0) = ad (5, 0, 0))) := by
  refine Con.of 0 rfl (Nat.le_of_ble_eq_true rfl) ?_
  refine j_aload_n dX4_profile_0 rfl ?_
  refine gX4_39 rfl (hR.1 _ ⟨by first | assumption | exact Nat.zero_lt_one, rfl⟩) rfl dX4_profile_1 ?_
  refine j_iconst (v := 4) dX4_profile_4 (by decide) ?_
  refine j_icmp_ge 19 dX4_profile_5 (by decide) (fun c_5 => ?_) (fun c_5 => ?_)
  · have h4 : Z (0, 0, 0) 1 = 4 := by
      rw [hnp] at c_5 ⊢
      have := (nI_leI (a := 4) (b := np) (by omega) (by omega)).mp c_5
      rw [show np = 4 by omega]
      rfl
    refine j_iconst (v := (-1)) dX4_profile_19 (by decide) ?_
    refine j_iret rfl (Nat.le_of_ble_eq_true rfl) (Nat.le_of_ble_eq_true rfl) dX4_profile_20 ?_
    exact Or.inl ⟨Or.inl h4, rfl, hR⟩
  · have hlt : np < 4 := Nat.not_le.mp (fun q => c_5 (by rw [hnp]; exact (nI_leI (a := 4) (b := np) (by omega) (by omega)).mpr q))
    refine j_iload_n dX4_profile_8 rfl ?_
    refine j_iconst (v := 0) dX4_profile_9 (by decide) ?_
    refine j_sipush (v := 5000) dX4_profile_10 (by decide) ?_
    refine j_callS (rest := []) (c_X4_within l G) cw_X4_within wl_X4_43 ws_X4_within rfl rfl (Nat.le_of_ble_eq_true rfl) (Nat.le_of_ble_eq_true rfl) (Nat.le_of_ble_eq_true rfl) (Nat.le_of_ble_eq_true rfl) (Nat.le_of_ble_eq_true rfl) dX4_profile_13 (fun v_13 h_13 e_13 => ?_)
    obtain ⟨rfl, hh⟩ := e_13
    have hh := hh.symm
    subst hh
    refine j_if_ne 21 dX4_profile_16 (by decide) (fun c_16 => ?_) (fun c_16 => ?_)
    · have g_16 := (bi_ne0 _).mp c_16
      refine j_aload_n dX4_profile_21 rfl ?_
      refine gX4_11 rfl (hR.1 _ ⟨by first | assumption | exact Nat.zero_lt_one, rfl⟩) rfl dX4_profile_22 ?_
      refine j_aload_n dX4_profile_25 rfl ?_
      refine gX4_39 rfl (hR.1 _ ⟨by first | assumption | exact Nat.zero_lt_one, rfl⟩) rfl dX4_profile_26 ?_
      refine j_new (C := RX2) (T := TX2) (N := 6) (ci := 2) (fs := [.int 0, .null, .null, .null, .null, .null]) rfl inX2 tyX2 tyX2_ok wk_X4_9 wn_X2 wi_X2 (by decide) (Nat.le_of_ble_eq_true rfl) (Nat.le_of_ble_eq_true rfl) dX4_profile_29 (fun p f_p => ?_)
      have lpr : ad (0, 0, 1) < p := al_lt (hR.1 (0, 0, 1) ⟨Nat.zero_lt_one, rfl⟩) f_p
      refine j_dup dX4_profile_32 rfl ?_
      refine j_iload_n dX4_profile_33 rfl ?_
      refine j_callI (rest := [.ref p, .int (Z (0, 0, 0) 1), .ref (ad (0, 0, 1))]) (c_X2_init l G (p := p) (upA_self _ _ _)) rfl rfl cw_X2_init wl_X4_47 wm_X2_init rfl rfl (Nat.le_of_ble_eq_true rfl) (Nat.le_of_ble_eq_true rfl) (Nat.le_of_ble_eq_true rfl) (Nat.le_of_ble_eq_true rfl) (Nat.le_of_ble_eq_true rfl) dX4_profile_34 (fun v_34 h_34 e_34 => ?_)
      obtain ⟨rfl, a1, a2, a3, a4, a5, l1, l2, l3, l4, l5, fa, e0, e1, e2, e3, e4, e5, fr⟩ := e_34
      have hpro : h_34 (ad (0, 0, 1)) = some (qA 3 4 (fun x => if x < np then some (ad (2, x, 0)) else none)) := (fr _ (Nat.ne_of_lt lpr) (Nat.lt_trans lpr l1)).trans ((upA_ne (Nat.ne_of_lt lpr)).trans (hR.1 (0, 0, 1) ⟨Nat.zero_lt_one, rfl⟩))
      refine j_aast (t := 3) (ci := 2) (r := (RX2, TX2, 6)) hpro e0 rfl rfl np hnp hlt (by decide) dX4_profile_37 ?_
      obtain ⟨q, hq0, hR⟩ := hR.addP (h2 := upA h_34 (ad (0, 0, 1)) (qA 3 4 (va_up (fun x => if x < np then some (ad (2, x, 0)) else none) np (some p)))) l1 l2 l3 l4 l5 f_p ((upA_ne (by omega)).trans e0) ((upA_ne (by omega)).trans e1) ((upA_ne (by omega)).trans e2) ((upA_ne (by omega)).trans e3) ((upA_ne (by omega)).trans e4) ((upA_ne (by omega)).trans e5) (fun x hx hne => (upA_ne hne).trans ((fr x (by omega) (by omega)).trans (upA_ne (by omega)))) (upA_self _ _ _)
      generalize upA h_34 (ad (0, 0, 1)) (qA 3 4 (va_up (fun x => if x < np then some (ad (2, x, 0)) else none) np (some p))) = g at hR ⊢
      have ha0 : adP ad np q (0, 0, 0) = ad (0, 0, 0) := if_neg (by simp)
      have ha5 : adP ad np q (5, 0, 0) = ad (5, 0, 0) := if_neg (by simp)
      have hz1 : zP Z np w (0, 0, 0) 1 = nI np := by rw [zP, if_neg (by simp)]; exact hnp
      rw [← ha0]
      refine j_aload_n dX4_profile_38 (by rw [ha0]; rfl) ?_
      refine j_dup dX4_profile_39 rfl ?_
      refine gX4_39 rfl (hR.1 (0, 0, 0) ⟨Nat.zero_lt_one, rfl⟩) rfl dX4_profile_40 ?_
      refine j_iconst (v := 1) dX4_profile_43 (by decide) ?_
      refine j_iadd dX4_profile_44 ?_
      rw [hz1, nI_1]
      refine qX4_39 rfl hR dX4_profile_45 (fun g hR => ?_)
      refine j_aload_n dX4_profile_48 (by rw [ha0]; rfl) ?_
      refine gX4_39 rfl (hR.1 (0, 0, 0) ⟨Nat.zero_lt_one, rfl⟩) rfl dX4_profile_49 ?_
      rw [upZ_at]
      refine j_iconst (v := 1) dX4_profile_52 (by decide) ?_
      refine j_isub dX4_profile_53 ?_
      refine j_iret rfl (Nat.le_of_ble_eq_true rfl) (Nat.le_of_ble_eq_true rfl) dX4_profile_54 ?_
      exact Or.inr ⟨hlt, g_16, by rw [nI_pred], _, hR, ha0, ha5⟩
    · have g_16 := (bi_eq0 _).mp c_16
      refine j_iconst (v := (-1)) dX4_profile_19 (by decide) ?_
      refine j_iret rfl (Nat.le_of_ble_eq_true rfl) (Nat.le_of_ble_eq_true rfl) dX4_profile_20 ?_
      exact Or.inl ⟨Or.inr g_16, rfl, hR⟩

