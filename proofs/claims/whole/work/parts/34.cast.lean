def adB (ad : NM → Nat) (n : Nat) (q r : Nat → Nat) : NM → Nat := fun m => if m.1 = 4 ∧ m.2.1 = n then q m.2.2 else if m.1 = 6 ∧ m.2.1 = n then r m.2.2 else ad m
def zB (Z : ZT) (n p : Nat) : ZT := fun m => if m.1 = 4 ∧ m.2.1 = n then (if m.2.2 = 0 then (fun k => if k = 0 then nI p else if k = 3 ∨ k = 4 then 0 else -1) else if m.2.2 = 3 then Z (2, p, 6) else fun _ => 0) else if m.1 = 6 ∧ m.2.1 = n then Z (2, p, m.2.2) else Z m
theorem adB_shp {ad : NM → Nat} {np nb : Nat} {q r : Nat → Nat} {m : NM} {z : Nat → Int32} {l : Nat → Int64} (hl : lvm np nb m) (hm : m ≠ (0, 0, 3)) : shp (adB ad nb q r) np (nb + 1) m z l = shp ad np nb m z l := by
  obtain ⟨k, i, j⟩ := m
  have h6 := lvm_le hl
  have hl1 := hl.1
  simp only at h6 hl1
  rcases (show k = 0 ∨ k = 1 ∨ k = 2 ∨ k = 3 ∨ k = 4 ∨ k = 5 ∨ k = 6 by omega) with rfl | rfl | rfl | rfl | rfl | rfl | rfl
  · simp only [lvc] at hl1
    have hi : i = 0 := by simp at hl1; omega
    subst hi
    by_cases h1 : j = 3
    · subst h1; exact absurd rfl hm
    · simp [shp, sh0, adB, h1]
  · simp [shp, sh1, adB]
  · simp [shp, sh2, adB]
  · simp [shp, sh3, adB]
  · have hi : i < nb := by simpa [lvc] using hl1
    have hne : ¬ i = nb := by omega
    simp [shp, sh4, adB, hne]
  · simp [shp, sh5, adB]
  · have hi : i < nb := by simpa [lvc] using hl1
    have hne : ¬ i = nb := by omega
    simp [shp, sh6, adB, hne]
theorem Rm.addB {ad : NM → Nat} {np nb : Nat} {Z : ZT} {L : LT} {h h2 : AH} (hR : Rm ad np nb Z L h) {j p m a1 a2 a3 a4 a5 t u : Nat} (l0 : p < m) (l1 : m < a1) (l2 : a1 < a2) (l3 : a2 < a3) (l4 : a3 < a4) (l5 : a4 < a5) (l6 : a5 < t) (l7 : t < u) (hf : ∀ b, p ≤ b → h b = none)
    (e0 : h2 p = some (.inr (0, [.int (nI j), .ref m, .ref t, .int 0, .int 0, .int (-1), .ref u, .int (-1), .int (-1)]))) (em : h2 m = some (.inr (2, [.int (Z (2, j, 0) 0), .ref a1, .ref a2, .ref a3, .ref a4, .ref a5]))) (e1 : h2 a1 = some (iA 5 (Z (2, j, 2)))) (e2 : h2 a2 = some (iA 40 (Z (2, j, 3)))) (e3 : h2 a3 = some (iA 8 (Z (2, j, 4)))) (e4 : h2 a4 = some (iA 8 (Z (2, j, 5)))) (e5 : h2 a5 = some (iA 8 (Z (2, j, 6)))) (et : h2 t = some (iA 8 (Z (2, j, 6)))) (eu : h2 u = some (iA 8 (fun _ => 0)))
    (ho : ∀ x, x < p → x ≠ ad (0, 0, 3) → h2 x = h x) (hr : h2 (ad (0, 0, 3)) = some (qA 4 24 (va_up (fun x => if x < nb then some (ad (4, x, 0)) else none) nb (some p)))) : ∃ q r, q 0 = p ∧ Rm (adB ad nb q r) np (nb + 1) (zB Z nb j) L h2 := by
  refine ⟨(fun k => if k = 0 then p else if k = 3 then t else u), (fun k => if k = 0 then m else if k = 2 then a1 else if k = 3 then a2 else if k = 4 then a3 else if k = 5 then a4 else a5), rfl, ?_⟩
  have key4 : ∀ k, lvk 4 k = true → k = 0 ∨ k = 3 ∨ k = 7 := fun k hk => by
    simp [lvk] at hk
    omega
  have key6 : ∀ k, lvk 6 k = true → k = 0 ∨ k = 2 ∨ k = 3 ∨ k = 4 ∨ k = 5 ∨ k = 6 := fun k hk => by
    simp [lvk] at hk
    omega
  have ad4 : ∀ k, adB ad nb (fun k => if k = 0 then p else if k = 3 then t else u) (fun k => if k = 0 then m else if k = 2 then a1 else if k = 3 then a2 else if k = 4 then a3 else if k = 5 then a4 else a5) (4, nb, k) = (fun k => if k = 0 then p else if k = 3 then t else u) k := fun k => by simp [adB]
  have ad6 : ∀ k, adB ad nb (fun k => if k = 0 then p else if k = 3 then t else u) (fun k => if k = 0 then m else if k = 2 then a1 else if k = 3 then a2 else if k = 4 then a3 else if k = 5 then a4 else a5) (6, nb, k) = (fun k => if k = 0 then m else if k = 2 then a1 else if k = 3 then a2 else if k = 4 then a3 else if k = 5 then a4 else a5) k := fun k => by simp [adB]
  refine hR.ext (fun x => (x.1 = 4 ∧ x.2.1 = nb ∧ lvk 4 x.2.2 = true) ∨ (x.1 = 6 ∧ x.2.1 = nb ∧ lvk 6 x.2.2 = true)) ?_ ?_ ?_ ?_ ?_
  · rintro ⟨k, i, w⟩ ⟨h1, h3⟩
    simp only at h1 h3 ⊢
    by_cases hk : k = 4
    · subst hk
      have hi : i < nb + 1 := by simpa [lvc] using h1
      by_cases hin : i = nb
      · exact Or.inr (Or.inl ⟨rfl, hin, h3⟩)
      · exact Or.inl ⟨by simp [lvc]; omega, h3⟩
    · by_cases hk6 : k = 6
      · subst hk6
        have hi : i < nb + 1 := by simpa [lvc] using h1
        by_cases hin : i = nb
        · exact Or.inr (Or.inr ⟨rfl, hin, h3⟩)
        · exact Or.inl ⟨by simp [lvc]; omega, h3⟩
      · exact Or.inl ⟨by simpa [lvc, hk, hk6] using h1, h3⟩
  · rintro ⟨k, i, w⟩ (⟨h0, h1, h3⟩ | ⟨h0, h1, h3⟩)
    · simp only at h0 h1 h3
      subst h0; subst h1
      rcases key4 w h3 with rfl | rfl | rfl
      · rw [ad4]; simp [shp, sh4, adB, zB, e0]
      · rw [ad4]; simp [shp, sh4, zB, et]
      · rw [ad4]; simp [shp, sh4, zB, eu]
    · simp only at h0 h1 h3
      subst h0; subst h1
      rcases key6 w h3 with rfl | rfl | rfl | rfl | rfl | rfl
      · rw [ad6]; simp [shp, sh6, adB, zB, em]
      · rw [ad6]; simp [shp, sh6, zB, e1]
      · rw [ad6]; simp [shp, sh6, zB, e2]
      · rw [ad6]; simp [shp, sh6, zB, e3]
      · rw [ad6]; simp [shp, sh6, zB, e4]
      · rw [ad6]; simp [shp, sh6, zB, e5]
  · intro x hx
    have hne4 : ¬ (x.1 = 4 ∧ x.2.1 = nb) := by
      rintro ⟨h1, h3⟩
      have := hx.1
      rw [h1, h3] at this
      simp [lvc] at this
    have hne6 : ¬ (x.1 = 6 ∧ x.2.1 = nb) := by
      rintro ⟨h1, h3⟩
      have := hx.1
      rw [h1, h3] at this
      simp [lvc] at this
    have hz : zB Z nb j x = Z x := by rw [zB, if_neg hne4, if_neg hne6]
    have ha : adB ad nb (fun k => if k = 0 then p else if k = 3 then t else u) (fun k => if k = 0 then m else if k = 2 then a1 else if k = 3 then a2 else if k = 4 then a3 else if k = 5 then a4 else a5) x = ad x := by rw [adB, if_neg hne4, if_neg hne6]
    refine ⟨ha, ?_⟩
    rw [hz]
    by_cases h01 : x = (0, 0, 3)
    · subst h01
      rw [hr]
      simp only [shp, sh0, if_true, if_false, if_neg (show ¬ (3 : Nat) = 0 by decide), if_neg (show ¬ (3 : Nat) = 1 by decide)]
      congr 1
      simp only [qA]
      congr 7
      funext y
      simp only [va_up, adB]
      by_cases hy : y = nb
      · subst hy; simp
      · by_cases hy2 : y < nb
        · simp [hy, hy2, show y < nb + 1 by omega]
        · simp [hy, hy2, show ¬ y < nb + 1 by omega]
    · rw [adB_shp hx h01, ← hR.1 x hx]
      have hlt : ad x < p := al_lt (hR.1 x hx) hf
      exact ho _ hlt (fun q => h01 (hR.2 x (0, 0, 3) hx ⟨Nat.zero_lt_one, rfl⟩ q))
  · rintro ⟨k, i, w⟩ (⟨h0, h1, h3⟩ | ⟨h0, h1, h3⟩)
    · simp only at h0 h1 h3
      subst h0; subst h1
      rw [ad4]
      rcases key4 w h3 with rfl | rfl | rfl <;> simp <;> exact hf _ (by omega)
    · simp only at h0 h1 h3
      subst h0; subst h1
      rw [ad6]
      rcases key6 w h3 with rfl | rfl | rfl | rfl | rfl | rfl <;> simp <;> exact hf _ (by omega)
  · rintro ⟨k, i, w⟩ ⟨k', i', w'⟩ (⟨h0, h1, h3⟩ | ⟨h0, h1, h3⟩) (⟨g0, g1, g3⟩ | ⟨g0, g1, g3⟩) hq <;> simp only at h0 h1 h3 g0 g1 g3 <;> subst h0 <;> subst h1 <;> subst g0 <;> subst g1
    · rw [ad4, ad4] at hq
      rcases key4 w h3 with rfl | rfl | rfl <;> rcases key4 w' g3 with rfl | rfl | rfl <;> first | rfl | (exfalso; simp at hq; omega)
    · rw [ad4, ad6] at hq
      rcases key4 w h3 with rfl | rfl | rfl <;> rcases key6 w' g3 with rfl | rfl | rfl | rfl | rfl | rfl <;> (exfalso; simp at hq; omega)
    · rw [ad6, ad4] at hq
      rcases key6 w h3 with rfl | rfl | rfl | rfl | rfl | rfl <;> rcases key4 w' g3 with rfl | rfl | rfl <;> (exfalso; simp at hq; omega)
    · rw [ad6, ad6] at hq
      rcases key6 w h3 with rfl | rfl | rfl | rfl | rfl | rfl <;> rcases key6 w' g3 with rfl | rfl | rfl | rfl | rfl | rfl <;> first | rfl | (exfalso; simp at hq; omega)

def xCW (Z : ZT) (p : Nat) : Int32 := wsum (Z (2, p, 0) 0) (Z (2, p, 4)) (Z (2, p, 6)) 8
def xCastOk (np : Nat) (v : Int32) (Z : ZT) : Bool := iw v 0 (nI np - 1) && !decide (24 ≤ Z (0, 0, 0) 3) && xChB Z (xCW Z (cl v))
def xCastZ (nb p : Nat) (Z : ZT) : ZT := upZ (upZ (zB (xCh3 Z (xCW Z p)) nb p) (0, 0, 0) 3 (nI (nb + 1))) (1, 0, 0) 3 0
theorem xCh3_ne {Z : ZT} {w : Int32} {n : NM} (h : n ≠ (0, 0, 0)) : xCh3 Z w n = Z n := by
  rw [xCh3, upZ_ne h, xCh2, upZ_ne h, xCh1, upZ_ne h]
theorem xCh3_3 {Z : ZT} {w : Int32} : xCh3 Z w (0, 0, 0) 3 = Z (0, 0, 0) 3 := by
  rw [xCh3, upZ_nk (Or.inr (by decide)), xCh2, upZ_nk (Or.inr (by decide)), xCh1, upZ_nk (Or.inr (by decide))]
set_option maxRecDepth 100000 in
set_option maxHeartbeats 4000000 in
theorem c_X4_cast (l : Launch) (G : GG) {ad : NM → Nat} {np nb : Nat} {Z : ZT} {L : LT} {h : AH} (hR : Rm ad np nb Z L h) (hnp : Z (0, 0, 0) 1 = nI np) (hp4 : np ≤ 4) (hnb : Z (0, 0, 0) 3 = nI nb) (hb24 : nb ≤ 24) {v : Int32} : Con l G mX4_cast 3 9 100 [.ref (ad (0, 0, 0)), .int v] h (fun r g => (xCastOk np v Z = false ∧ r = some (.int (-1)) ∧ Rm ad np nb Z L g) ∨ (xCastOk np v Z = true ∧ cl v < np ∧ nb < 24 ∧ r = some (.int (nI nb)) ∧ ∃ ad', Rm ad' np (nb + 1) (xCastZ nb (cl v) Z) L g ∧ ad' (0, 0, 0) = ad (0, 0, 0) ∧ ad' (5, 0, 0) = ad (5, 0, 0))) := by
  refine Con.of 1 rfl (Nat.le_of_ble_eq_true rfl) ?_
  refine j_aload_n dX4_cast_0 rfl ?_
  refine j_iload_n dX4_cast_1 rfl ?_
  refine j_callV (rest := []) (c_X4_profileAt l G hR hnp hp4) (hR.1 _ ⟨by first | assumption | exact Nat.zero_lt_one, rfl⟩) rfl cw_X4_profileAt wl_X4_50 wm_X4_profileAt wx_X4_profileAt rfl rfl (Nat.le_of_ble_eq_true rfl) (Nat.le_of_ble_eq_true rfl) (Nat.le_of_ble_eq_true rfl) (Nat.le_of_ble_eq_true rfl) (Nat.le_of_ble_eq_true rfl) dX4_cast_2 (fun v_2 h_2 e_2 => ?_)
  obtain ⟨rfl, hh⟩ := e_2
  have hh := hh.symm
  subst hh
  cases g : iw v 0 (nI np - 1) with
  | true =>
    obtain ⟨j, hj, rfl, hcl⟩ := iw_lt (by omega) g
    have hcl : cl (nI j) = j := hcl
    rw [pAt_t g (by omega)]
    refine j_astore_n dX4_cast_5 (Nat.le_of_ble_eq_true rfl) rfl ?_
    refine j_aload_n dX4_cast_6 rfl ?_
    refine j_ifnull dX4_cast_7 ?_
    refine j_aload_n dX4_cast_10 rfl ?_
    refine gX4_85 rfl (hR.1 _ ⟨by first | assumption | exact Nat.zero_lt_one, rfl⟩) rfl dX4_cast_11 ?_
    refine j_bipush (v := 24) dX4_cast_14 (by decide) ?_
    refine j_icmp_ge 30 dX4_cast_16 (by decide) (fun c_16 => ?_) (fun c_16 => ?_)
    · refine j_iconst (v := (-1)) dX4_cast_30 (by decide) ?_
      refine j_iret rfl (Nat.le_of_ble_eq_true rfl) (Nat.le_of_ble_eq_true rfl) dX4_cast_31 ?_
      exact Or.inl ⟨by simp [xCastOk, g, hcl, c_16], rfl, hR⟩
    · have hblt : nb < 24 := Nat.not_le.mp (fun q => c_16 (by rw [hnb]; exact (nI_leI (a := 24) (b := nb) (by omega) (by omega)).mpr q))
      refine j_aload_n dX4_cast_19 rfl ?_
      refine j_aload_n dX4_cast_20 rfl ?_
      refine j_callV (rest := [.ref (ad (0, 0, 0))]) (c_X2_castWeight l G hR hj) (hR.1 _ ⟨by first | assumption | exact Nat.zero_lt_one, rfl⟩) rfl cw_X2_castWeight wl_X4_88 wm_X2_castWeight wx_X2_castWeight rfl rfl (Nat.le_of_ble_eq_true rfl) (Nat.le_of_ble_eq_true rfl) (Nat.le_of_ble_eq_true rfl) (Nat.le_of_ble_eq_true rfl) (Nat.le_of_ble_eq_true rfl) dX4_cast_21 (fun v_21 h_21 e_21 => ?_)
      obtain ⟨rfl, hh⟩ := e_21
      have hh := hh.symm
      subst hh
      rw [show wsum (Z (2, j, 0) 0) (Z (2, j, 4)) (Z (2, j, 6)) 8 = xCW Z j from rfl]
      refine j_callV (rest := []) (c_X4_charge l G hR) (hR.1 _ ⟨by first | assumption | exact Nat.zero_lt_one, rfl⟩) rfl cw_X4_charge wl_X4_92 wm_X4_charge wx_X4_charge rfl rfl (Nat.le_of_ble_eq_true rfl) (Nat.le_of_ble_eq_true rfl) (Nat.le_of_ble_eq_true rfl) (Nat.le_of_ble_eq_true rfl) (Nat.le_of_ble_eq_true rfl) dX4_cast_24 (fun v_24 h_24 e_24 => ?_)
      obtain ⟨rfl, hR1⟩ := e_24
      refine j_if_ne 32 dX4_cast_27 (by decide) (fun c_27 => ?_) (fun c_27 => ?_)
      · have g_27 := (bi_ne0 _).mp c_27
        rw [g_27, if_pos rfl] at hR1
        replace hR := hR1
        have hnb3 : xCh3 Z (xCW Z j) (0, 0, 0) 3 = nI nb := xCh3_3.trans hnb
        refine j_aload_n dX4_cast_32 rfl ?_
        refine gX4_17 rfl (hR.1 _ ⟨by first | assumption | exact Nat.zero_lt_one, rfl⟩) rfl dX4_cast_33 ?_
        refine j_aload_n dX4_cast_36 rfl ?_
        refine gX4_85 rfl (hR.1 _ ⟨by first | assumption | exact Nat.zero_lt_one, rfl⟩) rfl dX4_cast_37 ?_
        refine j_new (C := RX0) (T := TX0) (N := 9) (ci := 0) (fs := [.int 0, .null, .null, .int 0, .int 0, .int 0, .null, .int 0, .int 0]) rfl inX0 tyX0 tyX0_ok wk_X4_15 wn_X0 wi_X0 (by decide) (Nat.le_of_ble_eq_true rfl) (Nat.le_of_ble_eq_true rfl) dX4_cast_40 (fun p f_p => ?_)
        have lbe : ad (0, 0, 3) < p := al_lt (hR.1 (0, 0, 3) ⟨Nat.zero_lt_one, rfl⟩) f_p
        have ls0 : ad (2, j, 0) < p := al_lt (hR.1 (2, j, 0) ⟨hj, rfl⟩) f_p
        have ls1 : ad (2, j, 2) < p := al_lt (hR.1 (2, j, 2) ⟨hj, rfl⟩) f_p
        have ls2 : ad (2, j, 3) < p := al_lt (hR.1 (2, j, 3) ⟨hj, rfl⟩) f_p
        have ls3 : ad (2, j, 4) < p := al_lt (hR.1 (2, j, 4) ⟨hj, rfl⟩) f_p
        have ls4 : ad (2, j, 5) < p := al_lt (hR.1 (2, j, 5) ⟨hj, rfl⟩) f_p
        have ls5 : ad (2, j, 6) < p := al_lt (hR.1 (2, j, 6) ⟨hj, rfl⟩) f_p
        refine j_dup dX4_cast_43 rfl ?_
        refine j_iload_n dX4_cast_44 rfl ?_
        refine j_aload_n dX4_cast_45 rfl ?_
        refine j_callI (rest := [.ref p, .int (xCh3 Z (xCW Z j) (0, 0, 0) 3), .ref (ad (0, 0, 3))]) (c_X0_init l G (p := p) (s := ad (2, j, 0)) (upA_self _ _ _) ((upA_ne (Nat.ne_of_lt ls0)).trans (hR.1 (2, j, 0) ⟨hj, rfl⟩)) ((upA_ne (Nat.ne_of_lt ls1)).trans (hR.1 (2, j, 2) ⟨hj, rfl⟩)) ((upA_ne (Nat.ne_of_lt ls2)).trans (hR.1 (2, j, 3) ⟨hj, rfl⟩)) ((upA_ne (Nat.ne_of_lt ls3)).trans (hR.1 (2, j, 4) ⟨hj, rfl⟩)) ((upA_ne (Nat.ne_of_lt ls4)).trans (hR.1 (2, j, 5) ⟨hj, rfl⟩)) ((upA_ne (Nat.ne_of_lt ls5)).trans (hR.1 (2, j, 6) ⟨hj, rfl⟩))) rfl rfl cw_X0_init wl_X4_95 wm_X0_init rfl rfl (Nat.le_of_ble_eq_true rfl) (Nat.le_of_ble_eq_true rfl) (Nat.le_of_ble_eq_true rfl) (Nat.le_of_ble_eq_true rfl) (Nat.le_of_ble_eq_true rfl) dX4_cast_46 (fun v_46 h_46 e_46 => ?_)
        obtain ⟨rfl, m, a1, a2, a3, a4, a5, t, u, l0, l1, l2, l3, l4, l5, l6, l7, fm, e0, em, e1, e2, e3, e4, e5, et, eu, fr⟩ := e_46
        have hbel : h_46 (ad (0, 0, 3)) = some (qA 4 24 (fun x => if x < nb then some (ad (4, x, 0)) else none)) := (fr _ (Nat.ne_of_lt lbe) (Nat.lt_trans lbe l0)).trans ((upA_ne (Nat.ne_of_lt lbe)).trans (hR.1 (0, 0, 3) ⟨Nat.zero_lt_one, rfl⟩))
        refine j_aast (t := 4) (ci := 0) (r := (RX0, TX0, 9)) hbel e0 rfl rfl nb hnb3 hblt (by decide) dX4_cast_49 ?_
        obtain ⟨q, r, hq0, hR⟩ := hR.addB (j := j) (h2 := upA h_46 (ad (0, 0, 3)) (qA 4 24 (va_up (fun x => if x < nb then some (ad (4, x, 0)) else none) nb (some p)))) l0 l1 l2 l3 l4 l5 l6 l7 f_p ((upA_ne (by omega)).trans e0) ((upA_ne (by omega)).trans em) ((upA_ne (by omega)).trans e1) ((upA_ne (by omega)).trans e2) ((upA_ne (by omega)).trans e3) ((upA_ne (by omega)).trans e4) ((upA_ne (by omega)).trans e5) ((upA_ne (by omega)).trans et) ((upA_ne (by omega)).trans eu) (fun x hx hne => (upA_ne hne).trans ((fr x (by omega) (by omega)).trans (upA_ne (by omega)))) (upA_self _ _ _)
        generalize upA h_46 (ad (0, 0, 3)) (qA 4 24 (va_up (fun x => if x < nb then some (ad (4, x, 0)) else none) nb (some p))) = h9 at hR ⊢
        have ha0 : adB ad nb q r (0, 0, 0) = ad (0, 0, 0) := by simp [adB]
        have ha5 : adB ad nb q r (5, 0, 0) = ad (5, 0, 0) := by simp [adB]
        have hz1 : zB (xCh3 Z (xCW Z j)) nb j (0, 0, 0) 3 = nI nb := by
          rw [zB, if_neg (by simp), if_neg (by simp)]
          exact hnb3
        rw [← ha0]
        refine j_aload_n dX4_cast_50 (by rw [ha0]; rfl) ?_
        refine j_dup dX4_cast_51 rfl ?_
        refine gX4_85 rfl (hR.1 (0, 0, 0) ⟨Nat.zero_lt_one, rfl⟩) rfl dX4_cast_52 ?_
        refine j_iconst (v := 1) dX4_cast_55 (by decide) ?_
        refine j_iadd dX4_cast_56 ?_
        rw [hz1, nI_1]
        refine qX4_85 rfl hR dX4_cast_57 (fun h9 hR => ?_)
        refine j_aload_n dX4_cast_60 (by rw [ha0]; rfl) ?_
        refine gX4_31 rfl (hR.1 (0, 0, 0) ⟨Nat.zero_lt_one, rfl⟩) rfl dX4_cast_61 ?_
        refine j_callV (rest := []) (c_X1_forget l G hR) (hR.1 (1, 0, 0) ⟨Nat.zero_lt_one, rfl⟩) rfl cw_X1_forget wl_X4_98 wm_X1_forget wx_X1_forget rfl rfl (Nat.le_of_ble_eq_true rfl) (Nat.le_of_ble_eq_true rfl) (Nat.le_of_ble_eq_true rfl) (Nat.le_of_ble_eq_true rfl) (Nat.le_of_ble_eq_true rfl) dX4_cast_64 (fun v_64 h_64 e_64 => ?_)
        obtain ⟨rfl, hR⟩ := e_64
        refine j_aload_n dX4_cast_67 (by rw [ha0]; rfl) ?_
        refine gX4_85 rfl (hR.1 (0, 0, 0) ⟨Nat.zero_lt_one, rfl⟩) rfl dX4_cast_68 ?_
        rw [upZ_nk (Or.inl (by decide)), upZ_at]
        refine j_iconst (v := 1) dX4_cast_71 (by decide) ?_
        refine j_isub dX4_cast_72 ?_
        refine j_iret rfl (Nat.le_of_ble_eq_true rfl) (Nat.le_of_ble_eq_true rfl) dX4_cast_73 ?_
        exact Or.inr ⟨by simp [xCastOk, g, hcl, c_16, g_27], by omega, hblt, by rw [nI_pred], _, by rw [hcl]; exact hR, ha0, ha5⟩
      · have g_27 := (bi_eq0 _).mp c_27
        rw [g_27] at hR1
        replace hR := hR1
        refine j_iconst (v := (-1)) dX4_cast_30 (by decide) ?_
        refine j_iret rfl (Nat.le_of_ble_eq_true rfl) (Nat.le_of_ble_eq_true rfl) dX4_cast_31 ?_
        exact Or.inl ⟨by simp [xCastOk, g, hcl, c_16, g_27], rfl, hR⟩
  | false =>
    rw [pAt_f g]
    refine j_astore_nN dX4_cast_5 (Nat.le_of_ble_eq_true rfl) rfl ?_
    refine j_aload_nN dX4_cast_6 rfl ?_
    refine j_ifnullN 30 dX4_cast_7 (by decide) ?_
    refine j_iconst (v := (-1)) dX4_cast_30 (by decide) ?_
    refine j_iret rfl (Nat.le_of_ble_eq_true rfl) (Nat.le_of_ble_eq_true rfl) dX4_cast_31 ?_
    exact Or.inl ⟨by simp [xCastOk, g], rfl, hR⟩

