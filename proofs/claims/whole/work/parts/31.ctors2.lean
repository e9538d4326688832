set_option maxRecDepth 100000 in
set_option maxHeartbeats 4000000 in
theorem c_X0_init (l : Launch) (G : GG) {h : AH} {p : Nat} {pn : Int32} (hp : h p = some (.inr (0, [.int 0, .null, .null, .int 0, .int 0, .int 0, .null, .int 0, .int 0]))) {s b1 b2 b3 b4 b5 : Nat} {w : Int32} {z1 z2 z3 z4 z5 : Nat → Int32} (hs : h s = some (.inr (2, [.int w, .ref b1, .ref b2, .ref b3, .ref b4, .ref b5]))) (h1 : h b1 = some (iA 5 z1)) (h2 : h b2 = some (iA 40 z2)) (h3 : h b3 = some (iA 8 z3)) (h4 : h b4 = some (iA 8 z4)) (h5 : h b5 = some (iA 8 z5))  : Con l G mX0_init 2 8 91 [.ref p, .int pn, .ref s] h (fun r g => r = none ∧ ∃ m a1 a2 a3 a4 a5 t u : Nat, p < m ∧ m < a1 ∧ a1 < a2 ∧ a2 < a3 ∧ a3 < a4 ∧ a4 < a5 ∧ a5 < t ∧ t < u ∧ (∀ b, m ≤ b → h b = none) ∧ g p = some (.inr (0, [.int pn, .ref m, .ref t, .int 0, .int 0, .int (-1), .ref u, .int (-1), .int (-1)])) ∧ g m = some (.inr (2, [.int w, .ref a1, .ref a2, .ref a3, .ref a4, .ref a5])) ∧ g a1 = some (iA 5 z1) ∧ g a2 = some (iA 40 z2) ∧ g a3 = some (iA 8 z3) ∧ g a4 = some (iA 8 z4) ∧ g a5 = some (iA 8 z5) ∧ g t = some (iA 8 z5) ∧ g u = some (iA 8 (fun _ => 0)) ∧ ∀ x, x ≠ p → x < m → g x = h x) := by
  have n0 : s ≠ p := fun q => by rw [q, hp] at hs; cases hs
  have n1 : b1 ≠ p := fun q => by rw [q, hp] at h1; cases h1
  have n2 : b2 ≠ p := fun q => by rw [q, hp] at h2; cases h2
  have n3 : b3 ≠ p := fun q => by rw [q, hp] at h3; cases h3
  have n4 : b4 ≠ p := fun q => by rw [q, hp] at h4; cases h4
  have n5 : b5 ≠ p := fun q => by rw [q, hp] at h5; cases h5
  refine Con.of 0 rfl (Nat.le_of_ble_eq_true rfl) ?_
  refine j_aload_n dX0_init_0 rfl ?_
  refine j_objInit wl_X0_3 (Nat.le_of_ble_eq_true rfl) (Nat.le_of_ble_eq_true rfl) (Nat.le_of_ble_eq_true rfl) dX0_init_1 ?_
  refine j_aload_n dX0_init_4 rfl ?_
  refine j_iload_n dX0_init_5 rfl ?_
  refine pX0_9 rfl rfl (by (try simp only [upA]); (repeat first | rw [if_pos rfl] | rw [if_neg (by omega)] | rw [if_neg (by assumption)]); first | rfl | assumption) rfl rfl (Nat.le_of_ble_eq_true rfl) dX0_init_6 ?_
  refine j_aload_n dX0_init_9 rfl ?_
  refine j_new (C := RX2) (T := TX2) (N := 6) (ci := 2) (fs := [.int 0, .null, .null, .null, .null, .null]) rfl inX2 tyX2 tyX2_ok wk_X0_15 wn_X2 wi_X2 (by decide) (Nat.le_of_ble_eq_true rfl) (Nat.le_of_ble_eq_true rfl) dX0_init_10 (fun m f_m => ?_)
  have lt_m : p < m := al_lt (e := _) (by (try simp only [upA]); (repeat first | rw [if_pos rfl] | rw [if_neg (by omega)] | rw [if_neg (by assumption)]); first | rfl | assumption) f_m
  have l0 : s < m := al_lt (e := _) (by (try simp only [upA]); (repeat first | rw [if_pos rfl] | rw [if_neg (by omega)] | rw [if_neg (by assumption)]); first | rfl | assumption) f_m
  have l1 : b1 < m := al_lt (e := _) (by (try simp only [upA]); (repeat first | rw [if_pos rfl] | rw [if_neg (by omega)] | rw [if_neg (by assumption)]); first | rfl | assumption) f_m
  have l2 : b2 < m := al_lt (e := _) (by (try simp only [upA]); (repeat first | rw [if_pos rfl] | rw [if_neg (by omega)] | rw [if_neg (by assumption)]); first | rfl | assumption) f_m
  have l3 : b3 < m := al_lt (e := _) (by (try simp only [upA]); (repeat first | rw [if_pos rfl] | rw [if_neg (by omega)] | rw [if_neg (by assumption)]); first | rfl | assumption) f_m
  have l4 : b4 < m := al_lt (e := _) (by (try simp only [upA]); (repeat first | rw [if_pos rfl] | rw [if_neg (by omega)] | rw [if_neg (by assumption)]); first | rfl | assumption) f_m
  have l5 : b5 < m := al_lt (e := _) (by (try simp only [upA]); (repeat first | rw [if_pos rfl] | rw [if_neg (by omega)] | rw [if_neg (by assumption)]); first | rfl | assumption) f_m
  refine j_dup dX0_init_13 rfl ?_
  refine j_aload_n dX0_init_14 rfl ?_
  refine j_callI (rest := [.ref m, .ref p]) (c_X2_init_ l G (p := m) (s := s) (b1 := b1) (b2 := b2) (b3 := b3) (b4 := b4) (b5 := b5) (w := w) (z1 := z1) (z2 := z2) (z3 := z3) (z4 := z4) (z5 := z5) (by (try simp only [upA]); (repeat first | rw [if_pos rfl] | rw [if_neg (by omega)] | rw [if_neg (by assumption)]); first | rfl | assumption) (by (try simp only [upA]); (repeat first | rw [if_pos rfl] | rw [if_neg (by omega)] | rw [if_neg (by assumption)]); first | rfl | assumption) (by (try simp only [upA]); (repeat first | rw [if_pos rfl] | rw [if_neg (by omega)] | rw [if_neg (by assumption)]); first | rfl | assumption) (by (try simp only [upA]); (repeat first | rw [if_pos rfl] | rw [if_neg (by omega)] | rw [if_neg (by assumption)]); first | rfl | assumption) (by (try simp only [upA]); (repeat first | rw [if_pos rfl] | rw [if_neg (by omega)] | rw [if_neg (by assumption)]); first | rfl | assumption) (by (try simp only [upA]); (repeat first | rw [if_pos rfl] | rw [if_neg (by omega)] | rw [if_neg (by assumption)]); first | rfl | assumption) (by (try simp only [upA]); (repeat first | rw [if_pos rfl] | rw [if_neg (by omega)] | rw [if_neg (by assumption)]); first | rfl | assumption) (by omega)) rfl rfl cw_X2_init_ wl_X0_17 wm_X2_init_ rfl rfl (Nat.le_of_ble_eq_true rfl) (Nat.le_of_ble_eq_true rfl) (Nat.le_of_ble_eq_true rfl) (Nat.le_of_ble_eq_true rfl) (Nat.le_of_ble_eq_true rfl) dX0_init_15 (fun v_15 h_15 e_15 => ?_)
  obtain ⟨rfl, a1, a2, a3, a4, a5, lt_a1, lt_a2, lt_a3, lt_a4, lt_a5, fa1, em, e1, e2, e3, e4, e5, fr⟩ := e_15
  have hp2 : h_15 p = some (.inr (0, [.int pn, .null, .null, .int 0, .int 0, .int 0, .null, .int 0, .int 0])) := (fr p (by omega) (by omega)).trans (by (try simp only [upA]); (repeat first | rw [if_pos rfl] | rw [if_neg (by omega)] | rw [if_neg (by assumption)]); first | rfl | assumption)
  have hs2 : h_15 s = some (.inr (2, [.int w, .ref b1, .ref b2, .ref b3, .ref b4, .ref b5])) := (fr s (by omega) (by omega)).trans (by (try simp only [upA]); (repeat first | rw [if_pos rfl] | rw [if_neg (by omega)] | rw [if_neg (by assumption)]); first | rfl | assumption)
  have h52 : h_15 b5 = some (iA 8 z5) := (fr b5 (by omega) (by omega)).trans (by (try simp only [upA]); (repeat first | rw [if_pos rfl] | rw [if_neg (by omega)] | rw [if_neg (by assumption)]); first | rfl | assumption)
  refine pX0_20 rfl rfl (by (try simp only [upA]); (repeat first | rw [if_pos rfl] | rw [if_neg (by omega)] | rw [if_neg (by assumption)]); first | rfl | assumption) rfl rfl (Nat.le_of_ble_eq_true rfl) dX0_init_18 ?_
  refine j_aload_n dX0_init_21 rfl ?_
  refine j_aload_n dX0_init_22 rfl ?_
  refine gX0_24 rfl (by (try simp only [upA]); (repeat first | rw [if_pos rfl] | rw [if_neg (by omega)] | rw [if_neg (by assumption)]); first | rfl | assumption) rfl dX0_init_23 ?_
  refine j_clone (by (try simp only [upA]); (repeat first | rw [if_pos rfl] | rw [if_neg (by omega)] | rw [if_neg (by assumption)]); first | rfl | assumption) wl_X0_28 (Nat.le_of_ble_eq_true rfl) (Nat.le_of_ble_eq_true rfl) (Nat.le_of_ble_eq_true rfl) (Nat.le_of_ble_eq_true rfl) (Nat.le_of_ble_eq_true rfl) dX0_init_26 (fun t f_t => ?_)
  have lt_t : a5 < t := al_lt (e := _) (by (try simp only [upA]); (repeat first | rw [if_pos rfl] | rw [if_neg (by omega)] | rw [if_neg (by assumption)]); first | rfl | assumption) f_t
  refine j_castI (by (try simp only [upA]); (repeat first | rw [if_pos rfl] | rw [if_neg (by omega)] | rw [if_neg (by assumption)]); first | rfl | assumption) wk_X0_29 dX0_init_29 ?_
  refine pX0_33 rfl rfl (by (try simp only [upA]); (repeat first | rw [if_pos rfl] | rw [if_neg (by omega)] | rw [if_neg (by assumption)]); first | rfl | assumption) rfl rfl (Nat.le_of_ble_eq_true rfl) dX0_init_32 ?_
  refine j_aload_n dX0_init_35 rfl ?_
  refine j_iconst (v := (-1)) dX0_init_36 (by decide) ?_
  refine pX0_34 rfl (by (try simp only [upA]); (repeat first | rw [if_pos rfl] | rw [if_neg (by omega)] | rw [if_neg (by assumption)]); first | rfl | assumption) rfl rfl (Nat.le_of_ble_eq_true rfl) dX0_init_37 ?_
  refine j_aload_n dX0_init_40 rfl ?_
  refine j_bipush (v := 8) dX0_init_41 (by decide) ?_
  refine j_newi 8 (by decide) (by decide) (by decide) (Nat.le_of_ble_eq_true rfl) (Nat.le_of_ble_eq_true rfl) dX0_init_43 (fun u f_u => ?_)
  have lt_u : t < u := al_lt (e := _) (by (try simp only [upA]); (repeat first | rw [if_pos rfl] | rw [if_neg (by omega)] | rw [if_neg (by assumption)]); first | rfl | assumption) f_u
  refine pX0_37 rfl rfl (by (try simp only [upA]); (repeat first | rw [if_pos rfl] | rw [if_neg (by omega)] | rw [if_neg (by assumption)]); first | rfl | assumption) rfl rfl (Nat.le_of_ble_eq_true rfl) dX0_init_45 ?_
  refine j_aload_n dX0_init_48 rfl ?_
  refine j_iconst (v := (-1)) dX0_init_49 (by decide) ?_
  refine pX0_40 rfl (by (try simp only [upA]); (repeat first | rw [if_pos rfl] | rw [if_neg (by omega)] | rw [if_neg (by assumption)]); first | rfl | assumption) rfl rfl (Nat.le_of_ble_eq_true rfl) dX0_init_50 ?_
  refine j_aload_n dX0_init_53 rfl ?_
  refine j_iconst (v := (-1)) dX0_init_54 (by decide) ?_
  refine pX0_43 rfl (by (try simp only [upA]); (repeat first | rw [if_pos rfl] | rw [if_neg (by omega)] | rw [if_neg (by assumption)]); first | rfl | assumption) rfl rfl (Nat.le_of_ble_eq_true rfl) dX0_init_55 ?_
  refine j_vret rfl (Nat.le_of_ble_eq_true rfl) (Nat.le_of_ble_eq_true rfl) dX0_init_58 ?_
  refine ⟨rfl, m, a1, a2, a3, a4, a5, t, u, lt_m, lt_a1, lt_a2, lt_a3, lt_a4, lt_a5, lt_t, lt_u, fun b hb => ?_, ?_, ?_, ?_, ?_, ?_, ?_, ?_, ?_, ?_, fun x hx1 hx2 => ?_⟩
  · have := f_m b hb
    (try simp only [upA] at this)
    (repeat rw [if_neg (by omega)] at this)
    exact this
  · exact (by (try simp only [upA]); (repeat first | rw [if_pos rfl] | rw [if_neg (by omega)] | rw [if_neg (by assumption)]); first | rfl | assumption)
  · exact (by (try simp only [upA]); (repeat first | rw [if_pos rfl] | rw [if_neg (by omega)] | rw [if_neg (by assumption)]); first | rfl | assumption)
  · exact (by (try simp only [upA]); (repeat first | rw [if_pos rfl] | rw [if_neg (by omega)] | rw [if_neg (by assumption)]); first | rfl | assumption)
  · exact (by (try simp only [upA]); (repeat first | rw [if_pos rfl] | rw [if_neg (by omega)] | rw [if_neg (by assumption)]); first | rfl | assumption)
  · exact (by (try simp only [upA]); (repeat first | rw [if_pos rfl] | rw [if_neg (by omega)] | rw [if_neg (by assumption)]); first | rfl | assumption)
  · exact (by (try simp only [upA]); (repeat first | rw [if_pos rfl] | rw [if_neg (by omega)] | rw [if_neg (by assumption)]); first | rfl | assumption)
  · exact (by (try simp only [upA]); (repeat first | rw [if_pos rfl] | rw [if_neg (by omega)] | rw [if_neg (by assumption)]); first | rfl | assumption)
  · exact (by (try simp only [upA]); (repeat first | rw [if_pos rfl] | rw [if_neg (by omega)] | rw [if_neg (by assumption)]); first | rfl | assumption)
  · exact (by (try simp only [upA]); (repeat first | rw [if_pos rfl] | rw [if_neg (by omega)] | rw [if_neg (by assumption)]); first | rfl | assumption)
  · (try simp only [upA])
    (repeat rw [if_neg (by omega)])
    rw [fr x (by omega) (by omega)]
    (try simp only [upA])
    (repeat rw [if_neg (by omega)])

set_option maxRecDepth 100000 in
set_option maxHeartbeats 4000000 in
theorem c_X4_init (l : Launch) (G : GG) {h : AH} {p : Nat} (hp : h p = some (.inr (4, [.null, .int 0, .null, .int 0, .int 0, .int 0, .int 0, .null, .null, .null, .int 0])))  : Con l G mX4_init 2 18 318 [.ref p] h (fun r g => r = none ∧ ∃ a1 a2 t t1 t2 t3 t4 t5 t6 c c1 c2 c3 c4 c5 c6 c7 s : Nat, p < a1 ∧ a1 < a2 ∧ a2 < t ∧ t < t1 ∧ t1 < t2 ∧ t2 < t3 ∧ t3 < t4 ∧ t4 < t5 ∧ t5 < t6 ∧ t6 < c ∧ c < c1 ∧ c1 < c2 ∧ c2 < c3 ∧ c3 < c4 ∧ c4 < c5 ∧ c5 < c6 ∧ c6 < c7 ∧ c7 < s ∧ (∀ b, a1 ≤ b → h b = none) ∧ g p = some (.inr (4, [.ref a1, .int 0, .ref a2, .int 0, .int 0, .int 0, .int 0, .ref t, .ref c, .ref s, .int 0])) ∧ g a1 = some (qA 3 4 (fun _ => none)) ∧ g a2 = some (qA 4 24 (fun _ => none)) ∧ g t = some (.inr (3, [.ref t1, .ref t2, .int 0, .ref t3, .ref t4, .ref t5, .ref t6])) ∧ g t1 = some (iA 5 (fun _ => -30000)) ∧ g t2 = some (iA 5 (fun _ => 30000)) ∧ g t3 = some (iA 5 (fun _ => 0)) ∧ g t4 = some (iA 9 (fun _ => 0)) ∧ g t5 = some (iA 45 (fun _ => 0)) ∧ g t6 = some (iA 45 (fun _ => 0)) ∧ g c = some (.inr (1, [.ref c1, .int 0, .int 0, .int 0, .long 4611686018427387904, .ref c2, .int 0, .ref c3, .ref c4, .ref c5, .ref c6, .ref c7])) ∧ g c1 = some (iA 8 (fun _ => 0)) ∧ g c2 = some (iA 24 (fun _ => 0)) ∧ g c3 = some (iA 24 (fun _ => 0)) ∧ g c4 = some (iA 24 (fun _ => 0)) ∧ g c5 = some (iA 24 (fun _ => 0)) ∧ g c6 = some (lA 24 (fun _ => 0)) ∧ g c7 = some (iA 24 (fun _ => 0)) ∧ g s = some (iA 5 (fun _ => 0)) ∧ ∀ x, x ≠ p → x < a1 → g x = h x) := by
  refine Con.of 0 rfl (Nat.le_of_ble_eq_true rfl) ?_
  refine j_aload_n dX4_init_0 rfl ?_
  refine j_objInit wl_X4_1 (Nat.le_of_ble_eq_true rfl) (Nat.le_of_ble_eq_true rfl) (Nat.le_of_ble_eq_true rfl) dX4_init_1 ?_
  refine j_aload_n dX4_init_4 rfl ?_
  refine j_iconst (v := 4) dX4_init_5 (by decide) ?_
  refine j_newq (C := RX2) (t := 3) 4 rfl wk_X4_9 (fun s hs => hs.2.2.2.2.1) (by decide) (by decide) (by decide) (Nat.le_of_ble_eq_true rfl) (Nat.le_of_ble_eq_true rfl) dX4_init_6 (fun a1 f_a1 => ?_)
  have lt_a1 : p < a1 := al_lt (e := _) (by (try simp only [upA]); (repeat first | rw [if_pos rfl] | rw [if_neg (by omega)]); first | rfl | assumption) f_a1
  refine pX4_11 rfl rfl (by (try simp only [upA]); (repeat first | rw [if_pos rfl] | rw [if_neg (by omega)]); first | rfl | assumption) rfl rfl (Nat.le_of_ble_eq_true rfl) dX4_init_9 ?_
  refine j_aload_n dX4_init_12 rfl ?_
  refine j_bipush (v := 24) dX4_init_13 (by decide) ?_
  refine j_newq (C := RX0) (t := 4) 24 rfl wk_X4_15 (fun s hs => hs.2.2.2.2.2) (by decide) (by decide) (by decide) (Nat.le_of_ble_eq_true rfl) (Nat.le_of_ble_eq_true rfl) dX4_init_15 (fun a2 f_a2 => ?_)
  have lt_a2 : a1 < a2 := al_lt (e := _) (by (try simp only [upA]); (repeat first | rw [if_pos rfl] | rw [if_neg (by omega)]); first | rfl | assumption) f_a2
  refine pX4_17 rfl rfl (by (try simp only [upA]); (repeat first | rw [if_pos rfl] | rw [if_neg (by omega)]); first | rfl | assumption) rfl rfl (Nat.le_of_ble_eq_true rfl) dX4_init_18 ?_
  refine j_aload_n dX4_init_21 rfl ?_
  refine j_new (C := RX3) (T := TX3) (N := 7) (ci := 3) (fs := [.null, .null, .int 0, .null, .null, .null, .null]) rfl inX3 tyX3 tyX3_ok wk_X4_21 wn_X3 wi_X3 (by decide) (Nat.le_of_ble_eq_true rfl) (Nat.le_of_ble_eq_true rfl) dX4_init_22 (fun t f_t => ?_)
  have lt_t : a2 < t := al_lt (e := _) (by (try simp only [upA]); (repeat first | rw [if_pos rfl] | rw [if_neg (by omega)]); first | rfl | assumption) f_t
  refine j_dup dX4_init_25 rfl ?_
  refine j_callI (rest := [.ref t, .ref p]) (c_X3_init l G (p := t) (by (try simp only [upA]); (repeat first | rw [if_pos rfl] | rw [if_neg (by omega)]); first | rfl | assumption)) rfl rfl cw_X3_init wl_X4_23 wm_X3_init rfl rfl (Nat.le_of_ble_eq_true rfl) (Nat.le_of_ble_eq_true rfl) (Nat.le_of_ble_eq_true rfl) (Nat.le_of_ble_eq_true rfl) (Nat.le_of_ble_eq_true rfl) dX4_init_26 (fun v_26 h_26 e_26 => ?_)
  obtain ⟨rfl, t1, t2, t3, t4, t5, t6, lt_t1, lt_t2, lt_t3, lt_t4, lt_t5, lt_t6, ft1, et, et1, et2, et3, et4, et5, et6, frt⟩ := e_26
  have gA_p : h_26 p = some (.inr (4, [.ref a1, .int 0, .ref a2, .int 0, .int 0, .int 0, .int 0, .null, .null, .null, .int 0])) := (frt p (by omega) (by omega)).trans (by (try simp only [upA]); (repeat first | rw [if_pos rfl] | rw [if_neg (by omega)]); first | rfl | assumption)
  have gA_a1 : h_26 a1 = some (qA 3 4 (fun _ => none)) := (frt a1 (by omega) (by omega)).trans (by (try simp only [upA]); (repeat first | rw [if_pos rfl] | rw [if_neg (by omega)]); first | rfl | assumption)
  have gA_a2 : h_26 a2 = some (qA 4 24 (fun _ => none)) := (frt a2 (by omega) (by omega)).trans (by (try simp only [upA]); (repeat first | rw [if_pos rfl] | rw [if_neg (by omega)]); first | rfl | assumption)
  refine pX4_24 rfl rfl (by (try simp only [upA]); (repeat first | rw [if_pos rfl] | rw [if_neg (by omega)]); first | rfl | assumption) rfl rfl (Nat.le_of_ble_eq_true rfl) dX4_init_29 ?_
  refine j_aload_n dX4_init_32 rfl ?_
  refine j_new (C := RX1) (T := TX1) (N := 12) (ci := 1) (fs := [.null, .int 0, .int 0, .int 0, .long 0, .null, .int 0, .null, .null, .null, .null, .null]) rfl inX1 tyX1 tyX1_ok wk_X4_28 wn_X1 wi_X1 (by decide) (Nat.le_of_ble_eq_true rfl) (Nat.le_of_ble_eq_true rfl) dX4_init_33 (fun c f_c => ?_)
  have lt_c : t6 < c := al_lt (e := _) (by (try simp only [upA]); (repeat first | rw [if_pos rfl] | rw [if_neg (by omega)]); first | rfl | assumption) f_c
  refine j_dup dX4_init_36 rfl ?_
  refine j_callI (rest := [.ref c, .ref p]) (c_X1_init l G (p := c) (by (try simp only [upA]); (repeat first | rw [if_pos rfl] | rw [if_neg (by omega)]); first | rfl | assumption)) rfl rfl cw_X1_init wl_X4_30 wm_X1_init rfl rfl (Nat.le_of_ble_eq_true rfl) (Nat.le_of_ble_eq_true rfl) (Nat.le_of_ble_eq_true rfl) (Nat.le_of_ble_eq_true rfl) (Nat.le_of_ble_eq_true rfl) dX4_init_37 (fun v_37 h_37 e_37 => ?_)
  obtain ⟨rfl, c1, c2, c3, c4, c5, c6, c7, lt_c1, lt_c2, lt_c3, lt_c4, lt_c5, lt_c6, lt_c7, fc1, ec, ec1, ec2, ec3, ec4, ec5, ec6, ec7, frc⟩ := e_37
  have gB_p : h_37 p = some (.inr (4, [.ref a1, .int 0, .ref a2, .int 0, .int 0, .int 0, .int 0, .ref t, .null, .null, .int 0])) := (frc p (by omega) (by omega)).trans (by (try simp only [upA]); (repeat first | rw [if_pos rfl] | rw [if_neg (by omega)]); first | rfl | assumption)
  have gB_a1 : h_37 a1 = some (qA 3 4 (fun _ => none)) := (frc a1 (by omega) (by omega)).trans (by (try simp only [upA]); (repeat first | rw [if_pos rfl] | rw [if_neg (by omega)]); first | rfl | assumption)
  have gB_a2 : h_37 a2 = some (qA 4 24 (fun _ => none)) := (frc a2 (by omega) (by omega)).trans (by (try simp only [upA]); (repeat first | rw [if_pos rfl] | rw [if_neg (by omega)]); first | rfl | assumption)
  have gB_t : h_37 t = some (.inr (3, [.ref t1, .ref t2, .int 0, .ref t3, .ref t4, .ref t5, .ref t6])) := (frc t (by omega) (by omega)).trans (by (try simp only [upA]); (repeat first | rw [if_pos rfl] | rw [if_neg (by omega)]); first | rfl | assumption)
  have gB_t1 : h_37 t1 = some (iA 5 (fun _ => -30000)) := (frc t1 (by omega) (by omega)).trans (by (try simp only [upA]); (repeat first | rw [if_pos rfl] | rw [if_neg (by omega)]); first | rfl | assumption)
  have gB_t2 : h_37 t2 = some (iA 5 (fun _ => 30000)) := (frc t2 (by omega) (by omega)).trans (by (try simp only [upA]); (repeat first | rw [if_pos rfl] | rw [if_neg (by omega)]); first | rfl | assumption)
  have gB_t3 : h_37 t3 = some (iA 5 (fun _ => 0)) := (frc t3 (by omega) (by omega)).trans (by (try simp only [upA]); (repeat first | rw [if_pos rfl] | rw [if_neg (by omega)]); first | rfl | assumption)
  have gB_t4 : h_37 t4 = some (iA 9 (fun _ => 0)) := (frc t4 (by omega) (by omega)).trans (by (try simp only [upA]); (repeat first | rw [if_pos rfl] | rw [if_neg (by omega)]); first | rfl | assumption)
  have gB_t5 : h_37 t5 = some (iA 45 (fun _ => 0)) := (frc t5 (by omega) (by omega)).trans (by (try simp only [upA]); (repeat first | rw [if_pos rfl] | rw [if_neg (by omega)]); first | rfl | assumption)
  have gB_t6 : h_37 t6 = some (iA 45 (fun _ => 0)) := (frc t6 (by omega) (by omega)).trans (by (try simp only [upA]); (repeat first | rw [if_pos rfl] | rw [if_neg (by omega)]); first | rfl | assumption)
  refine pX4_31 rfl rfl (by (try simp only [upA]); (repeat first | rw [if_pos rfl] | rw [if_neg (by omega)]); first | rfl | assumption) rfl rfl (Nat.le_of_ble_eq_true rfl) dX4_init_40 ?_
  refine j_aload_n dX4_init_43 rfl ?_
  refine j_iconst (v := 5) dX4_init_44 (by decide) ?_
  refine j_newi 5 (by decide) (by decide) (by decide) (Nat.le_of_ble_eq_true rfl) (Nat.le_of_ble_eq_true rfl) dX4_init_45 (fun s f_s => ?_)
  have lt_s : c7 < s := al_lt (e := _) (by (try simp only [upA]); (repeat first | rw [if_pos rfl] | rw [if_neg (by omega)]); first | rfl | assumption) f_s
  refine pX4_35 rfl rfl (by (try simp only [upA]); (repeat first | rw [if_pos rfl] | rw [if_neg (by omega)]); first | rfl | assumption) rfl rfl (Nat.le_of_ble_eq_true rfl) dX4_init_47 ?_
  refine j_vret rfl (Nat.le_of_ble_eq_true rfl) (Nat.le_of_ble_eq_true rfl) dX4_init_50 ?_
  refine ⟨rfl, a1, a2, t, t1, t2, t3, t4, t5, t6, c, c1, c2, c3, c4, c5, c6, c7, s, lt_a1, lt_a2, lt_t, lt_t1, lt_t2, lt_t3, lt_t4, lt_t5, lt_t6, lt_c, lt_c1, lt_c2, lt_c3, lt_c4, lt_c5, lt_c6, lt_c7, lt_s, fun b hb => ?_, ?_, ?_, ?_, ?_, ?_, ?_, ?_, ?_, ?_, ?_, ?_, ?_, ?_, ?_, ?_, ?_, ?_, ?_, ?_, fun x hx1 hx2 => ?_⟩
  · have := f_a1 b hb
    (try simp only [upA] at this)
    (repeat rw [if_neg (by omega)] at this)
    exact this
  · exact (by (try simp only [upA]); (repeat first | rw [if_pos rfl] | rw [if_neg (by omega)]); first | rfl | assumption)
  · exact (by (try simp only [upA]); (repeat first | rw [if_pos rfl] | rw [if_neg (by omega)]); first | rfl | assumption)
  · exact (by (try simp only [upA]); (repeat first | rw [if_pos rfl] | rw [if_neg (by omega)]); first | rfl | assumption)
  · exact (by (try simp only [upA]); (repeat first | rw [if_pos rfl] | rw [if_neg (by omega)]); first | rfl | assumption)
  · exact (by (try simp only [upA]); (repeat first | rw [if_pos rfl] | rw [if_neg (by omega)]); first | rfl | assumption)
  · exact (by (try simp only [upA]); (repeat first | rw [if_pos rfl] | rw [if_neg (by omega)]); first | rfl | assumption)
  · exact (by (try simp only [upA]); (repeat first | rw [if_pos rfl] | rw [if_neg (by omega)]); first | rfl | assumption)
  · exact (by (try simp only [upA]); (repeat first | rw [if_pos rfl] | rw [if_neg (by omega)]); first | rfl | assumption)
  · exact (by (try simp only [upA]); (repeat first | rw [if_pos rfl] | rw [if_neg (by omega)]); first | rfl | assumption)
  · exact (by (try simp only [upA]); (repeat first | rw [if_pos rfl] | rw [if_neg (by omega)]); first | rfl | assumption)
  · exact (by (try simp only [upA]); (repeat first | rw [if_pos rfl] | rw [if_neg (by omega)]); first | rfl | assumption)
  · exact (by (try simp only [upA]); (repeat first | rw [if_pos rfl] | rw [if_neg (by omega)]); first | rfl | assumption)
  · exact (by (try simp only [upA]); (repeat first | rw [if_pos rfl] | rw [if_neg (by omega)]); first | rfl | assumption)
  · exact (by (try simp only [upA]); (repeat first | rw [if_pos rfl] | rw [if_neg (by omega)]); first | rfl | assumption)
  · exact (by (try simp only [upA]); (repeat first | rw [if_pos rfl] | rw [if_neg (by omega)]); first | rfl | assumption)
  · exact (by (try simp only [upA]); (repeat first | rw [if_pos rfl] | rw [if_neg (by omega)]); first | rfl | assumption)
  · exact (by (try simp only [upA]); (repeat first | rw [if_pos rfl] | rw [if_neg (by omega)]); first | rfl | assumption)
  · exact (by (try simp only [upA]); (repeat first | rw [if_pos rfl] | rw [if_neg (by omega)]); first | rfl | assumption)
  · exact (by (try simp only [upA]); (repeat first | rw [if_pos rfl] | rw [if_neg (by omega)]); first | rfl | assumption)
  · (try simp only [upA])
    (repeat rw [if_neg (by omega)])
    rw [frc x (by omega) (by omega)]
    (try simp only [upA])
    (repeat rw [if_neg (by omega)])
    rw [frt x (by omega) (by omega)]
    (try simp only [upA])
    (repeat rw [if_neg (by omega)])

