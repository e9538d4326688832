theorem al_lt {h : AH} {x a : Nat} {e : AE} (hx : h x = some e) (f : ∀ b, a ≤ b → h b = none) : x < a := by
  rcases Nat.lt_or_ge x a with q | q
  · exact q
  · rw [f x q] at hx
    cases hx
set_option maxRecDepth 100000 in
set_option maxHeartbeats 4000000 in
theorem c_X2_init (l : Launch) (G : GG) {h : AH} {p : Nat} {w : Int32} (hp : h p = some (.inr (2, [.int 0, .null, .null, .null, .null, .null]))) : Con l G mX2_init 1 5 69 [.ref p, .int w] h (fun r h2 => r = none ∧ ∃ a1 a2 a3 a4 a5 : Nat, p < a1 ∧ a1 < a2 ∧ a2 < a3 ∧ a3 < a4 ∧ a4 < a5 ∧ (∀ b, a1 ≤ b → h b = none) ∧ h2 p = some (.inr (2, [.int w, .ref a1, .ref a2, .ref a3, .ref a4, .ref a5])) ∧ h2 a1 = some (iA 5 (fun _ => 0)) ∧ h2 a2 = some (iA 40 (fun _ => 0)) ∧ h2 a3 = some (iA 8 (fun _ => 1)) ∧ h2 a4 = some (iA 8 (fun _ => 0)) ∧ h2 a5 = some (iA 8 (fun _ => 0)) ∧ ∀ x, x ≠ p → x < a1 → h2 x = h x) := by
  refine Con.of 0 rfl (Nat.le_of_ble_eq_true rfl) ?_
  refine j_aload_n dX2_init_0 rfl ?_
  refine j_objInit wl_X2_3 (Nat.le_of_ble_eq_true rfl) (Nat.le_of_ble_eq_true rfl) (Nat.le_of_ble_eq_true rfl) dX2_init_1 ?_
  refine j_aload_n dX2_init_4 rfl ?_
  refine j_iload_n dX2_init_5 rfl ?_
  refine pX2_9 rfl rfl (by (try simp only [upA]); (repeat first | rw [if_pos rfl] | rw [if_neg (by omega)]); first | rfl | assumption) rfl rfl (Nat.le_of_ble_eq_true rfl) dX2_init_6 ?_
  refine j_aload_n dX2_init_9 rfl ?_
  refine j_iconst (v := 5) dX2_init_10 (by decide) ?_
  refine j_newi 5 (by decide) (by decide) (by decide) (Nat.le_of_ble_eq_true rfl) (Nat.le_of_ble_eq_true rfl) dX2_init_11 (fun a1 f_a1 => ?_)
  have lt_a1 : p < a1 := al_lt (e := _) (by (try simp only [upA]); (repeat first | rw [if_pos rfl] | rw [if_neg (by omega)]); first | rfl | assumption) f_a1
  refine pX2_15 rfl rfl (by (try simp only [upA]); (repeat first | rw [if_pos rfl] | rw [if_neg (by omega)]); first | rfl | assumption) rfl rfl (Nat.le_of_ble_eq_true rfl) dX2_init_13 ?_
  refine j_aload_n dX2_init_16 rfl ?_
  refine j_bipush (v := 40) dX2_init_17 (by decide) ?_
  refine j_newi 40 (by decide) (by decide) (by decide) (Nat.le_of_ble_eq_true rfl) (Nat.le_of_ble_eq_true rfl) dX2_init_19 (fun a2 f_a2 => ?_)
  have lt_a2 : a1 < a2 := al_lt (e := _) (by (try simp only [upA]); (repeat first | rw [if_pos rfl] | rw [if_neg (by omega)]); first | rfl | assumption) f_a2
  refine pX2_19 rfl rfl (by (try simp only [upA]); (repeat first | rw [if_pos rfl] | rw [if_neg (by omega)]); first | rfl | assumption) rfl rfl (Nat.le_of_ble_eq_true rfl) dX2_init_21 ?_
  refine j_aload_n dX2_init_24 rfl ?_
  refine j_bipush (v := 8) dX2_init_25 (by decide) ?_
  refine j_newi 8 (by decide) (by decide) (by decide) (Nat.le_of_ble_eq_true rfl) (Nat.le_of_ble_eq_true rfl) dX2_init_27 (fun a3 f_a3 => ?_)
  have lt_a3 : a2 < a3 := al_lt (e := _) (by (try simp only [upA]); (repeat first | rw [if_pos rfl] | rw [if_neg (by omega)]); first | rfl | assumption) f_a3
  refine pX2_22 rfl rfl (by (try simp only [upA]); (repeat first | rw [if_pos rfl] | rw [if_neg (by omega)]); first | rfl | assumption) rfl rfl (Nat.le_of_ble_eq_true rfl) dX2_init_29 ?_
  refine j_aload_n dX2_init_32 rfl ?_
  refine j_bipush (v := 8) dX2_init_33 (by decide) ?_
  refine j_newi 8 (by decide) (by decide) (by decide) (Nat.le_of_ble_eq_true rfl) (Nat.le_of_ble_eq_true rfl) dX2_init_35 (fun a4 f_a4 => ?_)
  have lt_a4 : a3 < a4 := al_lt (e := _) (by (try simp only [upA]); (repeat first | rw [if_pos rfl] | rw [if_neg (by omega)]); first | rfl | assumption) f_a4
  refine pX2_25 rfl rfl (by (try simp only [upA]); (repeat first | rw [if_pos rfl] | rw [if_neg (by omega)]); first | rfl | assumption) rfl rfl (Nat.le_of_ble_eq_true rfl) dX2_init_37 ?_
  refine j_aload_n dX2_init_40 rfl ?_
  refine j_bipush (v := 8) dX2_init_41 (by decide) ?_
  refine j_newi 8 (by decide) (by decide) (by decide) (Nat.le_of_ble_eq_true rfl) (Nat.le_of_ble_eq_true rfl) dX2_init_43 (fun a5 f_a5 => ?_)
  have lt_a5 : a4 < a5 := al_lt (e := _) (by (try simp only [upA]); (repeat first | rw [if_pos rfl] | rw [if_neg (by omega)]); first | rfl | assumption) f_a5
  refine pX2_28 rfl rfl (by (try simp only [upA]); (repeat first | rw [if_pos rfl] | rw [if_neg (by omega)]); first | rfl | assumption) rfl rfl (Nat.le_of_ble_eq_true rfl) dX2_init_45 ?_
  refine j_aload_n dX2_init_48 rfl ?_
  refine gX2_22 rfl (by (try simp only [upA]); (repeat first | rw [if_pos rfl] | rw [if_neg (by omega)]); first | rfl | assumption) rfl dX2_init_49 ?_
  refine j_iconst (v := 1) dX2_init_52 (by decide) ?_
  refine j_callS (rest := []) (c_J7_fill_53178 l G (n := 8) (f := fun _ => 0) (by (try simp only [upA]); (repeat first | rw [if_pos rfl] | rw [if_neg (by omega)]); first | rfl | assumption) (by decide)) cw_J7_fill_53178 wl_X2_31 ws_J7_fill_53178 rfl rfl (Nat.le_of_ble_eq_true rfl) (Nat.le_of_ble_eq_true rfl) (Nat.le_of_ble_eq_true rfl) (Nat.le_of_ble_eq_true rfl) (Nat.le_of_ble_eq_true rfl) dX2_init_53 (fun v_53 h_53 e_53 => ?_)
  obtain ⟨rfl, rfl⟩ := e_53
  refine j_vret rfl (Nat.le_of_ble_eq_true rfl) (Nat.le_of_ble_eq_true rfl) dX2_init_56 ?_
  refine ⟨rfl, a1, a2, a3, a4, a5, lt_a1, lt_a2, lt_a3, lt_a4, lt_a5, fun b hb => ?_, ?_, ?_, ?_, ?_, ?_, ?_, fun x hx1 hx2 => ?_⟩
  · have := f_a1 b hb
    (try simp only [upA] at this)
    (repeat rw [if_neg (by omega)] at this)
    exact this
  · exact (by (try simp only [upA]); (repeat first | rw [if_pos rfl] | rw [if_neg (by omega)]); first | rfl | assumption)
  · exact (by (try simp only [upA]); (repeat first | rw [if_pos rfl] | rw [if_neg (by omega)]); first | rfl | assumption)
  · exact (by (try simp only [upA]); (repeat first | rw [if_pos rfl] | rw [if_neg (by omega)]); first | rfl | assumption)
  · exact (by (try simp only [upA]); (repeat first | rw [if_pos rfl] | rw [if_neg (by omega)]); first | rfl | assumption)
  · exact (by (try simp only [upA]); (repeat first | rw [if_pos rfl] | rw [if_neg (by omega)]); first | rfl | assumption)
  · exact (by (try simp only [upA]); (repeat first | rw [if_pos rfl] | rw [if_neg (by omega)]); first | rfl | assumption)
  · (try simp only [upA])
    (repeat rw [if_neg (by omega)])

set_option maxRecDepth 100000 in
set_option maxHeartbeats 4000000 in
theorem c_X2_init_ (l : Launch) (G : GG) {h : AH} {p : Nat} (hp : h p = some (.inr (2, [.int 0, .null, .null, .null, .null, .null]))) {s b1 b2 b3 b4 b5 : Nat} {w : Int32} {z1 z2 z3 z4 z5 : Nat → Int32} (hs : h s = some (.inr (2, [.int w, .ref b1, .ref b2, .ref b3, .ref b4, .ref b5]))) (h1 : h b1 = some (iA 5 z1)) (h2 : h b2 = some (iA 40 z2)) (h3 : h b3 = some (iA 8 z3)) (h4 : h b4 = some (iA 8 z4)) (h5 : h b5 = some (iA 8 z5)) (hps : s ≠ p)  : Con l G mX2_init_ 1 5 69 [.ref p, .ref s] h (fun r h2 => r = none ∧ ∃ a1 a2 a3 a4 a5 : Nat, p < a1 ∧ a1 < a2 ∧ a2 < a3 ∧ a3 < a4 ∧ a4 < a5 ∧ (∀ b, a1 ≤ b → h b = none) ∧ h2 p = some (.inr (2, [.int w, .ref a1, .ref a2, .ref a3, .ref a4, .ref a5])) ∧ h2 a1 = some (iA 5 z1) ∧ h2 a2 = some (iA 40 z2) ∧ h2 a3 = some (iA 8 z3) ∧ h2 a4 = some (iA 8 z4) ∧ h2 a5 = some (iA 8 z5) ∧ ∀ x, x ≠ p → x < a1 → h2 x = h x) := by
  have n1 : b1 ≠ p := fun q => by rw [q, hp] at h1; cases h1
  have n2 : b2 ≠ p := fun q => by rw [q, hp] at h2; cases h2
  have n3 : b3 ≠ p := fun q => by rw [q, hp] at h3; cases h3
  have n4 : b4 ≠ p := fun q => by rw [q, hp] at h4; cases h4
  have n5 : b5 ≠ p := fun q => by rw [q, hp] at h5; cases h5
  refine Con.of 0 rfl (Nat.le_of_ble_eq_true rfl) ?_
  refine j_aload_n dX2_init__0 rfl ?_
  refine j_objInit wl_X2_3 (Nat.le_of_ble_eq_true rfl) (Nat.le_of_ble_eq_true rfl) (Nat.le_of_ble_eq_true rfl) dX2_init__1 ?_
  refine j_aload_n dX2_init__4 rfl ?_
  refine j_aload_n dX2_init__5 rfl ?_
  refine gX2_9 rfl (by (try simp only [upA]); (repeat first | rw [if_pos rfl] | rw [if_neg (by omega)] | rw [if_neg (by assumption)]); first | rfl | assumption) rfl dX2_init__6 ?_
  refine pX2_9 rfl rfl (by (try simp only [upA]); (repeat first | rw [if_pos rfl] | rw [if_neg (by omega)] | rw [if_neg (by assumption)]); first | rfl | assumption) rfl rfl (Nat.le_of_ble_eq_true rfl) dX2_init__9 ?_
  refine j_aload_n dX2_init__12 rfl ?_
  refine j_aload_n dX2_init__13 rfl ?_
  refine gX2_15 rfl (by (try simp only [upA]); (repeat first | rw [if_pos rfl] | rw [if_neg (by omega)] | rw [if_neg (by assumption)]); first | rfl | assumption) rfl dX2_init__14 ?_
  refine j_clone (by (try simp only [upA]); (repeat first | rw [if_pos rfl] | rw [if_neg (by omega)] | rw [if_neg (by assumption)]); first | rfl | assumption) wl_X2_37 (Nat.le_of_ble_eq_true rfl) (Nat.le_of_ble_eq_true rfl) (Nat.le_of_ble_eq_true rfl) (Nat.le_of_ble_eq_true rfl) (Nat.le_of_ble_eq_true rfl) dX2_init__17 (fun a1 f_a1 => ?_)
  have lt_a1 : p < a1 := al_lt (e := _) (by (try simp only [upA]); (repeat first | rw [if_pos rfl] | rw [if_neg (by omega)] | rw [if_neg (by assumption)]); first | rfl | assumption) f_a1
  have ls_0 : s < a1 := al_lt (e := _) (by (try simp only [upA]); (repeat first | rw [if_pos rfl] | rw [if_neg (by omega)] | rw [if_neg (by assumption)]); first | rfl | assumption) f_a1
  have ls_1 : b1 < a1 := al_lt (e := _) (by (try simp only [upA]); (repeat first | rw [if_pos rfl] | rw [if_neg (by omega)] | rw [if_neg (by assumption)]); first | rfl | assumption) f_a1
  have ls_2 : b2 < a1 := al_lt (e := _) (by (try simp only [upA]); (repeat first | rw [if_pos rfl] | rw [if_neg (by omega)] | rw [if_neg (by assumption)]); first | rfl | assumption) f_a1
  have ls_3 : b3 < a1 := al_lt (e := _) (by (try simp only [upA]); (repeat first | rw [if_pos rfl] | rw [if_neg (by omega)] | rw [if_neg (by assumption)]); first | rfl | assumption) f_a1
  have ls_4 : b4 < a1 := al_lt (e := _) (by (try simp only [upA]); (repeat first | rw [if_pos rfl] | rw [if_neg (by omega)] | rw [if_neg (by assumption)]); first | rfl | assumption) f_a1
  have ls_5 : b5 < a1 := al_lt (e := _) (by (try simp only [upA]); (repeat first | rw [if_pos rfl] | rw [if_neg (by omega)] | rw [if_neg (by assumption)]); first | rfl | assumption) f_a1
  refine j_castI (by (try simp only [upA]); (repeat first | rw [if_pos rfl] | rw [if_neg (by omega)] | rw [if_neg (by assumption)]); first | rfl | assumption) wk_X2_38 dX2_init__20 ?_
  refine pX2_15 rfl rfl (by (try simp only [upA]); (repeat first | rw [if_pos rfl] | rw [if_neg (by omega)] | rw [if_neg (by assumption)]); first | rfl | assumption) rfl rfl (Nat.le_of_ble_eq_true rfl) dX2_init__23 ?_
  refine j_aload_n dX2_init__26 rfl ?_
  refine j_aload_n dX2_init__27 rfl ?_
  refine gX2_19 rfl (by (try simp only [upA]); (repeat first | rw [if_pos rfl] | rw [if_neg (by omega)] | rw [if_neg (by assumption)]); first | rfl | assumption) rfl dX2_init__28 ?_
  refine j_clone (by (try simp only [upA]); (repeat first | rw [if_pos rfl] | rw [if_neg (by omega)] | rw [if_neg (by assumption)]); first | rfl | assumption) wl_X2_37 (Nat.le_of_ble_eq_true rfl) (Nat.le_of_ble_eq_true rfl) (Nat.le_of_ble_eq_true rfl) (Nat.le_of_ble_eq_true rfl) (Nat.le_of_ble_eq_true rfl) dX2_init__31 (fun a2 f_a2 => ?_)
  have lt_a2 : a1 < a2 := al_lt (e := _) (by (try simp only [upA]); (repeat first | rw [if_pos rfl] | rw [if_neg (by omega)] | rw [if_neg (by assumption)]); first | rfl | assumption) f_a2
  refine j_castI (by (try simp only [upA]); (repeat first | rw [if_pos rfl] | rw [if_neg (by omega)] | rw [if_neg (by assumption)]); first | rfl | assumption) wk_X2_38 dX2_init__34 ?_
  refine pX2_19 rfl rfl (by (try simp only [upA]); (repeat first | rw [if_pos rfl] | rw [if_neg (by omega)] | rw [if_neg (by assumption)]); first | rfl | assumption) rfl rfl (Nat.le_of_ble_eq_true rfl) dX2_init__37 ?_
  refine j_aload_n dX2_init__40 rfl ?_
  refine j_aload_n dX2_init__41 rfl ?_
  refine gX2_22 rfl (by (try simp only [upA]); (repeat first | rw [if_pos rfl] | rw [if_neg (by omega)] | rw [if_neg (by assumption)]); first | rfl | assumption) rfl dX2_init__42 ?_
  refine j_clone (by (try simp only [upA]); (repeat first | rw [if_pos rfl] | rw [if_neg (by omega)] | rw [if_neg (by assumption)]); first | rfl | assumption) wl_X2_37 (Nat.le_of_ble_eq_true rfl) (Nat.le_of_ble_eq_true rfl) (Nat.le_of_ble_eq_true rfl) (Nat.le_of_ble_eq_true rfl) (Nat.le_of_ble_eq_true rfl) dX2_init__45 (fun a3 f_a3 => ?_)
  have lt_a3 : a2 < a3 := al_lt (e := _) (by (try simp only [upA]); (repeat first | rw [if_pos rfl] | rw [if_neg (by omega)] | rw [if_neg (by assumption)]); first | rfl | assumption) f_a3
  refine j_castI (by (try simp only [upA]); (repeat first | rw [if_pos rfl] | rw [if_neg (by omega)] | rw [if_neg (by assumption)]); first | rfl | assumption) wk_X2_38 dX2_init__48 ?_
  refine pX2_22 rfl rfl (by (try simp only [upA]); (repeat first | rw [if_pos rfl] | rw [if_neg (by omega)] | rw [if_neg (by assumption)]); first | rfl | assumption) rfl rfl (Nat.le_of_ble_eq_true rfl) dX2_init__51 ?_
  refine j_aload_n dX2_init__54 rfl ?_
  refine j_aload_n dX2_init__55 rfl ?_
  refine gX2_25 rfl (by (try simp only [upA]); (repeat first | rw [if_pos rfl] | rw [if_neg (by omega)] | rw [if_neg (by assumption)]); first | rfl | assumption) rfl dX2_init__56 ?_
  refine j_clone (by (try simp only [upA]); (repeat first | rw [if_pos rfl] | rw [if_neg (by omega)] | rw [if_neg (by assumption)]); first | rfl | assumption) wl_X2_37 (Nat.le_of_ble_eq_true rfl) (Nat.le_of_ble_eq_true rfl) (Nat.le_of_ble_eq_true rfl) (Nat.le_of_ble_eq_true rfl) (Nat.le_of_ble_eq_true rfl) dX2_init__59 (fun a4 f_a4 => ?_)
  have lt_a4 : a3 < a4 := al_lt (e := _) (by (try simp only [upA]); (repeat first | rw [if_pos rfl] | rw [if_neg (by omega)] | rw [if_neg (by assumption)]); first | rfl | assumption) f_a4
  refine j_castI (by (try simp only [upA]); (repeat first | rw [if_pos rfl] | rw [if_neg (by omega)] | rw [if_neg (by assumption)]); first | rfl | assumption) wk_X2_38 dX2_init__62 ?_
  refine pX2_25 rfl rfl (by (try simp only [upA]); (repeat first | rw [if_pos rfl] | rw [if_neg (by omega)] | rw [if_neg (by assumption)]); first | rfl | assumption) rfl rfl (Nat.le_of_ble_eq_true rfl) dX2_init__65 ?_
  refine j_aload_n dX2_init__68 rfl ?_
  refine j_aload_n dX2_init__69 rfl ?_
  refine gX2_28 rfl (by (try simp only [upA]); (repeat first | rw [if_pos rfl] | rw [if_neg (by omega)] | rw [if_neg (by assumption)]); first | rfl | assumption) rfl dX2_init__70 ?_
  refine j_clone (by (try simp only [upA]); (repeat first | rw [if_pos rfl] | rw [if_neg (by omega)] | rw [if_neg (by assumption)]); first | rfl | assumption) wl_X2_37 (Nat.le_of_ble_eq_true rfl) (Nat.le_of_ble_eq_true rfl) (Nat.le_of_ble_eq_true rfl) (Nat.le_of_ble_eq_true rfl) (Nat.le_of_ble_eq_true rfl) dX2_init__73 (fun a5 f_a5 => ?_)
  have lt_a5 : a4 < a5 := al_lt (e := _) (by (try simp only [upA]); (repeat first | rw [if_pos rfl] | rw [if_neg (by omega)] | rw [if_neg (by assumption)]); first | rfl | assumption) f_a5
  refine j_castI (by (try simp only [upA]); (repeat first | rw [if_pos rfl] | rw [if_neg (by omega)] | rw [if_neg (by assumption)]); first | rfl | assumption) wk_X2_38 dX2_init__76 ?_
  refine pX2_28 rfl rfl (by (try simp only [upA]); (repeat first | rw [if_pos rfl] | rw [if_neg (by omega)] | rw [if_neg (by assumption)]); first | rfl | assumption) rfl rfl (Nat.le_of_ble_eq_true rfl) dX2_init__79 ?_
  refine j_vret rfl (Nat.le_of_ble_eq_true rfl) (Nat.le_of_ble_eq_true rfl) dX2_init__82 ?_
  refine ⟨rfl, a1, a2, a3, a4, a5, lt_a1, lt_a2, lt_a3, lt_a4, lt_a5, fun b hb => ?_, ?_, ?_, ?_, ?_, ?_, ?_, fun x hx1 hx2 => ?_⟩
  · have := f_a1 b hb
    (try simp only [upA] at this)
    (repeat rw [if_neg (by omega)] at this)
    exact this
  · exact (by (try simp only [upA]); (repeat first | rw [if_pos rfl] | rw [if_neg (by omega)] | rw [if_neg (by assumption)]); first | rfl | assumption)
  · exact (by (try simp only [upA]); (repeat first | rw [if_pos rfl] | rw [if_neg (by omega)] | rw [if_neg (by assumption)]); first | rfl | assumption)
  · exact (by (try simp only [upA]); (repeat first | rw [if_pos rfl] | rw [if_neg (by omega)] | rw [if_neg (by assumption)]); first | rfl | assumption)
  · exact (by (try simp only [upA]); (repeat first | rw [if_pos rfl] | rw [if_neg (by omega)] | rw [if_neg (by assumption)]); first | rfl | assumption)
  · exact (by (try simp only [upA]); (repeat first | rw [if_pos rfl] | rw [if_neg (by omega)] | rw [if_neg (by assumption)]); first | rfl | assumption)
  · exact (by (try simp only [upA]); (repeat first | rw [if_pos rfl] | rw [if_neg (by omega)] | rw [if_neg (by assumption)]); first | rfl | assumption)
  · (try simp only [upA])
    (repeat rw [if_neg (by omega)])

set_option maxRecDepth 100000 in
set_option maxHeartbeats 4000000 in
theorem c_X3_init (l : Launch) (G : GG) {h : AH} {p : Nat} (hp : h p = some (.inr (3, [.null, .null, .int 0, .null, .null, .null, .null]))) : Con l G mX3_init 1 6 114 [.ref p] h (fun r h2 => r = none ∧ ∃ a1 a2 a3 a4 a5 a6 : Nat, p < a1 ∧ a1 < a2 ∧ a2 < a3 ∧ a3 < a4 ∧ a4 < a5 ∧ a5 < a6 ∧ (∀ b, a1 ≤ b → h b = none) ∧ h2 p = some (.inr (3, [.ref a1, .ref a2, .int 0, .ref a3, .ref a4, .ref a5, .ref a6])) ∧ h2 a1 = some (iA 5 (fun _ => -30000)) ∧ h2 a2 = some (iA 5 (fun _ => 30000)) ∧ h2 a3 = some (iA 5 (fun _ => 0)) ∧ h2 a4 = some (iA 9 (fun _ => 0)) ∧ h2 a5 = some (iA 45 (fun _ => 0)) ∧ h2 a6 = some (iA 45 (fun _ => 0)) ∧ ∀ x, x ≠ p → x < a1 → h2 x = h x) := by
  refine Con.of 0 rfl (Nat.le_of_ble_eq_true rfl) ?_
  refine j_aload_n dX3_init_0 rfl ?_
  refine j_objInit wl_X3_3 (Nat.le_of_ble_eq_true rfl) (Nat.le_of_ble_eq_true rfl) (Nat.le_of_ble_eq_true rfl) dX3_init_1 ?_
  refine j_aload_n dX3_init_4 rfl ?_
  refine j_iconst (v := 5) dX3_init_5 (by decide) ?_
  refine j_newi 5 (by decide) (by decide) (by decide) (Nat.le_of_ble_eq_true rfl) (Nat.le_of_ble_eq_true rfl) dX3_init_6 (fun a1 f_a1 => ?_)
  have lt_a1 : p < a1 := al_lt (e := _) (by (try simp only [upA]); (repeat first | rw [if_pos rfl] | rw [if_neg (by omega)]); first | rfl | assumption) f_a1
  refine pX3_9 rfl rfl (by (try simp only [upA]); (repeat first | rw [if_pos rfl] | rw [if_neg (by omega)]); first | rfl | assumption) rfl rfl (Nat.le_of_ble_eq_true rfl) dX3_init_8 ?_
  refine j_aload_n dX3_init_11 rfl ?_
  refine j_iconst (v := 5) dX3_init_12 (by decide) ?_
  refine j_newi 5 (by decide) (by decide) (by decide) (Nat.le_of_ble_eq_true rfl) (Nat.le_of_ble_eq_true rfl) dX3_init_13 (fun a2 f_a2 => ?_)
  have lt_a2 : a1 < a2 := al_lt (e := _) (by (try simp only [upA]); (repeat first | rw [if_pos rfl] | rw [if_neg (by omega)]); first | rfl | assumption) f_a2
  refine pX3_15 rfl rfl (by (try simp only [upA]); (repeat first | rw [if_pos rfl] | rw [if_neg (by omega)]); first | rfl | assumption) rfl rfl (Nat.le_of_ble_eq_true rfl) dX3_init_15 ?_
  refine j_aload_n dX3_init_18 rfl ?_
  refine gX3_9 rfl (by (try simp only [upA]); (repeat first | rw [if_pos rfl] | rw [if_neg (by omega)]); first | rfl | assumption) rfl dX3_init_19 ?_
  refine j_sipush (v := (-30000)) dX3_init_22 (by decide) ?_
  refine j_callS (rest := []) (c_J7_fill_53178 l G (n := 5) (f := fun _ => 0) (by (try simp only [upA]); (repeat first | rw [if_pos rfl] | rw [if_neg (by omega)]); first | rfl | assumption) (by decide)) cw_J7_fill_53178 wl_X3_18 ws_J7_fill_53178 rfl rfl (Nat.le_of_ble_eq_true rfl) (Nat.le_of_ble_eq_true rfl) (Nat.le_of_ble_eq_true rfl) (Nat.le_of_ble_eq_true rfl) (Nat.le_of_ble_eq_true rfl) dX3_init_25 (fun v_25 h_25 e_25 => ?_)
  obtain ⟨rfl, rfl⟩ := e_25
  refine j_aload_n dX3_init_28 rfl ?_
  refine gX3_15 rfl (by (try simp only [upA]); (repeat first | rw [if_pos rfl] | rw [if_neg (by omega)]); first | rfl | assumption) rfl dX3_init_29 ?_
  refine j_sipush (v := 30000) dX3_init_32 (by decide) ?_
  refine j_callS (rest := []) (c_J7_fill_53178 l G (n := 5) (f := fun _ => 0) (by (try simp only [upA]); (repeat first | rw [if_pos rfl] | rw [if_neg (by omega)]); first | rfl | assumption) (by decide)) cw_J7_fill_53178 wl_X3_18 ws_J7_fill_53178 rfl rfl (Nat.le_of_ble_eq_true rfl) (Nat.le_of_ble_eq_true rfl) (Nat.le_of_ble_eq_true rfl) (Nat.le_of_ble_eq_true rfl) (Nat.le_of_ble_eq_true rfl) dX3_init_35 (fun v_35 h_35 e_35 => ?_)
  obtain ⟨rfl, rfl⟩ := e_35
  refine j_aload_n dX3_init_38 rfl ?_
  refine j_iconst (v := 5) dX3_init_39 (by decide) ?_
  refine j_newi 5 (by decide) (by decide) (by decide) (Nat.le_of_ble_eq_true rfl) (Nat.le_of_ble_eq_true rfl) dX3_init_40 (fun a3 f_a3 => ?_)
  have lt_a3 : a2 < a3 := al_lt (e := _) (by (try simp only [upA]); (repeat first | rw [if_pos rfl] | rw [if_neg (by omega)]); first | rfl | assumption) f_a3
  refine pX3_24 rfl rfl (by (try simp only [upA]); (repeat first | rw [if_pos rfl] | rw [if_neg (by omega)]); first | rfl | assumption) rfl rfl (Nat.le_of_ble_eq_true rfl) dX3_init_42 ?_
  refine j_aload_n dX3_init_45 rfl ?_
  refine j_bipush (v := 9) dX3_init_46 (by decide) ?_
  refine j_newi 9 (by decide) (by decide) (by decide) (Nat.le_of_ble_eq_true rfl) (Nat.le_of_ble_eq_true rfl) dX3_init_48 (fun a4 f_a4 => ?_)
  have lt_a4 : a3 < a4 := al_lt (e := _) (by (try simp only [upA]); (repeat first | rw [if_pos rfl] | rw [if_neg (by omega)]); first | rfl | assumption) f_a4
  refine pX3_27 rfl rfl (by (try simp only [upA]); (repeat first | rw [if_pos rfl] | rw [if_neg (by omega)]); first | rfl | assumption) rfl rfl (Nat.le_of_ble_eq_true rfl) dX3_init_50 ?_
  refine j_aload_n dX3_init_53 rfl ?_
  refine j_bipush (v := 45) dX3_init_54 (by decide) ?_
  refine j_newi 45 (by decide) (by decide) (by decide) (Nat.le_of_ble_eq_true rfl) (Nat.le_of_ble_eq_true rfl) dX3_init_56 (fun a5 f_a5 => ?_)
  have lt_a5 : a4 < a5 := al_lt (e := _) (by (try simp only [upA]); (repeat first | rw [if_pos rfl] | rw [if_neg (by omega)]); first | rfl | assumption) f_a5
  refine pX3_30 rfl rfl (by (try simp only [upA]); (repeat first | rw [if_pos rfl] | rw [if_neg (by omega)]); first | rfl | assumption) rfl rfl (Nat.le_of_ble_eq_true rfl) dX3_init_58 ?_
  refine j_aload_n dX3_init_61 rfl ?_
  refine j_bipush (v := 45) dX3_init_62 (by decide) ?_
  refine j_newi 45 (by decide) (by decide) (by decide) (Nat.le_of_ble_eq_true rfl) (Nat.le_of_ble_eq_true rfl) dX3_init_64 (fun a6 f_a6 => ?_)
  have lt_a6 : a5 < a6 := al_lt (e := _) (by (try simp only [upA]); (repeat first | rw [if_pos rfl] | rw [if_neg (by omega)]); first | rfl | assumption) f_a6
  refine pX3_33 rfl rfl (by (try simp only [upA]); (repeat first | rw [if_pos rfl] | rw [if_neg (by omega)]); first | rfl | assumption) rfl rfl (Nat.le_of_ble_eq_true rfl) dX3_init_66 ?_
  refine j_vret rfl (Nat.le_of_ble_eq_true rfl) (Nat.le_of_ble_eq_true rfl) dX3_init_69 ?_
  refine ⟨rfl, a1, a2, a3, a4, a5, a6, lt_a1, lt_a2, lt_a3, lt_a4, lt_a5, lt_a6, fun b hb => ?_, ?_, ?_, ?_, ?_, ?_, ?_, ?_, fun x hx1 hx2 => ?_⟩
  · have := f_a1 b hb
    (try simp only [upA] at this)
    (repeat rw [if_neg (by omega)] at this)
    exact this
  · exact (by (try simp only [upA]); (repeat first | rw [if_pos rfl] | rw [if_neg (by omega)]); first | rfl | assumption)
  · exact (by (try simp only [upA]); (repeat first | rw [if_pos rfl] | rw [if_neg (by omega)]); first | rfl | assumption)
  · exact (by (try simp only [upA]); (repeat first | rw [if_pos rfl] | rw [if_neg (by omega)]); first | rfl | assumption)
  · exact (by (try simp only [upA]); (repeat first | rw [if_pos rfl] | rw [if_neg (by omega)]); first | rfl | assumption)
  · exact (by (try simp only [upA]); (repeat first | rw [if_pos rfl] | rw [if_neg (by omega)]); first | rfl | assumption)
  · exact (by (try simp only [upA]); (repeat first | rw [if_pos rfl] | rw [if_neg (by omega)]); first | rfl | assumption)
  · exact (by (try simp only [upA]); (repeat first | rw [if_pos rfl] | rw [if_neg (by omega)]); first | rfl | assumption)
  · (try simp only [upA])
    (repeat rw [if_neg (by omega)])

set_option maxRecDepth 100000 in
set_option maxHeartbeats 4000000 in
theorem c_X1_init (l : Launch) (G : GG) {h : AH} {p : Nat} (hp : h p = some (.inr (1, [.null, .int 0, .int 0, .int 0, .long 0, .null, .int 0, .null, .null, .null, .null, .null]))) : Con l G mX1_init 1 7 152 [.ref p] h (fun r h2 => r = none ∧ ∃ a1 a2 a3 a4 a5 a6 a7 : Nat, p < a1 ∧ a1 < a2 ∧ a2 < a3 ∧ a3 < a4 ∧ a4 < a5 ∧ a5 < a6 ∧ a6 < a7 ∧ (∀ b, a1 ≤ b → h b = none) ∧ h2 p = some (.inr (1, [.ref a1, .int 0, .int 0, .int 0, .long 4611686018427387904, .ref a2, .int 0, .ref a3, .ref a4, .ref a5, .ref a6, .ref a7])) ∧ h2 a1 = some (iA 8 (fun _ => 0)) ∧ h2 a2 = some (iA 24 (fun _ => 0)) ∧ h2 a3 = some (iA 24 (fun _ => 0)) ∧ h2 a4 = some (iA 24 (fun _ => 0)) ∧ h2 a5 = some (iA 24 (fun _ => 0)) ∧ h2 a6 = some (lA 24 (fun _ => 0)) ∧ h2 a7 = some (iA 24 (fun _ => 0)) ∧ ∀ x, x ≠ p → x < a1 → h2 x = h x) := by
  refine Con.of 0 rfl (Nat.le_of_ble_eq_true rfl) ?_
  refine j_aload_n dX1_init_0 rfl ?_
  refine j_objInit wl_X1_5 (Nat.le_of_ble_eq_true rfl) (Nat.le_of_ble_eq_true rfl) (Nat.le_of_ble_eq_true rfl) dX1_init_1 ?_
  refine j_aload_n dX1_init_4 rfl ?_
  refine j_bipush (v := 8) dX1_init_5 (by decide) ?_
  refine j_newi 8 (by decide) (by decide) (by decide) (Nat.le_of_ble_eq_true rfl) (Nat.le_of_ble_eq_true rfl) dX1_init_7 (fun a1 f_a1 => ?_)
  have lt_a1 : p < a1 := al_lt (e := _) (by (try simp only [upA]); (repeat first | rw [if_pos rfl] | rw [if_neg (by omega)]); first | rfl | assumption) f_a1
  refine pX1_11 rfl rfl (by (try simp only [upA]); (repeat first | rw [if_pos rfl] | rw [if_neg (by omega)]); first | rfl | assumption) rfl rfl (Nat.le_of_ble_eq_true rfl) dX1_init_9 ?_
  refine j_aload_n dX1_init_12 rfl ?_
  refine j_ldc2 (own := RX1) rfl wc_X1_15 dX1_init_13 ?_
  refine pX1_17 rfl (by (try simp only [upA]); (repeat first | rw [if_pos rfl] | rw [if_neg (by omega)]); first | rfl | assumption) rfl rfl (Nat.le_of_ble_eq_true rfl) dX1_init_16 ?_
  refine j_aload_n dX1_init_19 rfl ?_
  refine j_bipush (v := 24) dX1_init_20 (by decide) ?_
  refine j_newi 24 (by decide) (by decide) (by decide) (Nat.le_of_ble_eq_true rfl) (Nat.le_of_ble_eq_true rfl) dX1_init_22 (fun a2 f_a2 => ?_)
  have lt_a2 : a1 < a2 := al_lt (e := _) (by (try simp only [upA]); (repeat first | rw [if_pos rfl] | rw [if_neg (by omega)]); first | rfl | assumption) f_a2
  refine pX1_21 rfl rfl (by (try simp only [upA]); (repeat first | rw [if_pos rfl] | rw [if_neg (by omega)]); first | rfl | assumption) rfl rfl (Nat.le_of_ble_eq_true rfl) dX1_init_24 ?_
  refine j_aload_n dX1_init_27 rfl ?_
  refine j_bipush (v := 24) dX1_init_28 (by decide) ?_
  refine j_newi 24 (by decide) (by decide) (by decide) (Nat.le_of_ble_eq_true rfl) (Nat.le_of_ble_eq_true rfl) dX1_init_30 (fun a3 f_a3 => ?_)
  have lt_a3 : a2 < a3 := al_lt (e := _) (by (try simp only [upA]); (repeat first | rw [if_pos rfl] | rw [if_neg (by omega)]); first | rfl | assumption) f_a3
  refine pX1_24 rfl rfl (by (try simp only [upA]); (repeat first | rw [if_pos rfl] | rw [if_neg (by omega)]); first | rfl | assumption) rfl rfl (Nat.le_of_ble_eq_true rfl) dX1_init_32 ?_
  refine j_aload_n dX1_init_35 rfl ?_
  refine j_bipush (v := 24) dX1_init_36 (by decide) ?_
  refine j_newi 24 (by decide) (by decide) (by decide) (Nat.le_of_ble_eq_true rfl) (Nat.le_of_ble_eq_true rfl) dX1_init_38 (fun a4 f_a4 => ?_)
  have lt_a4 : a3 < a4 := al_lt (e := _) (by (try simp only [upA]); (repeat first | rw [if_pos rfl] | rw [if_neg (by omega)]); first | rfl | assumption) f_a4
  refine pX1_27 rfl rfl (by (try simp only [upA]); (repeat first | rw [if_pos rfl] | rw [if_neg (by omega)]); first | rfl | assumption) rfl rfl (Nat.le_of_ble_eq_true rfl) dX1_init_40 ?_
  refine j_aload_n dX1_init_43 rfl ?_
  refine j_bipush (v := 24) dX1_init_44 (by decide) ?_
  refine j_newi 24 (by decide) (by decide) (by decide) (Nat.le_of_ble_eq_true rfl) (Nat.le_of_ble_eq_true rfl) dX1_init_46 (fun a5 f_a5 => ?_)
  have lt_a5 : a4 < a5 := al_lt (e := _) (by (try simp only [upA]); (repeat first | rw [if_pos rfl] | rw [if_neg (by omega)]); first | rfl | assumption) f_a5
  refine pX1_30 rfl rfl (by (try simp only [upA]); (repeat first | rw [if_pos rfl] | rw [if_neg (by omega)]); first | rfl | assumption) rfl rfl (Nat.le_of_ble_eq_true rfl) dX1_init_48 ?_
  refine j_aload_n dX1_init_51 rfl ?_
  refine j_bipush (v := 24) dX1_init_52 (by decide) ?_
  refine j_newl 24 (by decide) (by decide) (by decide) (Nat.le_of_ble_eq_true rfl) (Nat.le_of_ble_eq_true rfl) dX1_init_54 (fun a6 f_a6 => ?_)
  have lt_a6 : a5 < a6 := al_lt (e := _) (by (try simp only [upA]); (repeat first | rw [if_pos rfl] | rw [if_neg (by omega)]); first | rfl | assumption) f_a6
  refine pX1_33 rfl rfl (by (try simp only [upA]); (repeat first | rw [if_pos rfl] | rw [if_neg (by omega)]); first | rfl | assumption) rfl rfl (Nat.le_of_ble_eq_true rfl) dX1_init_56 ?_
  refine j_aload_n dX1_init_59 rfl ?_
  refine j_bipush (v := 24) dX1_init_60 (by decide) ?_
  refine j_newi 24 (by decide) (by decide) (by decide) (Nat.le_of_ble_eq_true rfl) (Nat.le_of_ble_eq_true rfl) dX1_init_62 (fun a7 f_a7 => ?_)
  have lt_a7 : a6 < a7 := al_lt (e := _) (by (try simp only [upA]); (repeat first | rw [if_pos rfl] | rw [if_neg (by omega)]); first | rfl | assumption) f_a7
  refine pX1_37 rfl rfl (by (try simp only [upA]); (repeat first | rw [if_pos rfl] | rw [if_neg (by omega)]); first | rfl | assumption) rfl rfl (Nat.le_of_ble_eq_true rfl) dX1_init_64 ?_
  refine j_vret rfl (Nat.le_of_ble_eq_true rfl) (Nat.le_of_ble_eq_true rfl) dX1_init_67 ?_
  refine ⟨rfl, a1, a2, a3, a4, a5, a6, a7, lt_a1, lt_a2, lt_a3, lt_a4, lt_a5, lt_a6, lt_a7, fun b hb => ?_, ?_, ?_, ?_, ?_, ?_, ?_, ?_, ?_, fun x hx1 hx2 => ?_⟩
  · have := f_a1 b hb
    (try simp only [upA] at this)
    (repeat rw [if_neg (by omega)] at this)
    exact this
  · exact (by (try simp only [upA]); (repeat first | rw [if_pos rfl] | rw [if_neg (by omega)]); first | rfl | assumption)
  · exact (by (try simp only [upA]); (repeat first | rw [if_pos rfl] | rw [if_neg (by omega)]); first | rfl | assumption)
  · exact (by (try simp only [upA]); (repeat first | rw [if_pos rfl] | rw [if_neg (by omega)]); first | rfl | assumption)
  · exact (by (try simp only [upA]); (repeat first | rw [if_pos rfl] | rw [if_neg (by omega)]); first | rfl | assumption)
  · exact (by (try simp only [upA]); (repeat first | rw [if_pos rfl] | rw [if_neg (by omega)]); first | rfl | assumption)
  · exact (by (try simp only [upA]); (repeat first | rw [if_pos rfl] | rw [if_neg (by omega)]); first | rfl | assumption)
  · exact (by (try simp only [upA]); (repeat first | rw [if_pos rfl] | rw [if_neg (by omega)]); first | rfl | assumption)
  · exact (by (try simp only [upA]); (repeat first | rw [if_pos rfl] | rw [if_neg (by omega)]); first | rfl | assumption)
  · (try simp only [upA])
    (repeat rw [if_neg (by omega)])

