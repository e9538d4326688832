theorem sw_0_19 {x : Int32} (h1 : ¬ x.toInt < 0) (h2 : ¬ 19 < x.toInt) : x = 0 ∨ x = 1 ∨ x = 2 ∨ x = 3 ∨ x = 4 ∨ x = 5 ∨ x = 6 ∨ x = 7 ∨ x = 8 ∨ x = 9 ∨ x = 10 ∨ x = 11 ∨ x = 12 ∨ x = 13 ∨ x = 14 ∨ x = 15 ∨ x = 16 ∨ x = 17 ∨ x = 18 ∨ x = 19 := by
  have hh : x.toInt = 0 ∨ x.toInt = 1 ∨ x.toInt = 2 ∨ x.toInt = 3 ∨ x.toInt = 4 ∨ x.toInt = 5 ∨ x.toInt = 6 ∨ x.toInt = 7 ∨ x.toInt = 8 ∨ x.toInt = 9 ∨ x.toInt = 10 ∨ x.toInt = 11 ∨ x.toInt = 12 ∨ x.toInt = 13 ∨ x.toInt = 14 ∨ x.toInt = 15 ∨ x.toInt = 16 ∨ x.toInt = 17 ∨ x.toInt = 18 ∨ x.toInt = 19 := by omega
  rcases hh with q | q | q | q | q | q | q | q | q | q | q | q | q | q | q | q | q | q | q | q
  · exact Or.inl (Int32.toInt_inj.mp q)
  · exact Or.inr (Or.inl (Int32.toInt_inj.mp q))
  · exact Or.inr (Or.inr (Or.inl (Int32.toInt_inj.mp q)))
  · exact Or.inr (Or.inr (Or.inr (Or.inl (Int32.toInt_inj.mp q))))
  · exact Or.inr (Or.inr (Or.inr (Or.inr (Or.inl (Int32.toInt_inj.mp q)))))
  · exact Or.inr (Or.inr (Or.inr (Or.inr (Or.inr (Or.inl (Int32.toInt_inj.mp q))))))
  · exact Or.inr (Or.inr (Or.inr (Or.inr (Or.inr (Or.inr (Or.inl (Int32.toInt_inj.mp q)))))))
  · exact Or.inr (Or.inr (Or.inr (Or.inr (Or.inr (Or.inr (Or.inr (Or.inl (Int32.toInt_inj.mp q))))))))
  · exact Or.inr (Or.inr (Or.inr (Or.inr (Or.inr (Or.inr (Or.inr (Or.inr (Or.inl (Int32.toInt_inj.mp q)))))))))
  · exact Or.inr (Or.inr (Or.inr (Or.inr (Or.inr (Or.inr (Or.inr (Or.inr (Or.inr (Or.inl (Int32.toInt_inj.mp q))))))))))
  · exact Or.inr (Or.inr (Or.inr (Or.inr (Or.inr (Or.inr (Or.inr (Or.inr (Or.inr (Or.inr (Or.inl (Int32.toInt_inj.mp q)))))))))))
  · exact Or.inr (Or.inr (Or.inr (Or.inr (Or.inr (Or.inr (Or.inr (Or.inr (Or.inr (Or.inr (Or.inr (Or.inl (Int32.toInt_inj.mp q))))))))))))
  · exact Or.inr (Or.inr (Or.inr (Or.inr (Or.inr (Or.inr (Or.inr (Or.inr (Or.inr (Or.inr (Or.inr (Or.inr (Or.inl (Int32.toInt_inj.mp q)))))))))))))
  · exact Or.inr (Or.inr (Or.inr (Or.inr (Or.inr (Or.inr (Or.inr (Or.inr (Or.inr (Or.inr (Or.inr (Or.inr (Or.inr (Or.inl (Int32.toInt_inj.mp q))))))))))))))
  · exact Or.inr (Or.inr (Or.inr (Or.inr (Or.inr (Or.inr (Or.inr (Or.inr (Or.inr (Or.inr (Or.inr (Or.inr (Or.inr (Or.inr (Or.inl (Int32.toInt_inj.mp q)))))))))))))))
  · exact Or.inr (Or.inr (Or.inr (Or.inr (Or.inr (Or.inr (Or.inr (Or.inr (Or.inr (Or.inr (Or.inr (Or.inr (Or.inr (Or.inr (Or.inr (Or.inl (Int32.toInt_inj.mp q))))))))))))))))
  · exact Or.inr (Or.inr (Or.inr (Or.inr (Or.inr (Or.inr (Or.inr (Or.inr (Or.inr (Or.inr (Or.inr (Or.inr (Or.inr (Or.inr (Or.inr (Or.inr (Or.inl (Int32.toInt_inj.mp q)))))))))))))))))
  · exact Or.inr (Or.inr (Or.inr (Or.inr (Or.inr (Or.inr (Or.inr (Or.inr (Or.inr (Or.inr (Or.inr (Or.inr (Or.inr (Or.inr (Or.inr (Or.inr (Or.inr (Or.inl (Int32.toInt_inj.mp q))))))))))))))))))
  · exact Or.inr (Or.inr (Or.inr (Or.inr (Or.inr (Or.inr (Or.inr (Or.inr (Or.inr (Or.inr (Or.inr (Or.inr (Or.inr (Or.inr (Or.inr (Or.inr (Or.inr (Or.inr (Or.inl (Int32.toInt_inj.mp q)))))))))))))))))))
  · exact Or.inr (Or.inr (Or.inr (Or.inr (Or.inr (Or.inr (Or.inr (Or.inr (Or.inr (Or.inr (Or.inr (Or.inr (Or.inr (Or.inr (Or.inr (Or.inr (Or.inr (Or.inr (Or.inr ((Int32.toInt_inj.mp q))))))))))))))))))))
set_option maxRecDepth 100000 in
set_option maxHeartbeats 4000000 in
theorem law_step {l : Launch} {G : GG} {nm : String} {b n : Nat} {xs : Nat → Int32} {c : Nat} (hn : n ≤ 2560) (hc : c ≤ 513) (ih : 5 * c + 5 ≤ n → LawK l G nm b n xs (c + 1)) : LawK l G nm b n xs c := by
  intro ad np nb nn sp Z M h hR hS hsp
  refine j_iload_n dL_law_18 rfl ?_
  refine j_aload_n dL_law_19 rfl ?_
  refine l_len dL_law_20 ?_
  refine j_iconst (v := 5) dL_law_21 (by decide) ?_
  refine j_isub dL_law_22 ?_
  refine j_icmp_gt 724 dL_law_23 (by decide) (fun c_23 => ?_) (fun c_23 => ?_)
  · refine j_iconst (v := 1) dL_law_724 (by decide) ?_
    exact l_ret (show 100 + 9 * c ≤ 600000 by omega) (show 5000 + 100 * c ≤ 7302250 by omega)
  · have hle : 5 * c + 5 ≤ n := by
      have e1 := pk_sub_toInt (a := n) (b := 5) (by omega) (by omega)
      have e2 := nI_toInt (n := 5 * c) (by omega)
      have e3 : ¬ (nI n - nI 5 < nI (5 * c)) := c_23
      rw [Int32.lt_iff_toInt_lt, e1, e2] at e3
      omega
    have hK := ih hle
    refine j_aload_n dL_law_26 rfl ?_
    refine j_iload_n dL_law_27 rfl ?_
    refine l_ld (5 * c) rfl (by omega) hn dL_law_28 ?_
    refine j_bipush (v := 31) dL_law_29 (by decide) ?_
    refine j_iand dL_law_31 ?_
    generalize xs (5 * c) &&& 31 = x
    by_cases ho : x.toInt < 0 ∨ 19 < x.toInt
    · refine j_tableOut 718 dL_law_32 ho (by decide) ?_
      exact law_next hK hR hS (by omega) (show 100 + 9 * c ≤ _ by omega) (show 5000 + 100 * c ≤ _ by omega)
    · have ho1 : ¬ x.toInt < 0 := fun q => ho (Or.inl q)
      have ho2 : ¬ 19 < x.toInt := fun q => ho (Or.inr q)
      rcases sw_0_19 ho1 ho2 with rfl | rfl | rfl | rfl | rfl | rfl | rfl | rfl | rfl | rfl | rfl | rfl | rfl | rfl | rfl | rfl | rfl | rfl | rfl | rfl
      · exact j_tableIn (x := 0) 128 dL_law_32 (by decide) (by decide) rfl (by decide) (law_profile hn hle hK hR hS hsp)
      · exact j_tableIn (x := 1) 151 dL_law_32 (by decide) (by decide) rfl (by decide) (law_shape hn hle hK hR hS hsp)
      · exact j_tableIn (x := 2) 204 dL_law_32 (by decide) (by decide) rfl (by decide) (law_base hn hle hK hR hS hsp)
      · exact j_tableIn (x := 3) 247 dL_law_32 (by decide) (by decide) rfl (by decide) (law_buy hn hle hK hR hS hsp)
      · exact j_tableIn (x := 4) 280 dL_law_32 (by decide) (by decide) rfl (by decide) (law_cast hn hle hK hR hS hsp)
      · exact j_tableIn (x := 5) 303 dL_law_32 (by decide) (by decide) rfl (by decide) (law_cut hn hle hK hR hS hsp)
      · exact j_tableIn (x := 6) 336 dL_law_32 (by decide) (by decide) rfl (by decide) (law_old hn hle hK hR hS hsp)
      · exact j_tableIn (x := 7) 359 dL_law_32 (by decide) (by decide) rfl (by decide) (law_crack hn hle hK hR hS hsp)
      · exact j_tableIn (x := 8) 382 dL_law_32 (by decide) (by decide) rfl (by decide) (law_bellOf hn hle hK hR hS hsp)
      · exact j_tableIn (x := 9) 415 dL_law_32 (by decide) (by decide) rfl (by decide) (law_span hn hle hK hR hS hsp)
      · exact j_tableIn (x := 10) 458 dL_law_32 (by decide) (by decide) rfl (by decide) (law_tuning hn hle hK hR hS hsp)
      · exact j_tableIn (x := 11) 481 dL_law_32 (by decide) (by decide) rfl (by decide) (law_tune hn hle hK hR hS hsp)
      · exact j_tableIn (x := 12) 504 dL_law_32 (by decide) (by decide) rfl (by decide) (law_tuningAt hn hle hK hR hS hsp)
      · exact j_tableIn (x := 13) 537 dL_law_32 (by decide) (by decide) rfl (by decide) (law_note hn hle hK hR hS hsp)
      · exact j_tableIn (x := 14) 560 dL_law_32 (by decide) (by decide) rfl (by decide) (law_ring hn hle hK hR hS hsp)
      · exact j_tableIn (x := 15) 583 dL_law_32 (by decide) (by decide) rfl (by decide) (law_ringWeight hn hle hK hR hS hsp)
      · exact j_tableIn (x := 16) 596 dL_law_32 (by decide) (by decide) rfl (by decide) (law_ringBell hn hle hK hR hS hsp)
      · exact j_tableIn (x := 17) 619 dL_law_32 (by decide) (by decide) rfl (by decide) (law_tower hn hle hK hR hS hsp)
      · exact j_tableIn (x := 18) 662 dL_law_32 (by decide) (by decide) rfl (by decide) (law_hang hn hle hK hR hS hsp)
      · exact j_tableIn (x := 19) 695 dL_law_32 (by decide) (by decide) rfl (by decide) (law_about hn hle hK hR hS hsp)
theorem law_all {l : Launch} {G : GG} {nm : String} {b n : Nat} {xs : Nat → Int32} (hn : n ≤ 2560) : ∀ m c, c + m = 513 → LawK l G nm b n xs c := by
  intro m
  induction m with
  | zero => exact fun c hc => law_step hn (by omega) (fun q => by omega)
  | succ m ih => exact fun c hc => law_step hn (by omega) (fun _ => ih (c + 1) (by omega))
set_option maxRecDepth 100000 in
set_option maxHeartbeats 4000000 in
theorem law_start {l : Launch} {G : GG} {nm : String} {b n : Nat} {xs : Nat → Int32} (hn : n ≤ 2560) : J (thL l G nm b n xs) cL_law (fun _ => none) (0, 0) [some (.ref b), none, none, none] 0 [] := by
  have hLaw := law_all (l := l) (G := G) (nm := nm) (b := b) (n := n) (xs := xs) hn 513 0 rfl
  refine j_new (C := RX4) (T := TX4) (N := 11) (ci := 4) (fs := [.null, .int 0, .null, .int 0, .int 0, .int 0, .int 0, .null, .null, .null, .int 0]) rfl inX4 tyX4 tyX4_ok wk_L_7 wn_X4 wi_X4 (by decide) (Nat.le_of_ble_eq_true rfl) (Nat.le_of_ble_eq_true rfl) dL_law_0 (fun q_0 f_0 => ?_)
  refine j_dup dL_law_3 rfl ?_
  refine j_callI (rest := [.ref q_0]) (c_X4_init l G (upA_self _ _ _)) rfl rfl cw_X4_init wl_L_9 wm_X4_init rfl rfl (Nat.le_of_ble_eq_true rfl) (Nat.le_of_ble_eq_true rfl) (Nat.le_of_ble_eq_true rfl) (Nat.le_of_ble_eq_true rfl) (Nat.le_of_ble_eq_true rfl) dL_law_4 (fun v_4 h_4 e_4 => ?_)
  obtain ⟨rfl, y1, y2, y3, y4, y5, y6, y7, y8, y9, y10, y11, y12, y13, y14, y15, y16, y17, y18, ly0, ly1, ly2, ly3, ly4, ly5, ly6, ly7, ly8, ly9, ly10, ly11, ly12, ly13, ly14, ly15, ly16, ly17, hfy, gy0, gy1, gy2, gy3, gy4, gy5, gy6, gy7, gy8, gy9, gy10, gy11, gy12, gy13, gy14, gy15, gy16, gy17, gy18, hfr1⟩ := e_4
  refine j_astore_n dL_law_7 (Nat.le_of_ble_eq_true rfl) rfl ?_
  refine j_new (C := RX5) (T := TX5) (N := 33) (ci := 5) (fs := [.int 0, .null, .null, .null, .null, .null, .null, .int 0, .null, .null, .null, .null, .null, .null, .null, .null, .null, .null, .int 0, .int 0, .int 0, .null, .null, .int 0, .null, .int 0, .null, .int 0, .null, .null, .null, .null, .null]) rfl inX5 tyX5 tyX5_ok wk_L_10 wn_X5 wi_X5 (by decide) (Nat.le_of_ble_eq_true rfl) (Nat.le_of_ble_eq_true rfl) dL_law_8 (fun q_8 f_8 => ?_)
  refine j_dup dL_law_11 rfl ?_
  refine j_callI (rest := [.ref q_8]) (c_X5_init l G (upA_self _ _ _)) rfl rfl cw_X5_init wl_L_12 wm_X5_init rfl rfl (Nat.le_of_ble_eq_true rfl) (Nat.le_of_ble_eq_true rfl) (Nat.le_of_ble_eq_true rfl) (Nat.le_of_ble_eq_true rfl) (Nat.le_of_ble_eq_true rfl) dL_law_12 (fun v_12 h_12 e_12 => ?_)
  obtain ⟨rfl, z1, z2, z3, z4, z5, z6, z7, z8, z9, z10, z11, z12, z13, z14, z15, z16, z17, z18, z19, z20, z21, z22, z23, z24, z25, lz0, lz1, lz2, lz3, lz4, lz5, lz6, lz7, lz8, lz9, lz10, lz11, lz12, lz13, lz14, lz15, lz16, lz17, lz18, lz19, lz20, lz21, lz22, lz23, lz24, gz0, gz1, gz2, gz3, gz4, gz5, gz6, gz7, gz8, gz9, gz10, gz11, gz12, gz13, gz14, gz15, gz16, gz17, gz18, gz19, gz20, gz21, gz22, gz23, gz24, gz25, hfr2⟩ := e_12
  refine j_astore_n dL_law_15 (Nat.le_of_ble_eq_true rfl) rfl ?_
  refine j_iconst (v := 0) dL_law_16 (by decide) ?_
  refine j_istore_n dL_law_17 (Nat.le_of_ble_eq_true rfl) rfl ?_
  have hyz : y18 < q_8 := al_lt gy18 f_8
  have tr : ∀ x, x < q_8 → h_12 x = h_4 x := fun x hx => by rw [hfr2 x hx, upA_ne (by omega)]
  have gx0 := (tr q_0 (by omega)).trans gy0
  have gx1 := (tr y1 (by omega)).trans gy1
  have gx2 := (tr y2 (by omega)).trans gy2
  have gx3 := (tr y3 (by omega)).trans gy3
  have gx4 := (tr y4 (by omega)).trans gy4
  have gx5 := (tr y5 (by omega)).trans gy5
  have gx6 := (tr y6 (by omega)).trans gy6
  have gx7 := (tr y7 (by omega)).trans gy7
  have gx8 := (tr y8 (by omega)).trans gy8
  have gx9 := (tr y9 (by omega)).trans gy9
  have gx10 := (tr y10 (by omega)).trans gy10
  have gx11 := (tr y11 (by omega)).trans gy11
  have gx12 := (tr y12 (by omega)).trans gy12
  have gx13 := (tr y13 (by omega)).trans gy13
  have gx14 := (tr y14 (by omega)).trans gy14
  have gx15 := (tr y15 (by omega)).trans gy15
  have gx16 := (tr y16 (by omega)).trans gy16
  have gx17 := (tr y17 (by omega)).trans gy17
  have gx18 := (tr y18 (by omega)).trans gy18
  have e1 : ∀ f : Nat → Nat, (fun p => if p < 0 then some (f p) else none) = fun _ => none := fun f => funext (fun p => if_neg (by omega))
  have hR : Rm (fun m => (fun i => (q_0 :: y1 :: y2 :: y3 :: y4 :: y5 :: y6 :: y7 :: y8 :: y9 :: y10 :: y11 :: y12 :: y13 :: y14 :: y15 :: y16 :: y17 :: y18 :: q_8 :: z1 :: z2 :: z3 :: z4 :: z5 :: z6 :: z7 :: z8 :: z9 :: z10 :: z11 :: z12 :: z13 :: z14 :: z15 :: z16 :: z17 :: z18 :: z19 :: z20 :: z21 :: z22 :: z23 :: z24 :: z25 :: []).getD i 0) (ps0 m)) 0 0 Z0 L0 h_12 := by
    refine Rm_0 (AL := fun i => (q_0 :: y1 :: y2 :: y3 :: y4 :: y5 :: y6 :: y7 :: y8 :: y9 :: y10 :: y11 :: y12 :: y13 :: y14 :: y15 :: y16 :: y17 :: y18 :: q_8 :: z1 :: z2 :: z3 :: z4 :: z5 :: z6 :: z7 :: z8 :: z9 :: z10 :: z11 :: z12 :: z13 :: z14 :: z15 :: z16 :: z17 :: z18 :: z19 :: z20 :: z21 :: z22 :: z23 :: z24 :: z25 :: []).getD i 0) (fun i hi => ?_) (fun i m hm => ?_)
    · match i, hi with
      | 0, _ => exact ly0
      | 1, _ => exact ly1
      | 2, _ => exact ly2
      | 3, _ => exact ly3
      | 4, _ => exact ly4
      | 5, _ => exact ly5
      | 6, _ => exact ly6
      | 7, _ => exact ly7
      | 8, _ => exact ly8
      | 9, _ => exact ly9
      | 10, _ => exact ly10
      | 11, _ => exact ly11
      | 12, _ => exact ly12
      | 13, _ => exact ly13
      | 14, _ => exact ly14
      | 15, _ => exact ly15
      | 16, _ => exact ly16
      | 17, _ => exact ly17
      | 18, _ => exact hyz
      | 19, _ => exact lz0
      | 20, _ => exact lz1
      | 21, _ => exact lz2
      | 22, _ => exact lz3
      | 23, _ => exact lz4
      | 24, _ => exact lz5
      | 25, _ => exact lz6
      | 26, _ => exact lz7
      | 27, _ => exact lz8
      | 28, _ => exact lz9
      | 29, _ => exact lz10
      | 30, _ => exact lz11
      | 31, _ => exact lz12
      | 32, _ => exact lz13
      | 33, _ => exact lz14
      | 34, _ => exact lz15
      | 35, _ => exact lz16
      | 36, _ => exact lz17
      | 37, _ => exact lz18
      | 38, _ => exact lz19
      | 39, _ => exact lz20
      | 40, _ => exact lz21
      | 41, _ => exact lz22
      | 42, _ => exact lz23
      | 43, _ => exact lz24
      | i + 44, hi => omega
    · match i, hm with
      | 0, hm =>
        obtain rfl : (0, 0, 0) = m := Option.some.inj hm
        exact gx0
      | 1, hm =>
        obtain rfl : (0, 0, 1) = m := Option.some.inj hm
        show h_12 _ = some (qA 3 4 (fun p => if p < 0 then some _ else none))
        rw [e1]
        exact gx1
      | 2, hm =>
        obtain rfl : (0, 0, 3) = m := Option.some.inj hm
        show h_12 _ = some (qA 4 24 (fun p => if p < 0 then some _ else none))
        rw [e1]
        exact gx2
      | 3, hm =>
        obtain rfl : (3, 0, 0) = m := Option.some.inj hm
        exact gx3
      | 4, hm =>
        obtain rfl : (3, 0, 1) = m := Option.some.inj hm
        exact gx4
      | 5, hm =>
        obtain rfl : (3, 0, 2) = m := Option.some.inj hm
        exact gx5
      | 6, hm =>
        obtain rfl : (3, 0, 4) = m := Option.some.inj hm
        exact gx6
      | 7, hm =>
        obtain rfl : (3, 0, 5) = m := Option.some.inj hm
        exact gx7
      | 8, hm =>
        obtain rfl : (3, 0, 6) = m := Option.some.inj hm
        exact gx8
      | 9, hm =>
        obtain rfl : (3, 0, 7) = m := Option.some.inj hm
        exact gx9
      | 10, hm =>
        obtain rfl : (1, 0, 0) = m := Option.some.inj hm
        exact gx10
      | 11, hm =>
        obtain rfl : (1, 0, 1) = m := Option.some.inj hm
        exact gx11
      | 12, hm =>
        obtain rfl : (1, 0, 6) = m := Option.some.inj hm
        exact gx12
      | 13, hm =>
        obtain rfl : (1, 0, 8) = m := Option.some.inj hm
        exact gx13
      | 14, hm =>
        obtain rfl : (1, 0, 9) = m := Option.some.inj hm
        exact gx14
      | 15, hm =>
        obtain rfl : (1, 0, 10) = m := Option.some.inj hm
        exact gx15
      | 16, hm =>
        obtain rfl : (1, 0, 11) = m := Option.some.inj hm
        exact gx16
      | 17, hm =>
        obtain rfl : (1, 0, 12) = m := Option.some.inj hm
        exact gx17
      | 18, hm =>
        obtain rfl : (0, 0, 10) = m := Option.some.inj hm
        exact gx18
      | 19, hm =>
        obtain rfl : (5, 0, 0) = m := Option.some.inj hm
        exact gz0
      | 20, hm =>
        obtain rfl : (5, 0, 2) = m := Option.some.inj hm
        exact gz1
      | 21, hm =>
        obtain rfl : (5, 0, 3) = m := Option.some.inj hm
        exact gz2
      | 22, hm =>
        obtain rfl : (5, 0, 4) = m := Option.some.inj hm
        exact gz3
      | 23, hm =>
        obtain rfl : (5, 0, 5) = m := Option.some.inj hm
        exact gz4
      | 24, hm =>
        obtain rfl : (5, 0, 6) = m := Option.some.inj hm
        exact gz5
      | 25, hm =>
        obtain rfl : (5, 0, 7) = m := Option.some.inj hm
        exact gz6
      | 26, hm =>
        obtain rfl : (5, 0, 9) = m := Option.some.inj hm
        exact gz7
      | 27, hm =>
        obtain rfl : (5, 0, 10) = m := Option.some.inj hm
        exact gz8
      | 28, hm =>
        obtain rfl : (5, 0, 11) = m := Option.some.inj hm
        exact gz9
      | 29, hm =>
        obtain rfl : (5, 0, 12) = m := Option.some.inj hm
        exact gz10
      | 30, hm =>
        obtain rfl : (5, 0, 13) = m := Option.some.inj hm
        exact gz11
      | 31, hm =>
        obtain rfl : (5, 0, 14) = m := Option.some.inj hm
        exact gz12
      | 32, hm =>
        obtain rfl : (5, 0, 15) = m := Option.some.inj hm
        exact gz13
      | 33, hm =>
        obtain rfl : (5, 0, 16) = m := Option.some.inj hm
        exact gz14
      | 34, hm =>
        obtain rfl : (5, 0, 17) = m := Option.some.inj hm
        exact gz15
      | 35, hm =>
        obtain rfl : (5, 0, 18) = m := Option.some.inj hm
        exact gz16
      | 36, hm =>
        obtain rfl : (5, 0, 22) = m := Option.some.inj hm
        exact gz17
      | 37, hm =>
        obtain rfl : (5, 0, 23) = m := Option.some.inj hm
        exact gz18
      | 38, hm =>
        obtain rfl : (5, 0, 25) = m := Option.some.inj hm
        exact gz19
      | 39, hm =>
        obtain rfl : (5, 0, 27) = m := Option.some.inj hm
        exact gz20
      | 40, hm =>
        obtain rfl : (5, 0, 29) = m := Option.some.inj hm
        exact gz21
      | 41, hm =>
        obtain rfl : (5, 0, 30) = m := Option.some.inj hm
        exact gz22
      | 42, hm =>
        obtain rfl : (5, 0, 31) = m := Option.some.inj hm
        exact gz23
      | 43, hm =>
        obtain rfl : (5, 0, 32) = m := Option.some.inj hm
        exact gz24
      | 44, hm =>
        obtain rfl : (5, 0, 33) = m := Option.some.inj hm
        exact gz25
      | i + 45, hm => simp [nl0] at hm
  exact J.widen (k2 := (100 + 9 * 0, 5000 + 100 * 0)) (Nat.le_of_ble_eq_true rfl) (Nat.le_of_ble_eq_true rfl) (hLaw _ 0 0 0 0 _ _ _ hR SS_0 (Nat.le_refl _))
theorem kg_arr {ty : FieldType} {s : State} {args : Array Value} (h : (Cond.arrayClass ty).before args s = true) (hra : ∀ cA, va_RA s cA ty = (s.vm.findClass ("[" ++ ty.toString) = some cA)) : ∃ cA, ArrOfT s cA ty ∧ va_RA s cA ty := by
  obtain ⟨cA, kA, comp, h1, h2, h3⟩ := Cond.arrayClass_spec h
  exact ⟨cA, fun N z => ⟨(fun k h => by cases h), kA, h2, comp, h3⟩, by rw [hra]; exact h1⟩
theorem kg_obj {C : String} {s : State} {args : Array Value} (h : (Cond.arrayOver (.object C)).before args s = true) : ∃ cA, ArrOfT s cA (.object C) ∧ va_RA s cA (.object C) := by
  obtain ⟨comp, cA, kA, h1, h2, h3, h4, h5⟩ := Cond.arrayOver_spec h
  exact ⟨cA, fun N z => ⟨(fun k h => by cases h), kA, h3, comp, h4⟩, kA, comp, h3, h4, h1, h5⟩
set_option maxRecDepth 100000 in
set_option maxHeartbeats 4000000 in
theorem kg_is {s : State} {args : Array Value} (hts : ∀ w ∈ lw_tbl, w.before args s = true) : ∃ G : GG, G.2.2 = s.heap.size ∧ KG G s := by
  have htsG : ∀ w ∈ wsG, w.before args s = true := fun w hw => hts w (List.mem_filter.mp hw).1
  obtain ⟨c0, i0, n0⟩ := u_known (C := RX0) (T := TX0) (N := 9) (n := 9) htsG inX0 (htsG _ wn_X0)
  obtain ⟨c1, i1, n1⟩ := u_known (C := RX1) (T := TX1) (N := 12) (n := 12) htsG inX1 (htsG _ wn_X1)
  obtain ⟨c2, i2, n2⟩ := u_known (C := RX2) (T := TX2) (N := 6) (n := 6) htsG inX2 (htsG _ wn_X2)
  obtain ⟨c3, i3, n3⟩ := u_known (C := RX3) (T := TX3) (N := 7) (n := 7) htsG inX3 (htsG _ wn_X3)
  obtain ⟨c4, i4, n4⟩ := u_known (C := RX4) (T := TX4) (N := 11) (n := 11) htsG inX4 (htsG _ wn_X4)
  obtain ⟨c5, i5, n5⟩ := u_known (C := RX5) (T := TX5) (N := 33) (n := 33) htsG inX5 (htsG _ wn_X5)
  obtain ⟨r0, a0⟩ := kg_arr (ty := .int) (htsG _ wa_int) (fun _ => rfl)
  obtain ⟨r1, a1⟩ := kg_arr (ty := .long) (htsG _ wa_long) (fun _ => rfl)
  obtain ⟨r2, a2⟩ := kg_arr (ty := .boolean) (htsG _ wa_boolean) (fun _ => rfl)
  obtain ⟨r3, a3⟩ := kg_obj (hts _ wz_over_X2)
  obtain ⟨r4, a4⟩ := kg_obj (hts _ wz_over_X0)
  refine ⟨((fun k => if k = 0 then c0 else if k = 1 then c1 else if k = 2 then c2 else if k = 3 then c3 else if k = 4 then c4 else c5, fun k => if k = 0 then i0 else if k = 1 then i1 else if k = 2 then i2 else if k = 3 then i3 else if k = 4 then i4 else i5), fun k => if k = 0 then r0 else if k = 1 then r1 else if k = 2 then r2 else if k = 3 then r3 else r4, s.heap.size), rfl, ⟨fun k q hq => ?_, fun k q hq => ?_⟩, va_Nw.of rfl (hts _ wz_X2_42), va_Nw.of rfl (hts _ wz_X1_115), va_Nw.of rfl (hts _ wz_cast), va_AO.of (hts _ wz_over_X2), va_AO.of (hts _ wz_over_X0)⟩
  · match k, hq with
    | 0, hq => cases hq; exact n0
    | 1, hq => cases hq; exact n1
    | 2, hq => cases hq; exact n2
    | 3, hq => cases hq; exact n3
    | 4, hq => cases hq; exact n4
    | 5, hq => cases hq; exact n5
    | k + 6, hq => simp [vwCl] at hq
  · match k, hq with
    | 0, hq => cases hq; exact a0
    | 1, hq => cases hq; exact a1
    | 2, hq => cases hq; exact a2
    | 3, hq => cases hq; exact a3
    | 4, hq => cases hq; exact a4
    | k + 5, hq => simp [tyG] at hq
/-- YOUR PART: from the entry, for every script of at most 2560 ints, the law comes to its end with true -/
theorem whole_start {p : Program} {e : Env} {s : State} {m : MethodId} {below : List Frame} {meth : Method} {c : Code} (l : Launch) {b L : Nat} {xs : Nat → Int32} (hL : L ≤ 2560) (C0 : lw_At p s m meth c b L xs) : W p l e room_1 s m #[Value.ref b] below meth c s.heap [] 0 0 (lw_Z below #[Value.ref b] s) (entryFrame m ([Value.ref b] : List Value).toArray 4) := by
  obtain ⟨hx, hb, hr, hml, hown, hts, hX, hbl, hlocks, hgv⟩ := id C0
  have htsG : ∀ w ∈ wsG, w.before #[Value.ref b] s = true := fun w hw => hts w (List.mem_filter.mp hw).1
  obtain ⟨G, hG, hKG⟩ := kg_is hts
  rw [lg_entry_eq]
  exact law_start (l := l) (G := G) (nm := meth.name) (b := b) (n := L) (xs := xs) hL p e s m _ below meth c ⟨⟨hx, hb, hml, hown, htsG⟩, hr, hlocks, rfl, hKG, Nat.le_of_eq hG, rfl, hX, hbl, hG⟩ s.heap [] _ (fun a e h => by cases h) va_S.rf (lvh_entry [.ref b] 3 (Nat.le_of_ble_eq_true rfl))
