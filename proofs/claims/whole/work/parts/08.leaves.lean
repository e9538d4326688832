theorem upA_upA (h : AH) (a : Nat) (e e' : AE) : upA (upA h a e) a e' = upA h a e' := by
  funext b
  by_cases hb : b = a
  · simp [upA, hb]
  · simp [upA, hb]
theorem upA_eta {h : AH} {a : Nat} {e : AE} (he : h a = some e) : upA h a e = h := by
  funext b
  by_cases hb : b = a
  · simp [upA, hb, he]
  · simp [upA, hb]
theorem arrV_congr (c : ClassId) {n : Nat} {f g : Nat → Value} (hfg : ∀ j, j < n → f j = g j) : arrV c n f = arrV c n g := by
  unfold arrV
  congr 2
  funext j
  exact hfg j.val j.isLt
theorem hp.fun0 {G : GG} {h : AH} {H : Heap} {a n t : Nat} {f g : Nat → Int32} (hh : hp G h H) (he : h a = some (.inl (t, n, .inl f))) (hfg : ∀ j, j < n → f j = g j) : hp G (upA h a (.inl (t, n, .inl g))) H := by
  intro b x hb
  by_cases hba : b = a
  · subst hba
    rw [upA_self] at hb
    cases hb
    refine ⟨(hh b _ he).1, ?_⟩
    have := (hh b _ he).2
    show H[b]? = some (vp_cell _ _)
    rw [vp_cell_i, ← arrV_congr _ (f := fun j => .int (f j)) (fun j hj => by rw [hfg j hj])]
    exact this
  · rw [upA_ne hba] at hb
    exact hh b x hb
theorem hp.fun1 {G : GG} {h : AH} {H : Heap} {a n t : Nat} {f g : Nat → Int64} (hh : hp G h H) (he : h a = some (.inl (t, n, .inr (.inl f)))) (hfg : ∀ j, j < n → f j = g j) : hp G (upA h a (.inl (t, n, .inr (.inl g)))) H := by
  intro b x hb
  by_cases hba : b = a
  · subst hba
    rw [upA_self] at hb
    cases hb
    refine ⟨(hh b _ he).1, ?_⟩
    have := (hh b _ he).2
    show H[b]? = some (vp_cell _ _)
    rw [vp_cell_l, ← arrV_congr _ (f := fun j => .long (f j)) (fun j hj => by rw [hfg j hj])]
    exact this
  · rw [upA_ne hba] at hb
    exact hh b x hb
/-- an array's places beyond its length don't count -/
theorem J.fun0 {Θ : TH} {cc : ByteArray} {h : AH} {k : Nat × Nat} {lv : List (Option Value)} {pc : Nat} {st : List Value} {a n t : Nat} {f : Nat → Int32} (g : Nat → Int32) (he : h a = some (.inl (t, n, .inl f))) (hfg : ∀ j, j < n → f j = g j) (kk : J Θ cc (upA h a (.inl (t, n, .inl g))) k lv pc st) : J Θ cc h k lv pc st :=
  fun p e s m args below meth c C H locs ls hH hS hl => kk p e s m args below meth c C H locs ls (hH.fun0 he hfg) hS hl
theorem J.fun1 {Θ : TH} {cc : ByteArray} {h : AH} {k : Nat × Nat} {lv : List (Option Value)} {pc : Nat} {st : List Value} {a n t : Nat} {f : Nat → Int64} (g : Nat → Int64) (he : h a = some (.inl (t, n, .inr (.inl f)))) (hfg : ∀ j, j < n → f j = g j) (kk : J Θ cc (upA h a (.inl (t, n, .inr (.inl g)))) k lv pc st) : J Θ cc h k lv pc st :=
  fun p e s m args below meth c C H locs ls hH hS hl => kk p e s m args below meth c C H locs ls (hH.fun1 he hfg) hS hl

set_option maxRecDepth 100000 in
set_option maxHeartbeats 4000000 in
theorem c_X4_within (l : Launch) (G : GG) {h : AH} {v a b : Int32} : Con l G mX4_within 0 0 0 [.int v, .int a, .int b] h (fun r h2 => r = some (.int (bi (iw v a b))) ∧ h2 = h) := by
  refine Con.of 0 rfl (Nat.le_of_ble_eq_true rfl) ?_
  refine j_iload_n dX4_within_0 rfl ?_
  refine j_iload_n dX4_within_1 rfl ?_
  refine j_icmp_lt 14 dX4_within_2 (by decide) (fun c_2 => ?_) (fun c_2 => ?_)
  · first | rw [iw_lo c_2] | rw [iw_hi c_7]
    refine j_iconst (v := 0) dX4_within_14 (by decide) ?_
    refine j_zret rfl rfl (Nat.le_of_ble_eq_true rfl) (Nat.le_of_ble_eq_true rfl) dX4_within_15 ?_
    exact ⟨rfl, rfl⟩
  · refine j_iload_n dX4_within_5 rfl ?_
    refine j_iload_n dX4_within_6 rfl ?_
    refine j_icmp_gt 14 dX4_within_7 (by decide) (fun c_7 => ?_) (fun c_7 => ?_)
    · first | rw [iw_lo c_2] | rw [iw_hi c_7]
      refine j_iconst (v := 0) dX4_within_14 (by decide) ?_
      refine j_zret rfl rfl (Nat.le_of_ble_eq_true rfl) (Nat.le_of_ble_eq_true rfl) dX4_within_15 ?_
      exact ⟨rfl, rfl⟩
    · rw [iw_in c_2 c_7]
      refine j_iconst (v := 1) dX4_within_10 (by decide) ?_
      refine j_goto 15 dX4_within_11 (by decide) ?_
      refine j_zret rfl rfl (Nat.le_of_ble_eq_true rfl) (Nat.le_of_ble_eq_true rfl) dX4_within_15 ?_
      exact ⟨rfl, rfl⟩

set_option maxRecDepth 100000 in
set_option maxHeartbeats 4000000 in
theorem c_X5_in (l : Launch) (G : GG) {h : AH} {v a b : Int32} : Con l G mX5_in 0 0 0 [.int v, .int a, .int b] h (fun r h2 => r = some (.int (bi (iw v a b))) ∧ h2 = h) := by
  refine Con.of 0 rfl (Nat.le_of_ble_eq_true rfl) ?_
  refine j_iload_n dX5_in_0 rfl ?_
  refine j_iload_n dX5_in_1 rfl ?_
  refine j_icmp_lt 14 dX5_in_2 (by decide) (fun c_2 => ?_) (fun c_2 => ?_)
  · first | rw [iw_lo c_2] | rw [iw_hi c_7]
    refine j_iconst (v := 0) dX5_in_14 (by decide) ?_
    refine j_zret rfl rfl (Nat.le_of_ble_eq_true rfl) (Nat.le_of_ble_eq_true rfl) dX5_in_15 ?_
    exact ⟨rfl, rfl⟩
  · refine j_iload_n dX5_in_5 rfl ?_
    refine j_iload_n dX5_in_6 rfl ?_
    refine j_icmp_gt 14 dX5_in_7 (by decide) (fun c_7 => ?_) (fun c_7 => ?_)
    · first | rw [iw_lo c_2] | rw [iw_hi c_7]
      refine j_iconst (v := 0) dX5_in_14 (by decide) ?_
      refine j_zret rfl rfl (Nat.le_of_ble_eq_true rfl) (Nat.le_of_ble_eq_true rfl) dX5_in_15 ?_
      exact ⟨rfl, rfl⟩
    · rw [iw_in c_2 c_7]
      refine j_iconst (v := 1) dX5_in_10 (by decide) ?_
      refine j_goto 15 dX5_in_11 (by decide) ?_
      refine j_zret rfl rfl (Nat.le_of_ble_eq_true rfl) (Nat.le_of_ble_eq_true rfl) dX5_in_15 ?_
      exact ⟨rfl, rfl⟩

set_option maxRecDepth 100000 in
set_option maxHeartbeats 4000000 in
theorem c_X4_isHeight (l : Launch) (G : GG) {h : AH} {v : Int32} : Con l G mX4_isHeight 1 0 0 [.int v] h (fun r h2 => r = some (.int (bi (iw v 0 7))) ∧ h2 = h) := by
  refine Con.of 0 rfl (Nat.le_of_ble_eq_true rfl) ?_
  refine j_iload_n dX4_isHeight_0 rfl ?_
  refine j_iconst (v := 0) dX4_isHeight_1 (by decide) ?_
  refine j_bipush (v := 7) dX4_isHeight_2 (by decide) ?_
  refine j_callS (rest := []) (c_X4_within l G) cw_X4_within wl_X4_43 ws_X4_within rfl rfl (Nat.le_of_ble_eq_true rfl) (Nat.le_of_ble_eq_true rfl) (Nat.le_of_ble_eq_true rfl) (Nat.le_of_ble_eq_true rfl) (Nat.le_of_ble_eq_true rfl) dX4_isHeight_4 (fun v_4 h_4 e_4 => ?_)
  obtain ⟨rfl, hh⟩ := e_4
  have hh := hh.symm
  subst hh
  refine j_zret rfl (bi_nar _) (Nat.le_of_ble_eq_true rfl) (Nat.le_of_ble_eq_true rfl) dX4_isHeight_7 ?_
  exact ⟨rfl, rfl⟩

set_option maxRecDepth 100000 in
set_option maxHeartbeats 4000000 in
theorem c_X4_isPart (l : Launch) (G : GG) {h : AH} {v : Int32} : Con l G mX4_isPart 1 0 0 [.int v] h (fun r h2 => r = some (.int (bi (iw v 0 4))) ∧ h2 = h) := by
  refine Con.of 0 rfl (Nat.le_of_ble_eq_true rfl) ?_
  refine j_iload_n dX4_isPart_0 rfl ?_
  refine j_iconst (v := 0) dX4_isPart_1 (by decide) ?_
  refine j_iconst (v := 4) dX4_isPart_2 (by decide) ?_
  refine j_callS (rest := []) (c_X4_within l G) cw_X4_within wl_X4_43 ws_X4_within rfl rfl (Nat.le_of_ble_eq_true rfl) (Nat.le_of_ble_eq_true rfl) (Nat.le_of_ble_eq_true rfl) (Nat.le_of_ble_eq_true rfl) (Nat.le_of_ble_eq_true rfl) dX4_isPart_3 (fun v_3 h_3 e_3 => ?_)
  obtain ⟨rfl, hh⟩ := e_3
  have hh := hh.symm
  subst hh
  refine j_zret rfl (bi_nar _) (Nat.le_of_ble_eq_true rfl) (Nat.le_of_ble_eq_true rfl) dX4_isPart_6 ?_
  exact ⟨rfl, rfl⟩

set_option maxRecDepth 100000 in
set_option maxHeartbeats 4000000 in
theorem c_X4_isWay (l : Launch) (G : GG) {h : AH} {v : Int32} : Con l G mX4_isWay 1 0 0 [.int v] h (fun r h2 => r = some (.int (bi (iw v 0 4))) ∧ h2 = h) := by
  refine Con.of 0 rfl (Nat.le_of_ble_eq_true rfl) ?_
  refine j_iload_n dX4_isWay_0 rfl ?_
  refine j_iconst (v := 0) dX4_isWay_1 (by decide) ?_
  refine j_iconst (v := 4) dX4_isWay_2 (by decide) ?_
  refine j_callS (rest := []) (c_X4_within l G) cw_X4_within wl_X4_43 ws_X4_within rfl rfl (Nat.le_of_ble_eq_true rfl) (Nat.le_of_ble_eq_true rfl) (Nat.le_of_ble_eq_true rfl) (Nat.le_of_ble_eq_true rfl) (Nat.le_of_ble_eq_true rfl) dX4_isWay_3 (fun v_3 h_3 e_3 => ?_)
  obtain ⟨rfl, hh⟩ := e_3
  have hh := hh.symm
  subst hh
  refine j_zret rfl (bi_nar _) (Nat.le_of_ble_eq_true rfl) (Nat.le_of_ble_eq_true rfl) dX4_isWay_6 ?_
  exact ⟨rfl, rfl⟩

set_option maxRecDepth 100000 in
set_option maxHeartbeats 4000000 in
theorem c_J7_fill_53178 (l : Launch) (G : GG) {h : AH} {a n : Nat} {f : Nat → Int32} {x : Int32} (ha : h a = some (iA n f)) (hn : n < 2147483648) : Con l G mJ7_fill_53178 0 0 0 [.ref a, .int x] h (fun r h2 => r = none ∧ h2 = upA h a (iA n (fun _ => x))) := by
  have key : ∀ nn i, n < i + nn → i ≤ n → J (thM l G mJ7_fill_53178 0 0 0 (fun r h2 => r = none ∧ h2 = upA h a (iA n (fun _ => x)))) cJ7_fill_53178 (upA h a (iA n (fun j => if j < i then x else f j))) (0, 0) [some (.ref a), some (.int x), some (.int (nI i)), some (.int (nI n))] 5 [] := by
    intro nn
    induction nn with
    | zero => intro i h1 h2; omega
    | succ nn ih =>
      intro i h1 h2 
      refine j_iload_n dJ7_fill_53178_5 rfl ?_
      refine j_iload_n dJ7_fill_53178_6 rfl ?_
      refine j_icmp_ge 20 dJ7_fill_53178_7 (by decide) (fun c_7 => ?_) (fun c_7 => ?_)
      · have hlt : n ≤ i := (nI_leI (a := n) (b := i) (by omega) (by omega)).mp c_7
        refine J.fun0 (fun _ => x) (upA_self _ _ _) (fun j hj => if_pos (by omega)) ?_
        rw [upA_upA]
        refine j_vret rfl (Nat.le_of_ble_eq_true rfl) (Nat.le_of_ble_eq_true rfl) dJ7_fill_53178_20 ?_
        exact ⟨rfl, rfl⟩
      · have hlt : i < n := Nat.not_le.mp (fun q => c_7 ((nI_leI (a := n) (b := i) (by omega) (by omega)).mpr q))
        refine j_aload_n dJ7_fill_53178_10 rfl ?_
        refine j_iload_n dJ7_fill_53178_11 rfl ?_
        refine j_iload_n dJ7_fill_53178_12 rfl ?_
        refine j_iast (upA_self _ _ _) i rfl hlt hn dJ7_fill_53178_13 ?_
        rw [upA_upA]
        have e1 : upd (fun j => if j < i then x else f j) i x = (fun j => if j < i + 1 then x else f j) := by
          funext j
          by_cases hj : j = i
          · simp [upd, hj]
          · simp only [upd, if_neg hj]
            by_cases hj2 : j < i
            · rw [if_pos hj2, if_pos (by omega)]
            · rw [if_neg hj2, if_neg (by omega)]
        rw [e1]
        refine j_iinc dJ7_fill_53178_14 rfl (nI_inc _) (Nat.le_of_ble_eq_true rfl) rfl ?_
        refine j_goto 5 dJ7_fill_53178_17 (by decide) ?_
        exact ih (i + 1) (by omega) (by omega)
  refine Con.of 2 rfl (Nat.le_of_ble_eq_true rfl) ?_
  refine j_iconst (v := 0) dJ7_fill_53178_0 (by decide) ?_
  refine j_istore_n dJ7_fill_53178_1 (Nat.le_of_ble_eq_true rfl) rfl ?_
  refine j_aload_n dJ7_fill_53178_2 rfl ?_
  refine j_alen (t := 0) ha rfl rfl dJ7_fill_53178_3 ?_
  refine j_istore_n dJ7_fill_53178_4 (Nat.le_of_ble_eq_true rfl) rfl ?_
  have e0 : upA h a (iA n (fun j => if j < 0 then x else f j)) = h := by
    have : (fun j => if j < 0 then x else f j) = f := by funext j; exact if_neg (by omega)
    rw [this]
    exact upA_eta ha
  have k0 := key (n + 1) 0 (by omega) (by omega)
  rw [e0] at k0
  exact k0

set_option maxRecDepth 100000 in
set_option maxHeartbeats 4000000 in
theorem c_J7_fill_d0a16 (l : Launch) (G : GG) {h : AH} {a n : Nat} {f : Nat → Int64} {x : Int64} (ha : h a = some (lA n f)) (hn : n < 2147483648) : Con l G mJ7_fill_d0a16 0 0 0 [.ref a, .long x] h (fun r h2 => r = none ∧ h2 = upA h a (lA n (fun _ => x))) := by
  have key : ∀ nn i, n < i + nn → i ≤ n → J (thM l G mJ7_fill_d0a16 0 0 0 (fun r h2 => r = none ∧ h2 = upA h a (lA n (fun _ => x)))) cJ7_fill_d0a16 (upA h a (lA n (fun j => if j < i then x else f j))) (0, 0) [some (.ref a), some (.long x), none, some (.int (nI i)), some (.int (nI n))] 6 [] := by
    intro nn
    induction nn with
    | zero => intro i h1 h2; omega
    | succ nn ih =>
      intro i h1 h2 
      refine j_iload_n dJ7_fill_d0a16_6 rfl ?_
      refine j_iload dJ7_fill_d0a16_7 rfl ?_
      refine j_icmp_ge 22 dJ7_fill_d0a16_9 (by decide) (fun c_9 => ?_) (fun c_9 => ?_)
      · have hlt : n ≤ i := (nI_leI (a := n) (b := i) (by omega) (by omega)).mp c_9
        refine J.fun1 (fun _ => x) (upA_self _ _ _) (fun j hj => if_pos (by omega)) ?_
        rw [upA_upA]
        refine j_vret rfl (Nat.le_of_ble_eq_true rfl) (Nat.le_of_ble_eq_true rfl) dJ7_fill_d0a16_22 ?_
        exact ⟨rfl, rfl⟩
      · have hlt : i < n := Nat.not_le.mp (fun q => c_9 ((nI_leI (a := n) (b := i) (by omega) (by omega)).mpr q))
        refine j_aload_n dJ7_fill_d0a16_12 rfl ?_
        refine j_iload_n dJ7_fill_d0a16_13 rfl ?_
        refine j_lload_n dJ7_fill_d0a16_14 rfl ?_
        refine j_last (upA_self _ _ _) i rfl hlt hn dJ7_fill_d0a16_15 ?_
        rw [upA_upA]
        have e1 : vp_updL (fun j => if j < i then x else f j) i x = (fun j => if j < i + 1 then x else f j) := by
          funext j
          by_cases hj : j = i
          · simp [vp_updL, hj]
          · simp only [vp_updL, if_neg hj]
            by_cases hj2 : j < i
            · rw [if_pos hj2, if_pos (by omega)]
            · rw [if_neg hj2, if_neg (by omega)]
        rw [e1]
        refine j_iinc dJ7_fill_d0a16_16 rfl (nI_inc _) (Nat.le_of_ble_eq_true rfl) rfl ?_
        refine j_goto 6 dJ7_fill_d0a16_19 (by decide) ?_
        exact ih (i + 1) (by omega) (by omega)
  refine Con.of 2 rfl (Nat.le_of_ble_eq_true rfl) ?_
  refine j_iconst (v := 0) dJ7_fill_d0a16_0 (by decide) ?_
  refine j_istore_n dJ7_fill_d0a16_1 (Nat.le_of_ble_eq_true rfl) rfl ?_
  refine j_aload_n dJ7_fill_d0a16_2 rfl ?_
  refine j_alen (t := 1) ha rfl rfl dJ7_fill_d0a16_3 ?_
  refine j_istore dJ7_fill_d0a16_4 (Nat.le_of_ble_eq_true rfl) rfl ?_
  have e0 : upA h a (lA n (fun j => if j < 0 then x else f j)) = h := by
    have : (fun j => if j < 0 then x else f j) = f := by funext j; exact if_neg (by omega)
    rw [this]
    exact upA_eta ha
  have k0 := key (n + 1) 0 (by omega) (by omega)
  rw [e0] at k0
  exact k0

set_option maxRecDepth 100000 in
set_option maxHeartbeats 4000000 in
theorem c_X2_weightWith (l : Launch) (G : GG) {h : AH} {p th b t m s k : Nat} {w : Int32} {f g : Nat → Int32} (hp : h p = some (.inr (2, [.int w, .ref b, .ref t, .ref m, .ref s, .ref k]))) (hm : h m = some (iA 8 f)) (ht : h th = some (iA 8 g)) : Con l G mX2_weightWith 0 0 0 [.ref p, .ref th] h (fun r h2 => r = some (.int (wsum w f g 8)) ∧ h2 = h) := by
  have key : ∀ nn i, 8 < i + nn → i ≤ 8 → J (thM l G mX2_weightWith 0 0 0 (fun r h2 => r = some (.int (wsum w f g 8)) ∧ h2 = h)) cX2_weightWith h (0, 0) [some (.ref p), some (.ref th), some (.int (wsum w f g i)), some (.int (nI i))] 7 [] := by
    intro nn
    induction nn with
    | zero => intro i h1 h2; omega
    | succ nn ih =>
      intro i h1 h2 
      refine j_iload_n dX2_weightWith_7 rfl ?_
      refine j_bipush (v := 8) dX2_weightWith_8 (by decide) ?_
      refine j_icmp_ge 32 dX2_weightWith_10 (by decide) (fun c_10 => ?_) (fun c_10 => ?_)
      · have hlt : 8 ≤ i := (nI_leI (a := 8) (b := i) (by omega) (by omega)).mp c_10
        obtain rfl : i = 8 := by omega
        refine j_iload_n dX2_weightWith_32 rfl ?_
        refine j_iret rfl (Nat.le_of_ble_eq_true rfl) (Nat.le_of_ble_eq_true rfl) dX2_weightWith_33 ?_
        exact ⟨rfl, rfl⟩
      · have hlt : i < 8 := Nat.not_le.mp (fun q => c_10 ((nI_leI (a := 8) (b := i) (by omega) (by omega)).mpr q))
        refine j_iload_n dX2_weightWith_13 rfl ?_
        refine j_aload_n dX2_weightWith_14 rfl ?_
        refine gX2_22 rfl (by assumption) rfl dX2_weightWith_15 ?_
        refine j_iload_n dX2_weightWith_18 rfl ?_
        refine j_iald (by assumption) _ rfl (by omega) (by decide) dX2_weightWith_19 ?_
        refine j_aload_n dX2_weightWith_20 rfl ?_
        refine j_iload_n dX2_weightWith_21 rfl ?_
        refine j_iald (by assumption) _ rfl (by omega) (by decide) dX2_weightWith_22 ?_
        refine j_imul dX2_weightWith_23 ?_
        refine j_iadd dX2_weightWith_24 ?_
        refine j_istore_n dX2_weightWith_25 (Nat.le_of_ble_eq_true rfl) rfl ?_
        refine j_iinc dX2_weightWith_26 rfl (nI_inc _) (Nat.le_of_ble_eq_true rfl) rfl ?_
        refine j_goto 7 dX2_weightWith_29 (by decide) ?_
        exact ih (i + 1) (by omega) (by omega)
  refine Con.of 2 rfl (Nat.le_of_ble_eq_true rfl) ?_
  refine j_aload_n dX2_weightWith_0 rfl ?_
  refine gX2_9 rfl (by assumption) rfl dX2_weightWith_1 ?_
  refine j_istore_n dX2_weightWith_4 (Nat.le_of_ble_eq_true rfl) rfl ?_
  refine j_iconst (v := 0) dX2_weightWith_5 (by decide) ?_
  refine j_istore_n dX2_weightWith_6 (Nat.le_of_ble_eq_true rfl) rfl ?_
  exact key 9 0 (by omega) (by omega)

theorem ix8 (q i : Nat) : nI q * 8 + nI i = nI (q * 8 + i) := by
  rw [show (8 : Int32) = nI 8 from rfl, pk_mul, nI_add]
theorem xi8 (q i : Nat) : 8 * nI q + nI i = nI (8 * q + i) := by
  rw [show (8 : Int32) = nI 8 from rfl, pk_mul, nI_add]
theorem xi5 (q i : Nat) : 5 * nI q + nI i = nI (5 * q + i) := by
  rw [show (5 : Int32) = nI 5 from rfl, pk_mul, nI_add]
theorem xi40 (b q i : Nat) : 40 * nI b + 8 * nI q + nI i = nI (40 * b + 8 * q + i) := by
  rw [show (40 : Int32) = nI 40 from rfl, show (8 : Int32) = nI 8 from rfl, pk_mul, pk_mul, nI_add, nI_add]

set_option maxRecDepth 100000 in
set_option maxHeartbeats 4000000 in
theorem c_X2_partWith (l : Launch) (G : GG) {h : AH} {p th b t m s k : Nat} {w : Int32} {f g : Nat → Int32} {e : Nat → Int32} {q : Nat} (hq : q < 5) (hp : h p = some (.inr (2, [.int w, .ref b, .ref t, .ref m, .ref s, .ref k]))) (hbs : h b = some (iA 5 e)) (htb : h t = some (iA 40 f)) (ht : h th = some (iA 8 g)) : Con l G mX2_partWith 0 0 0 [.ref p, .int (nI q), .ref th] h (fun r h2 => r = some (.int (wsum (e q) (fun i => f (q * 8 + i)) g 8)) ∧ h2 = h) := by
  have key : ∀ nn i, 8 < i + nn → i ≤ 8 → J (thM l G mX2_partWith 0 0 0 (fun r h2 => r = some (.int (wsum (e q) (fun i => f (q * 8 + i)) g 8)) ∧ h2 = h)) cX2_partWith h (0, 0) [some (.ref p), some (.int (nI q)), some (.ref th), some (.int (wsum (e q) (fun i => f (q * 8 + i)) g i)), some (.int (nI i))] 10 [] := by
    intro nn
    induction nn with
    | zero => intro i h1 h2; omega
    | succ nn ih =>
      intro i h1 h2 
      refine j_iload dX2_partWith_10 rfl ?_
      refine j_bipush (v := 8) dX2_partWith_12 (by decide) ?_
      refine j_icmp_ge 43 dX2_partWith_14 (by decide) (fun c_14 => ?_) (fun c_14 => ?_)
      · have hlt : 8 ≤ i := (nI_leI (a := 8) (b := i) (by omega) (by omega)).mp c_14
        obtain rfl : i = 8 := by omega
        refine j_iload_n dX2_partWith_43 rfl ?_
        refine j_iret rfl (Nat.le_of_ble_eq_true rfl) (Nat.le_of_ble_eq_true rfl) dX2_partWith_44 ?_
        exact ⟨rfl, rfl⟩
      · have hlt : i < 8 := Nat.not_le.mp (fun q => c_14 ((nI_leI (a := 8) (b := i) (by omega) (by omega)).mpr q))
        refine j_iload_n dX2_partWith_17 rfl ?_
        refine j_aload_n dX2_partWith_18 rfl ?_
        refine gX2_19 rfl (by assumption) rfl dX2_partWith_19 ?_
        refine j_iload_n dX2_partWith_22 rfl ?_
        refine j_bipush (v := 8) dX2_partWith_23 (by decide) ?_
        refine j_imul dX2_partWith_25 ?_
        refine j_iload dX2_partWith_26 rfl ?_
        refine j_iadd dX2_partWith_28 ?_
        refine j_iald (by assumption) (q * 8 + i) (ix8 q i) (by omega) (by decide) dX2_partWith_29 ?_
        refine j_aload_n dX2_partWith_30 rfl ?_
        refine j_iload dX2_partWith_31 rfl ?_
        refine j_iald (by assumption) _ rfl (by omega) (by decide) dX2_partWith_33 ?_
        refine j_imul dX2_partWith_34 ?_
        refine j_iadd dX2_partWith_35 ?_
        refine j_istore_n dX2_partWith_36 (Nat.le_of_ble_eq_true rfl) rfl ?_
        refine j_iinc dX2_partWith_37 rfl (nI_inc _) (Nat.le_of_ble_eq_true rfl) rfl ?_
        refine j_goto 10 dX2_partWith_40 (by decide) ?_
        exact ih (i + 1) (by omega) (by omega)
  refine Con.of 2 rfl (Nat.le_of_ble_eq_true rfl) ?_
  refine j_aload_n dX2_partWith_0 rfl ?_
  refine gX2_15 rfl (by assumption) rfl dX2_partWith_1 ?_
  refine j_iload_n dX2_partWith_4 rfl ?_
  refine j_iald (by assumption) q rfl hq (by decide) dX2_partWith_5 ?_
  refine j_istore_n dX2_partWith_6 (Nat.le_of_ble_eq_true rfl) rfl ?_
  refine j_iconst (v := 0) dX2_partWith_7 (by decide) ?_
  refine j_istore dX2_partWith_8 (Nat.le_of_ble_eq_true rfl) rfl ?_
  exact key 9 0 (by omega) (by omega)

def wNow (Z : ZT) (b : Nat) : Int32 := wsum (Z (6, b, 0) 0) (Z (6, b, 4)) (Z (4, b, 3)) 8
def pNow (Z : ZT) (b q : Nat) : Int32 := wsum (Z (6, b, 2) q) (fun i => Z (6, b, 3) (q * 8 + i)) (Z (4, b, 3)) 8

set_option maxRecDepth 100000 in
set_option maxHeartbeats 4000000 in
theorem c_X0_weightNow (l : Launch) (G : GG) {ad : NM → Nat} {np nb : Nat} {Z : ZT} {L : LT} {h : AH} (hR : Rm ad np nb Z L h) {b : Nat} (hb : b < nb)  : Con l G mX0_weightNow 1 0 0 [.ref (ad (4, b, 0))] h (fun r h2 => r = some (.int (wNow Z b)) ∧ h2 = h) := by
  refine Con.of 0 rfl (Nat.le_of_ble_eq_true rfl) ?_
  refine j_aload_n dX0_weightNow_0 rfl ?_
  refine gX0_20 rfl (hR.1 _ ⟨by first | assumption | exact Nat.zero_lt_one, rfl⟩) rfl dX0_weightNow_1 ?_
  refine j_aload_n dX0_weightNow_4 rfl ?_
  refine gX0_33 rfl (hR.1 _ ⟨by first | assumption | exact Nat.zero_lt_one, rfl⟩) rfl dX0_weightNow_5 ?_
  refine j_callV (rest := []) (c_X2_weightWith l G (hR.1 _ ⟨by first | assumption | exact Nat.zero_lt_one, rfl⟩) (hR.1 _ ⟨by first | assumption | exact Nat.zero_lt_one, rfl⟩) (hR.1 _ ⟨by first | assumption | exact Nat.zero_lt_one, rfl⟩)) (hR.1 _ ⟨by first | assumption | exact Nat.zero_lt_one, rfl⟩) rfl cw_X2_weightWith wl_X0_46 wm_X2_weightWith wx_X2_weightWith rfl rfl (Nat.le_of_ble_eq_true rfl) (Nat.le_of_ble_eq_true rfl) (Nat.le_of_ble_eq_true rfl) (Nat.le_of_ble_eq_true rfl) (Nat.le_of_ble_eq_true rfl) dX0_weightNow_8 (fun v_8 h_8 e_8 => ?_)
  obtain ⟨rfl, hh⟩ := e_8
  have hh := hh.symm
  subst hh
  refine j_iret rfl (Nat.le_of_ble_eq_true rfl) (Nat.le_of_ble_eq_true rfl) dX0_weightNow_11 ?_
  exact ⟨rfl, rfl⟩

set_option maxRecDepth 100000 in
set_option maxHeartbeats 4000000 in
theorem c_X0_partNow (l : Launch) (G : GG) {ad : NM → Nat} {np nb : Nat} {Z : ZT} {L : LT} {h : AH} (hR : Rm ad np nb Z L h) {b : Nat} (hb : b < nb) {q : Nat} (hq : q < 5) : Con l G mX0_partNow 1 0 0 [.ref (ad (4, b, 0)), .int (nI q)] h (fun r h2 => r = some (.int (pNow Z b q)) ∧ h2 = h) := by
  refine Con.of 0 rfl (Nat.le_of_ble_eq_true rfl) ?_
  refine j_aload_n dX0_partNow_0 rfl ?_
  refine gX0_20 rfl (hR.1 _ ⟨by first | assumption | exact Nat.zero_lt_one, rfl⟩) rfl dX0_partNow_1 ?_
  refine j_iload_n dX0_partNow_4 rfl ?_
  refine j_aload_n dX0_partNow_5 rfl ?_
  refine gX0_33 rfl (hR.1 _ ⟨by first | assumption | exact Nat.zero_lt_one, rfl⟩) rfl dX0_partNow_6 ?_
  refine j_callV (rest := []) (c_X2_partWith l G hq (hR.1 _ ⟨by first | assumption | exact Nat.zero_lt_one, rfl⟩) (hR.1 _ ⟨by first | assumption | exact Nat.zero_lt_one, rfl⟩) (hR.1 _ ⟨by first | assumption | exact Nat.zero_lt_one, rfl⟩) (hR.1 _ ⟨by first | assumption | exact Nat.zero_lt_one, rfl⟩)) (hR.1 _ ⟨by first | assumption | exact Nat.zero_lt_one, rfl⟩) rfl cw_X2_partWith wl_X0_50 wm_X2_partWith wx_X2_partWith rfl rfl (Nat.le_of_ble_eq_true rfl) (Nat.le_of_ble_eq_true rfl) (Nat.le_of_ble_eq_true rfl) (Nat.le_of_ble_eq_true rfl) (Nat.le_of_ble_eq_true rfl) dX0_partNow_9 (fun v_9 h_9 e_9 => ?_)
  obtain ⟨rfl, hh⟩ := e_9
  have hh := hh.symm
  subst hh
  refine j_iret rfl (Nat.le_of_ble_eq_true rfl) (Nat.le_of_ble_eq_true rfl) dX0_partNow_12 ?_
  exact ⟨rfl, rfl⟩

set_option maxRecDepth 100000 in
set_option maxHeartbeats 4000000 in
theorem c_X2_castWeight (l : Launch) (G : GG) {ad : NM → Nat} {np nb : Nat} {Z : ZT} {L : LT} {h : AH} (hR : Rm ad np nb Z L h) {p : Nat} (hp : p < np)  : Con l G mX2_castWeight 1 0 0 [.ref (ad (2, p, 0))] h (fun r h2 => r = some (.int (wsum (Z (2, p, 0) 0) (Z (2, p, 4)) (Z (2, p, 6)) 8)) ∧ h2 = h) := by
  refine Con.of 0 rfl (Nat.le_of_ble_eq_true rfl) ?_
  refine j_aload_n dX2_castWeight_0 rfl ?_
  refine j_aload_n dX2_castWeight_1 rfl ?_
  refine gX2_28 rfl (hR.1 _ ⟨by first | assumption | exact Nat.zero_lt_one, rfl⟩) rfl dX2_castWeight_2 ?_
  refine j_callV (rest := []) (c_X2_weightWith l G (hR.1 _ ⟨by first | assumption | exact Nat.zero_lt_one, rfl⟩) (hR.1 _ ⟨by first | assumption | exact Nat.zero_lt_one, rfl⟩) (hR.1 _ ⟨by first | assumption | exact Nat.zero_lt_one, rfl⟩)) (hR.1 _ ⟨by first | assumption | exact Nat.zero_lt_one, rfl⟩) rfl cw_X2_weightWith wl_X2_46 wm_X2_weightWith wx_X2_weightWith rfl rfl (Nat.le_of_ble_eq_true rfl) (Nat.le_of_ble_eq_true rfl) (Nat.le_of_ble_eq_true rfl) (Nat.le_of_ble_eq_true rfl) (Nat.le_of_ble_eq_true rfl) dX2_castWeight_5 (fun v_5 h_5 e_5 => ?_)
  obtain ⟨rfl, hh⟩ := e_5
  have hh := hh.symm
  subst hh
  refine j_iret rfl (Nat.le_of_ble_eq_true rfl) (Nat.le_of_ble_eq_true rfl) dX2_castWeight_8 ?_
  exact ⟨rfl, rfl⟩

set_option maxRecDepth 100000 in
set_option maxHeartbeats 4000000 in
theorem c_X0_canBeTuned (l : Launch) (G : GG) {ad : NM → Nat} {np nb : Nat} {Z : ZT} {L : LT} {h : AH} (hR : Rm ad np nb Z L h) {b : Nat} (hb : b < nb)  : Con l G mX0_canBeTuned 0 0 0 [.ref (ad (4, b, 0))] h (fun r h2 => r = some (.int (bi (decide (Z (4, b, 0) 3 = 0) && decide (Z (4, b, 0) 4 = 0)))) ∧ h2 = h) := by
  refine Con.of 0 rfl (Nat.le_of_ble_eq_true rfl) ?_
  refine j_aload_n dX0_canBeTuned_0 rfl ?_
  refine gX0_54 rfl (hR.1 _ ⟨by first | assumption | exact Nat.zero_lt_one, rfl⟩) rfl dX0_canBeTuned_1 ?_
  refine j_if_ne 18 dX0_canBeTuned_4 (by decide) (fun c_4 => ?_) (fun c_4 => ?_)
  · refine j_iconst (v := 0) dX0_canBeTuned_18 (by decide) ?_
    refine j_zret rfl rfl (Nat.le_of_ble_eq_true rfl) (Nat.le_of_ble_eq_true rfl) dX0_canBeTuned_19 ?_
    exact ⟨by simp [bi, c_4], rfl⟩
  · refine j_aload_n dX0_canBeTuned_7 rfl ?_
    refine gX0_58 rfl (hR.1 _ ⟨by first | assumption | exact Nat.zero_lt_one, rfl⟩) rfl dX0_canBeTuned_8 ?_
    refine j_if_ne 18 dX0_canBeTuned_11 (by decide) (fun c_11 => ?_) (fun c_11 => ?_)
    · refine j_iconst (v := 0) dX0_canBeTuned_18 (by decide) ?_
      refine j_zret rfl rfl (Nat.le_of_ble_eq_true rfl) (Nat.le_of_ble_eq_true rfl) dX0_canBeTuned_19 ?_
      exact ⟨by simp [bi, c_4, c_11], rfl⟩
    · refine j_iconst (v := 1) dX0_canBeTuned_14 (by decide) ?_
      refine j_goto 19 dX0_canBeTuned_15 (by decide) ?_
      refine j_zret rfl rfl (Nat.le_of_ble_eq_true rfl) (Nat.le_of_ble_eq_true rfl) dX0_canBeTuned_19 ?_
      exact ⟨by simp [bi, c_4, c_11], rfl⟩

set_option maxRecDepth 100000 in
set_option maxHeartbeats 4000000 in
theorem c_X0_roomAt (l : Launch) (G : GG) {ad : NM → Nat} {np nb : Nat} {Z : ZT} {L : LT} {h : AH} (hR : Rm ad np nb Z L h) {b : Nat} (hb : b < nb) {i : Nat} (hi : i < 8) : Con l G mX0_roomAt 0 0 0 [.ref (ad (4, b, 0)), .int (nI i)] h (fun r h2 => r = some (.int (Z (4, b, 3) i - Z (6, b, 5) i)) ∧ h2 = h) := by
  refine Con.of 0 rfl (Nat.le_of_ble_eq_true rfl) ?_
  refine j_aload_n dX0_roomAt_0 rfl ?_
  refine gX0_33 rfl (hR.1 _ ⟨by first | assumption | exact Nat.zero_lt_one, rfl⟩) rfl dX0_roomAt_1 ?_
  refine j_iload_n dX0_roomAt_4 rfl ?_
  refine j_iald (hR.1 _ ⟨by first | assumption | exact Nat.zero_lt_one, rfl⟩) _ rfl (by omega) (by decide) dX0_roomAt_5 ?_
  refine j_aload_n dX0_roomAt_6 rfl ?_
  refine gX0_20 rfl (hR.1 _ ⟨by first | assumption | exact Nat.zero_lt_one, rfl⟩) rfl dX0_roomAt_7 ?_
  refine gX0_61 rfl (hR.1 _ ⟨by first | assumption | exact Nat.zero_lt_one, rfl⟩) rfl dX0_roomAt_10 ?_
  refine j_iload_n dX0_roomAt_13 rfl ?_
  refine j_iald (hR.1 _ ⟨by first | assumption | exact Nat.zero_lt_one, rfl⟩) _ rfl (by omega) (by decide) dX0_roomAt_14 ?_
  refine j_isub dX0_roomAt_15 ?_
  refine j_iret rfl (Nat.le_of_ble_eq_true rfl) (Nat.le_of_ble_eq_true rfl) dX0_roomAt_16 ?_
  exact ⟨rfl, rfl⟩

set_option maxRecDepth 100000 in
set_option maxHeartbeats 4000000 in
theorem c_X0_tableAt (l : Launch) (G : GG) {ad : NM → Nat} {np nb : Nat} {Z : ZT} {L : LT} {h : AH} (hR : Rm ad np nb Z L h) {b : Nat} (hb : b < nb) {q i : Nat} (hq : q < 5) (hi : i < 8) : Con l G mX0_tableAt 0 0 0 [.ref (ad (4, b, 0)), .int (nI q), .int (nI i)] h (fun r h2 => r = some (.int (Z (6, b, 3) (q * 8 + i))) ∧ h2 = h) := by
  refine Con.of 0 rfl (Nat.le_of_ble_eq_true rfl) ?_
  refine j_aload_n dX0_tableAt_0 rfl ?_
  refine gX0_20 rfl (hR.1 _ ⟨by first | assumption | exact Nat.zero_lt_one, rfl⟩) rfl dX0_tableAt_1 ?_
  refine gX0_64 rfl (hR.1 _ ⟨by first | assumption | exact Nat.zero_lt_one, rfl⟩) rfl dX0_tableAt_4 ?_
  refine j_iload_n dX0_tableAt_7 rfl ?_
  refine j_bipush (v := 8) dX0_tableAt_8 (by decide) ?_
  refine j_imul dX0_tableAt_10 ?_
  refine j_iload_n dX0_tableAt_11 rfl ?_
  refine j_iadd dX0_tableAt_12 ?_
  refine j_iald (hR.1 _ ⟨by first | assumption | exact Nat.zero_lt_one, rfl⟩) (q * 8 + i) (ix8 q i) (by omega) (by decide) dX0_tableAt_13 ?_
  refine j_iret rfl (Nat.le_of_ble_eq_true rfl) (Nat.le_of_ble_eq_true rfl) dX0_tableAt_14 ?_
  exact ⟨rfl, rfl⟩

set_option maxRecDepth 100000 in
set_option maxHeartbeats 4000000 in
theorem c_X0_takeOff (l : Launch) (G : GG) {ad : NM → Nat} {np nb : Nat} {Z : ZT} {L : LT} {h : AH} (hR : Rm ad np nb Z L h) {b : Nat} (hb : b < nb) {i : Nat} (hi : i < 8) {c : Int32} : Con l G mX0_takeOff 0 0 0 [.ref (ad (4, b, 0)), .int (nI i), .int c] h (fun r h2 => r = some (.int (Z (6, b, 4) i * c)) ∧ Rm ad np nb (upZ (upZ Z (4, b, 3) i (Z (4, b, 3) i - c)) (4, b, 0) 8 (-1)) L h2) := by
  refine Con.of 0 rfl (Nat.le_of_ble_eq_true rfl) ?_
  refine j_aload_n dX0_takeOff_0 rfl ?_
  refine gX0_33 rfl (hR.1 _ ⟨by first | assumption | exact Nat.zero_lt_one, rfl⟩) rfl dX0_takeOff_1 ?_
  refine j_iload_n dX0_takeOff_4 rfl ?_
  refine j_dup2 dX0_takeOff_5 rfl rfl ?_
  refine j_iald (hR.1 _ ⟨by first | assumption | exact Nat.zero_lt_one, rfl⟩) _ rfl (by omega) (by decide) dX0_takeOff_6 ?_
  refine j_iload_n dX0_takeOff_7 rfl ?_
  refine j_isub dX0_takeOff_8 ?_
  refine r_iast hR ⟨hb, rfl⟩ (fun _ => rfl) i rfl hi (by decide) dX0_takeOff_9 (fun h hR => ?_)
  refine j_aload_n dX0_takeOff_10 rfl ?_
  refine j_iconst (v := (-1)) dX0_takeOff_11 (by decide) ?_
  refine qX0_43 rfl hR hb dX0_takeOff_12 (fun h hR => ?_)
  refine j_aload_n dX0_takeOff_15 rfl ?_
  refine gX0_20 rfl (hR.1 _ ⟨by first | assumption | exact Nat.zero_lt_one, rfl⟩) rfl dX0_takeOff_16 ?_
  refine gX0_67 rfl (hR.1 _ ⟨by first | assumption | exact Nat.zero_lt_one, rfl⟩) rfl dX0_takeOff_19 ?_
  refine j_iload_n dX0_takeOff_22 rfl ?_
  refine j_iald (hR.1 _ ⟨by first | assumption | exact Nat.zero_lt_one, rfl⟩) _ rfl (by omega) (by decide) dX0_takeOff_23 ?_
  refine j_iload_n dX0_takeOff_24 rfl ?_
  refine j_imul dX0_takeOff_25 ?_
  refine j_iret rfl (Nat.le_of_ble_eq_true rfl) (Nat.le_of_ble_eq_true rfl) dX0_takeOff_26 ?_
  exact ⟨rfl, hR⟩

