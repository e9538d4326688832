theorem iw_ab {v : Int32} (a b : Nat) (hb : b < 2147483648) (h : iw v (nI a) (nI b) = true) (ha : a ≤ b) : ∃ j, a ≤ j ∧ j ≤ b ∧ v = nI j ∧ cl v = j := by
  obtain ⟨h1, h2⟩ := iw_iff.mp h
  have h1' := Int32.le_iff_toInt_le.mp h1
  have h2' := Int32.le_iff_toInt_le.mp h2
  have e0 : (0 : Int32).toInt = 0 := rfl
  rw [nI_toInt (by omega)] at h1' h2'
  obtain ⟨j, hj, rfl⟩ := nI_of (x := v) (fun q => by have := Int32.lt_iff_toInt_lt.mp q; rw [e0] at this; omega)
  rw [nI_toInt hj] at h1' h2'
  exact ⟨j, by omega, by omega, rfl, nI_clamp hj⟩
def mGood (v : Int32) (q i : Nat) (Z : ZT) : Bool := if q < 5 then iw v (-50) 50 else if q = 5 then iw v 1 50 else if q = 6 then iw v 0 (Z (5, 0, 3) i) else iw v (Z (5, 0, 4) i) 99
def mShape (p w k v : Int32) (Z : ZT) : Int32 × ZT :=
  if iw p 0 (Z (5, 0, 0) 0 - 1) && iw w 0 7 && iw k 0 7 && mGood v (cl w) (8 * cl p + cl k) Z then
    (1, if cl w < 5 then upZ Z (5, 0, 7) (40 * cl p + 8 * cl w + cl k) v else if cl w = 5 then upZ Z (5, 0, 5) (8 * cl p + cl k) v else if cl w = 6 then upZ Z (5, 0, 4) (8 * cl p + cl k) v else upZ Z (5, 0, 3) (8 * cl p + cl k) v) else (0, Z)
set_option maxRecDepth 100000 in
set_option maxHeartbeats 4000000 in
theorem c_X5_shape (l : Launch) (G : GG) {ad : NM → Nat} {np nb : Nat} {Z : ZT} {L : LT} {h : AH} (hR : Rm ad np nb Z L h) {mp : Nat} (hmp : Z (5, 0, 0) 0 = nI mp) (hp4 : mp ≤ 4) {p w k v : Int32} : Con l G mX5_shape 1 0 0 [.ref (ad (5, 0, 0)), .int p, .int w, .int k, .int v] h (fun r h2 => r = some (.int (mShape p w k v Z).1) ∧ Rm ad np nb (mShape p w k v Z).2 L h2) := by
  refine Con.of 2 rfl (Nat.le_of_ble_eq_true rfl) ?_
  refine j_iload_n dX5_shape_0 rfl ?_
  refine j_iconst (v := 0) dX5_shape_1 (by decide) ?_
  refine j_aload_n dX5_shape_2 rfl ?_
  refine gX5_94 rfl (hR.1 _ ⟨by first | assumption | exact Nat.zero_lt_one, rfl⟩) rfl dX5_shape_3 ?_
  refine j_iconst (v := 1) dX5_shape_6 (by decide) ?_
  refine j_isub dX5_shape_7 ?_
  refine j_callS (rest := []) (c_X5_in l G) cw_X5_in wl_X5_90 ws_X5_in rfl rfl (Nat.le_of_ble_eq_true rfl) (Nat.le_of_ble_eq_true rfl) (Nat.le_of_ble_eq_true rfl) (Nat.le_of_ble_eq_true rfl) (Nat.le_of_ble_eq_true rfl) dX5_shape_8 (fun v_8 h_8 e_8 => ?_)
  obtain ⟨rfl, hh⟩ := e_8
  have hh := hh.symm
  subst hh
  refine j_if_eq 34 dX5_shape_11 (by decide) (fun c_11 => ?_) (fun c_11 => ?_)
  · have g_11 := (bi_eq0 _).mp c_11
    refine j_iconst (v := 0) dX5_shape_34 (by decide) ?_
    refine j_zret rfl rfl (Nat.le_of_ble_eq_true rfl) (Nat.le_of_ble_eq_true rfl) dX5_shape_35 ?_
    exact ⟨by simp [mShape, g_11], by simpa [mShape, g_11] using hR⟩
  · have g_11 := (bi_ne0 _).mp c_11
    obtain ⟨p, hp, rfl, hclp⟩ := iw_lt (by omega) (hmp ▸ g_11)
    have hclp : cl (nI p) = p := hclp
    refine j_iload_n dX5_shape_14 rfl ?_
    refine j_iconst (v := 0) dX5_shape_15 (by decide) ?_
    refine j_bipush (v := 7) dX5_shape_16 (by decide) ?_
    refine j_callS (rest := []) (c_X5_in l G) cw_X5_in wl_X5_90 ws_X5_in rfl rfl (Nat.le_of_ble_eq_true rfl) (Nat.le_of_ble_eq_true rfl) (Nat.le_of_ble_eq_true rfl) (Nat.le_of_ble_eq_true rfl) (Nat.le_of_ble_eq_true rfl) dX5_shape_18 (fun v_18 h_18 e_18 => ?_)
    obtain ⟨rfl, hh⟩ := e_18
    have hh := hh.symm
    subst hh
    refine j_if_eq 34 dX5_shape_21 (by decide) (fun c_21 => ?_) (fun c_21 => ?_)
    · have g_21 := (bi_eq0 _).mp c_21
      refine j_iconst (v := 0) dX5_shape_34 (by decide) ?_
      refine j_zret rfl rfl (Nat.le_of_ble_eq_true rfl) (Nat.le_of_ble_eq_true rfl) dX5_shape_35 ?_
      exact ⟨by simp [mShape, g_11, hclp, g_21], by simpa [mShape, g_11, hclp, g_21] using hR⟩
    · have g_21 := (bi_ne0 _).mp c_21
      obtain ⟨q, hq, rfl, hclw⟩ := iw_le (n := 7) (by omega) g_21
      have hclw : cl (nI q) = q := hclw
      refine j_iload_n dX5_shape_24 rfl ?_
      refine j_iconst (v := 0) dX5_shape_25 (by decide) ?_
      refine j_bipush (v := 7) dX5_shape_26 (by decide) ?_
      refine j_callS (rest := []) (c_X5_in l G) cw_X5_in wl_X5_90 ws_X5_in rfl rfl (Nat.le_of_ble_eq_true rfl) (Nat.le_of_ble_eq_true rfl) (Nat.le_of_ble_eq_true rfl) (Nat.le_of_ble_eq_true rfl) (Nat.le_of_ble_eq_true rfl) dX5_shape_28 (fun v_28 h_28 e_28 => ?_)
      obtain ⟨rfl, hh⟩ := e_28
      have hh := hh.symm
      subst hh
      refine j_if_ne 36 dX5_shape_31 (by decide) (fun c_31 => ?_) (fun c_31 => ?_)
      · have g_31 := (bi_ne0 _).mp c_31
        obtain ⟨k, hk, rfl, hclk⟩ := iw_le (n := 7) (by omega) g_31
        have hclk : cl (nI k) = k := hclk
        refine j_bipush (v := 8) dX5_shape_36 (by decide) ?_
        refine j_iload_n dX5_shape_38 rfl ?_
        refine j_imul dX5_shape_39 ?_
        refine j_iload_n dX5_shape_40 rfl ?_
        refine j_iadd dX5_shape_41 ?_
        refine j_istore dX5_shape_42 (Nat.le_of_ble_eq_true rfl) rfl ?_
        rcases (show q < 5 ∨ q = 5 ∨ q = 6 ∨ q = 7 by omega) with hq5 | rfl | rfl | rfl
        · refine j_iload_n dX5_shape_44 rfl ?_
          refine j_iconst (v := 5) dX5_shape_45 (by decide) ?_
          refine j_icmp_ge 61 dX5_shape_46 (by decide) (fun c_46 => ?_) (fun c_46 => ?_)
          · exact absurd ((nI_leI (a := 5) (b := q) (by omega) (by omega)).mp c_46) (by omega)
          · refine j_iload dX5_shape_49 rfl ?_
            refine j_bipush (v := (-50)) dX5_shape_51 (by decide) ?_
            refine j_bipush (v := 50) dX5_shape_53 (by decide) ?_
            refine j_callS (rest := []) (c_X5_in l G) cw_X5_in wl_X5_90 ws_X5_in rfl rfl (Nat.le_of_ble_eq_true rfl) (Nat.le_of_ble_eq_true rfl) (Nat.le_of_ble_eq_true rfl) (Nat.le_of_ble_eq_true rfl) (Nat.le_of_ble_eq_true rfl) dX5_shape_55 (fun v_55 h_55 e_55 => ?_)
            obtain ⟨rfl, hh⟩ := e_55
            have hh := hh.symm
            subst hh
            refine j_goto 113 dX5_shape_58 (by decide) ?_
            refine j_istore dX5_shape_113 (Nat.le_of_ble_eq_true rfl) rfl ?_
            refine j_iload dX5_shape_115 rfl ?_
            refine j_if_ne 122 dX5_shape_117 (by decide) (fun c_117 => ?_) (fun c_117 => ?_)
            · have g_117 := (bi_ne0 _).mp c_117
              refine j_iload_n dX5_shape_122 rfl ?_
              refine j_iconst (v := 5) dX5_shape_123 (by decide) ?_
              refine j_icmp_ge 148 dX5_shape_124 (by decide) (fun c_124 => ?_) (fun c_124 => ?_)
              · exact absurd ((nI_leI (a := 5) (b := q) (by omega) (by omega)).mp c_124) (by omega)
              · refine j_aload_n dX5_shape_127 rfl ?_
                refine gX5_25 rfl (hR.1 _ ⟨by first | assumption | exact Nat.zero_lt_one, rfl⟩) rfl dX5_shape_128 ?_
                refine j_bipush (v := 40) dX5_shape_131 (by decide) ?_
                refine j_iload_n dX5_shape_133 rfl ?_
                refine j_imul dX5_shape_134 ?_
                refine j_bipush (v := 8) dX5_shape_135 (by decide) ?_
                refine j_iload_n dX5_shape_137 rfl ?_
                refine j_imul dX5_shape_138 ?_
                refine j_iadd dX5_shape_139 ?_
                refine j_iload_n dX5_shape_140 rfl ?_
                refine j_iadd dX5_shape_141 ?_
                refine j_iload dX5_shape_142 rfl ?_
                refine r_iast hR ⟨by first | assumption | exact Nat.zero_lt_one, rfl⟩ (fun _ => rfl) (40 * p + 8 * q + k) (xi40 p q k) (by omega) (by decide) dX5_shape_144 (fun h hR => ?_)
                refine j_goto 192 dX5_shape_145 (by decide) ?_
                refine j_iconst (v := 1) dX5_shape_192 (by decide) ?_
                refine j_zret rfl rfl (Nat.le_of_ble_eq_true rfl) (Nat.le_of_ble_eq_true rfl) dX5_shape_193 ?_
                exact ⟨by simp [mShape, mGood, g_11, hclp, g_21, hclw, g_31, hclk, hq5, g_117], by simpa [mShape, mGood, g_11, hclp, g_21, hclw, g_31, hclk, hq5, g_117] using hR⟩
            · have g_117 := (bi_eq0 _).mp c_117
              refine j_iconst (v := 0) dX5_shape_120 (by decide) ?_
              refine j_zret rfl rfl (Nat.le_of_ble_eq_true rfl) (Nat.le_of_ble_eq_true rfl) dX5_shape_121 ?_
              exact ⟨by simp [mShape, mGood, g_11, hclp, g_21, hclw, g_31, hclk, hq5, g_117], by simpa [mShape, mGood, g_11, hclp, g_21, hclw, g_31, hclk, hq5, g_117] using hR⟩
        · refine j_iload_n dX5_shape_44 rfl ?_
          refine j_iconst (v := 5) dX5_shape_45 (by decide) ?_
          refine j_icmp_ge 61 dX5_shape_46 (by decide) (fun c_46 => ?_) (fun c_46 => ?_)
          · refine j_iload_n dX5_shape_61 rfl ?_
            refine j_iconst (v := 5) dX5_shape_62 (by decide) ?_
            refine j_icmp_ne 77 dX5_shape_63 (by decide) (fun c_63 => ?_) (fun c_63 => ?_)
            · exact absurd rfl c_63
            · refine j_iload dX5_shape_66 rfl ?_
              refine j_iconst (v := 1) dX5_shape_68 (by decide) ?_
              refine j_bipush (v := 50) dX5_shape_69 (by decide) ?_
              refine j_callS (rest := []) (c_X5_in l G) cw_X5_in wl_X5_90 ws_X5_in rfl rfl (Nat.le_of_ble_eq_true rfl) (Nat.le_of_ble_eq_true rfl) (Nat.le_of_ble_eq_true rfl) (Nat.le_of_ble_eq_true rfl) (Nat.le_of_ble_eq_true rfl) dX5_shape_71 (fun v_71 h_71 e_71 => ?_)
              obtain ⟨rfl, hh⟩ := e_71
              have hh := hh.symm
              subst hh
              refine j_goto 113 dX5_shape_74 (by decide) ?_
              refine j_istore dX5_shape_113 (Nat.le_of_ble_eq_true rfl) rfl ?_
              refine j_iload dX5_shape_115 rfl ?_
              refine j_if_ne 122 dX5_shape_117 (by decide) (fun c_117 => ?_) (fun c_117 => ?_)
              · have g_117 := (bi_ne0 _).mp c_117
                refine j_iload_n dX5_shape_122 rfl ?_
                refine j_iconst (v := 5) dX5_shape_123 (by decide) ?_
                refine j_icmp_ge 148 dX5_shape_124 (by decide) (fun c_124 => ?_) (fun c_124 => ?_)
                · refine j_iload_n dX5_shape_148 rfl ?_
                  refine j_iconst (v := 5) dX5_shape_149 (by decide) ?_
                  refine j_icmp_ne 165 dX5_shape_150 (by decide) (fun c_150 => ?_) (fun c_150 => ?_)
                  · exact absurd rfl c_150
                  · refine j_aload_n dX5_shape_153 rfl ?_
                    refine gX5_19 rfl (hR.1 _ ⟨by first | assumption | exact Nat.zero_lt_one, rfl⟩) rfl dX5_shape_154 ?_
                    refine j_iload dX5_shape_157 rfl ?_
                    refine j_iload dX5_shape_159 rfl ?_
                    refine r_iast hR ⟨by first | assumption | exact Nat.zero_lt_one, rfl⟩ (fun _ => rfl) (8 * p + k) (xi8 p k) (by omega) (by decide) dX5_shape_161 (fun h hR => ?_)
                    refine j_goto 192 dX5_shape_162 (by decide) ?_
                    refine j_iconst (v := 1) dX5_shape_192 (by decide) ?_
                    refine j_zret rfl rfl (Nat.le_of_ble_eq_true rfl) (Nat.le_of_ble_eq_true rfl) dX5_shape_193 ?_
                    exact ⟨by simp [mShape, mGood, g_11, hclp, g_21, hclw, g_31, hclk, g_117], by simpa [mShape, mGood, g_11, hclp, g_21, hclw, g_31, hclk, g_117] using hR⟩
                · exact absurd (by decide) c_124
              · have g_117 := (bi_eq0 _).mp c_117
                refine j_iconst (v := 0) dX5_shape_120 (by decide) ?_
                refine j_zret rfl rfl (Nat.le_of_ble_eq_true rfl) (Nat.le_of_ble_eq_true rfl) dX5_shape_121 ?_
                exact ⟨by simp [mShape, mGood, g_11, hclp, g_21, hclw, g_31, hclk, g_117], by simpa [mShape, mGood, g_11, hclp, g_21, hclw, g_31, hclk, g_117] using hR⟩
          · exact absurd (by decide) c_46
        · refine j_iload_n dX5_shape_44 rfl ?_
          refine j_iconst (v := 5) dX5_shape_45 (by decide) ?_
          refine j_icmp_ge 61 dX5_shape_46 (by decide) (fun c_46 => ?_) (fun c_46 => ?_)
          · refine j_iload_n dX5_shape_61 rfl ?_
            refine j_iconst (v := 5) dX5_shape_62 (by decide) ?_
            refine j_icmp_ne 77 dX5_shape_63 (by decide) (fun c_63 => ?_) (fun c_63 => ?_)
            · refine j_iload_n dX5_shape_77 rfl ?_
              refine j_bipush (v := 6) dX5_shape_78 (by decide) ?_
              refine j_icmp_ne 99 dX5_shape_80 (by decide) (fun c_80 => ?_) (fun c_80 => ?_)
              · exact absurd rfl c_80
              · refine j_iload dX5_shape_83 rfl ?_
                refine j_iconst (v := 0) dX5_shape_85 (by decide) ?_
                refine j_aload_n dX5_shape_86 rfl ?_
                refine gX5_13 rfl (hR.1 _ ⟨by first | assumption | exact Nat.zero_lt_one, rfl⟩) rfl dX5_shape_87 ?_
                refine j_iload dX5_shape_90 rfl ?_
                refine j_iald (hR.1 _ ⟨by first | assumption | exact Nat.zero_lt_one, rfl⟩) (8 * p + k) (xi8 p k) (by omega) (by decide) dX5_shape_92 ?_
                refine j_callS (rest := []) (c_X5_in l G) cw_X5_in wl_X5_90 ws_X5_in rfl rfl (Nat.le_of_ble_eq_true rfl) (Nat.le_of_ble_eq_true rfl) (Nat.le_of_ble_eq_true rfl) (Nat.le_of_ble_eq_true rfl) (Nat.le_of_ble_eq_true rfl) dX5_shape_93 (fun v_93 h_93 e_93 => ?_)
                obtain ⟨rfl, hh⟩ := e_93
                have hh := hh.symm
                subst hh
                refine j_goto 113 dX5_shape_96 (by decide) ?_
                refine j_istore dX5_shape_113 (Nat.le_of_ble_eq_true rfl) rfl ?_
                refine j_iload dX5_shape_115 rfl ?_
                refine j_if_ne 122 dX5_shape_117 (by decide) (fun c_117 => ?_) (fun c_117 => ?_)
                · have g_117 := (bi_ne0 _).mp c_117
                  refine j_iload_n dX5_shape_122 rfl ?_
                  refine j_iconst (v := 5) dX5_shape_123 (by decide) ?_
                  refine j_icmp_ge 148 dX5_shape_124 (by decide) (fun c_124 => ?_) (fun c_124 => ?_)
                  · refine j_iload_n dX5_shape_148 rfl ?_
                    refine j_iconst (v := 5) dX5_shape_149 (by decide) ?_
                    refine j_icmp_ne 165 dX5_shape_150 (by decide) (fun c_150 => ?_) (fun c_150 => ?_)
                    · refine j_iload_n dX5_shape_165 rfl ?_
                      refine j_bipush (v := 6) dX5_shape_166 (by decide) ?_
                      refine j_icmp_ne 183 dX5_shape_168 (by decide) (fun c_168 => ?_) (fun c_168 => ?_)
                      · exact absurd rfl c_168
                      · refine j_aload_n dX5_shape_171 rfl ?_
                        refine gX5_16 rfl (hR.1 _ ⟨by first | assumption | exact Nat.zero_lt_one, rfl⟩) rfl dX5_shape_172 ?_
                        refine j_iload dX5_shape_175 rfl ?_
                        refine j_iload dX5_shape_177 rfl ?_
                        refine r_iast hR ⟨by first | assumption | exact Nat.zero_lt_one, rfl⟩ (fun _ => rfl) (8 * p + k) (xi8 p k) (by omega) (by decide) dX5_shape_179 (fun h hR => ?_)
                        refine j_goto 192 dX5_shape_180 (by decide) ?_
                        refine j_iconst (v := 1) dX5_shape_192 (by decide) ?_
                        refine j_zret rfl rfl (Nat.le_of_ble_eq_true rfl) (Nat.le_of_ble_eq_true rfl) dX5_shape_193 ?_
                        exact ⟨by simp [mShape, mGood, g_11, hclp, g_21, hclw, g_31, hclk, g_117], by simpa [mShape, mGood, g_11, hclp, g_21, hclw, g_31, hclk, g_117] using hR⟩
                    · exact absurd c_150 (by decide)
                  · exact absurd (by decide) c_124
                · have g_117 := (bi_eq0 _).mp c_117
                  refine j_iconst (v := 0) dX5_shape_120 (by decide) ?_
                  refine j_zret rfl rfl (Nat.le_of_ble_eq_true rfl) (Nat.le_of_ble_eq_true rfl) dX5_shape_121 ?_
                  exact ⟨by simp [mShape, mGood, g_11, hclp, g_21, hclw, g_31, hclk, g_117], by simpa [mShape, mGood, g_11, hclp, g_21, hclw, g_31, hclk, g_117] using hR⟩
            · exact absurd c_63 (by decide)
          · exact absurd (by decide) c_46
        · refine j_iload_n dX5_shape_44 rfl ?_
          refine j_iconst (v := 5) dX5_shape_45 (by decide) ?_
          refine j_icmp_ge 61 dX5_shape_46 (by decide) (fun c_46 => ?_) (fun c_46 => ?_)
          · refine j_iload_n dX5_shape_61 rfl ?_
            refine j_iconst (v := 5) dX5_shape_62 (by decide) ?_
            refine j_icmp_ne 77 dX5_shape_63 (by decide) (fun c_63 => ?_) (fun c_63 => ?_)
            · refine j_iload_n dX5_shape_77 rfl ?_
              refine j_bipush (v := 6) dX5_shape_78 (by decide) ?_
              refine j_icmp_ne 99 dX5_shape_80 (by decide) (fun c_80 => ?_) (fun c_80 => ?_)
              · refine j_iload dX5_shape_99 rfl ?_
                refine j_aload_n dX5_shape_101 rfl ?_
                refine gX5_16 rfl (hR.1 _ ⟨by first | assumption | exact Nat.zero_lt_one, rfl⟩) rfl dX5_shape_102 ?_
                refine j_iload dX5_shape_105 rfl ?_
                refine j_iald (hR.1 _ ⟨by first | assumption | exact Nat.zero_lt_one, rfl⟩) (8 * p + k) (xi8 p k) (by omega) (by decide) dX5_shape_107 ?_
                refine j_bipush (v := 99) dX5_shape_108 (by decide) ?_
                refine j_callS (rest := []) (c_X5_in l G) cw_X5_in wl_X5_90 ws_X5_in rfl rfl (Nat.le_of_ble_eq_true rfl) (Nat.le_of_ble_eq_true rfl) (Nat.le_of_ble_eq_true rfl) (Nat.le_of_ble_eq_true rfl) (Nat.le_of_ble_eq_true rfl) dX5_shape_110 (fun v_110 h_110 e_110 => ?_)
                obtain ⟨rfl, hh⟩ := e_110
                have hh := hh.symm
                subst hh
                refine j_istore dX5_shape_113 (Nat.le_of_ble_eq_true rfl) rfl ?_
                refine j_iload dX5_shape_115 rfl ?_
                refine j_if_ne 122 dX5_shape_117 (by decide) (fun c_117 => ?_) (fun c_117 => ?_)
                · have g_117 := (bi_ne0 _).mp c_117
                  refine j_iload_n dX5_shape_122 rfl ?_
                  refine j_iconst (v := 5) dX5_shape_123 (by decide) ?_
                  refine j_icmp_ge 148 dX5_shape_124 (by decide) (fun c_124 => ?_) (fun c_124 => ?_)
                  · refine j_iload_n dX5_shape_148 rfl ?_
                    refine j_iconst (v := 5) dX5_shape_149 (by decide) ?_
                    refine j_icmp_ne 165 dX5_shape_150 (by decide) (fun c_150 => ?_) (fun c_150 => ?_)
                    · refine j_iload_n dX5_shape_165 rfl ?_
                      refine j_bipush (v := 6) dX5_shape_166 (by decide) ?_
                      refine j_icmp_ne 183 dX5_shape_168 (by decide) (fun c_168 => ?_) (fun c_168 => ?_)
                      · refine j_aload_n dX5_shape_183 rfl ?_
                        refine gX5_13 rfl (hR.1 _ ⟨by first | assumption | exact Nat.zero_lt_one, rfl⟩) rfl dX5_shape_184 ?_
                        refine j_iload dX5_shape_187 rfl ?_
                        refine j_iload dX5_shape_189 rfl ?_
                        refine r_iast hR ⟨by first | assumption | exact Nat.zero_lt_one, rfl⟩ (fun _ => rfl) (8 * p + k) (xi8 p k) (by omega) (by decide) dX5_shape_191 (fun h hR => ?_)
                        refine j_iconst (v := 1) dX5_shape_192 (by decide) ?_
                        refine j_zret rfl rfl (Nat.le_of_ble_eq_true rfl) (Nat.le_of_ble_eq_true rfl) dX5_shape_193 ?_
                        exact ⟨by simp [mShape, mGood, g_11, hclp, g_21, hclw, g_31, hclk, g_117], by simpa [mShape, mGood, g_11, hclp, g_21, hclw, g_31, hclk, g_117] using hR⟩
                      · exact absurd c_168 (by decide)
                    · exact absurd c_150 (by decide)
                  · exact absurd (by decide) c_124
                · have g_117 := (bi_eq0 _).mp c_117
                  refine j_iconst (v := 0) dX5_shape_120 (by decide) ?_
                  refine j_zret rfl rfl (Nat.le_of_ble_eq_true rfl) (Nat.le_of_ble_eq_true rfl) dX5_shape_121 ?_
                  exact ⟨by simp [mShape, mGood, g_11, hclp, g_21, hclw, g_31, hclk, g_117], by simpa [mShape, mGood, g_11, hclp, g_21, hclw, g_31, hclk, g_117] using hR⟩
              · exact absurd c_80 (by decide)
            · exact absurd c_63 (by decide)
          · exact absurd (by decide) c_46
      · have g_31 := (bi_eq0 _).mp c_31
        refine j_iconst (v := 0) dX5_shape_34 (by decide) ?_
        refine j_zret rfl rfl (Nat.le_of_ble_eq_true rfl) (Nat.le_of_ble_eq_true rfl) dX5_shape_35 ?_
        exact ⟨by simp [mShape, g_11, hclp, g_21, hclw, g_31], by simpa [mShape, g_11, hclp, g_21, hclw, g_31] using hR⟩

def mBellOf (v w : Int32) (Z : ZT) : Int32 :=
  if iw v 0 (Z (5, 0, 0) 7 - 1) then
    if iw w 0 4 then mP Z (cl v) (cl w) else if iw w 10 17 then Z (5, 0, 11) (8 * cl v + (cl w - 10)) else if w = 5 then mW Z (cl v) else if w = 6 then (if Z (5, 0, 16) (cl v) = 0 then 0 else 1)
    else if w = 7 then (if Z (5, 0, 17) (cl v) = 0 then 0 else 1) else if w = 8 then Z (5, 0, 18) (cl v) else if w = 9 then mPull Z (cl v) (Z (5, 0, 18) (cl v)) else if w = 18 then Z (5, 0, 9) (cl v) else -100000
  else -100000
theorem sub10 (j i : Nat) (h : 10 ≤ i) : 8 * nI j + nI i - 10 = nI (8 * j + (i - 10)) := by
  rw [xi8, show (10 : Int32) = nI 10 from rfl, pk_sub (by omega)]
  congr 1
  omega
theorem ne_of_toInt {x : Int32} {lo hi : Int} (h : x.toInt < lo ∨ hi < x.toInt) (y : Int32) (h1 : lo ≤ y.toInt) (h2 : y.toInt ≤ hi) : ¬ x = y := by
  rintro rfl
  omega
set_option maxRecDepth 100000 in
set_option maxHeartbeats 4000000 in
theorem c_X5_bellOf (l : Launch) (G : GG) {ad : NM → Nat} {np nb : Nat} {Z : ZT} {L : LT} {h : AH} (hR : Rm ad np nb Z L h) {mb : Nat} (hmb : Z (5, 0, 0) 7 = nI mb) (hm : mb ≤ 24) (hg : ∀ b, b < mb → wayOk (Z (5, 0, 18) b)) {v w : Int32} : Con l G mX5_bellOf 3 0 0 [.ref (ad (5, 0, 0)), .int v, .int w] h (fun r h2 => r = some (.int (mBellOf v w Z)) ∧ h2 = h) := by
  refine Con.of 0 rfl (Nat.le_of_ble_eq_true rfl) ?_
  refine j_aload_n dX5_bellOf_0 rfl ?_
  refine j_iload_n dX5_bellOf_1 rfl ?_
  refine j_callV (rest := []) (c_X5_isBell l G hR) (hR.1 _ ⟨by first | assumption | exact Nat.zero_lt_one, rfl⟩) rfl cw_X5_isBell wl_X5_108 wm_X5_isBell wx_X5_isBell rfl rfl (Nat.le_of_ble_eq_true rfl) (Nat.le_of_ble_eq_true rfl) (Nat.le_of_ble_eq_true rfl) (Nat.le_of_ble_eq_true rfl) (Nat.le_of_ble_eq_true rfl) dX5_bellOf_2 (fun v_2 h_2 e_2 => ?_)
  obtain ⟨rfl, hh⟩ := e_2
  have hh := hh.symm
  subst hh
  refine j_if_ne 11 dX5_bellOf_5 (by decide) (fun c_5 => ?_) (fun c_5 => ?_)
  · have g_5 := (bi_ne0 _).mp c_5
    obtain ⟨j, hj, rfl, hcl⟩ := iw_lt (by omega) (hmb ▸ g_5)
    have hcl : cl (nI j) = j := hcl
    refine j_iload_n dX5_bellOf_11 rfl ?_
    refine j_iconst (v := 0) dX5_bellOf_12 (by decide) ?_
    refine j_iconst (v := 4) dX5_bellOf_13 (by decide) ?_
    refine j_callS (rest := []) (c_X5_in l G) cw_X5_in wl_X5_90 ws_X5_in rfl rfl (Nat.le_of_ble_eq_true rfl) (Nat.le_of_ble_eq_true rfl) (Nat.le_of_ble_eq_true rfl) (Nat.le_of_ble_eq_true rfl) (Nat.le_of_ble_eq_true rfl) dX5_bellOf_14 (fun v_14 h_14 e_14 => ?_)
    obtain ⟨rfl, hh⟩ := e_14
    have hh := hh.symm
    subst hh
    refine j_if_eq 27 dX5_bellOf_17 (by decide) (fun c_17 => ?_) (fun c_17 => ?_)
    · have g_17 := (bi_eq0 _).mp c_17
      refine j_iload_n dX5_bellOf_27 rfl ?_
      refine j_bipush (v := 10) dX5_bellOf_28 (by decide) ?_
      refine j_bipush (v := 17) dX5_bellOf_30 (by decide) ?_
      refine j_callS (rest := []) (c_X5_in l G) cw_X5_in wl_X5_90 ws_X5_in rfl rfl (Nat.le_of_ble_eq_true rfl) (Nat.le_of_ble_eq_true rfl) (Nat.le_of_ble_eq_true rfl) (Nat.le_of_ble_eq_true rfl) (Nat.le_of_ble_eq_true rfl) dX5_bellOf_32 (fun v_32 h_32 e_32 => ?_)
      obtain ⟨rfl, hh⟩ := e_32
      have hh := hh.symm
      subst hh
      refine j_if_eq 53 dX5_bellOf_35 (by decide) (fun c_35 => ?_) (fun c_35 => ?_)
      · have g_35 := (bi_eq0 _).mp c_35
        refine j_iload_n dX5_bellOf_53 rfl ?_
        by_cases ho : w.toInt < 5 ∨ 18 < w.toInt
        · refine j_tableOut 186 dX5_bellOf_54 ho (by decide) ?_
          refine j_ldc (own := RX5) rfl wc_X5_119 dX5_bellOf_186 ?_
          refine j_iret rfl (Nat.le_of_ble_eq_true rfl) (Nat.le_of_ble_eq_true rfl) dX5_bellOf_188 ?_
          exact ⟨by simp [mBellOf, g_5, g_17, g_35, ne_of_toInt ho 5 (by decide) (by decide), ne_of_toInt ho 6 (by decide) (by decide), ne_of_toInt ho 7 (by decide) (by decide), ne_of_toInt ho 8 (by decide) (by decide), ne_of_toInt ho 9 (by decide) (by decide), ne_of_toInt ho 18 (by decide) (by decide)], rfl⟩
        · have ho1 : ¬ w.toInt < 5 := fun q => ho (Or.inl q)
          have ho2 : ¬ 18 < w.toInt := fun q => ho (Or.inr q)
          rcases sw_5_18 ho1 ho2 with rfl | rfl | rfl | rfl | rfl | rfl | rfl | rfl | rfl | rfl | rfl | rfl | rfl | rfl
          · refine j_tableIn (x := 5) 124 dX5_bellOf_54 (by decide) (by decide) rfl (by decide) ?_
            refine j_aload_n dX5_bellOf_124 rfl ?_
            refine j_iload_n dX5_bellOf_125 rfl ?_
            refine j_callV (rest := []) (c_X5_weightOf l G hR (by omega)) (hR.1 _ ⟨by first | assumption | exact Nat.zero_lt_one, rfl⟩) rfl cw_X5_weightOf wl_X5_115 wm_X5_weightOf wx_X5_weightOf rfl rfl (Nat.le_of_ble_eq_true rfl) (Nat.le_of_ble_eq_true rfl) (Nat.le_of_ble_eq_true rfl) (Nat.le_of_ble_eq_true rfl) (Nat.le_of_ble_eq_true rfl) dX5_bellOf_126 (fun v_126 h_126 e_126 => ?_)
            obtain ⟨rfl, hh⟩ := e_126
            have hh := hh.symm
            subst hh
            refine j_iret rfl (Nat.le_of_ble_eq_true rfl) (Nat.le_of_ble_eq_true rfl) dX5_bellOf_129 ?_
            exact ⟨by simp [mBellOf, g_5, hcl, g_17, g_35, ], rfl⟩
          · refine j_tableIn (x := 6) 130 dX5_bellOf_54 (by decide) (by decide) rfl (by decide) ?_
            refine j_aload_n dX5_bellOf_130 rfl ?_
            refine gX5_49 rfl (hR.1 _ ⟨by first | assumption | exact Nat.zero_lt_one, rfl⟩) rfl dX5_bellOf_131 ?_
            refine j_iload_n dX5_bellOf_134 rfl ?_
            refine j_zald (hR.1 _ ⟨by first | assumption | exact Nat.zero_lt_one, rfl⟩) j rfl (by omega) (by decide) dX5_bellOf_135 ?_
            refine j_if_eq 143 dX5_bellOf_136 (by decide) (fun c_136 => ?_) (fun c_136 => ?_)
            · refine j_iconst (v := 0) dX5_bellOf_143 (by decide) ?_
              refine j_iret rfl (Nat.le_of_ble_eq_true rfl) (Nat.le_of_ble_eq_true rfl) dX5_bellOf_144 ?_
              exact ⟨by simp [mBellOf, g_5, hcl, g_17, g_35, c_136], rfl⟩
            · refine j_iconst (v := 1) dX5_bellOf_139 (by decide) ?_
              refine j_goto 144 dX5_bellOf_140 (by decide) ?_
              refine j_iret rfl (Nat.le_of_ble_eq_true rfl) (Nat.le_of_ble_eq_true rfl) dX5_bellOf_144 ?_
              exact ⟨by simp [mBellOf, g_5, hcl, g_17, g_35, c_136], rfl⟩
          · refine j_tableIn (x := 7) 145 dX5_bellOf_54 (by decide) (by decide) rfl (by decide) ?_
            refine j_aload_n dX5_bellOf_145 rfl ?_
            refine gX5_53 rfl (hR.1 _ ⟨by first | assumption | exact Nat.zero_lt_one, rfl⟩) rfl dX5_bellOf_146 ?_
            refine j_iload_n dX5_bellOf_149 rfl ?_
            refine j_zald (hR.1 _ ⟨by first | assumption | exact Nat.zero_lt_one, rfl⟩) j rfl (by omega) (by decide) dX5_bellOf_150 ?_
            refine j_if_eq 158 dX5_bellOf_151 (by decide) (fun c_151 => ?_) (fun c_151 => ?_)
            · refine j_iconst (v := 0) dX5_bellOf_158 (by decide) ?_
              refine j_iret rfl (Nat.le_of_ble_eq_true rfl) (Nat.le_of_ble_eq_true rfl) dX5_bellOf_159 ?_
              exact ⟨by simp [mBellOf, g_5, hcl, g_17, g_35, c_151], rfl⟩
            · refine j_iconst (v := 1) dX5_bellOf_154 (by decide) ?_
              refine j_goto 159 dX5_bellOf_155 (by decide) ?_
              refine j_iret rfl (Nat.le_of_ble_eq_true rfl) (Nat.le_of_ble_eq_true rfl) dX5_bellOf_159 ?_
              exact ⟨by simp [mBellOf, g_5, hcl, g_17, g_35, c_151], rfl⟩
          · refine j_tableIn (x := 8) 160 dX5_bellOf_54 (by decide) (by decide) rfl (by decide) ?_
            refine j_aload_n dX5_bellOf_160 rfl ?_
            refine gX5_56 rfl (hR.1 _ ⟨by first | assumption | exact Nat.zero_lt_one, rfl⟩) rfl dX5_bellOf_161 ?_
            refine j_iload_n dX5_bellOf_164 rfl ?_
            refine j_iald (hR.1 _ ⟨by first | assumption | exact Nat.zero_lt_one, rfl⟩) j rfl (by omega) (by decide) dX5_bellOf_165 ?_
            refine j_iret rfl (Nat.le_of_ble_eq_true rfl) (Nat.le_of_ble_eq_true rfl) dX5_bellOf_166 ?_
            exact ⟨by simp [mBellOf, g_5, hcl, g_17, g_35, ], rfl⟩
          · refine j_tableIn (x := 9) 167 dX5_bellOf_54 (by decide) (by decide) rfl (by decide) ?_
            refine j_aload_n dX5_bellOf_167 rfl ?_
            refine j_iload_n dX5_bellOf_168 rfl ?_
            refine j_aload_n dX5_bellOf_169 rfl ?_
            refine gX5_56 rfl (hR.1 _ ⟨by first | assumption | exact Nat.zero_lt_one, rfl⟩) rfl dX5_bellOf_170 ?_
            refine j_iload_n dX5_bellOf_173 rfl ?_
            refine j_iald (hR.1 _ ⟨by first | assumption | exact Nat.zero_lt_one, rfl⟩) j rfl (by omega) (by decide) dX5_bellOf_174 ?_
            refine j_callV (rest := []) (c_X5_pull l G hR (by omega) (hg j hj)) (hR.1 _ ⟨by first | assumption | exact Nat.zero_lt_one, rfl⟩) rfl cw_X5_pull wl_X5_124 wm_X5_pull wx_X5_pull rfl rfl (Nat.le_of_ble_eq_true rfl) (Nat.le_of_ble_eq_true rfl) (Nat.le_of_ble_eq_true rfl) (Nat.le_of_ble_eq_true rfl) (Nat.le_of_ble_eq_true rfl) dX5_bellOf_175 (fun v_175 h_175 e_175 => ?_)
            obtain ⟨rfl, hh⟩ := e_175
            have hh := hh.symm
            subst hh
            refine j_iret rfl (Nat.le_of_ble_eq_true rfl) (Nat.le_of_ble_eq_true rfl) dX5_bellOf_178 ?_
            exact ⟨by simp [mBellOf, g_5, hcl, g_17, g_35, ], rfl⟩
          · refine j_tableIn (x := 10) 186 dX5_bellOf_54 (by decide) (by decide) rfl (by decide) ?_
            refine j_ldc (own := RX5) rfl wc_X5_119 dX5_bellOf_186 ?_
            refine j_iret rfl (Nat.le_of_ble_eq_true rfl) (Nat.le_of_ble_eq_true rfl) dX5_bellOf_188 ?_
            exact ⟨by simp [mBellOf, g_5, hcl, g_17, g_35, ], rfl⟩
          · refine j_tableIn (x := 11) 186 dX5_bellOf_54 (by decide) (by decide) rfl (by decide) ?_
            refine j_ldc (own := RX5) rfl wc_X5_119 dX5_bellOf_186 ?_
            refine j_iret rfl (Nat.le_of_ble_eq_true rfl) (Nat.le_of_ble_eq_true rfl) dX5_bellOf_188 ?_
            exact ⟨by simp [mBellOf, g_5, hcl, g_17, g_35, ], rfl⟩
          · refine j_tableIn (x := 12) 186 dX5_bellOf_54 (by decide) (by decide) rfl (by decide) ?_
            refine j_ldc (own := RX5) rfl wc_X5_119 dX5_bellOf_186 ?_
            refine j_iret rfl (Nat.le_of_ble_eq_true rfl) (Nat.le_of_ble_eq_true rfl) dX5_bellOf_188 ?_
            exact ⟨by simp [mBellOf, g_5, hcl, g_17, g_35, ], rfl⟩
          · refine j_tableIn (x := 13) 186 dX5_bellOf_54 (by decide) (by decide) rfl (by decide) ?_
            refine j_ldc (own := RX5) rfl wc_X5_119 dX5_bellOf_186 ?_
            refine j_iret rfl (Nat.le_of_ble_eq_true rfl) (Nat.le_of_ble_eq_true rfl) dX5_bellOf_188 ?_
            exact ⟨by simp [mBellOf, g_5, hcl, g_17, g_35, ], rfl⟩
          · refine j_tableIn (x := 14) 186 dX5_bellOf_54 (by decide) (by decide) rfl (by decide) ?_
            refine j_ldc (own := RX5) rfl wc_X5_119 dX5_bellOf_186 ?_
            refine j_iret rfl (Nat.le_of_ble_eq_true rfl) (Nat.le_of_ble_eq_true rfl) dX5_bellOf_188 ?_
            exact ⟨by simp [mBellOf, g_5, hcl, g_17, g_35, ], rfl⟩
          · refine j_tableIn (x := 15) 186 dX5_bellOf_54 (by decide) (by decide) rfl (by decide) ?_
            refine j_ldc (own := RX5) rfl wc_X5_119 dX5_bellOf_186 ?_
            refine j_iret rfl (Nat.le_of_ble_eq_true rfl) (Nat.le_of_ble_eq_true rfl) dX5_bellOf_188 ?_
            exact ⟨by simp [mBellOf, g_5, hcl, g_17, g_35, ], rfl⟩
          · refine j_tableIn (x := 16) 186 dX5_bellOf_54 (by decide) (by decide) rfl (by decide) ?_
            refine j_ldc (own := RX5) rfl wc_X5_119 dX5_bellOf_186 ?_
            refine j_iret rfl (Nat.le_of_ble_eq_true rfl) (Nat.le_of_ble_eq_true rfl) dX5_bellOf_188 ?_
            exact ⟨by simp [mBellOf, g_5, hcl, g_17, g_35, ], rfl⟩
          · refine j_tableIn (x := 17) 186 dX5_bellOf_54 (by decide) (by decide) rfl (by decide) ?_
            refine j_ldc (own := RX5) rfl wc_X5_119 dX5_bellOf_186 ?_
            refine j_iret rfl (Nat.le_of_ble_eq_true rfl) (Nat.le_of_ble_eq_true rfl) dX5_bellOf_188 ?_
            exact ⟨by simp [mBellOf, g_5, hcl, g_17, g_35, ], rfl⟩
          · refine j_tableIn (x := 18) 179 dX5_bellOf_54 (by decide) (by decide) rfl (by decide) ?_
            refine j_aload_n dX5_bellOf_179 rfl ?_
            refine gX5_28 rfl (hR.1 _ ⟨by first | assumption | exact Nat.zero_lt_one, rfl⟩) rfl dX5_bellOf_180 ?_
            refine j_iload_n dX5_bellOf_183 rfl ?_
            refine j_iald (hR.1 _ ⟨by first | assumption | exact Nat.zero_lt_one, rfl⟩) j rfl (by omega) (by decide) dX5_bellOf_184 ?_
            refine j_iret rfl (Nat.le_of_ble_eq_true rfl) (Nat.le_of_ble_eq_true rfl) dX5_bellOf_185 ?_
            exact ⟨by simp [mBellOf, g_5, hcl, g_17, g_35, ], rfl⟩
      · have g_35 := (bi_ne0 _).mp c_35
        obtain ⟨i, hi1, hi2, rfl, hclw⟩ := iw_ab 10 17 (by omega) g_35 (by omega)
        refine j_aload_n dX5_bellOf_38 rfl ?_
        refine gX5_34 rfl (hR.1 _ ⟨by first | assumption | exact Nat.zero_lt_one, rfl⟩) rfl dX5_bellOf_39 ?_
        refine j_bipush (v := 8) dX5_bellOf_42 (by decide) ?_
        refine j_iload_n dX5_bellOf_44 rfl ?_
        refine j_imul dX5_bellOf_45 ?_
        refine j_iload_n dX5_bellOf_46 rfl ?_
        refine j_iadd dX5_bellOf_47 ?_
        refine j_bipush (v := 10) dX5_bellOf_48 (by decide) ?_
        refine j_isub dX5_bellOf_50 ?_
        refine j_iald (hR.1 _ ⟨by first | assumption | exact Nat.zero_lt_one, rfl⟩) (8 * j + (i - 10)) (sub10 j i hi1) (by omega) (by decide) dX5_bellOf_51 ?_
        refine j_iret rfl (Nat.le_of_ble_eq_true rfl) (Nat.le_of_ble_eq_true rfl) dX5_bellOf_52 ?_
        exact ⟨by simp [mBellOf, g_5, hcl, g_17, g_35, hclw], rfl⟩
    · have g_17 := (bi_ne0 _).mp c_17
      obtain ⟨q, hq, rfl, hclw⟩ := iw_le (n := 4) (by omega) g_17
      have hclw : cl (nI q) = q := hclw
      refine j_aload_n dX5_bellOf_20 rfl ?_
      refine j_iload_n dX5_bellOf_21 rfl ?_
      refine j_iload_n dX5_bellOf_22 rfl ?_
      refine j_callV (rest := []) (c_X5_partOf l G hR (by omega) (by omega)) (hR.1 _ ⟨by first | assumption | exact Nat.zero_lt_one, rfl⟩) rfl cw_X5_partOf wl_X5_120 wm_X5_partOf wx_X5_partOf rfl rfl (Nat.le_of_ble_eq_true rfl) (Nat.le_of_ble_eq_true rfl) (Nat.le_of_ble_eq_true rfl) (Nat.le_of_ble_eq_true rfl) (Nat.le_of_ble_eq_true rfl) dX5_bellOf_23 (fun v_23 h_23 e_23 => ?_)
      obtain ⟨rfl, hh⟩ := e_23
      have hh := hh.symm
      subst hh
      refine j_iret rfl (Nat.le_of_ble_eq_true rfl) (Nat.le_of_ble_eq_true rfl) dX5_bellOf_26 ?_
      exact ⟨by simp [mBellOf, g_5, hcl, g_17, hclw], rfl⟩
  · have g_5 := (bi_eq0 _).mp c_5
    refine j_ldc (own := RX5) rfl wc_X5_119 dX5_bellOf_8 ?_
    refine j_iret rfl (Nat.le_of_ble_eq_true rfl) (Nat.le_of_ble_eq_true rfl) dX5_bellOf_10 ?_
    exact ⟨by simp [mBellOf, g_5], rfl⟩

def mMetal (Z : ZT) : Nat → Int32
  | 0 => 0
  | n + 1 => mMetal Z n + (if Z (5, 0, 17) n = 0 then mW Z n else 0)
def mAbout (mb : Nat) (w : Int32) (Z : ZT) : Int32 :=
  if w = 0 then Z (5, 0, 0) 0 else if w = 1 then Z (5, 0, 0) 7 else if w = 2 then Z (5, 0, 0) 18 else if w = 3 then Z (5, 0, 0) 19 else if w = 4 then Z (5, 0, 0) 20 else if w = 5 then mMetal Z mb
  else if w = 6 then Z (5, 0, 0) 23 else if w = 7 then Z (5, 0, 0) 25 else if w = 8 then mPulls Z mb else if w = 9 then Z (5, 0, 0) 27 else if iw w 10 14 then Z (5, 0, 27) (cl w - 10) else -1
theorem sub10' (i : Nat) (h : 10 ≤ i) : nI i - 10 = nI (i - 10) := by
  rw [show (10 : Int32) = nI 10 from rfl, pk_sub h]
set_option maxRecDepth 100000 in
set_option maxHeartbeats 4000000 in
theorem c_X5_about (l : Launch) (G : GG) {ad : NM → Nat} {np nb : Nat} {Z : ZT} {L : LT} {h : AH} (hR : Rm ad np nb Z L h) {mb : Nat} (hmb : Z (5, 0, 0) 7 = nI mb) (hm : mb ≤ 24) (hg : ∀ b, b < mb → wayOk (Z (5, 0, 18) b)) {w : Int32} : Con l G mX5_about 3 0 0 [.ref (ad (5, 0, 0)), .int w] h (fun r h2 => r = some (.int (mAbout mb w Z)) ∧ h2 = h) := by
  have key : ∀ nn i, mb < i + nn → i ≤ mb → J (thM l G mX5_about 3 0 0 (fun r h2 => r = some (.int (mAbout mb w Z)) ∧ h2 = h)) cX5_about h (0, 0) [some (.ref (ad (5, 0, 0))), some (.int w), some (.int (mMetal Z i)), some (.int (nI i))] 4 [] := by
    intro nn
    induction nn with
    | zero => intro i h1 h2; omega
    | succ nn ih =>
      intro i h1 h2 
      refine j_iload_n dX5_about_4 rfl ?_
      refine j_aload_n dX5_about_5 rfl ?_
      refine gX5_86 rfl (hR.1 _ ⟨by first | assumption | exact Nat.zero_lt_one, rfl⟩) rfl dX5_about_6 ?_
      refine j_icmp_ge 39 dX5_about_9 (by decide) (fun c_9 => ?_) (fun c_9 => ?_)
      · have hlt : mb ≤ i := (nI_leI (a := mb) (b := i) (by omega) (by omega)).mp (hmb ▸ c_9)
        obtain rfl : i = mb := by omega
        refine j_iload_n dX5_about_39 rfl ?_
        by_cases ho : w.toInt < 0 ∨ 9 < w.toInt
        · refine j_tableOut 143 dX5_about_40 ho (by decide) ?_
          refine j_iload_n dX5_about_143 rfl ?_
          refine j_bipush (v := 10) dX5_about_144 (by decide) ?_
          refine j_bipush (v := 14) dX5_about_146 (by decide) ?_
          refine j_callS (rest := []) (c_X5_in l G) cw_X5_in wl_X5_90 ws_X5_in rfl rfl (Nat.le_of_ble_eq_true rfl) (Nat.le_of_ble_eq_true rfl) (Nat.le_of_ble_eq_true rfl) (Nat.le_of_ble_eq_true rfl) (Nat.le_of_ble_eq_true rfl) dX5_about_148 (fun v_148 h_148 e_148 => ?_)
          obtain ⟨rfl, hh⟩ := e_148
          have hh := hh.symm
          subst hh
          refine j_if_eq 166 dX5_about_151 (by decide) (fun c_151 => ?_) (fun c_151 => ?_)
          · have g_151 := (bi_eq0 _).mp c_151
            refine j_iconst (v := (-1)) dX5_about_166 (by decide) ?_
            refine j_iret rfl (Nat.le_of_ble_eq_true rfl) (Nat.le_of_ble_eq_true rfl) dX5_about_167 ?_
            exact ⟨by simp [mAbout, ne_of_toInt ho 0 (by decide) (by decide), ne_of_toInt ho 1 (by decide) (by decide), ne_of_toInt ho 2 (by decide) (by decide), ne_of_toInt ho 3 (by decide) (by decide), ne_of_toInt ho 4 (by decide) (by decide), ne_of_toInt ho 5 (by decide) (by decide), ne_of_toInt ho 6 (by decide) (by decide), ne_of_toInt ho 7 (by decide) (by decide), ne_of_toInt ho 8 (by decide) (by decide), ne_of_toInt ho 9 (by decide) (by decide), g_151], rfl⟩
          · have g_151 := (bi_ne0 _).mp c_151
            obtain ⟨i, hi1, hi2, rfl, hclw⟩ := iw_ab 10 14 (by omega) g_151 (by omega)
            refine j_aload_n dX5_about_154 rfl ?_
            refine gX5_68 rfl (hR.1 _ ⟨by first | assumption | exact Nat.zero_lt_one, rfl⟩) rfl dX5_about_155 ?_
            refine j_iload_n dX5_about_158 rfl ?_
            refine j_bipush (v := 10) dX5_about_159 (by decide) ?_
            refine j_isub dX5_about_161 ?_
            refine j_iald (hR.1 _ ⟨by first | assumption | exact Nat.zero_lt_one, rfl⟩) (i - 10) (sub10' i hi1) (by omega) (by decide) dX5_about_162 ?_
            refine j_goto 167 dX5_about_163 (by decide) ?_
            refine j_iret rfl (Nat.le_of_ble_eq_true rfl) (Nat.le_of_ble_eq_true rfl) dX5_about_167 ?_
            exact ⟨by simp [mAbout, ne_of_toInt ho 0 (by decide) (by decide), ne_of_toInt ho 1 (by decide) (by decide), ne_of_toInt ho 2 (by decide) (by decide), ne_of_toInt ho 3 (by decide) (by decide), ne_of_toInt ho 4 (by decide) (by decide), ne_of_toInt ho 5 (by decide) (by decide), ne_of_toInt ho 6 (by decide) (by decide), ne_of_toInt ho 7 (by decide) (by decide), ne_of_toInt ho 8 (by decide) (by decide), ne_of_toInt ho 9 (by decide) (by decide), g_151, hclw], rfl⟩
        · have ho1 : ¬ w.toInt < 0 := fun q => ho (Or.inl q)
          have ho2 : ¬ 9 < w.toInt := fun q => ho (Or.inr q)
          rcases sw_0_9 ho1 ho2 with rfl | rfl | rfl | rfl | rfl | rfl | rfl | rfl | rfl | rfl
          · refine j_tableIn (x := 0) 96 dX5_about_40 (by decide) (by decide) rfl (by decide) ?_
            refine j_aload_n dX5_about_96 rfl ?_
            refine gX5_94 rfl (hR.1 _ ⟨by first | assumption | exact Nat.zero_lt_one, rfl⟩) rfl dX5_about_97 ?_
            refine j_iret rfl (Nat.le_of_ble_eq_true rfl) (Nat.le_of_ble_eq_true rfl) dX5_about_100 ?_
            exact ⟨by simp [mAbout], rfl⟩
          · refine j_tableIn (x := 1) 101 dX5_about_40 (by decide) (by decide) rfl (by decide) ?_
            refine j_aload_n dX5_about_101 rfl ?_
            refine gX5_86 rfl (hR.1 _ ⟨by first | assumption | exact Nat.zero_lt_one, rfl⟩) rfl dX5_about_102 ?_
            refine j_iret rfl (Nat.le_of_ble_eq_true rfl) (Nat.le_of_ble_eq_true rfl) dX5_about_105 ?_
            exact ⟨by simp [mAbout], rfl⟩
          · refine j_tableIn (x := 2) 106 dX5_about_40 (by decide) (by decide) rfl (by decide) ?_
            refine j_aload_n dX5_about_106 rfl ?_
            refine gX5_98 rfl (hR.1 _ ⟨by first | assumption | exact Nat.zero_lt_one, rfl⟩) rfl dX5_about_107 ?_
            refine j_iret rfl (Nat.le_of_ble_eq_true rfl) (Nat.le_of_ble_eq_true rfl) dX5_about_110 ?_
            exact ⟨by simp [mAbout], rfl⟩
          · refine j_tableIn (x := 3) 111 dX5_about_40 (by decide) (by decide) rfl (by decide) ?_
            refine j_aload_n dX5_about_111 rfl ?_
            refine gX5_102 rfl (hR.1 _ ⟨by first | assumption | exact Nat.zero_lt_one, rfl⟩) rfl dX5_about_112 ?_
            refine j_iret rfl (Nat.le_of_ble_eq_true rfl) (Nat.le_of_ble_eq_true rfl) dX5_about_115 ?_
            exact ⟨by simp [mAbout], rfl⟩
          · refine j_tableIn (x := 4) 116 dX5_about_40 (by decide) (by decide) rfl (by decide) ?_
            refine j_aload_n dX5_about_116 rfl ?_
            refine gX5_105 rfl (hR.1 _ ⟨by first | assumption | exact Nat.zero_lt_one, rfl⟩) rfl dX5_about_117 ?_
            refine j_iret rfl (Nat.le_of_ble_eq_true rfl) (Nat.le_of_ble_eq_true rfl) dX5_about_120 ?_
            exact ⟨by simp [mAbout], rfl⟩
          · refine j_tableIn (x := 5) 121 dX5_about_40 (by decide) (by decide) rfl (by decide) ?_
            refine j_iload_n dX5_about_121 rfl ?_
            refine j_iret rfl (Nat.le_of_ble_eq_true rfl) (Nat.le_of_ble_eq_true rfl) dX5_about_122 ?_
            exact ⟨by simp [mAbout], rfl⟩
          · refine j_tableIn (x := 6) 123 dX5_about_40 (by decide) (by decide) rfl (by decide) ?_
            refine j_aload_n dX5_about_123 rfl ?_
            refine gX5_140 rfl (hR.1 _ ⟨by first | assumption | exact Nat.zero_lt_one, rfl⟩) rfl dX5_about_124 ?_
            refine j_iret rfl (Nat.le_of_ble_eq_true rfl) (Nat.le_of_ble_eq_true rfl) dX5_about_127 ?_
            exact ⟨by simp [mAbout], rfl⟩
          · refine j_tableIn (x := 7) 128 dX5_about_40 (by decide) (by decide) rfl (by decide) ?_
            refine j_aload_n dX5_about_128 rfl ?_
            refine gX5_143 rfl (hR.1 _ ⟨by first | assumption | exact Nat.zero_lt_one, rfl⟩) rfl dX5_about_129 ?_
            refine j_iret rfl (Nat.le_of_ble_eq_true rfl) (Nat.le_of_ble_eq_true rfl) dX5_about_132 ?_
            exact ⟨by simp [mAbout], rfl⟩
          · refine j_tableIn (x := 8) 133 dX5_about_40 (by decide) (by decide) rfl (by decide) ?_
            refine j_aload_n dX5_about_133 rfl ?_
            refine j_callV (rest := []) (c_X5_pulls l G hR hmb hm hg) (hR.1 _ ⟨by first | assumption | exact Nat.zero_lt_one, rfl⟩) rfl cw_X5_pulls wl_X5_161 wm_X5_pulls wx_X5_pulls rfl rfl (Nat.le_of_ble_eq_true rfl) (Nat.le_of_ble_eq_true rfl) (Nat.le_of_ble_eq_true rfl) (Nat.le_of_ble_eq_true rfl) (Nat.le_of_ble_eq_true rfl) dX5_about_134 (fun v_134 h_134 e_134 => ?_)
            obtain ⟨rfl, hh⟩ := e_134
            have hh := hh.symm
            subst hh
            refine j_iret rfl (Nat.le_of_ble_eq_true rfl) (Nat.le_of_ble_eq_true rfl) dX5_about_137 ?_
            exact ⟨by simp [mAbout], rfl⟩
          · refine j_tableIn (x := 9) 138 dX5_about_40 (by decide) (by decide) rfl (by decide) ?_
            refine j_aload_n dX5_about_138 rfl ?_
            refine gX5_164 rfl (hR.1 _ ⟨by first | assumption | exact Nat.zero_lt_one, rfl⟩) rfl dX5_about_139 ?_
            refine j_iret rfl (Nat.le_of_ble_eq_true rfl) (Nat.le_of_ble_eq_true rfl) dX5_about_142 ?_
            exact ⟨by simp [mAbout], rfl⟩
      · have hlt : i < mb := Nat.not_le.mp (fun q => c_9 (hmb ▸ (nI_leI (a := mb) (b := i) (by omega) (by omega)).mpr q))
        refine j_iload_n dX5_about_12 rfl ?_
        refine j_aload_n dX5_about_13 rfl ?_
        refine gX5_53 rfl (hR.1 _ ⟨by first | assumption | exact Nat.zero_lt_one, rfl⟩) rfl dX5_about_14 ?_
        refine j_iload_n dX5_about_17 rfl ?_
        refine j_zald (hR.1 _ ⟨by first | assumption | exact Nat.zero_lt_one, rfl⟩) i rfl (by omega) (by decide) dX5_about_18 ?_
        refine j_if_eq 26 dX5_about_19 (by decide) (fun c_19 => ?_) (fun c_19 => ?_)
        · refine j_aload_n dX5_about_26 rfl ?_
          refine j_iload_n dX5_about_27 rfl ?_
          refine j_callV (rest := [.int (mMetal Z i)]) (c_X5_weightOf l G hR (b := i) (by omega)) (hR.1 _ ⟨by first | assumption | exact Nat.zero_lt_one, rfl⟩) rfl cw_X5_weightOf wl_X5_115 wm_X5_weightOf wx_X5_weightOf rfl rfl (Nat.le_of_ble_eq_true rfl) (Nat.le_of_ble_eq_true rfl) (Nat.le_of_ble_eq_true rfl) (Nat.le_of_ble_eq_true rfl) (Nat.le_of_ble_eq_true rfl) dX5_about_28 (fun v_28 h_28 e_28 => ?_)
          obtain ⟨rfl, hh⟩ := e_28
          have hh := hh.symm
          subst hh
          refine j_iadd dX5_about_31 ?_
          refine j_istore_n dX5_about_32 (Nat.le_of_ble_eq_true rfl) rfl ?_
          refine j_iinc dX5_about_33 rfl (nI_inc _) (Nat.le_of_ble_eq_true rfl) rfl ?_
          refine j_goto 4 dX5_about_36 (by decide) ?_
          have key1 := ih (i + 1) (by omega) (by omega)
          simp only [mMetal, c_19, if_true, if_false] at key1
          exact key1
        · refine j_iconst (v := 0) dX5_about_22 (by decide) ?_
          refine j_goto 31 dX5_about_23 (by decide) ?_
          refine j_iadd dX5_about_31 ?_
          refine j_istore_n dX5_about_32 (Nat.le_of_ble_eq_true rfl) rfl ?_
          refine j_iinc dX5_about_33 rfl (nI_inc _) (Nat.le_of_ble_eq_true rfl) rfl ?_
          refine j_goto 4 dX5_about_36 (by decide) ?_
          have key1 := ih (i + 1) (by omega) (by omega)
          simp only [mMetal, c_19, if_true, if_false] at key1
          exact key1
  refine Con.of 2 rfl (Nat.le_of_ble_eq_true rfl) ?_
  refine j_iconst (v := 0) dX5_about_0 (by decide) ?_
  refine j_istore_n dX5_about_1 (Nat.le_of_ble_eq_true rfl) rfl ?_
  refine j_iconst (v := 0) dX5_about_2 (by decide) ?_
  refine j_istore_n dX5_about_3 (Nat.le_of_ble_eq_true rfl) rfl ?_
  exact key (mb + 1) 0 (by omega) (by omega)

