set_option maxRecDepth 100000 in
set_option maxHeartbeats 4000000 in
theorem law_profile {l : Launch} {G : GG} {nm : String} {b n : Nat} {xs : Nat → Int32} {c : Nat} (hn : n ≤ 2560) (hc : 5 * c + 5 ≤ n) (hK : LawK l G nm b n xs (c + 1)) {ad : NM → Nat} {np nb nn sp : Nat} {Z : ZT} {L : LT} {h : AH} (hR : Rm ad np nb Z L h) (hS : SS np nb nn sp L Z Z) (hsp : sp ≤ c) : J (thL l G nm b n xs) cL_law h (100 + 9 * c, 5000 + 100 * c) (LVL b ad c) 128 [] := by
  refine j_aload_n dL_law_128 rfl ?_
  refine j_aload_n dL_law_129 rfl ?_
  refine j_iload_n dL_law_130 rfl ?_
  refine j_iconst (v := 1) dL_law_131 (by decide) ?_
  refine j_iadd dL_law_132 ?_
  refine l_ld (5 * c + 1) (nI_add (5 * c) 1) (by omega) hn dL_law_133 ?_
  refine j_callV (rest := []) (c_X4_profile l G hR hS.1.1.2.1 hS.1.1.1.1) (hR.1 _ ⟨by first | assumption | exact Nat.zero_lt_one, rfl⟩) rfl cw_X4_profile wl_L_13 wm_X4_profile wx_X4_profile rfl rfl (Nat.le_of_ble_eq_true rfl) (Nat.le_of_ble_eq_true rfl) (Nat.le_of_ble_eq_true rfl) (show 100 + 9 * c + 6 ≤ 600000 by omega) (show 5000 + 100 * c + 75 ≤ 7302250 by omega) dL_law_134 (fun v1 h1 e1 => ?_)
  rcases e1 with ⟨hno, rfl, hR⟩ | ⟨hlt, hw, rfl, ad2, hR, hd0, hd5⟩
  · have hS1 := hS
    refine j_aload_n dL_law_137 rfl ?_
    refine j_aload_n dL_law_138 rfl ?_
    refine j_iload_n dL_law_139 rfl ?_
    refine j_iconst (v := 1) dL_law_140 (by decide) ?_
    refine j_iadd dL_law_141 ?_
    refine l_ld (5 * c + 1) (nI_add (5 * c) 1) (by omega) hn dL_law_142 ?_
    refine j_callV (rest := [.int (-1)]) (c_X5_profile l G hR hS1.eqp hS.1.1.1.1) (hR.1 _ ⟨by first | assumption | exact Nat.zero_lt_one, rfl⟩) rfl cw_X5_profile wl_L_17 wm_X5_profile wx_X5_profile rfl rfl (Nat.le_of_ble_eq_true rfl) (Nat.le_of_ble_eq_true rfl) (Nat.le_of_ble_eq_true rfl) (show 100 + 9 * c + 6 + 0 ≤ 600000 by omega) (show 5000 + 100 * c + 75 + 0 ≤ 7302250 by omega) dL_law_143 (fun v2 h2 e2 => ?_)
    obtain ⟨rfl, hR⟩ := e2
    have hno2 := s_profN hS1 hno
    rw [hno2] at hR
    rw [hno2]
    refine j_icmp_eq 718 dL_law_146 (by decide) (fun c_146 => ?_) (fun c_146 => ?_)
    · exact law_next hK hR hS (by omega) (show 100 + 9 * c + 6 + 0 ≤ _ by omega) (show 5000 + 100 * c + 75 + 0 ≤ _ by omega)
    · exact absurd rfl c_146
  · rw [show LVL b ad c = LVL b ad2 c by unfold LVL; rw [hd0, hd5]]
    have hS1 := hS.chB (f_xProf np (xs (5 * c + 1)) Z)
    refine j_aload_n dL_law_137 rfl ?_
    refine j_aload_n dL_law_138 rfl ?_
    refine j_iload_n dL_law_139 rfl ?_
    refine j_iconst (v := 1) dL_law_140 (by decide) ?_
    refine j_iadd dL_law_141 ?_
    refine l_ld (5 * c + 1) (nI_add (5 * c) 1) (by omega) hn dL_law_142 ?_
    refine j_callV (rest := [.int (nI np)]) (c_X5_profile l G hR hS1.eqp hS.1.1.1.1) (hR.1 _ ⟨by first | assumption | exact Nat.zero_lt_one, rfl⟩) rfl cw_X5_profile wl_L_17 wm_X5_profile wx_X5_profile rfl rfl (Nat.le_of_ble_eq_true rfl) (Nat.le_of_ble_eq_true rfl) (Nat.le_of_ble_eq_true rfl) (show 100 + 9 * c + 6 + 0 ≤ 600000 by omega) (show 5000 + 100 * c + 75 + 0 ≤ 7302250 by omega) dL_law_143 (fun v2 h2 e2 => ?_)
    obtain ⟨rfl, hR⟩ := e2
    obtain ⟨heq, hS2⟩ := s_prof hS1 hlt hw
    have hS3 := hS2.chA (f_mProfile np (xs (5 * c + 1)) (xProf np (xs (5 * c + 1)) Z))
    refine j_icmp_eq 718 dL_law_146 (by decide) (fun c_146 => ?_) (fun c_146 => ?_)
    · exact law_next hK hR hS3 (by omega) (show 100 + 9 * c + 6 + 0 ≤ _ by omega) (show 5000 + 100 * c + 75 + 0 ≤ _ by omega)
    · exact absurd heq.symm c_146

set_option maxRecDepth 100000 in
set_option maxHeartbeats 4000000 in
theorem law_shape {l : Launch} {G : GG} {nm : String} {b n : Nat} {xs : Nat → Int32} {c : Nat} (hn : n ≤ 2560) (hc : 5 * c + 5 ≤ n) (hK : LawK l G nm b n xs (c + 1)) {ad : NM → Nat} {np nb nn sp : Nat} {Z : ZT} {L : LT} {h : AH} (hR : Rm ad np nb Z L h) (hS : SS np nb nn sp L Z Z) (hsp : sp ≤ c) : J (thL l G nm b n xs) cL_law h (100 + 9 * c, 5000 + 100 * c) (LVL b ad c) 151 [] := by
  refine j_aload_n dL_law_151 rfl ?_
  refine j_aload_n dL_law_152 rfl ?_
  refine j_iload_n dL_law_153 rfl ?_
  refine j_iconst (v := 1) dL_law_154 (by decide) ?_
  refine j_iadd dL_law_155 ?_
  refine l_ld (5 * c + 1) (nI_add (5 * c) 1) (by omega) hn dL_law_156 ?_
  refine j_aload_n dL_law_157 rfl ?_
  refine j_iload_n dL_law_158 rfl ?_
  refine j_iconst (v := 2) dL_law_159 (by decide) ?_
  refine j_iadd dL_law_160 ?_
  refine l_ld (5 * c + 2) (nI_add (5 * c) 2) (by omega) hn dL_law_161 ?_
  refine j_aload_n dL_law_162 rfl ?_
  refine j_iload_n dL_law_163 rfl ?_
  refine j_iconst (v := 3) dL_law_164 (by decide) ?_
  refine j_iadd dL_law_165 ?_
  refine l_ld (5 * c + 3) (nI_add (5 * c) 3) (by omega) hn dL_law_166 ?_
  refine j_aload_n dL_law_167 rfl ?_
  refine j_iload_n dL_law_168 rfl ?_
  refine j_iconst (v := 4) dL_law_169 (by decide) ?_
  refine j_iadd dL_law_170 ?_
  refine l_ld (5 * c + 4) (nI_add (5 * c) 4) (by omega) hn dL_law_171 ?_
  refine j_callV (rest := []) (c_X4_shape l G hR hS.1.1.2.1 hS.1.1.1.1) (hR.1 _ ⟨by first | assumption | exact Nat.zero_lt_one, rfl⟩) rfl cw_X4_shape wl_L_18 wm_X4_shape wx_X4_shape rfl rfl (Nat.le_of_ble_eq_true rfl) (Nat.le_of_ble_eq_true rfl) (Nat.le_of_ble_eq_true rfl) (show 100 + 9 * c + 0 ≤ 600000 by omega) (show 5000 + 100 * c + 0 ≤ 7302250 by omega) dL_law_172 (fun v1 h1 e1 => ?_)
  obtain ⟨rfl, hR⟩ := e1
  have hS1 := hS.chB (f_xShape np (xs (5 * c + 1)) (xs (5 * c + 2)) (xs (5 * c + 3)) (xs (5 * c + 4)) Z)
  refine j_aload_n dL_law_175 rfl ?_
  refine j_aload_n dL_law_176 rfl ?_
  refine j_iload_n dL_law_177 rfl ?_
  refine j_iconst (v := 1) dL_law_178 (by decide) ?_
  refine j_iadd dL_law_179 ?_
  refine l_ld (5 * c + 1) (nI_add (5 * c) 1) (by omega) hn dL_law_180 ?_
  refine j_aload_n dL_law_181 rfl ?_
  refine j_iload_n dL_law_182 rfl ?_
  refine j_iconst (v := 2) dL_law_183 (by decide) ?_
  refine j_iadd dL_law_184 ?_
  refine l_ld (5 * c + 2) (nI_add (5 * c) 2) (by omega) hn dL_law_185 ?_
  refine j_aload_n dL_law_186 rfl ?_
  refine j_iload_n dL_law_187 rfl ?_
  refine j_iconst (v := 3) dL_law_188 (by decide) ?_
  refine j_iadd dL_law_189 ?_
  refine l_ld (5 * c + 3) (nI_add (5 * c) 3) (by omega) hn dL_law_190 ?_
  refine j_aload_n dL_law_191 rfl ?_
  refine j_iload_n dL_law_192 rfl ?_
  refine j_iconst (v := 4) dL_law_193 (by decide) ?_
  refine j_iadd dL_law_194 ?_
  refine l_ld (5 * c + 4) (nI_add (5 * c) 4) (by omega) hn dL_law_195 ?_
  refine j_callV (rest := [.int (xShape np (xs (5 * c + 1)) (xs (5 * c + 2)) (xs (5 * c + 3)) (xs (5 * c + 4)) Z).1]) (c_X5_shape l G hR hS1.eqp hS.1.1.1.1) (hR.1 _ ⟨by first | assumption | exact Nat.zero_lt_one, rfl⟩) rfl cw_X5_shape wl_L_22 wm_X5_shape wx_X5_shape rfl rfl (Nat.le_of_ble_eq_true rfl) (Nat.le_of_ble_eq_true rfl) (Nat.le_of_ble_eq_true rfl) (show 100 + 9 * c + 0 + 0 ≤ 600000 by omega) (show 5000 + 100 * c + 0 + 0 ≤ 7302250 by omega) dL_law_196 (fun v2 h2 e2 => ?_)
  obtain ⟨rfl, hR⟩ := e2
  obtain ⟨heq, hS2⟩ := s_shape hS1 (xs (5 * c + 1)) (xs (5 * c + 2)) (xs (5 * c + 3)) (xs (5 * c + 4))
  have hS3 := hS2.chA (f_mShape (xs (5 * c + 1)) (xs (5 * c + 2)) (xs (5 * c + 3)) (xs (5 * c + 4)) (xShape np (xs (5 * c + 1)) (xs (5 * c + 2)) (xs (5 * c + 3)) (xs (5 * c + 4)) Z).2)
  refine j_icmp_eq 718 dL_law_199 (by decide) (fun c_199 => ?_) (fun c_199 => ?_)
  · exact law_next hK hR hS3 (by omega) (show 100 + 9 * c + 0 + 0 ≤ _ by omega) (show 5000 + 100 * c + 0 + 0 ≤ _ by omega)
  · exact absurd heq c_199

set_option maxRecDepth 100000 in
set_option maxHeartbeats 4000000 in
theorem law_base {l : Launch} {G : GG} {nm : String} {b n : Nat} {xs : Nat → Int32} {c : Nat} (hn : n ≤ 2560) (hc : 5 * c + 5 ≤ n) (hK : LawK l G nm b n xs (c + 1)) {ad : NM → Nat} {np nb nn sp : Nat} {Z : ZT} {L : LT} {h : AH} (hR : Rm ad np nb Z L h) (hS : SS np nb nn sp L Z Z) (hsp : sp ≤ c) : J (thL l G nm b n xs) cL_law h (100 + 9 * c, 5000 + 100 * c) (LVL b ad c) 204 [] := by
  refine j_aload_n dL_law_204 rfl ?_
  refine j_aload_n dL_law_205 rfl ?_
  refine j_iload_n dL_law_206 rfl ?_
  refine j_iconst (v := 1) dL_law_207 (by decide) ?_
  refine j_iadd dL_law_208 ?_
  refine l_ld (5 * c + 1) (nI_add (5 * c) 1) (by omega) hn dL_law_209 ?_
  refine j_aload_n dL_law_210 rfl ?_
  refine j_iload_n dL_law_211 rfl ?_
  refine j_iconst (v := 2) dL_law_212 (by decide) ?_
  refine j_iadd dL_law_213 ?_
  refine l_ld (5 * c + 2) (nI_add (5 * c) 2) (by omega) hn dL_law_214 ?_
  refine j_aload_n dL_law_215 rfl ?_
  refine j_iload_n dL_law_216 rfl ?_
  refine j_iconst (v := 3) dL_law_217 (by decide) ?_
  refine j_iadd dL_law_218 ?_
  refine l_ld (5 * c + 3) (nI_add (5 * c) 3) (by omega) hn dL_law_219 ?_
  refine j_callV (rest := []) (c_X4_base l G hR hS.1.1.2.1 hS.1.1.1.1) (hR.1 _ ⟨by first | assumption | exact Nat.zero_lt_one, rfl⟩) rfl cw_X4_base wl_L_23 wm_X4_base wx_X4_base rfl rfl (Nat.le_of_ble_eq_true rfl) (Nat.le_of_ble_eq_true rfl) (Nat.le_of_ble_eq_true rfl) (show 100 + 9 * c + 0 ≤ 600000 by omega) (show 5000 + 100 * c + 0 ≤ 7302250 by omega) dL_law_220 (fun v1 h1 e1 => ?_)
  obtain ⟨rfl, hR⟩ := e1
  have hS1 := hS.chB (f_xBase np (xs (5 * c + 1)) (xs (5 * c + 2)) (xs (5 * c + 3)) Z)
  refine j_aload_n dL_law_223 rfl ?_
  refine j_aload_n dL_law_224 rfl ?_
  refine j_iload_n dL_law_225 rfl ?_
  refine j_iconst (v := 1) dL_law_226 (by decide) ?_
  refine j_iadd dL_law_227 ?_
  refine l_ld (5 * c + 1) (nI_add (5 * c) 1) (by omega) hn dL_law_228 ?_
  refine j_aload_n dL_law_229 rfl ?_
  refine j_iload_n dL_law_230 rfl ?_
  refine j_iconst (v := 2) dL_law_231 (by decide) ?_
  refine j_iadd dL_law_232 ?_
  refine l_ld (5 * c + 2) (nI_add (5 * c) 2) (by omega) hn dL_law_233 ?_
  refine j_aload_n dL_law_234 rfl ?_
  refine j_iload_n dL_law_235 rfl ?_
  refine j_iconst (v := 3) dL_law_236 (by decide) ?_
  refine j_iadd dL_law_237 ?_
  refine l_ld (5 * c + 3) (nI_add (5 * c) 3) (by omega) hn dL_law_238 ?_
  refine j_callV (rest := [.int (xBase np (xs (5 * c + 1)) (xs (5 * c + 2)) (xs (5 * c + 3)) Z).1]) (c_X5_base l G hR hS1.eqp hS.1.1.1.1) (hR.1 _ ⟨by first | assumption | exact Nat.zero_lt_one, rfl⟩) rfl cw_X5_base wl_L_27 wm_X5_base wx_X5_base rfl rfl (Nat.le_of_ble_eq_true rfl) (Nat.le_of_ble_eq_true rfl) (Nat.le_of_ble_eq_true rfl) (show 100 + 9 * c + 0 + 0 ≤ 600000 by omega) (show 5000 + 100 * c + 0 + 0 ≤ 7302250 by omega) dL_law_239 (fun v2 h2 e2 => ?_)
  obtain ⟨rfl, hR⟩ := e2
  obtain ⟨heq, hS2⟩ := s_base hS1 (xs (5 * c + 1)) (xs (5 * c + 2)) (xs (5 * c + 3))
  have hS3 := hS2.chA (f_mBase (xs (5 * c + 1)) (xs (5 * c + 2)) (xs (5 * c + 3)) (xBase np (xs (5 * c + 1)) (xs (5 * c + 2)) (xs (5 * c + 3)) Z).2)
  refine j_icmp_eq 718 dL_law_242 (by decide) (fun c_242 => ?_) (fun c_242 => ?_)
  · exact law_next hK hR hS3 (by omega) (show 100 + 9 * c + 0 + 0 ≤ _ by omega) (show 5000 + 100 * c + 0 + 0 ≤ _ by omega)
  · exact absurd heq c_242

set_option maxRecDepth 100000 in
set_option maxHeartbeats 4000000 in
theorem law_buy {l : Launch} {G : GG} {nm : String} {b n : Nat} {xs : Nat → Int32} {c : Nat} (hn : n ≤ 2560) (hc : 5 * c + 5 ≤ n) (hK : LawK l G nm b n xs (c + 1)) {ad : NM → Nat} {np nb nn sp : Nat} {Z : ZT} {L : LT} {h : AH} (hR : Rm ad np nb Z L h) (hS : SS np nb nn sp L Z Z) (hsp : sp ≤ c) : J (thL l G nm b n xs) cL_law h (100 + 9 * c, 5000 + 100 * c) (LVL b ad c) 247 [] := by
  refine j_aload_n dL_law_247 rfl ?_
  refine j_aload_n dL_law_248 rfl ?_
  refine j_iload_n dL_law_249 rfl ?_
  refine j_iconst (v := 1) dL_law_250 (by decide) ?_
  refine j_iadd dL_law_251 ?_
  refine l_ld (5 * c + 1) (nI_add (5 * c) 1) (by omega) hn dL_law_252 ?_
  refine j_aload_n dL_law_253 rfl ?_
  refine j_iload_n dL_law_254 rfl ?_
  refine j_iconst (v := 2) dL_law_255 (by decide) ?_
  refine j_iadd dL_law_256 ?_
  refine l_ld (5 * c + 2) (nI_add (5 * c) 2) (by omega) hn dL_law_257 ?_
  refine j_callV (rest := []) (c_X4_buy l G hR ) (hR.1 _ ⟨by first | assumption | exact Nat.zero_lt_one, rfl⟩) rfl cw_X4_buy wl_L_28 wm_X4_buy wx_X4_buy rfl rfl (Nat.le_of_ble_eq_true rfl) (Nat.le_of_ble_eq_true rfl) (Nat.le_of_ble_eq_true rfl) (show 100 + 9 * c + 0 ≤ 600000 by omega) (show 5000 + 100 * c + 0 ≤ 7302250 by omega) dL_law_258 (fun v1 h1 e1 => ?_)
  obtain ⟨rfl, hR⟩ := e1
  have hS1 := hS.chB (f_xBuy (xs (5 * c + 1)) (xs (5 * c + 2)) Z)
  refine j_aload_n dL_law_261 rfl ?_
  refine j_aload_n dL_law_262 rfl ?_
  refine j_iload_n dL_law_263 rfl ?_
  refine j_iconst (v := 1) dL_law_264 (by decide) ?_
  refine j_iadd dL_law_265 ?_
  refine l_ld (5 * c + 1) (nI_add (5 * c) 1) (by omega) hn dL_law_266 ?_
  refine j_aload_n dL_law_267 rfl ?_
  refine j_iload_n dL_law_268 rfl ?_
  refine j_iconst (v := 2) dL_law_269 (by decide) ?_
  refine j_iadd dL_law_270 ?_
  refine l_ld (5 * c + 2) (nI_add (5 * c) 2) (by omega) hn dL_law_271 ?_
  refine j_callV (rest := [.int (xBuy (xs (5 * c + 1)) (xs (5 * c + 2)) Z).1]) (c_X5_buy l G hR ) (hR.1 _ ⟨by first | assumption | exact Nat.zero_lt_one, rfl⟩) rfl cw_X5_buy wl_L_32 wm_X5_buy wx_X5_buy rfl rfl (Nat.le_of_ble_eq_true rfl) (Nat.le_of_ble_eq_true rfl) (Nat.le_of_ble_eq_true rfl) (show 100 + 9 * c + 0 + 0 ≤ 600000 by omega) (show 5000 + 100 * c + 0 + 0 ≤ 7302250 by omega) dL_law_272 (fun v2 h2 e2 => ?_)
  obtain ⟨rfl, hR⟩ := e2
  obtain ⟨heq, hS2⟩ := s_buy hS1 (xs (5 * c + 1)) (xs (5 * c + 2))
  have hS3 := hS2.chA (f_mBuy (xs (5 * c + 1)) (xs (5 * c + 2)) (xBuy (xs (5 * c + 1)) (xs (5 * c + 2)) Z).2)
  refine j_icmp_eq 718 dL_law_275 (by decide) (fun c_275 => ?_) (fun c_275 => ?_)
  · exact law_next hK hR hS3 (by omega) (show 100 + 9 * c + 0 + 0 ≤ _ by omega) (show 5000 + 100 * c + 0 + 0 ≤ _ by omega)
  · exact absurd heq c_275

set_option maxRecDepth 100000 in
set_option maxHeartbeats 4000000 in
theorem law_cast {l : Launch} {G : GG} {nm : String} {b n : Nat} {xs : Nat → Int32} {c : Nat} (hn : n ≤ 2560) (hc : 5 * c + 5 ≤ n) (hK : LawK l G nm b n xs (c + 1)) {ad : NM → Nat} {np nb nn sp : Nat} {Z : ZT} {L : LT} {h : AH} (hR : Rm ad np nb Z L h) (hS : SS np nb nn sp L Z Z) (hsp : sp ≤ c) : J (thL l G nm b n xs) cL_law h (100 + 9 * c, 5000 + 100 * c) (LVL b ad c) 280 [] := by
  refine j_aload_n dL_law_280 rfl ?_
  refine j_aload_n dL_law_281 rfl ?_
  refine j_iload_n dL_law_282 rfl ?_
  refine j_iconst (v := 1) dL_law_283 (by decide) ?_
  refine j_iadd dL_law_284 ?_
  refine l_ld (5 * c + 1) (nI_add (5 * c) 1) (by omega) hn dL_law_285 ?_
  refine j_callV (rest := []) (c_X4_cast l G hR hS.1.1.2.1 hS.1.1.1.1 hS.1.1.2.2.1 hS.1.1.1.2.1) (hR.1 _ ⟨by first | assumption | exact Nat.zero_lt_one, rfl⟩) rfl cw_X4_cast wl_L_33 wm_X4_cast wx_X4_cast rfl rfl (Nat.le_of_ble_eq_true rfl) (Nat.le_of_ble_eq_true rfl) (Nat.le_of_ble_eq_true rfl) (show 100 + 9 * c + 9 ≤ 600000 by omega) (show 5000 + 100 * c + 100 ≤ 7302250 by omega) dL_law_286 (fun v1 h1 e1 => ?_)
  rcases e1 with ⟨hno, rfl, hR⟩ | ⟨hok, hv1, hlt, rfl, ad2, hR, hd0, hd5⟩
  · have hS1 := hS
    refine j_aload_n dL_law_289 rfl ?_
    refine j_aload_n dL_law_290 rfl ?_
    refine j_iload_n dL_law_291 rfl ?_
    refine j_iconst (v := 1) dL_law_292 (by decide) ?_
    refine j_iadd dL_law_293 ?_
    refine l_ld (5 * c + 1) (nI_add (5 * c) 1) (by omega) hn dL_law_294 ?_
    refine j_callV (rest := [.int (-1)]) (c_X5_cast l G hR hS1.eqb hS.1.1.1.2.1 hS1.eqp hS.1.1.1.1) (hR.1 _ ⟨by first | assumption | exact Nat.zero_lt_one, rfl⟩) rfl cw_X5_cast wl_L_36 wm_X5_cast wx_X5_cast rfl rfl (Nat.le_of_ble_eq_true rfl) (Nat.le_of_ble_eq_true rfl) (Nat.le_of_ble_eq_true rfl) (show 100 + 9 * c + 9 + 0 ≤ 600000 by omega) (show 5000 + 100 * c + 100 + 0 ≤ 7302250 by omega) dL_law_295 (fun v2 h2 e2 => ?_)
    obtain ⟨rfl, hR⟩ := e2
    have hno2 := s_castN hS1 hno
    rw [hno2] at hR
    rw [hno2]
    refine j_icmp_eq 718 dL_law_298 (by decide) (fun c_298 => ?_) (fun c_298 => ?_)
    · exact law_next hK hR hS (by omega) (show 100 + 9 * c + 9 + 0 ≤ _ by omega) (show 5000 + 100 * c + 100 + 0 ≤ _ by omega)
    · exact absurd rfl c_298
  · rw [show LVL b ad c = LVL b ad2 c by unfold LVL; rw [hd0, hd5]]
    have hS1 := hS.chB (f_xCastZ nb (cl (xs (5 * c + 1))) Z)
    refine j_aload_n dL_law_289 rfl ?_
    refine j_aload_n dL_law_290 rfl ?_
    refine j_iload_n dL_law_291 rfl ?_
    refine j_iconst (v := 1) dL_law_292 (by decide) ?_
    refine j_iadd dL_law_293 ?_
    refine l_ld (5 * c + 1) (nI_add (5 * c) 1) (by omega) hn dL_law_294 ?_
    refine j_callV (rest := [.int (nI nb)]) (c_X5_cast l G hR hS1.eqb hS.1.1.1.2.1 hS1.eqp hS.1.1.1.1) (hR.1 _ ⟨by first | assumption | exact Nat.zero_lt_one, rfl⟩) rfl cw_X5_cast wl_L_36 wm_X5_cast wx_X5_cast rfl rfl (Nat.le_of_ble_eq_true rfl) (Nat.le_of_ble_eq_true rfl) (Nat.le_of_ble_eq_true rfl) (show 100 + 9 * c + 9 + 0 ≤ 600000 by omega) (show 5000 + 100 * c + 100 + 0 ≤ 7302250 by omega) dL_law_295 (fun v2 h2 e2 => ?_)
    obtain ⟨rfl, hR⟩ := e2
    obtain ⟨heq, hS2⟩ := s_cast hS1 hok hv1 hlt
    have hS3 := hS2.chA (f_mCast nb (xs (5 * c + 1)) (xCastZ nb (cl (xs (5 * c + 1))) Z))
    refine j_icmp_eq 718 dL_law_298 (by decide) (fun c_298 => ?_) (fun c_298 => ?_)
    · exact law_next hK hR hS3 (by omega) (show 100 + 9 * c + 9 + 0 ≤ _ by omega) (show 5000 + 100 * c + 100 + 0 ≤ _ by omega)
    · exact absurd heq.symm c_298

set_option maxRecDepth 100000 in
set_option maxHeartbeats 4000000 in
theorem law_cut {l : Launch} {G : GG} {nm : String} {b n : Nat} {xs : Nat → Int32} {c : Nat} (hn : n ≤ 2560) (hc : 5 * c + 5 ≤ n) (hK : LawK l G nm b n xs (c + 1)) {ad : NM → Nat} {np nb nn sp : Nat} {Z : ZT} {L : LT} {h : AH} (hR : Rm ad np nb Z L h) (hS : SS np nb nn sp L Z Z) (hsp : sp ≤ c) : J (thL l G nm b n xs) cL_law h (100 + 9 * c, 5000 + 100 * c) (LVL b ad c) 303 [] := by
  refine j_aload_n dL_law_303 rfl ?_
  refine j_aload_n dL_law_304 rfl ?_
  refine j_iload_n dL_law_305 rfl ?_
  refine j_iconst (v := 1) dL_law_306 (by decide) ?_
  refine j_iadd dL_law_307 ?_
  refine l_ld (5 * c + 1) (nI_add (5 * c) 1) (by omega) hn dL_law_308 ?_
  refine j_aload_n dL_law_309 rfl ?_
  refine j_iload_n dL_law_310 rfl ?_
  refine j_iconst (v := 2) dL_law_311 (by decide) ?_
  refine j_iadd dL_law_312 ?_
  refine l_ld (5 * c + 2) (nI_add (5 * c) 2) (by omega) hn dL_law_313 ?_
  refine j_callV (rest := []) (c_X4_cut l G hR hS.1.1.2.2.1 hS.1.1.1.2.1) (hR.1 _ ⟨by first | assumption | exact Nat.zero_lt_one, rfl⟩) rfl cw_X4_cut wl_L_37 wm_X4_cut wx_X4_cut rfl rfl (Nat.le_of_ble_eq_true rfl) (Nat.le_of_ble_eq_true rfl) (Nat.le_of_ble_eq_true rfl) (show 100 + 9 * c + 0 ≤ 600000 by omega) (show 5000 + 100 * c + 0 ≤ 7302250 by omega) dL_law_314 (fun v1 h1 e1 => ?_)
  obtain ⟨rfl, hR⟩ := e1
  have hS1 := hS.chB (f_xCut nb (xs (5 * c + 1)) (xs (5 * c + 2)) Z)
  refine j_aload_n dL_law_317 rfl ?_
  refine j_aload_n dL_law_318 rfl ?_
  refine j_iload_n dL_law_319 rfl ?_
  refine j_iconst (v := 1) dL_law_320 (by decide) ?_
  refine j_iadd dL_law_321 ?_
  refine l_ld (5 * c + 1) (nI_add (5 * c) 1) (by omega) hn dL_law_322 ?_
  refine j_aload_n dL_law_323 rfl ?_
  refine j_iload_n dL_law_324 rfl ?_
  refine j_iconst (v := 2) dL_law_325 (by decide) ?_
  refine j_iadd dL_law_326 ?_
  refine l_ld (5 * c + 2) (nI_add (5 * c) 2) (by omega) hn dL_law_327 ?_
  refine j_callV (rest := [.int (xCut nb (xs (5 * c + 1)) (xs (5 * c + 2)) Z).1]) (c_X5_cut l G hR hS1.eqb hS.1.1.1.2.1) (hR.1 _ ⟨by first | assumption | exact Nat.zero_lt_one, rfl⟩) rfl cw_X5_cut wl_L_41 wm_X5_cut wx_X5_cut rfl rfl (Nat.le_of_ble_eq_true rfl) (Nat.le_of_ble_eq_true rfl) (Nat.le_of_ble_eq_true rfl) (show 100 + 9 * c + 0 + 0 ≤ 600000 by omega) (show 5000 + 100 * c + 0 + 0 ≤ 7302250 by omega) dL_law_328 (fun v2 h2 e2 => ?_)
  obtain ⟨rfl, hR⟩ := e2
  obtain ⟨heq, hS2⟩ := s_cut hS1 (xs (5 * c + 1)) (xs (5 * c + 2))
  have hS3 := hS2.chA (f_mCut (xs (5 * c + 1)) (xs (5 * c + 2)) (xCut nb (xs (5 * c + 1)) (xs (5 * c + 2)) Z).2)
  refine j_icmp_eq 718 dL_law_331 (by decide) (fun c_331 => ?_) (fun c_331 => ?_)
  · exact law_next hK hR hS3 (by omega) (show 100 + 9 * c + 0 + 0 ≤ _ by omega) (show 5000 + 100 * c + 0 + 0 ≤ _ by omega)
  · exact absurd heq c_331

set_option maxRecDepth 100000 in
set_option maxHeartbeats 4000000 in
theorem law_old {l : Launch} {G : GG} {nm : String} {b n : Nat} {xs : Nat → Int32} {c : Nat} (hn : n ≤ 2560) (hc : 5 * c + 5 ≤ n) (hK : LawK l G nm b n xs (c + 1)) {ad : NM → Nat} {np nb nn sp : Nat} {Z : ZT} {L : LT} {h : AH} (hR : Rm ad np nb Z L h) (hS : SS np nb nn sp L Z Z) (hsp : sp ≤ c) : J (thL l G nm b n xs) cL_law h (100 + 9 * c, 5000 + 100 * c) (LVL b ad c) 336 [] := by
  refine j_aload_n dL_law_336 rfl ?_
  refine j_aload_n dL_law_337 rfl ?_
  refine j_iload_n dL_law_338 rfl ?_
  refine j_iconst (v := 1) dL_law_339 (by decide) ?_
  refine j_iadd dL_law_340 ?_
  refine l_ld (5 * c + 1) (nI_add (5 * c) 1) (by omega) hn dL_law_341 ?_
  refine j_callV (rest := []) (c_X4_old l G hR hS.1.1.2.2.1 hS.1.1.1.2.1) (hR.1 _ ⟨by first | assumption | exact Nat.zero_lt_one, rfl⟩) rfl cw_X4_old wl_L_42 wm_X4_old wx_X4_old rfl rfl (Nat.le_of_ble_eq_true rfl) (Nat.le_of_ble_eq_true rfl) (Nat.le_of_ble_eq_true rfl) (show 100 + 9 * c + 0 ≤ 600000 by omega) (show 5000 + 100 * c + 0 ≤ 7302250 by omega) dL_law_342 (fun v1 h1 e1 => ?_)
  obtain ⟨rfl, hR⟩ := e1
  have hS1 := hS.chB (f_xOldB nb (xs (5 * c + 1)) Z)
  refine j_aload_n dL_law_345 rfl ?_
  refine j_aload_n dL_law_346 rfl ?_
  refine j_iload_n dL_law_347 rfl ?_
  refine j_iconst (v := 1) dL_law_348 (by decide) ?_
  refine j_iadd dL_law_349 ?_
  refine l_ld (5 * c + 1) (nI_add (5 * c) 1) (by omega) hn dL_law_350 ?_
  refine j_callV (rest := [.int (xOldB nb (xs (5 * c + 1)) Z).1]) (c_X5_old l G hR hS1.eqb hS.1.1.1.2.1) (hR.1 _ ⟨by first | assumption | exact Nat.zero_lt_one, rfl⟩) rfl cw_X5_old wl_L_46 wm_X5_old wx_X5_old rfl rfl (Nat.le_of_ble_eq_true rfl) (Nat.le_of_ble_eq_true rfl) (Nat.le_of_ble_eq_true rfl) (show 100 + 9 * c + 0 + 0 ≤ 600000 by omega) (show 5000 + 100 * c + 0 + 0 ≤ 7302250 by omega) dL_law_351 (fun v2 h2 e2 => ?_)
  obtain ⟨rfl, hR⟩ := e2
  obtain ⟨heq, hS2⟩ := s_old hS1 (xs (5 * c + 1))
  have hS3 := hS2.chA (f_mOld (xs (5 * c + 1)) (xOldB nb (xs (5 * c + 1)) Z).2)
  refine j_icmp_eq 718 dL_law_354 (by decide) (fun c_354 => ?_) (fun c_354 => ?_)
  · exact law_next hK hR hS3 (by omega) (show 100 + 9 * c + 0 + 0 ≤ _ by omega) (show 5000 + 100 * c + 0 + 0 ≤ _ by omega)
  · exact absurd heq c_354

set_option maxRecDepth 100000 in
set_option maxHeartbeats 4000000 in
theorem law_crack {l : Launch} {G : GG} {nm : String} {b n : Nat} {xs : Nat → Int32} {c : Nat} (hn : n ≤ 2560) (hc : 5 * c + 5 ≤ n) (hK : LawK l G nm b n xs (c + 1)) {ad : NM → Nat} {np nb nn sp : Nat} {Z : ZT} {L : LT} {h : AH} (hR : Rm ad np nb Z L h) (hS : SS np nb nn sp L Z Z) (hsp : sp ≤ c) : J (thL l G nm b n xs) cL_law h (100 + 9 * c, 5000 + 100 * c) (LVL b ad c) 359 [] := by
  refine j_aload_n dL_law_359 rfl ?_
  refine j_aload_n dL_law_360 rfl ?_
  refine j_iload_n dL_law_361 rfl ?_
  refine j_iconst (v := 1) dL_law_362 (by decide) ?_
  refine j_iadd dL_law_363 ?_
  refine l_ld (5 * c + 1) (nI_add (5 * c) 1) (by omega) hn dL_law_364 ?_
  refine j_callV (rest := []) (c_X4_crack l G hR hS.1.1.2.2.1 hS.1.1.1.2.1) (hR.1 _ ⟨by first | assumption | exact Nat.zero_lt_one, rfl⟩) rfl cw_X4_crack wl_L_47 wm_X4_crack wx_X4_crack rfl rfl (Nat.le_of_ble_eq_true rfl) (Nat.le_of_ble_eq_true rfl) (Nat.le_of_ble_eq_true rfl) (show 100 + 9 * c + 0 ≤ 600000 by omega) (show 5000 + 100 * c + 0 ≤ 7302250 by omega) dL_law_365 (fun v1 h1 e1 => ?_)
  obtain ⟨rfl, hR⟩ := e1
  have hS1 := hS.chB (f_xCrack nb (xs (5 * c + 1)) Z)
  refine j_aload_n dL_law_368 rfl ?_
  refine j_aload_n dL_law_369 rfl ?_
  refine j_iload_n dL_law_370 rfl ?_
  refine j_iconst (v := 1) dL_law_371 (by decide) ?_
  refine j_iadd dL_law_372 ?_
  refine l_ld (5 * c + 1) (nI_add (5 * c) 1) (by omega) hn dL_law_373 ?_
  refine j_callV (rest := [.int (xCrack nb (xs (5 * c + 1)) Z).1]) (c_X5_crack l G hR hS1.eqb hS.1.1.1.2.1) (hR.1 _ ⟨by first | assumption | exact Nat.zero_lt_one, rfl⟩) rfl cw_X5_crack wl_L_50 wm_X5_crack wx_X5_crack rfl rfl (Nat.le_of_ble_eq_true rfl) (Nat.le_of_ble_eq_true rfl) (Nat.le_of_ble_eq_true rfl) (show 100 + 9 * c + 0 + 0 ≤ 600000 by omega) (show 5000 + 100 * c + 0 + 0 ≤ 7302250 by omega) dL_law_374 (fun v2 h2 e2 => ?_)
  obtain ⟨rfl, hR⟩ := e2
  obtain ⟨heq, hS2⟩ := s_crack hS1 (xs (5 * c + 1))
  have hS3 := hS2.chA (f_mCrack (xs (5 * c + 1)) (xCrack nb (xs (5 * c + 1)) Z).2)
  refine j_icmp_eq 718 dL_law_377 (by decide) (fun c_377 => ?_) (fun c_377 => ?_)
  · exact law_next hK hR hS3 (by omega) (show 100 + 9 * c + 0 + 0 ≤ _ by omega) (show 5000 + 100 * c + 0 + 0 ≤ _ by omega)
  · exact absurd heq c_377

set_option maxRecDepth 100000 in
set_option maxHeartbeats 4000000 in
theorem law_bellOf {l : Launch} {G : GG} {nm : String} {b n : Nat} {xs : Nat → Int32} {c : Nat} (hn : n ≤ 2560) (hc : 5 * c + 5 ≤ n) (hK : LawK l G nm b n xs (c + 1)) {ad : NM → Nat} {np nb nn sp : Nat} {Z : ZT} {L : LT} {h : AH} (hR : Rm ad np nb Z L h) (hS : SS np nb nn sp L Z Z) (hsp : sp ≤ c) : J (thL l G nm b n xs) cL_law h (100 + 9 * c, 5000 + 100 * c) (LVL b ad c) 382 [] := by
  refine j_aload_n dL_law_382 rfl ?_
  refine j_aload_n dL_law_383 rfl ?_
  refine j_iload_n dL_law_384 rfl ?_
  refine j_iconst (v := 1) dL_law_385 (by decide) ?_
  refine j_iadd dL_law_386 ?_
  refine l_ld (5 * c + 1) (nI_add (5 * c) 1) (by omega) hn dL_law_387 ?_
  refine j_aload_n dL_law_388 rfl ?_
  refine j_iload_n dL_law_389 rfl ?_
  refine j_iconst (v := 2) dL_law_390 (by decide) ?_
  refine j_iadd dL_law_391 ?_
  refine l_ld (5 * c + 2) (nI_add (5 * c) 2) (by omega) hn dL_law_392 ?_
  have hS1 := hS
  refine j_callV (rest := []) (c_X4_bellOf l G hR hS.1.1.2.2.1 hS.1.1.1.2.1) (hR.1 _ ⟨by first | assumption | exact Nat.zero_lt_one, rfl⟩) rfl cw_X4_bellOf wl_L_51 wm_X4_bellOf wx_X4_bellOf rfl rfl (Nat.le_of_ble_eq_true rfl) (Nat.le_of_ble_eq_true rfl) (Nat.le_of_ble_eq_true rfl) (show 100 + 9 * c + 0 ≤ 600000 by omega) (show 5000 + 100 * c + 0 ≤ 7302250 by omega) dL_law_393 (fun v1 h1 e1 => ?_)
  obtain ⟨rfl, hh⟩ := e1
  have hh := hh.symm
  subst hh
  refine j_aload_n dL_law_396 rfl ?_
  refine j_aload_n dL_law_397 rfl ?_
  refine j_iload_n dL_law_398 rfl ?_
  refine j_iconst (v := 1) dL_law_399 (by decide) ?_
  refine j_iadd dL_law_400 ?_
  refine l_ld (5 * c + 1) (nI_add (5 * c) 1) (by omega) hn dL_law_401 ?_
  refine j_aload_n dL_law_402 rfl ?_
  refine j_iload_n dL_law_403 rfl ?_
  refine j_iconst (v := 2) dL_law_404 (by decide) ?_
  refine j_iadd dL_law_405 ?_
  refine l_ld (5 * c + 2) (nI_add (5 * c) 2) (by omega) hn dL_law_406 ?_
  refine j_callV (rest := [.int (xBellOf nb (xs (5 * c + 1)) (xs (5 * c + 2)) Z)]) (c_X5_bellOf l G hR hS1.eqb hS.1.1.1.2.1 hS1.way) (hR.1 _ ⟨by first | assumption | exact Nat.zero_lt_one, rfl⟩) rfl cw_X5_bellOf wl_L_54 wm_X5_bellOf wx_X5_bellOf rfl rfl (Nat.le_of_ble_eq_true rfl) (Nat.le_of_ble_eq_true rfl) (Nat.le_of_ble_eq_true rfl) (show 100 + 9 * c + 0 + 0 ≤ 600000 by omega) (show 5000 + 100 * c + 0 + 0 ≤ 7302250 by omega) dL_law_407 (fun v2 h2 e2 => ?_)
  obtain ⟨rfl, hh⟩ := e2
  have hh := hh.symm
  subst hh
  refine j_icmp_eq 718 dL_law_410 (by decide) (fun c_410 => ?_) (fun c_410 => ?_)
  · exact law_next hK hR hS (by omega) (show 100 + 9 * c + 0 + 0 ≤ _ by omega) (show 5000 + 100 * c + 0 + 0 ≤ _ by omega)
  · exact absurd (s_bellOf hS (xs (5 * c + 1)) (xs (5 * c + 2))) c_410

set_option maxRecDepth 100000 in
set_option maxHeartbeats 4000000 in
theorem law_span {l : Launch} {G : GG} {nm : String} {b n : Nat} {xs : Nat → Int32} {c : Nat} (hn : n ≤ 2560) (hc : 5 * c + 5 ≤ n) (hK : LawK l G nm b n xs (c + 1)) {ad : NM → Nat} {np nb nn sp : Nat} {Z : ZT} {L : LT} {h : AH} (hR : Rm ad np nb Z L h) (hS : SS np nb nn sp L Z Z) (hsp : sp ≤ c) : J (thL l G nm b n xs) cL_law h (100 + 9 * c, 5000 + 100 * c) (LVL b ad c) 415 [] := by
  refine j_aload_n dL_law_415 rfl ?_
  refine j_aload_n dL_law_416 rfl ?_
  refine j_iload_n dL_law_417 rfl ?_
  refine j_iconst (v := 1) dL_law_418 (by decide) ?_
  refine j_iadd dL_law_419 ?_
  refine l_ld (5 * c + 1) (nI_add (5 * c) 1) (by omega) hn dL_law_420 ?_
  refine j_aload_n dL_law_421 rfl ?_
  refine j_iload_n dL_law_422 rfl ?_
  refine j_iconst (v := 2) dL_law_423 (by decide) ?_
  refine j_iadd dL_law_424 ?_
  refine l_ld (5 * c + 2) (nI_add (5 * c) 2) (by omega) hn dL_law_425 ?_
  refine j_aload_n dL_law_426 rfl ?_
  refine j_iload_n dL_law_427 rfl ?_
  refine j_iconst (v := 3) dL_law_428 (by decide) ?_
  refine j_iadd dL_law_429 ?_
  refine l_ld (5 * c + 3) (nI_add (5 * c) 3) (by omega) hn dL_law_430 ?_
  refine j_callV (rest := []) (c_X4_span l G hR ) (hR.1 _ ⟨by first | assumption | exact Nat.zero_lt_one, rfl⟩) rfl cw_X4_span wl_L_55 wm_X4_span wx_X4_span rfl rfl (Nat.le_of_ble_eq_true rfl) (Nat.le_of_ble_eq_true rfl) (Nat.le_of_ble_eq_true rfl) (show 100 + 9 * c + 0 ≤ 600000 by omega) (show 5000 + 100 * c + 0 ≤ 7302250 by omega) dL_law_431 (fun v1 h1 e1 => ?_)
  obtain ⟨rfl, hR⟩ := e1
  have hS1 := hS.chB (f_xSpan (xs (5 * c + 1)) (xs (5 * c + 2)) (xs (5 * c + 3)) Z)
  refine j_aload_n dL_law_434 rfl ?_
  refine j_aload_n dL_law_435 rfl ?_
  refine j_iload_n dL_law_436 rfl ?_
  refine j_iconst (v := 1) dL_law_437 (by decide) ?_
  refine j_iadd dL_law_438 ?_
  refine l_ld (5 * c + 1) (nI_add (5 * c) 1) (by omega) hn dL_law_439 ?_
  refine j_aload_n dL_law_440 rfl ?_
  refine j_iload_n dL_law_441 rfl ?_
  refine j_iconst (v := 2) dL_law_442 (by decide) ?_
  refine j_iadd dL_law_443 ?_
  refine l_ld (5 * c + 2) (nI_add (5 * c) 2) (by omega) hn dL_law_444 ?_
  refine j_aload_n dL_law_445 rfl ?_
  refine j_iload_n dL_law_446 rfl ?_
  refine j_iconst (v := 3) dL_law_447 (by decide) ?_
  refine j_iadd dL_law_448 ?_
  refine l_ld (5 * c + 3) (nI_add (5 * c) 3) (by omega) hn dL_law_449 ?_
  refine j_callV (rest := [.int (xSpan (xs (5 * c + 1)) (xs (5 * c + 2)) (xs (5 * c + 3)) Z).1]) (c_X5_span l G hR ) (hR.1 _ ⟨by first | assumption | exact Nat.zero_lt_one, rfl⟩) rfl cw_X5_span wl_L_58 wm_X5_span wx_X5_span rfl rfl (Nat.le_of_ble_eq_true rfl) (Nat.le_of_ble_eq_true rfl) (Nat.le_of_ble_eq_true rfl) (show 100 + 9 * c + 0 + 0 ≤ 600000 by omega) (show 5000 + 100 * c + 0 + 0 ≤ 7302250 by omega) dL_law_450 (fun v2 h2 e2 => ?_)
  obtain ⟨rfl, hR⟩ := e2
  obtain ⟨heq, s2, hs2, hS2⟩ := s_span hS1 (by omega) (xs (5 * c + 1)) (xs (5 * c + 2)) (xs (5 * c + 3))
  have hS3 := hS2.chA (f_mSpan (xs (5 * c + 1)) (xs (5 * c + 2)) (xs (5 * c + 3)) (xSpan (xs (5 * c + 1)) (xs (5 * c + 2)) (xs (5 * c + 3)) Z).2)
  refine j_icmp_eq 718 dL_law_453 (by decide) (fun c_453 => ?_) (fun c_453 => ?_)
  · exact law_next hK hR hS3 (by omega) (show 100 + 9 * c + 0 + 0 ≤ _ by omega) (show 5000 + 100 * c + 0 + 0 ≤ _ by omega)
  · exact absurd heq c_453

set_option maxRecDepth 100000 in
set_option maxHeartbeats 4000000 in
theorem law_tuning {l : Launch} {G : GG} {nm : String} {b n : Nat} {xs : Nat → Int32} {c : Nat} (hn : n ≤ 2560) (hc : 5 * c + 5 ≤ n) (hK : LawK l G nm b n xs (c + 1)) {ad : NM → Nat} {np nb nn sp : Nat} {Z : ZT} {L : LT} {h : AH} (hR : Rm ad np nb Z L h) (hS : SS np nb nn sp L Z Z) (hsp : sp ≤ c) : J (thL l G nm b n xs) cL_law h (100 + 9 * c, 5000 + 100 * c) (LVL b ad c) 458 [] := by
  refine j_aload_n dL_law_458 rfl ?_
  refine j_aload_n dL_law_459 rfl ?_
  refine j_iload_n dL_law_460 rfl ?_
  refine j_iconst (v := 1) dL_law_461 (by decide) ?_
  refine j_iadd dL_law_462 ?_
  refine l_ld (5 * c + 1) (nI_add (5 * c) 1) (by omega) hn dL_law_463 ?_
  refine j_callV (rest := []) (c_X4_tuning l G hR hS.1.1.2.2.1 hS.1.1.1.2.1 (fun b hb => (hS.1.2.2.1 b hb).1.bd) hS.1.2.2.2.2.1 (fun b hb e => hS.1.2.2.2.1 b hb (e.trans hS.1.1.2.2.2.2))) (hR.1 _ ⟨by first | assumption | exact Nat.zero_lt_one, rfl⟩) rfl cw_X4_tuning wl_L_59 wm_X4_tuning wx_X4_tuning rfl rfl (Nat.le_of_ble_eq_true rfl) (Nat.le_of_ble_eq_true rfl) (Nat.le_of_ble_eq_true rfl) (show 100 + 9 * c + 0 ≤ 600000 by omega) (show 5000 + 100 * c + 0 ≤ 7302250 by omega) dL_law_464 (fun v1 h1 e1 => ?_)
  obtain ⟨x, Y, rfl, hR, hx⟩ := e1
  have hS1 := hS.chB (f_xTuning hx)
  refine j_aload_n dL_law_467 rfl ?_
  refine j_aload_n dL_law_468 rfl ?_
  refine j_iload_n dL_law_469 rfl ?_
  refine j_iconst (v := 1) dL_law_470 (by decide) ?_
  refine j_iadd dL_law_471 ?_
  refine l_ld (5 * c + 1) (nI_add (5 * c) 1) (by omega) hn dL_law_472 ?_
  refine j_callV (rest := [.int x]) (c_X5_tuning l G hR hS1.eqb hS.1.1.1.2.1) (hR.1 _ ⟨by first | assumption | exact Nat.zero_lt_one, rfl⟩) rfl cw_X5_tuning wl_L_62 wm_X5_tuning wx_X5_tuning rfl rfl (Nat.le_of_ble_eq_true rfl) (Nat.le_of_ble_eq_true rfl) (Nat.le_of_ble_eq_true rfl) (show 100 + 9 * c + 0 + 0 ≤ 600000 by omega) (show 5000 + 100 * c + 0 + 0 ≤ 7302250 by omega) dL_law_473 (fun v2 h2 e2 => ?_)
  obtain ⟨y, W, rfl, hR, hk2, hy⟩ := e2
  obtain ⟨heq, hS2⟩ := s_tuning hS1 hx hk2 hy
  have hS3 := hS2.chA (f_k1 hk2)
  refine j_icmp_eq 718 dL_law_476 (by decide) (fun c_476 => ?_) (fun c_476 => ?_)
  · exact law_next hK hR hS3 (by omega) (show 100 + 9 * c + 0 + 0 ≤ _ by omega) (show 5000 + 100 * c + 0 + 0 ≤ _ by omega)
  · exact absurd heq c_476

set_option maxRecDepth 100000 in
set_option maxHeartbeats 4000000 in
theorem law_tune {l : Launch} {G : GG} {nm : String} {b n : Nat} {xs : Nat → Int32} {c : Nat} (hn : n ≤ 2560) (hc : 5 * c + 5 ≤ n) (hK : LawK l G nm b n xs (c + 1)) {ad : NM → Nat} {np nb nn sp : Nat} {Z : ZT} {L : LT} {h : AH} (hR : Rm ad np nb Z L h) (hS : SS np nb nn sp L Z Z) (hsp : sp ≤ c) : J (thL l G nm b n xs) cL_law h (100 + 9 * c, 5000 + 100 * c) (LVL b ad c) 481 [] := by
  refine j_aload_n dL_law_481 rfl ?_
  refine j_aload_n dL_law_482 rfl ?_
  refine j_iload_n dL_law_483 rfl ?_
  refine j_iconst (v := 1) dL_law_484 (by decide) ?_
  refine j_iadd dL_law_485 ?_
  refine l_ld (5 * c + 1) (nI_add (5 * c) 1) (by omega) hn dL_law_486 ?_
  refine j_callV (rest := []) (c_X4_tune l G hR hS.1.1.2.2.1 hS.1.1.1.2.1 (fun b hb => (hS.1.2.2.1 b hb).1.bd) hS.1.2.2.2.2.1 (fun b hb e => hS.1.2.2.2.1 b hb (e.trans hS.1.1.2.2.2.2))) (hR.1 _ ⟨by first | assumption | exact Nat.zero_lt_one, rfl⟩) rfl cw_X4_tune wl_L_63 wm_X4_tune wx_X4_tune rfl rfl (Nat.le_of_ble_eq_true rfl) (Nat.le_of_ble_eq_true rfl) (Nat.le_of_ble_eq_true rfl) (show 100 + 9 * c + 0 ≤ 600000 by omega) (show 5000 + 100 * c + 0 ≤ 7302250 by omega) dL_law_487 (fun v1 h1 e1 => ?_)
  obtain ⟨x, Y, rfl, hR, hx⟩ := e1
  have hS1 := hS.chB (f_xTune hx)
  refine j_aload_n dL_law_490 rfl ?_
  refine j_aload_n dL_law_491 rfl ?_
  refine j_iload_n dL_law_492 rfl ?_
  refine j_iconst (v := 1) dL_law_493 (by decide) ?_
  refine j_iadd dL_law_494 ?_
  refine l_ld (5 * c + 1) (nI_add (5 * c) 1) (by omega) hn dL_law_495 ?_
  refine j_callV (rest := [.int x]) (c_X5_tune l G hR hS1.eqb hS.1.1.1.2.1) (hR.1 _ ⟨by first | assumption | exact Nat.zero_lt_one, rfl⟩) rfl cw_X5_tune wl_L_66 wm_X5_tune wx_X5_tune rfl rfl (Nat.le_of_ble_eq_true rfl) (Nat.le_of_ble_eq_true rfl) (Nat.le_of_ble_eq_true rfl) (show 100 + 9 * c + 0 + 0 ≤ 600000 by omega) (show 5000 + 100 * c + 0 + 0 ≤ 7302250 by omega) dL_law_496 (fun v2 h2 e2 => ?_)
  obtain ⟨y, W, rfl, hR, hy⟩ := e2
  obtain ⟨heq, hS2⟩ := s_tune hS1 hx hy
  have hS3 := hS2.chA (f_mTune hy)
  refine j_icmp_eq 718 dL_law_499 (by decide) (fun c_499 => ?_) (fun c_499 => ?_)
  · exact law_next hK hR hS3 (by omega) (show 100 + 9 * c + 0 + 0 ≤ _ by omega) (show 5000 + 100 * c + 0 + 0 ≤ _ by omega)
  · exact absurd heq c_499

set_option maxRecDepth 100000 in
set_option maxHeartbeats 4000000 in
theorem law_tuningAt {l : Launch} {G : GG} {nm : String} {b n : Nat} {xs : Nat → Int32} {c : Nat} (hn : n ≤ 2560) (hc : 5 * c + 5 ≤ n) (hK : LawK l G nm b n xs (c + 1)) {ad : NM → Nat} {np nb nn sp : Nat} {Z : ZT} {L : LT} {h : AH} (hR : Rm ad np nb Z L h) (hS : SS np nb nn sp L Z Z) (hsp : sp ≤ c) : J (thL l G nm b n xs) cL_law h (100 + 9 * c, 5000 + 100 * c) (LVL b ad c) 504 [] := by
  refine j_aload_n dL_law_504 rfl ?_
  refine j_aload_n dL_law_505 rfl ?_
  refine j_iload_n dL_law_506 rfl ?_
  refine j_iconst (v := 1) dL_law_507 (by decide) ?_
  refine j_iadd dL_law_508 ?_
  refine l_ld (5 * c + 1) (nI_add (5 * c) 1) (by omega) hn dL_law_509 ?_
  refine j_aload_n dL_law_510 rfl ?_
  refine j_iload_n dL_law_511 rfl ?_
  refine j_iconst (v := 2) dL_law_512 (by decide) ?_
  refine j_iadd dL_law_513 ?_
  refine l_ld (5 * c + 2) (nI_add (5 * c) 2) (by omega) hn dL_law_514 ?_
  refine j_callV (rest := []) (c_X4_tuningAt l G hR hS.1.1.2.2.1 hS.1.1.1.2.1 (fun b hb => (hS.1.2.2.1 b hb).1.bd) hS.1.2.2.2.2.1 (fun b hb e => hS.1.2.2.2.1 b hb (e.trans hS.1.1.2.2.2.2))) (hR.1 _ ⟨by first | assumption | exact Nat.zero_lt_one, rfl⟩) rfl cw_X4_tuningAt wl_L_67 wm_X4_tuningAt wx_X4_tuningAt rfl rfl (Nat.le_of_ble_eq_true rfl) (Nat.le_of_ble_eq_true rfl) (Nat.le_of_ble_eq_true rfl) (show 100 + 9 * c + 0 ≤ 600000 by omega) (show 5000 + 100 * c + 0 ≤ 7302250 by omega) dL_law_515 (fun v1 h1 e1 => ?_)
  obtain ⟨x, Y, rfl, hR, hx⟩ := e1
  have hS1 := hS.chB (f_xTunAt hx)
  refine j_aload_n dL_law_518 rfl ?_
  refine j_aload_n dL_law_519 rfl ?_
  refine j_iload_n dL_law_520 rfl ?_
  refine j_iconst (v := 1) dL_law_521 (by decide) ?_
  refine j_iadd dL_law_522 ?_
  refine l_ld (5 * c + 1) (nI_add (5 * c) 1) (by omega) hn dL_law_523 ?_
  refine j_aload_n dL_law_524 rfl ?_
  refine j_iload_n dL_law_525 rfl ?_
  refine j_iconst (v := 2) dL_law_526 (by decide) ?_
  refine j_iadd dL_law_527 ?_
  refine l_ld (5 * c + 2) (nI_add (5 * c) 2) (by omega) hn dL_law_528 ?_
  refine j_callV (rest := [.int x]) (c_X5_tuningAt l G hR hS1.eqb hS.1.1.1.2.1) (hR.1 _ ⟨by first | assumption | exact Nat.zero_lt_one, rfl⟩) rfl cw_X5_tuningAt wl_L_70 wm_X5_tuningAt wx_X5_tuningAt rfl rfl (Nat.le_of_ble_eq_true rfl) (Nat.le_of_ble_eq_true rfl) (Nat.le_of_ble_eq_true rfl) (show 100 + 9 * c + 0 + 0 ≤ 600000 by omega) (show 5000 + 100 * c + 0 + 0 ≤ 7302250 by omega) dL_law_529 (fun v2 h2 e2 => ?_)
  obtain ⟨y, W, rfl, hR, hy⟩ := e2
  obtain ⟨heq, hS2⟩ := s_tunAt hS1 hx hy
  have hS3 := hS2.chA (f_mTunAt hy)
  refine j_icmp_eq 718 dL_law_532 (by decide) (fun c_532 => ?_) (fun c_532 => ?_)
  · exact law_next hK hR hS3 (by omega) (show 100 + 9 * c + 0 + 0 ≤ _ by omega) (show 5000 + 100 * c + 0 + 0 ≤ _ by omega)
  · exact absurd heq c_532

set_option maxRecDepth 100000 in
set_option maxHeartbeats 4000000 in
theorem law_note {l : Launch} {G : GG} {nm : String} {b n : Nat} {xs : Nat → Int32} {c : Nat} (hn : n ≤ 2560) (hc : 5 * c + 5 ≤ n) (hK : LawK l G nm b n xs (c + 1)) {ad : NM → Nat} {np nb nn sp : Nat} {Z : ZT} {L : LT} {h : AH} (hR : Rm ad np nb Z L h) (hS : SS np nb nn sp L Z Z) (hsp : sp ≤ c) : J (thL l G nm b n xs) cL_law h (100 + 9 * c, 5000 + 100 * c) (LVL b ad c) 537 [] := by
  refine j_aload_n dL_law_537 rfl ?_
  refine j_aload_n dL_law_538 rfl ?_
  refine j_iload_n dL_law_539 rfl ?_
  refine j_iconst (v := 1) dL_law_540 (by decide) ?_
  refine j_iadd dL_law_541 ?_
  refine l_ld (5 * c + 1) (nI_add (5 * c) 1) (by omega) hn dL_law_542 ?_
  refine j_callV (rest := []) (c_X4_note l G hR hS.1.1.2.2.2.1 hS.1.1.1.2.2.1) (hR.1 _ ⟨by first | assumption | exact Nat.zero_lt_one, rfl⟩) rfl cw_X4_note wl_L_71 wm_X4_note wx_X4_note rfl rfl (Nat.le_of_ble_eq_true rfl) (Nat.le_of_ble_eq_true rfl) (Nat.le_of_ble_eq_true rfl) (show 100 + 9 * c + 0 ≤ 600000 by omega) (show 5000 + 100 * c + 0 ≤ 7302250 by omega) dL_law_543 (fun v1 h1 e1 => ?_)
  obtain ⟨rfl, hR⟩ := e1
  have hS1 := hS.chB (f_xNote nn (xs (5 * c + 1)) Z)
  refine j_aload_n dL_law_546 rfl ?_
  refine j_aload_n dL_law_547 rfl ?_
  refine j_iload_n dL_law_548 rfl ?_
  refine j_iconst (v := 1) dL_law_549 (by decide) ?_
  refine j_iadd dL_law_550 ?_
  refine l_ld (5 * c + 1) (nI_add (5 * c) 1) (by omega) hn dL_law_551 ?_
  refine j_callV (rest := [.int (xNote nn (xs (5 * c + 1)) Z).1]) (c_X5_note l G hR hS1.eqn hS.1.1.1.2.2.1) (hR.1 _ ⟨by first | assumption | exact Nat.zero_lt_one, rfl⟩) rfl cw_X5_note wl_L_74 wm_X5_note wx_X5_note rfl rfl (Nat.le_of_ble_eq_true rfl) (Nat.le_of_ble_eq_true rfl) (Nat.le_of_ble_eq_true rfl) (show 100 + 9 * c + 0 + 0 ≤ 600000 by omega) (show 5000 + 100 * c + 0 + 0 ≤ 7302250 by omega) dL_law_552 (fun v2 h2 e2 => ?_)
  obtain ⟨rfl, hR⟩ := e2
  obtain ⟨heq, n2, hS2⟩ := s_note hS1 (xs (5 * c + 1))
  have hS3 := hS2.chA (f_mNote (xs (5 * c + 1)) (xNote nn (xs (5 * c + 1)) Z).2)
  refine j_icmp_eq 718 dL_law_555 (by decide) (fun c_555 => ?_) (fun c_555 => ?_)
  · exact law_next hK hR hS3 (by omega) (show 100 + 9 * c + 0 + 0 ≤ _ by omega) (show 5000 + 100 * c + 0 + 0 ≤ _ by omega)
  · exact absurd heq c_555

set_option maxRecDepth 100000 in
set_option maxHeartbeats 4000000 in
theorem law_ring {l : Launch} {G : GG} {nm : String} {b n : Nat} {xs : Nat → Int32} {c : Nat} (hn : n ≤ 2560) (hc : 5 * c + 5 ≤ n) (hK : LawK l G nm b n xs (c + 1)) {ad : NM → Nat} {np nb nn sp : Nat} {Z : ZT} {L : LT} {h : AH} (hR : Rm ad np nb Z L h) (hS : SS np nb nn sp L Z Z) (hsp : sp ≤ c) : J (thL l G nm b n xs) cL_law h (100 + 9 * c, 5000 + 100 * c) (LVL b ad c) 560 [] := by
  refine j_aload_n dL_law_560 rfl ?_
  refine j_aload_n dL_law_561 rfl ?_
  refine j_iload_n dL_law_562 rfl ?_
  refine j_iconst (v := 1) dL_law_563 (by decide) ?_
  refine j_iadd dL_law_564 ?_
  refine l_ld (5 * c + 1) (nI_add (5 * c) 1) (by omega) hn dL_law_565 ?_
  refine j_callV (rest := []) (c_X4_ring l G hR ) (hR.1 _ ⟨by first | assumption | exact Nat.zero_lt_one, rfl⟩) rfl cw_X4_ring wl_L_75 wm_X4_ring wx_X4_ring rfl rfl (Nat.le_of_ble_eq_true rfl) (Nat.le_of_ble_eq_true rfl) (Nat.le_of_ble_eq_true rfl) (show 100 + 9 * c + 0 ≤ 600000 by omega) (show 5000 + 100 * c + 0 ≤ 7302250 by omega) dL_law_566 (fun v1 h1 e1 => ?_)
  obtain ⟨rfl, hR⟩ := e1
  have hS1 := hS.chB (f_xRing (xs (5 * c + 1)) Z)
  refine j_aload_n dL_law_569 rfl ?_
  refine j_aload_n dL_law_570 rfl ?_
  refine j_iload_n dL_law_571 rfl ?_
  refine j_iconst (v := 1) dL_law_572 (by decide) ?_
  refine j_iadd dL_law_573 ?_
  refine l_ld (5 * c + 1) (nI_add (5 * c) 1) (by omega) hn dL_law_574 ?_
  refine j_callV (rest := [.int (xRing (xs (5 * c + 1)) Z).1]) (c_X5_ring l G hR ) (hR.1 _ ⟨by first | assumption | exact Nat.zero_lt_one, rfl⟩) rfl cw_X5_ring wl_L_78 wm_X5_ring wx_X5_ring rfl rfl (Nat.le_of_ble_eq_true rfl) (Nat.le_of_ble_eq_true rfl) (Nat.le_of_ble_eq_true rfl) (show 100 + 9 * c + 0 + 0 ≤ 600000 by omega) (show 5000 + 100 * c + 0 + 0 ≤ 7302250 by omega) dL_law_575 (fun v2 h2 e2 => ?_)
  obtain ⟨rfl, hR⟩ := e2
  obtain ⟨heq, n2, hS2⟩ := s_ring hS1 (xs (5 * c + 1))
  have hS3 := hS2.chA (f_mRing (xs (5 * c + 1)) (xRing (xs (5 * c + 1)) Z).2)
  refine j_icmp_eq 718 dL_law_578 (by decide) (fun c_578 => ?_) (fun c_578 => ?_)
  · exact law_next hK hR hS3 (by omega) (show 100 + 9 * c + 0 + 0 ≤ _ by omega) (show 5000 + 100 * c + 0 + 0 ≤ _ by omega)
  · exact absurd heq c_578

set_option maxRecDepth 100000 in
set_option maxHeartbeats 4000000 in
theorem law_ringWeight {l : Launch} {G : GG} {nm : String} {b n : Nat} {xs : Nat → Int32} {c : Nat} (hn : n ≤ 2560) (hc : 5 * c + 5 ≤ n) (hK : LawK l G nm b n xs (c + 1)) {ad : NM → Nat} {np nb nn sp : Nat} {Z : ZT} {L : LT} {h : AH} (hR : Rm ad np nb Z L h) (hS : SS np nb nn sp L Z Z) (hsp : sp ≤ c) : J (thL l G nm b n xs) cL_law h (100 + 9 * c, 5000 + 100 * c) (LVL b ad c) 583 [] := by
  refine j_aload_n dL_law_583 rfl ?_
  refine j_callV (rest := []) (c_X4_ringWeight l G hR hS.1.1.2.2.1 hS.1.1.1.2.1 hS.1.1.2.2.2.1 hS.1.1.1.2.2.1 (fun b hb => (hS.1.2.2.1 b hb).1.w) hS.1.2.2.2.2.2) (hR.1 _ ⟨by first | assumption | exact Nat.zero_lt_one, rfl⟩) rfl cw_X4_ringWeight wl_L_79 wm_X4_ringWeight wx_X4_ringWeight rfl rfl (Nat.le_of_ble_eq_true rfl) (Nat.le_of_ble_eq_true rfl) (Nat.le_of_ble_eq_true rfl) (show 100 + 9 * c + 0 ≤ 600000 by omega) (show 5000 + 100 * c + 0 ≤ 7302250 by omega) dL_law_584 (fun v1 h1 e1 => ?_)
  obtain ⟨Y, M, cv, rfl, hR, hx⟩ := e1
  have hS1 := hS.chB (f_chX hx)
  refine j_aload_n dL_law_587 rfl ?_
  refine j_callV (rest := [.int (rwX cv)]) (c_X5_ringWeight l G hR hS1.eqb hS.1.1.1.2.1 hS1.eqn hS.1.1.1.2.2.1 hS1.mw) (hR.1 _ ⟨by first | assumption | exact Nat.zero_lt_one, rfl⟩) rfl cw_X5_ringWeight wl_L_83 wm_X5_ringWeight wx_X5_ringWeight rfl rfl (Nat.le_of_ble_eq_true rfl) (Nat.le_of_ble_eq_true rfl) (Nat.le_of_ble_eq_true rfl) (show 100 + 9 * c + 0 + 0 ≤ 600000 by omega) (show 5000 + 100 * c + 0 + 0 ≤ 7302250 by omega) dL_law_588 (fun v2 h2 e2 => ?_)
  obtain ⟨y, W, rfl, hR, hy⟩ := e2
  have heq := (ring_eq hS1 hx.2.2.2 hy).1
  have hS3 := (hS1.ch hx hy.1).chA (f_rgM hy)
  refine j_icmp_eq 718 dL_law_591 (by decide) (fun c_591 => ?_) (fun c_591 => ?_)
  · exact law_next hK hR hS3 (by omega) (show 100 + 9 * c + 0 + 0 ≤ _ by omega) (show 5000 + 100 * c + 0 + 0 ≤ _ by omega)
  · exact absurd heq c_591

set_option maxRecDepth 100000 in
set_option maxHeartbeats 4000000 in
theorem law_ringBell {l : Launch} {G : GG} {nm : String} {b n : Nat} {xs : Nat → Int32} {c : Nat} (hn : n ≤ 2560) (hc : 5 * c + 5 ≤ n) (hK : LawK l G nm b n xs (c + 1)) {ad : NM → Nat} {np nb nn sp : Nat} {Z : ZT} {L : LT} {h : AH} (hR : Rm ad np nb Z L h) (hS : SS np nb nn sp L Z Z) (hsp : sp ≤ c) : J (thL l G nm b n xs) cL_law h (100 + 9 * c, 5000 + 100 * c) (LVL b ad c) 596 [] := by
  refine j_aload_n dL_law_596 rfl ?_
  refine j_aload_n dL_law_597 rfl ?_
  refine j_iload_n dL_law_598 rfl ?_
  refine j_iconst (v := 1) dL_law_599 (by decide) ?_
  refine j_iadd dL_law_600 ?_
  refine l_ld (5 * c + 1) (nI_add (5 * c) 1) (by omega) hn dL_law_601 ?_
  refine j_callV (rest := []) (c_X4_ringBell l G hR hS.1.1.2.2.1 hS.1.1.1.2.1 hS.1.1.2.2.2.1 hS.1.1.1.2.2.1 (fun b hb => (hS.1.2.2.1 b hb).1.w) hS.1.2.2.2.2.2) (hR.1 _ ⟨by first | assumption | exact Nat.zero_lt_one, rfl⟩) rfl cw_X4_ringBell wl_L_84 wm_X4_ringBell wx_X4_ringBell rfl rfl (Nat.le_of_ble_eq_true rfl) (Nat.le_of_ble_eq_true rfl) (Nat.le_of_ble_eq_true rfl) (show 100 + 9 * c + 0 ≤ 600000 by omega) (show 5000 + 100 * c + 0 ≤ 7302250 by omega) dL_law_602 (fun v1 h1 e1 => ?_)
  obtain ⟨Y, M, x, rfl, hR, hx⟩ := e1
  have hS1 : SS np nb nn sp L Z Y := by
    rcases hx with ⟨_, _, e, _⟩ | ⟨_, cv, _, k1⟩
    · rw [e]; exact hS
    · exact hS.chB (f_chX k1)
  refine j_aload_n dL_law_605 rfl ?_
  refine j_aload_n dL_law_606 rfl ?_
  refine j_iload_n dL_law_607 rfl ?_
  refine j_iconst (v := 1) dL_law_608 (by decide) ?_
  refine j_iadd dL_law_609 ?_
  refine l_ld (5 * c + 1) (nI_add (5 * c) 1) (by omega) hn dL_law_610 ?_
  refine j_callV (rest := [.int x]) (c_X5_ringBell l G hR hS1.eqb hS.1.1.1.2.1 hS1.eqn hS.1.1.1.2.2.1 hS1.mw) (hR.1 _ ⟨by first | assumption | exact Nat.zero_lt_one, rfl⟩) rfl cw_X5_ringBell wl_L_87 wm_X5_ringBell wx_X5_ringBell rfl rfl (Nat.le_of_ble_eq_true rfl) (Nat.le_of_ble_eq_true rfl) (Nat.le_of_ble_eq_true rfl) (show 100 + 9 * c + 0 + 0 ≤ 600000 by omega) (show 5000 + 100 * c + 0 + 0 ≤ 7302250 by omega) dL_law_611 (fun v2 h2 e2 => ?_)
  obtain ⟨y, W, rfl, hR, hy⟩ := e2
  obtain ⟨heq, hS3⟩ := s_ringBell hS hx hy
  refine j_icmp_eq 718 dL_law_614 (by decide) (fun c_614 => ?_) (fun c_614 => ?_)
  · exact law_next hK hR hS3 (by omega) (show 100 + 9 * c + 0 + 0 ≤ _ by omega) (show 5000 + 100 * c + 0 + 0 ≤ _ by omega)
  · exact absurd heq c_614

set_option maxRecDepth 100000 in
set_option maxHeartbeats 4000000 in
theorem law_tower {l : Launch} {G : GG} {nm : String} {b n : Nat} {xs : Nat → Int32} {c : Nat} (hn : n ≤ 2560) (hc : 5 * c + 5 ≤ n) (hK : LawK l G nm b n xs (c + 1)) {ad : NM → Nat} {np nb nn sp : Nat} {Z : ZT} {L : LT} {h : AH} (hR : Rm ad np nb Z L h) (hS : SS np nb nn sp L Z Z) (hsp : sp ≤ c) : J (thL l G nm b n xs) cL_law h (100 + 9 * c, 5000 + 100 * c) (LVL b ad c) 619 [] := by
  refine j_aload_n dL_law_619 rfl ?_
  refine j_aload_n dL_law_620 rfl ?_
  refine j_iload_n dL_law_621 rfl ?_
  refine j_iconst (v := 1) dL_law_622 (by decide) ?_
  refine j_iadd dL_law_623 ?_
  refine l_ld (5 * c + 1) (nI_add (5 * c) 1) (by omega) hn dL_law_624 ?_
  refine j_aload_n dL_law_625 rfl ?_
  refine j_iload_n dL_law_626 rfl ?_
  refine j_iconst (v := 2) dL_law_627 (by decide) ?_
  refine j_iadd dL_law_628 ?_
  refine l_ld (5 * c + 2) (nI_add (5 * c) 2) (by omega) hn dL_law_629 ?_
  refine j_aload_n dL_law_630 rfl ?_
  refine j_iload_n dL_law_631 rfl ?_
  refine j_iconst (v := 3) dL_law_632 (by decide) ?_
  refine j_iadd dL_law_633 ?_
  refine l_ld (5 * c + 3) (nI_add (5 * c) 3) (by omega) hn dL_law_634 ?_
  refine j_callV (rest := []) (c_X4_tower l G hR hS.1.1.2.2.1 hS.1.1.1.2.1) (hR.1 _ ⟨by first | assumption | exact Nat.zero_lt_one, rfl⟩) rfl cw_X4_tower wl_L_88 wm_X4_tower wx_X4_tower rfl rfl (Nat.le_of_ble_eq_true rfl) (Nat.le_of_ble_eq_true rfl) (Nat.le_of_ble_eq_true rfl) (show 100 + 9 * c + 0 ≤ 600000 by omega) (show 5000 + 100 * c + 0 ≤ 7302250 by omega) dL_law_635 (fun v1 h1 e1 => ?_)
  obtain ⟨rfl, hR⟩ := e1
  have hS1 := hS.chB (f_xTower nb (xs (5 * c + 1)) (xs (5 * c + 2)) (xs (5 * c + 3)) Z)
  refine j_aload_n dL_law_638 rfl ?_
  refine j_aload_n dL_law_639 rfl ?_
  refine j_iload_n dL_law_640 rfl ?_
  refine j_iconst (v := 1) dL_law_641 (by decide) ?_
  refine j_iadd dL_law_642 ?_
  refine l_ld (5 * c + 1) (nI_add (5 * c) 1) (by omega) hn dL_law_643 ?_
  refine j_aload_n dL_law_644 rfl ?_
  refine j_iload_n dL_law_645 rfl ?_
  refine j_iconst (v := 2) dL_law_646 (by decide) ?_
  refine j_iadd dL_law_647 ?_
  refine l_ld (5 * c + 2) (nI_add (5 * c) 2) (by omega) hn dL_law_648 ?_
  refine j_aload_n dL_law_649 rfl ?_
  refine j_iload_n dL_law_650 rfl ?_
  refine j_iconst (v := 3) dL_law_651 (by decide) ?_
  refine j_iadd dL_law_652 ?_
  refine l_ld (5 * c + 3) (nI_add (5 * c) 3) (by omega) hn dL_law_653 ?_
  refine j_callV (rest := [.int (xTower nb (xs (5 * c + 1)) (xs (5 * c + 2)) (xs (5 * c + 3)) Z).1]) (c_X5_tower l G hR hS1.eqb hS.1.1.1.2.1 hS1.way) (hR.1 _ ⟨by first | assumption | exact Nat.zero_lt_one, rfl⟩) rfl cw_X5_tower wl_L_91 wm_X5_tower wx_X5_tower rfl rfl (Nat.le_of_ble_eq_true rfl) (Nat.le_of_ble_eq_true rfl) (Nat.le_of_ble_eq_true rfl) (show 100 + 9 * c + 0 + 0 ≤ 600000 by omega) (show 5000 + 100 * c + 0 + 0 ≤ 7302250 by omega) dL_law_654 (fun v2 h2 e2 => ?_)
  obtain ⟨rfl, hR⟩ := e2
  obtain ⟨heq, hS2⟩ := s_tower hS1 (xs (5 * c + 1)) (xs (5 * c + 2)) (xs (5 * c + 3))
  have hS3 := hS2.chA (f_mTower nb (xs (5 * c + 1)) (xs (5 * c + 2)) (xs (5 * c + 3)) (xTower nb (xs (5 * c + 1)) (xs (5 * c + 2)) (xs (5 * c + 3)) Z).2)
  refine j_icmp_eq 718 dL_law_657 (by decide) (fun c_657 => ?_) (fun c_657 => ?_)
  · exact law_next hK hR hS3 (by omega) (show 100 + 9 * c + 0 + 0 ≤ _ by omega) (show 5000 + 100 * c + 0 + 0 ≤ _ by omega)
  · exact absurd heq c_657

set_option maxRecDepth 100000 in
set_option maxHeartbeats 4000000 in
theorem law_hang {l : Launch} {G : GG} {nm : String} {b n : Nat} {xs : Nat → Int32} {c : Nat} (hn : n ≤ 2560) (hc : 5 * c + 5 ≤ n) (hK : LawK l G nm b n xs (c + 1)) {ad : NM → Nat} {np nb nn sp : Nat} {Z : ZT} {L : LT} {h : AH} (hR : Rm ad np nb Z L h) (hS : SS np nb nn sp L Z Z) (hsp : sp ≤ c) : J (thL l G nm b n xs) cL_law h (100 + 9 * c, 5000 + 100 * c) (LVL b ad c) 662 [] := by
  refine j_aload_n dL_law_662 rfl ?_
  refine j_aload_n dL_law_663 rfl ?_
  refine j_iload_n dL_law_664 rfl ?_
  refine j_iconst (v := 1) dL_law_665 (by decide) ?_
  refine j_iadd dL_law_666 ?_
  refine l_ld (5 * c + 1) (nI_add (5 * c) 1) (by omega) hn dL_law_667 ?_
  refine j_aload_n dL_law_668 rfl ?_
  refine j_iload_n dL_law_669 rfl ?_
  refine j_iconst (v := 2) dL_law_670 (by decide) ?_
  refine j_iadd dL_law_671 ?_
  refine l_ld (5 * c + 2) (nI_add (5 * c) 2) (by omega) hn dL_law_672 ?_
  refine j_callV (rest := []) (c_X4_hang l G hR hS.1.1.2.2.1 hS.1.1.1.2.1) (hR.1 _ ⟨by first | assumption | exact Nat.zero_lt_one, rfl⟩) rfl cw_X4_hang wl_L_92 wm_X4_hang wx_X4_hang rfl rfl (Nat.le_of_ble_eq_true rfl) (Nat.le_of_ble_eq_true rfl) (Nat.le_of_ble_eq_true rfl) (show 100 + 9 * c + 0 ≤ 600000 by omega) (show 5000 + 100 * c + 0 ≤ 7302250 by omega) dL_law_673 (fun v1 h1 e1 => ?_)
  obtain ⟨rfl, hR⟩ := e1
  have hS1 := hS.chB (f_xHang nb (xs (5 * c + 1)) (xs (5 * c + 2)) Z)
  refine j_aload_n dL_law_676 rfl ?_
  refine j_aload_n dL_law_677 rfl ?_
  refine j_iload_n dL_law_678 rfl ?_
  refine j_iconst (v := 1) dL_law_679 (by decide) ?_
  refine j_iadd dL_law_680 ?_
  refine l_ld (5 * c + 1) (nI_add (5 * c) 1) (by omega) hn dL_law_681 ?_
  refine j_aload_n dL_law_682 rfl ?_
  refine j_iload_n dL_law_683 rfl ?_
  refine j_iconst (v := 2) dL_law_684 (by decide) ?_
  refine j_iadd dL_law_685 ?_
  refine l_ld (5 * c + 2) (nI_add (5 * c) 2) (by omega) hn dL_law_686 ?_
  refine j_callV (rest := [.int (xHang nb (xs (5 * c + 1)) (xs (5 * c + 2)) Z).1]) (c_X5_hang l G hR hS1.eqb hS.1.1.1.2.1 hS1.way) (hR.1 _ ⟨by first | assumption | exact Nat.zero_lt_one, rfl⟩) rfl cw_X5_hang wl_L_95 wm_X5_hang wx_X5_hang rfl rfl (Nat.le_of_ble_eq_true rfl) (Nat.le_of_ble_eq_true rfl) (Nat.le_of_ble_eq_true rfl) (show 100 + 9 * c + 0 + 0 ≤ 600000 by omega) (show 5000 + 100 * c + 0 + 0 ≤ 7302250 by omega) dL_law_687 (fun v2 h2 e2 => ?_)
  obtain ⟨rfl, hR⟩ := e2
  obtain ⟨heq, hS2⟩ := s_hang hS1 (xs (5 * c + 1)) (xs (5 * c + 2))
  have hS3 := hS2.chA (f_mHang nb (xs (5 * c + 1)) (xs (5 * c + 2)) (xHang nb (xs (5 * c + 1)) (xs (5 * c + 2)) Z).2)
  refine j_icmp_eq 718 dL_law_690 (by decide) (fun c_690 => ?_) (fun c_690 => ?_)
  · exact law_next hK hR hS3 (by omega) (show 100 + 9 * c + 0 + 0 ≤ _ by omega) (show 5000 + 100 * c + 0 + 0 ≤ _ by omega)
  · exact absurd heq c_690

set_option maxRecDepth 100000 in
set_option maxHeartbeats 4000000 in
theorem law_about {l : Launch} {G : GG} {nm : String} {b n : Nat} {xs : Nat → Int32} {c : Nat} (hn : n ≤ 2560) (hc : 5 * c + 5 ≤ n) (hK : LawK l G nm b n xs (c + 1)) {ad : NM → Nat} {np nb nn sp : Nat} {Z : ZT} {L : LT} {h : AH} (hR : Rm ad np nb Z L h) (hS : SS np nb nn sp L Z Z) (hsp : sp ≤ c) : J (thL l G nm b n xs) cL_law h (100 + 9 * c, 5000 + 100 * c) (LVL b ad c) 695 [] := by
  refine j_aload_n dL_law_695 rfl ?_
  refine j_aload_n dL_law_696 rfl ?_
  refine j_iload_n dL_law_697 rfl ?_
  refine j_iconst (v := 1) dL_law_698 (by decide) ?_
  refine j_iadd dL_law_699 ?_
  refine l_ld (5 * c + 1) (nI_add (5 * c) 1) (by omega) hn dL_law_700 ?_
  have hS1 := hS
  refine j_callV (rest := []) (c_X4_about l G hR hS.1.1.2.2.1 hS.1.1.1.2.1) (hR.1 _ ⟨by first | assumption | exact Nat.zero_lt_one, rfl⟩) rfl cw_X4_about wl_L_96 wm_X4_about wx_X4_about rfl rfl (Nat.le_of_ble_eq_true rfl) (Nat.le_of_ble_eq_true rfl) (Nat.le_of_ble_eq_true rfl) (show 100 + 9 * c + 0 ≤ 600000 by omega) (show 5000 + 100 * c + 0 ≤ 7302250 by omega) dL_law_701 (fun v1 h1 e1 => ?_)
  obtain ⟨rfl, hh⟩ := e1
  have hh := hh.symm
  subst hh
  refine j_aload_n dL_law_704 rfl ?_
  refine j_aload_n dL_law_705 rfl ?_
  refine j_iload_n dL_law_706 rfl ?_
  refine j_iconst (v := 1) dL_law_707 (by decide) ?_
  refine j_iadd dL_law_708 ?_
  refine l_ld (5 * c + 1) (nI_add (5 * c) 1) (by omega) hn dL_law_709 ?_
  refine j_callV (rest := [.int (xAbout nb (xs (5 * c + 1)) Z)]) (c_X5_about l G hR hS1.eqb hS.1.1.1.2.1 hS1.way) (hR.1 _ ⟨by first | assumption | exact Nat.zero_lt_one, rfl⟩) rfl cw_X5_about wl_L_99 wm_X5_about wx_X5_about rfl rfl (Nat.le_of_ble_eq_true rfl) (Nat.le_of_ble_eq_true rfl) (Nat.le_of_ble_eq_true rfl) (show 100 + 9 * c + 0 + 0 ≤ 600000 by omega) (show 5000 + 100 * c + 0 + 0 ≤ 7302250 by omega) dL_law_710 (fun v2 h2 e2 => ?_)
  obtain ⟨rfl, hh⟩ := e2
  have hh := hh.symm
  subst hh
  refine j_icmp_eq 718 dL_law_713 (by decide) (fun c_713 => ?_) (fun c_713 => ?_)
  · exact law_next hK hR hS (by omega) (show 100 + 9 * c + 0 + 0 ≤ _ by omega) (show 5000 + 100 * c + 0 + 0 ≤ _ by omega)
  · exact absurd (s_about hS (xs (5 * c + 1))) c_713

