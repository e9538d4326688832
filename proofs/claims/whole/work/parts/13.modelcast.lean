def cpZ (Y : ZT) (d : NM) (i : Nat) (s : NM) (j : Nat) : ZT := upZ Y d i (Y s j)
def mCastW (Z : ZT) (p : Nat) : Int32 := wsum (Z (5, 0, 2) p) (fun i => Z (5, 0, 5) (8 * p + i)) (fun i => Z (5, 0, 3) (8 * p + i)) 8
def mOldM (Z : ZT) (p : Nat) : Int32 := if Z (5, 0, 0) 20 ≤ mCastW Z p then Z (5, 0, 0) 20 else mCastW Z p
def mNew (Z : ZT) (p : Nat) : Int32 := mCastW Z p - mOldM Z p
def mCop (Z : ZT) (p : Nat) : Int32 := (77 * mNew Z p + 99) / 100
def mC1 (Z : ZT) (p : Nat) : ZT := upZ Z (5, 0, 0) 20 (Z (5, 0, 0) 20 - mOldM Z p)
def mC2 (Z : ZT) (p : Nat) : ZT := upZ (mC1 Z p) (5, 0, 0) 18 (mC1 Z p (5, 0, 0) 18 - mCop Z p)
def mC3 (Z : ZT) (p : Nat) : ZT := upZ (mC2 Z p) (5, 0, 0) 19 (mC2 Z p (5, 0, 0) 19 - (mNew Z p - mCop Z p))
def mC4 (Z : ZT) (p : Nat) : ZT := upZ (mC3 Z p) (5, 0, 0) 7 (mC3 Z p (5, 0, 0) 7 + 1)
def mC5 (Z : ZT) (p mb : Nat) : ZT := cpZ (upZ (mC4 Z p) (5, 0, 9) mb (nI p)) (5, 0, 10) mb (5, 0, 2) p
def cs1 (p mb i : Nat) (Y : ZT) : ZT := cpZ (cpZ (cpZ Y (5, 0, 11) (8 * mb + i) (5, 0, 3) (8 * p + i)) (5, 0, 12) (8 * mb + i) (5, 0, 4) (8 * p + i)) (5, 0, 13) (8 * mb + i) (5, 0, 5) (8 * p + i)
def cs2 (p mb i : Nat) (Y : ZT) : ZT := cpZ Y (5, 0, 14) (5 * mb + i) (5, 0, 6) (5 * p + i)
def cs3 (p mb i : Nat) (Y : ZT) : ZT := cpZ Y (5, 0, 15) (40 * mb + i) (5, 0, 7) (40 * p + i)
def mC6 (Z : ZT) (p mb : Nat) : ZT := itZ (cs1 p mb) (mC5 Z p mb) 8
def mC7 (Z : ZT) (p mb : Nat) : ZT := itZ (cs2 p mb) (mC6 Z p mb) 5
def mC8 (Z : ZT) (p mb : Nat) : ZT := itZ (cs3 p mb) (mC7 Z p mb) 40
def mC9 (Z : ZT) (p mb : Nat) : ZT := upZ (mC8 Z p mb) (5, 0, 18) mb (-1)
def mCast (mb : Nat) (p : Int32) (Z : ZT) : Int32 × ZT :=
  if iw p 0 (Z (5, 0, 0) 0 - 1) && !decide (Z (5, 0, 0) 7 = 24) && !decide (Z (5, 0, 0) 18 < mCop Z (cl p)) && decide (mNew Z (cl p) - mCop Z (cl p) ≤ Z (5, 0, 0) 19) then (nI mb, mC9 Z (cl p) mb) else (-1, Z)
theorem xi40' (b i : Nat) : 40 * nI b + nI i = nI (40 * b + i) := by
  rw [show (40 : Int32) = nI 40 from rfl, pk_mul, nI_add]
set_option maxRecDepth 100000 in
set_option maxHeartbeats 4000000 in
theorem c_X5_cast (l : Launch) (G : GG) {ad : NM → Nat} {np nb : Nat} {Z : ZT} {L : LT} {h : AH} (hR : Rm ad np nb Z L h) {mb : Nat} (hmb : Z (5, 0, 0) 7 = nI mb) (hm : mb ≤ 24) {mp : Nat} (hmp : Z (5, 0, 0) 0 = nI mp) (hp4 : mp ≤ 4) {p : Int32} : Con l G mX5_cast 1 0 0 [.ref (ad (5, 0, 0)), .int p] h (fun r h2 => r = some (.int (mCast mb p Z).1) ∧ Rm ad np nb (mCast mb p Z).2 L h2) := by
  refine Con.of 6 rfl (Nat.le_of_ble_eq_true rfl) ?_
  refine j_iload_n dX5_cast_0 rfl ?_
  refine j_iconst (v := 0) dX5_cast_1 (by decide) ?_
  refine j_aload_n dX5_cast_2 rfl ?_
  refine gX5_94 rfl (hR.1 _ ⟨by first | assumption | exact Nat.zero_lt_one, rfl⟩) rfl dX5_cast_3 ?_
  refine j_iconst (v := 1) dX5_cast_6 (by decide) ?_
  refine j_isub dX5_cast_7 ?_
  refine j_callS (rest := []) (c_X5_in l G) cw_X5_in wl_X5_90 ws_X5_in rfl rfl (Nat.le_of_ble_eq_true rfl) (Nat.le_of_ble_eq_true rfl) (Nat.le_of_ble_eq_true rfl) (Nat.le_of_ble_eq_true rfl) (Nat.le_of_ble_eq_true rfl) dX5_cast_8 (fun v_8 h_8 e_8 => ?_)
  obtain ⟨rfl, hh⟩ := e_8
  have hh := hh.symm
  subst hh
  refine j_if_eq 23 dX5_cast_11 (by decide) (fun c_11 => ?_) (fun c_11 => ?_)
  · have g_11 := (bi_eq0 _).mp c_11
    refine j_iconst (v := (-1)) dX5_cast_23 (by decide) ?_
    refine j_iret rfl (Nat.le_of_ble_eq_true rfl) (Nat.le_of_ble_eq_true rfl) dX5_cast_24 ?_
    exact ⟨by simp [mCast, g_11], by simpa [mCast, g_11] using hR⟩
  · have g_11 := (bi_ne0 _).mp c_11
    obtain ⟨p, hp, rfl, hclp⟩ := iw_lt (by omega) (hmp ▸ g_11)
    have hclp : cl (nI p) = p := hclp
    refine j_aload_n dX5_cast_14 rfl ?_
    refine gX5_86 rfl (hR.1 _ ⟨by first | assumption | exact Nat.zero_lt_one, rfl⟩) rfl dX5_cast_15 ?_
    refine j_bipush (v := 24) dX5_cast_18 (by decide) ?_
    refine j_icmp_ne 25 dX5_cast_20 (by decide) (fun c_20 => ?_) (fun c_20 => ?_)
    · have hmlt : mb < 24 := by
        rcases Nat.lt_or_ge mb 24 with q | q
        · exact q
        · obtain rfl : mb = 24 := by omega
          exact absurd hmb c_20
      refine j_aload_n dX5_cast_25 rfl ?_
      refine gX5_7 rfl (hR.1 _ ⟨by first | assumption | exact Nat.zero_lt_one, rfl⟩) rfl dX5_cast_26 ?_
      refine j_iload_n dX5_cast_29 rfl ?_
      refine j_iald (hR.1 _ ⟨by first | assumption | exact Nat.zero_lt_one, rfl⟩) p rfl (by omega) (by decide) dX5_cast_30 ?_
      refine j_istore_n dX5_cast_31 (Nat.le_of_ble_eq_true rfl) rfl ?_
      refine j_bipush (v := 8) dX5_cast_32 (by decide) ?_
      refine j_iload_n dX5_cast_34 rfl ?_
      refine j_imul dX5_cast_35 ?_
      refine j_istore_n dX5_cast_36 (Nat.le_of_ble_eq_true rfl) rfl ?_
      have k00 : J (thM l G mX5_cast 1 0 0 (fun r h2 => r = some (.int (mCast mb (nI p) Z).1) ∧ Rm ad np nb (mCast mb (nI p) Z).2 L h2)) cX5_cast h (0, 0) [some (.ref (ad (5, 0, 0))), some (.int (nI p)), some (.int (mCastW Z p)), some (.int (nI (8 * p + 8))), none, none, none, none] 70 [] := by
        refine j_iload_n dX5_cast_70 rfl ?_
        refine j_aload_n dX5_cast_71 rfl ?_
        refine gX5_105 rfl (hR.1 _ ⟨by first | assumption | exact Nat.zero_lt_one, rfl⟩) rfl dX5_cast_72 ?_
        refine j_icmp_ge 82 dX5_cast_75 (by decide) (fun c_75 => ?_) (fun c_75 => ?_)
        · have eo : mOldM Z p = Z (5, 0, 0) 20 := if_pos c_75
          refine j_aload_n dX5_cast_82 rfl ?_
          refine gX5_105 rfl (hR.1 _ ⟨by first | assumption | exact Nat.zero_lt_one, rfl⟩) rfl dX5_cast_83 ?_
          refine J.eqst (st' := [.int (mOldM Z p)]) (by rw [eo]) ?_
          refine j_istore_n dX5_cast_86 (Nat.le_of_ble_eq_true rfl) rfl ?_
          refine j_iload_n dX5_cast_87 rfl ?_
          refine j_iload_n dX5_cast_88 rfl ?_
          refine j_isub dX5_cast_89 ?_
          rw [show mCastW Z p - mOldM Z p = mNew Z p from rfl]
          refine j_istore dX5_cast_90 (Nat.le_of_ble_eq_true rfl) rfl ?_
          refine j_bipush (v := 77) dX5_cast_92 (by decide) ?_
          refine j_iload dX5_cast_94 rfl ?_
          refine j_imul dX5_cast_96 ?_
          refine j_bipush (v := 99) dX5_cast_97 (by decide) ?_
          refine j_iadd dX5_cast_99 ?_
          refine j_bipush (v := 100) dX5_cast_100 (by decide) ?_
          refine j_idiv dX5_cast_102 (by decide) ?_
          rw [show (77 * mNew Z p + 99) / 100 = mCop Z p from rfl]
          refine j_istore dX5_cast_103 (Nat.le_of_ble_eq_true rfl) rfl ?_
          refine j_iload dX5_cast_105 rfl ?_
          refine j_aload_n dX5_cast_107 rfl ?_
          refine gX5_98 rfl (hR.1 _ ⟨by first | assumption | exact Nat.zero_lt_one, rfl⟩) rfl dX5_cast_108 ?_
          refine j_icmp_gt 126 dX5_cast_111 (by decide) (fun c_111 => ?_) (fun c_111 => ?_)
          · refine j_iconst (v := (-1)) dX5_cast_126 (by decide) ?_
            refine j_iret rfl (Nat.le_of_ble_eq_true rfl) (Nat.le_of_ble_eq_true rfl) dX5_cast_127 ?_
            exact ⟨by simp [mCast, g_11, hclp, c_20, c_111], by simpa [mCast, g_11, hclp, c_20, c_111] using hR⟩
          · refine j_iload dX5_cast_114 rfl ?_
            refine j_iload dX5_cast_116 rfl ?_
            refine j_isub dX5_cast_118 ?_
            refine j_aload_n dX5_cast_119 rfl ?_
            refine gX5_102 rfl (hR.1 _ ⟨by first | assumption | exact Nat.zero_lt_one, rfl⟩) rfl dX5_cast_120 ?_
            refine j_icmp_le 128 dX5_cast_123 (by decide) (fun c_123 => ?_) (fun c_123 => ?_)
            · skip
              have k3 : ∀ nn i, 40 < i + nn → i ≤ 40 → ∀ h, Rm ad np nb (itZ (cs3 p mb) (mC7 Z p mb) i) L h → J (thM l G mX5_cast 1 0 0 (fun r h2 => r = some (.int (mCast mb (nI p) Z).1) ∧ Rm ad np nb (mCast mb (nI p) Z).2 L h2)) cX5_cast h (0, 0) [some (.ref (ad (5, 0, 0))), some (.int (nI p)), some (.int (mCastW Z p)), some (.int (mOldM Z p)), some (.int (mNew Z p)), some (.int (mCop Z p)), some (.int (nI mb)), some (.int (nI i))] 332 [] := by
                intro nn
                induction nn with
                | zero => intro i h1 h2; omega
                | succ nn ih =>
                  intro i h1 h2 h hR
                  refine j_iload dX5_cast_332 rfl ?_
                  refine j_bipush (v := 40) dX5_cast_334 (by decide) ?_
                  refine j_icmp_ge 370 dX5_cast_336 (by decide) (fun c_336 => ?_) (fun c_336 => ?_)
                  · have hl336 : 40 ≤ i := (nI_leI (a := 40) (b := i) (by omega) (by omega)).mp c_336
                    obtain rfl : i = 40 := by omega
                    refine j_aload_n dX5_cast_370 rfl ?_
                    refine gX5_56 rfl (hR.1 _ ⟨by first | assumption | exact Nat.zero_lt_one, rfl⟩) rfl dX5_cast_371 ?_
                    refine j_iload dX5_cast_374 rfl ?_
                    refine j_iconst (v := (-1)) dX5_cast_376 (by decide) ?_
                    refine r_iast hR ⟨by first | assumption | exact Nat.zero_lt_one, rfl⟩ (fun _ => rfl) mb rfl hmlt (by decide) dX5_cast_377 (fun h hR => ?_)
                    refine j_iload dX5_cast_378 rfl ?_
                    refine j_iret rfl (Nat.le_of_ble_eq_true rfl) (Nat.le_of_ble_eq_true rfl) dX5_cast_380 ?_
                    exact ⟨by simp [mCast, g_11, hclp, c_20, c_111, c_123], by simpa [mCast, g_11, hclp, c_20, c_111, c_123, mC9, mC8] using hR⟩
                  · have hl336 : i < 40 := Nat.not_le.mp (fun q => c_336 ((nI_leI (a := 40) (b := i) (by omega) (by omega)).mpr q))
                    refine j_aload_n dX5_cast_339 rfl ?_
                    refine gX5_46 rfl (hR.1 _ ⟨by first | assumption | exact Nat.zero_lt_one, rfl⟩) rfl dX5_cast_340 ?_
                    refine j_bipush (v := 40) dX5_cast_343 (by decide) ?_
                    refine j_iload dX5_cast_345 rfl ?_
                    refine j_imul dX5_cast_347 ?_
                    refine j_iload dX5_cast_348 rfl ?_
                    refine j_iadd dX5_cast_350 ?_
                    refine j_aload_n dX5_cast_351 rfl ?_
                    refine gX5_25 rfl (hR.1 _ ⟨by first | assumption | exact Nat.zero_lt_one, rfl⟩) rfl dX5_cast_352 ?_
                    refine j_bipush (v := 40) dX5_cast_355 (by decide) ?_
                    refine j_iload_n dX5_cast_357 rfl ?_
                    refine j_imul dX5_cast_358 ?_
                    refine j_iload dX5_cast_359 rfl ?_
                    refine j_iadd dX5_cast_361 ?_
                    refine j_iald (hR.1 _ ⟨by first | assumption | exact Nat.zero_lt_one, rfl⟩) (40 * p + i) (xi40' p i) (by omega) (by decide) dX5_cast_362 ?_
                    refine r_iast hR ⟨by first | assumption | exact Nat.zero_lt_one, rfl⟩ (fun _ => rfl) (40 * mb + i) (xi40' mb i) (by omega) (by decide) dX5_cast_363 (fun h hR => ?_)
                    refine j_iinc dX5_cast_364 rfl (nI_inc _) (Nat.le_of_ble_eq_true rfl) rfl ?_
                    refine j_goto 332 dX5_cast_367 (by decide) ?_
                    exact ih (i + 1) (by omega) (by omega) _ hR
              have k2 : ∀ nn i, 5 < i + nn → i ≤ 5 → ∀ h, Rm ad np nb (itZ (cs2 p mb) (mC6 Z p mb) i) L h → J (thM l G mX5_cast 1 0 0 (fun r h2 => r = some (.int (mCast mb (nI p) Z).1) ∧ Rm ad np nb (mCast mb (nI p) Z).2 L h2)) cX5_cast h (0, 0) [some (.ref (ad (5, 0, 0))), some (.int (nI p)), some (.int (mCastW Z p)), some (.int (mOldM Z p)), some (.int (mNew Z p)), some (.int (mCop Z p)), some (.int (nI mb)), some (.int (nI i))] 294 [] := by
                intro nn
                induction nn with
                | zero => intro i h1 h2; omega
                | succ nn ih =>
                  intro i h1 h2 h hR
                  refine j_iload dX5_cast_294 rfl ?_
                  refine j_iconst (v := 5) dX5_cast_296 (by decide) ?_
                  refine j_icmp_ge 329 dX5_cast_297 (by decide) (fun c_297 => ?_) (fun c_297 => ?_)
                  · have hl297 : 5 ≤ i := (nI_leI (a := 5) (b := i) (by omega) (by omega)).mp c_297
                    obtain rfl : i = 5 := by omega
                    refine j_iconst (v := 0) dX5_cast_329 (by decide) ?_
                    refine j_istore dX5_cast_330 (Nat.le_of_ble_eq_true rfl) rfl ?_
                    exact k3 41 0 (by omega) (by omega) _ hR
                  · have hl297 : i < 5 := Nat.not_le.mp (fun q => c_297 ((nI_leI (a := 5) (b := i) (by omega) (by omega)).mpr q))
                    refine j_aload_n dX5_cast_300 rfl ?_
                    refine gX5_43 rfl (hR.1 _ ⟨by first | assumption | exact Nat.zero_lt_one, rfl⟩) rfl dX5_cast_301 ?_
                    refine j_iconst (v := 5) dX5_cast_304 (by decide) ?_
                    refine j_iload dX5_cast_305 rfl ?_
                    refine j_imul dX5_cast_307 ?_
                    refine j_iload dX5_cast_308 rfl ?_
                    refine j_iadd dX5_cast_310 ?_
                    refine j_aload_n dX5_cast_311 rfl ?_
                    refine gX5_22 rfl (hR.1 _ ⟨by first | assumption | exact Nat.zero_lt_one, rfl⟩) rfl dX5_cast_312 ?_
                    refine j_iconst (v := 5) dX5_cast_315 (by decide) ?_
                    refine j_iload_n dX5_cast_316 rfl ?_
                    refine j_imul dX5_cast_317 ?_
                    refine j_iload dX5_cast_318 rfl ?_
                    refine j_iadd dX5_cast_320 ?_
                    refine j_iald (hR.1 _ ⟨by first | assumption | exact Nat.zero_lt_one, rfl⟩) (5 * p + i) (xi5 p i) (by omega) (by decide) dX5_cast_321 ?_
                    refine r_iast hR ⟨by first | assumption | exact Nat.zero_lt_one, rfl⟩ (fun _ => rfl) (5 * mb + i) (xi5 mb i) (by omega) (by decide) dX5_cast_322 (fun h hR => ?_)
                    refine j_iinc dX5_cast_323 rfl (nI_inc _) (Nat.le_of_ble_eq_true rfl) rfl ?_
                    refine j_goto 294 dX5_cast_326 (by decide) ?_
                    exact ih (i + 1) (by omega) (by omega) _ hR
              have k1 : ∀ nn i, 8 < i + nn → i ≤ 8 → ∀ h, Rm ad np nb (itZ (cs1 p mb) (mC5 Z p mb) i) L h → J (thM l G mX5_cast 1 0 0 (fun r h2 => r = some (.int (mCast mb (nI p) Z).1) ∧ Rm ad np nb (mCast mb (nI p) Z).2 L h2)) cX5_cast h (0, 0) [some (.ref (ad (5, 0, 0))), some (.int (nI p)), some (.int (mCastW Z p)), some (.int (mOldM Z p)), some (.int (mNew Z p)), some (.int (mCop Z p)), some (.int (nI mb)), some (.int (nI i))] 203 [] := by
                intro nn
                induction nn with
                | zero => intro i h1 h2; omega
                | succ nn ih =>
                  intro i h1 h2 h hR
                  refine j_iload dX5_cast_203 rfl ?_
                  refine j_bipush (v := 8) dX5_cast_205 (by decide) ?_
                  refine j_icmp_ge 291 dX5_cast_207 (by decide) (fun c_207 => ?_) (fun c_207 => ?_)
                  · have hl207 : 8 ≤ i := (nI_leI (a := 8) (b := i) (by omega) (by omega)).mp c_207
                    obtain rfl : i = 8 := by omega
                    refine j_iconst (v := 0) dX5_cast_291 (by decide) ?_
                    refine j_istore dX5_cast_292 (Nat.le_of_ble_eq_true rfl) rfl ?_
                    exact k2 6 0 (by omega) (by omega) _ hR
                  · have hl207 : i < 8 := Nat.not_le.mp (fun q => c_207 ((nI_leI (a := 8) (b := i) (by omega) (by omega)).mpr q))
                    refine j_aload_n dX5_cast_210 rfl ?_
                    refine gX5_34 rfl (hR.1 _ ⟨by first | assumption | exact Nat.zero_lt_one, rfl⟩) rfl dX5_cast_211 ?_
                    refine j_bipush (v := 8) dX5_cast_214 (by decide) ?_
                    refine j_iload dX5_cast_216 rfl ?_
                    refine j_imul dX5_cast_218 ?_
                    refine j_iload dX5_cast_219 rfl ?_
                    refine j_iadd dX5_cast_221 ?_
                    refine j_aload_n dX5_cast_222 rfl ?_
                    refine gX5_13 rfl (hR.1 _ ⟨by first | assumption | exact Nat.zero_lt_one, rfl⟩) rfl dX5_cast_223 ?_
                    refine j_bipush (v := 8) dX5_cast_226 (by decide) ?_
                    refine j_iload_n dX5_cast_228 rfl ?_
                    refine j_imul dX5_cast_229 ?_
                    refine j_iload dX5_cast_230 rfl ?_
                    refine j_iadd dX5_cast_232 ?_
                    refine j_iald (hR.1 _ ⟨by first | assumption | exact Nat.zero_lt_one, rfl⟩) (8 * p + i) (xi8 p i) (by omega) (by decide) dX5_cast_233 ?_
                    refine r_iast hR ⟨by first | assumption | exact Nat.zero_lt_one, rfl⟩ (fun _ => rfl) (8 * mb + i) (xi8 mb i) (by omega) (by decide) dX5_cast_234 (fun h hR => ?_)
                    refine j_aload_n dX5_cast_235 rfl ?_
                    refine gX5_37 rfl (hR.1 _ ⟨by first | assumption | exact Nat.zero_lt_one, rfl⟩) rfl dX5_cast_236 ?_
                    refine j_bipush (v := 8) dX5_cast_239 (by decide) ?_
                    refine j_iload dX5_cast_241 rfl ?_
                    refine j_imul dX5_cast_243 ?_
                    refine j_iload dX5_cast_244 rfl ?_
                    refine j_iadd dX5_cast_246 ?_
                    refine j_aload_n dX5_cast_247 rfl ?_
                    refine gX5_16 rfl (hR.1 _ ⟨by first | assumption | exact Nat.zero_lt_one, rfl⟩) rfl dX5_cast_248 ?_
                    refine j_bipush (v := 8) dX5_cast_251 (by decide) ?_
                    refine j_iload_n dX5_cast_253 rfl ?_
                    refine j_imul dX5_cast_254 ?_
                    refine j_iload dX5_cast_255 rfl ?_
                    refine j_iadd dX5_cast_257 ?_
                    refine j_iald (hR.1 _ ⟨by first | assumption | exact Nat.zero_lt_one, rfl⟩) (8 * p + i) (xi8 p i) (by omega) (by decide) dX5_cast_258 ?_
                    refine r_iast hR ⟨by first | assumption | exact Nat.zero_lt_one, rfl⟩ (fun _ => rfl) (8 * mb + i) (xi8 mb i) (by omega) (by decide) dX5_cast_259 (fun h hR => ?_)
                    refine j_aload_n dX5_cast_260 rfl ?_
                    refine gX5_40 rfl (hR.1 _ ⟨by first | assumption | exact Nat.zero_lt_one, rfl⟩) rfl dX5_cast_261 ?_
                    refine j_bipush (v := 8) dX5_cast_264 (by decide) ?_
                    refine j_iload dX5_cast_266 rfl ?_
                    refine j_imul dX5_cast_268 ?_
                    refine j_iload dX5_cast_269 rfl ?_
                    refine j_iadd dX5_cast_271 ?_
                    refine j_aload_n dX5_cast_272 rfl ?_
                    refine gX5_19 rfl (hR.1 _ ⟨by first | assumption | exact Nat.zero_lt_one, rfl⟩) rfl dX5_cast_273 ?_
                    refine j_bipush (v := 8) dX5_cast_276 (by decide) ?_
                    refine j_iload_n dX5_cast_278 rfl ?_
                    refine j_imul dX5_cast_279 ?_
                    refine j_iload dX5_cast_280 rfl ?_
                    refine j_iadd dX5_cast_282 ?_
                    refine j_iald (hR.1 _ ⟨by first | assumption | exact Nat.zero_lt_one, rfl⟩) (8 * p + i) (xi8 p i) (by omega) (by decide) dX5_cast_283 ?_
                    refine r_iast hR ⟨by first | assumption | exact Nat.zero_lt_one, rfl⟩ (fun _ => rfl) (8 * mb + i) (xi8 mb i) (by omega) (by decide) dX5_cast_284 (fun h hR => ?_)
                    refine j_iinc dX5_cast_285 rfl (nI_inc _) (Nat.le_of_ble_eq_true rfl) rfl ?_
                    refine j_goto 203 dX5_cast_288 (by decide) ?_
                    exact ih (i + 1) (by omega) (by omega) _ hR
              refine j_aload_n dX5_cast_128 rfl ?_
              refine j_dup dX5_cast_129 rfl ?_
              refine gX5_105 rfl (hR.1 _ ⟨by first | assumption | exact Nat.zero_lt_one, rfl⟩) rfl dX5_cast_130 ?_
              refine j_iload_n dX5_cast_133 rfl ?_
              refine j_isub dX5_cast_134 ?_
              refine qX5_105 rfl hR dX5_cast_135 (fun h hR => ?_)
              refine j_aload_n dX5_cast_138 rfl ?_
              refine j_dup dX5_cast_139 rfl ?_
              refine gX5_98 rfl (hR.1 _ ⟨by first | assumption | exact Nat.zero_lt_one, rfl⟩) rfl dX5_cast_140 ?_
              refine j_iload dX5_cast_143 rfl ?_
              refine j_isub dX5_cast_145 ?_
              refine qX5_98 rfl hR dX5_cast_146 (fun h hR => ?_)
              refine j_aload_n dX5_cast_149 rfl ?_
              refine j_dup dX5_cast_150 rfl ?_
              refine gX5_102 rfl (hR.1 _ ⟨by first | assumption | exact Nat.zero_lt_one, rfl⟩) rfl dX5_cast_151 ?_
              refine j_iload dX5_cast_154 rfl ?_
              refine j_iload dX5_cast_156 rfl ?_
              refine j_isub dX5_cast_158 ?_
              refine j_isub dX5_cast_159 ?_
              refine qX5_102 rfl hR dX5_cast_160 (fun h hR => ?_)
              refine j_aload_n dX5_cast_163 rfl ?_
              refine gX5_86 rfl (hR.1 _ ⟨by first | assumption | exact Nat.zero_lt_one, rfl⟩) rfl dX5_cast_164 ?_
              rw [show upZ (upZ (upZ Z (5, 0, 0) 20 (Z (5, 0, 0) 20 - mOldM Z p)) (5, 0, 0) 18 (upZ Z (5, 0, 0) 20 (Z (5, 0, 0) 20 - mOldM Z p) (5, 0, 0) 18 - mCop Z p)) (5, 0, 0) 19 (upZ (upZ Z (5, 0, 0) 20 (Z (5, 0, 0) 20 - mOldM Z p)) (5, 0, 0) 18 (upZ Z (5, 0, 0) 20 (Z (5, 0, 0) 20 - mOldM Z p) (5, 0, 0) 18 - mCop Z p) (5, 0, 0) 19 - (mNew Z p - mCop Z p)) (5, 0, 0) 7 = nI mb by
                rw [upZ_nk (Or.inr (by decide)), upZ_nk (Or.inr (by decide)), upZ_nk (Or.inr (by decide))]
                exact hmb]
              refine j_istore dX5_cast_167 (Nat.le_of_ble_eq_true rfl) rfl ?_
              refine j_aload_n dX5_cast_169 rfl ?_
              refine j_dup dX5_cast_170 rfl ?_
              refine gX5_86 rfl (hR.1 _ ⟨by first | assumption | exact Nat.zero_lt_one, rfl⟩) rfl dX5_cast_171 ?_
              refine j_iconst (v := 1) dX5_cast_174 (by decide) ?_
              refine j_iadd dX5_cast_175 ?_
              refine qX5_86 rfl hR dX5_cast_176 (fun h hR => ?_)
              refine j_aload_n dX5_cast_179 rfl ?_
              refine gX5_28 rfl (hR.1 _ ⟨by first | assumption | exact Nat.zero_lt_one, rfl⟩) rfl dX5_cast_180 ?_
              refine j_iload dX5_cast_183 rfl ?_
              refine j_iload_n dX5_cast_185 rfl ?_
              refine r_iast hR ⟨by first | assumption | exact Nat.zero_lt_one, rfl⟩ (fun _ => rfl) mb rfl hmlt (by decide) dX5_cast_186 (fun h hR => ?_)
              refine j_aload_n dX5_cast_187 rfl ?_
              refine gX5_31 rfl (hR.1 _ ⟨by first | assumption | exact Nat.zero_lt_one, rfl⟩) rfl dX5_cast_188 ?_
              refine j_iload dX5_cast_191 rfl ?_
              refine j_aload_n dX5_cast_193 rfl ?_
              refine gX5_7 rfl (hR.1 _ ⟨by first | assumption | exact Nat.zero_lt_one, rfl⟩) rfl dX5_cast_194 ?_
              refine j_iload_n dX5_cast_197 rfl ?_
              refine j_iald (hR.1 _ ⟨by first | assumption | exact Nat.zero_lt_one, rfl⟩) p rfl (by omega) (by decide) dX5_cast_198 ?_
              refine r_iast hR ⟨by first | assumption | exact Nat.zero_lt_one, rfl⟩ (fun _ => rfl) mb rfl hmlt (by decide) dX5_cast_199 (fun h hR => ?_)
              refine j_iconst (v := 0) dX5_cast_200 (by decide) ?_
              refine j_istore dX5_cast_201 (Nat.le_of_ble_eq_true rfl) rfl ?_
              exact k1 9 0 (by omega) (by omega) _ hR
            · refine j_iconst (v := (-1)) dX5_cast_126 (by decide) ?_
              refine j_iret rfl (Nat.le_of_ble_eq_true rfl) (Nat.le_of_ble_eq_true rfl) dX5_cast_127 ?_
              exact ⟨by simp [mCast, g_11, hclp, c_20, c_111, c_123], by simpa [mCast, g_11, hclp, c_20, c_111, c_123] using hR⟩
        · have eo : mOldM Z p = mCastW Z p := if_neg c_75
          refine j_iload_n dX5_cast_78 rfl ?_
          refine j_goto 86 dX5_cast_79 (by decide) ?_
          refine J.eqst (st' := [.int (mOldM Z p)]) (by rw [eo]) ?_
          refine j_istore_n dX5_cast_86 (Nat.le_of_ble_eq_true rfl) rfl ?_
          refine j_iload_n dX5_cast_87 rfl ?_
          refine j_iload_n dX5_cast_88 rfl ?_
          refine j_isub dX5_cast_89 ?_
          rw [show mCastW Z p - mOldM Z p = mNew Z p from rfl]
          refine j_istore dX5_cast_90 (Nat.le_of_ble_eq_true rfl) rfl ?_
          refine j_bipush (v := 77) dX5_cast_92 (by decide) ?_
          refine j_iload dX5_cast_94 rfl ?_
          refine j_imul dX5_cast_96 ?_
          refine j_bipush (v := 99) dX5_cast_97 (by decide) ?_
          refine j_iadd dX5_cast_99 ?_
          refine j_bipush (v := 100) dX5_cast_100 (by decide) ?_
          refine j_idiv dX5_cast_102 (by decide) ?_
          rw [show (77 * mNew Z p + 99) / 100 = mCop Z p from rfl]
          refine j_istore dX5_cast_103 (Nat.le_of_ble_eq_true rfl) rfl ?_
          refine j_iload dX5_cast_105 rfl ?_
          refine j_aload_n dX5_cast_107 rfl ?_
          refine gX5_98 rfl (hR.1 _ ⟨by first | assumption | exact Nat.zero_lt_one, rfl⟩) rfl dX5_cast_108 ?_
          refine j_icmp_gt 126 dX5_cast_111 (by decide) (fun c_111 => ?_) (fun c_111 => ?_)
          · refine j_iconst (v := (-1)) dX5_cast_126 (by decide) ?_
            refine j_iret rfl (Nat.le_of_ble_eq_true rfl) (Nat.le_of_ble_eq_true rfl) dX5_cast_127 ?_
            exact ⟨by simp [mCast, g_11, hclp, c_20, c_111], by simpa [mCast, g_11, hclp, c_20, c_111] using hR⟩
          · refine j_iload dX5_cast_114 rfl ?_
            refine j_iload dX5_cast_116 rfl ?_
            refine j_isub dX5_cast_118 ?_
            refine j_aload_n dX5_cast_119 rfl ?_
            refine gX5_102 rfl (hR.1 _ ⟨by first | assumption | exact Nat.zero_lt_one, rfl⟩) rfl dX5_cast_120 ?_
            refine j_icmp_le 128 dX5_cast_123 (by decide) (fun c_123 => ?_) (fun c_123 => ?_)
            · skip
              have k3 : ∀ nn i, 40 < i + nn → i ≤ 40 → ∀ h, Rm ad np nb (itZ (cs3 p mb) (mC7 Z p mb) i) L h → J (thM l G mX5_cast 1 0 0 (fun r h2 => r = some (.int (mCast mb (nI p) Z).1) ∧ Rm ad np nb (mCast mb (nI p) Z).2 L h2)) cX5_cast h (0, 0) [some (.ref (ad (5, 0, 0))), some (.int (nI p)), some (.int (mCastW Z p)), some (.int (mOldM Z p)), some (.int (mNew Z p)), some (.int (mCop Z p)), some (.int (nI mb)), some (.int (nI i))] 332 [] := by
                intro nn
                induction nn with
                | zero => intro i h1 h2; omega
                | succ nn ih =>
                  intro i h1 h2 h hR
                  refine j_iload dX5_cast_332 rfl ?_
                  refine j_bipush (v := 40) dX5_cast_334 (by decide) ?_
                  refine j_icmp_ge 370 dX5_cast_336 (by decide) (fun c_336 => ?_) (fun c_336 => ?_)
                  · have hl336 : 40 ≤ i := (nI_leI (a := 40) (b := i) (by omega) (by omega)).mp c_336
                    obtain rfl : i = 40 := by omega
                    refine j_aload_n dX5_cast_370 rfl ?_
                    refine gX5_56 rfl (hR.1 _ ⟨by first | assumption | exact Nat.zero_lt_one, rfl⟩) rfl dX5_cast_371 ?_
                    refine j_iload dX5_cast_374 rfl ?_
                    refine j_iconst (v := (-1)) dX5_cast_376 (by decide) ?_
                    refine r_iast hR ⟨by first | assumption | exact Nat.zero_lt_one, rfl⟩ (fun _ => rfl) mb rfl hmlt (by decide) dX5_cast_377 (fun h hR => ?_)
                    refine j_iload dX5_cast_378 rfl ?_
                    refine j_iret rfl (Nat.le_of_ble_eq_true rfl) (Nat.le_of_ble_eq_true rfl) dX5_cast_380 ?_
                    exact ⟨by simp [mCast, g_11, hclp, c_20, c_111, c_123], by simpa [mCast, g_11, hclp, c_20, c_111, c_123, mC9, mC8] using hR⟩
                  · have hl336 : i < 40 := Nat.not_le.mp (fun q => c_336 ((nI_leI (a := 40) (b := i) (by omega) (by omega)).mpr q))
                    refine j_aload_n dX5_cast_339 rfl ?_
                    refine gX5_46 rfl (hR.1 _ ⟨by first | assumption | exact Nat.zero_lt_one, rfl⟩) rfl dX5_cast_340 ?_
                    refine j_bipush (v := 40) dX5_cast_343 (by decide) ?_
                    refine j_iload dX5_cast_345 rfl ?_
                    refine j_imul dX5_cast_347 ?_
                    refine j_iload dX5_cast_348 rfl ?_
                    refine j_iadd dX5_cast_350 ?_
                    refine j_aload_n dX5_cast_351 rfl ?_
                    refine gX5_25 rfl (hR.1 _ ⟨by first | assumption | exact Nat.zero_lt_one, rfl⟩) rfl dX5_cast_352 ?_
                    refine j_bipush (v := 40) dX5_cast_355 (by decide) ?_
                    refine j_iload_n dX5_cast_357 rfl ?_
                    refine j_imul dX5_cast_358 ?_
                    refine j_iload dX5_cast_359 rfl ?_
                    refine j_iadd dX5_cast_361 ?_
                    refine j_iald (hR.1 _ ⟨by first | assumption | exact Nat.zero_lt_one, rfl⟩) (40 * p + i) (xi40' p i) (by omega) (by decide) dX5_cast_362 ?_
                    refine r_iast hR ⟨by first | assumption | exact Nat.zero_lt_one, rfl⟩ (fun _ => rfl) (40 * mb + i) (xi40' mb i) (by omega) (by decide) dX5_cast_363 (fun h hR => ?_)
                    refine j_iinc dX5_cast_364 rfl (nI_inc _) (Nat.le_of_ble_eq_true rfl) rfl ?_
                    refine j_goto 332 dX5_cast_367 (by decide) ?_
                    exact ih (i + 1) (by omega) (by omega) _ hR
              have k2 : ∀ nn i, 5 < i + nn → i ≤ 5 → ∀ h, Rm ad np nb (itZ (cs2 p mb) (mC6 Z p mb) i) L h → J (thM l G mX5_cast 1 0 0 (fun r h2 => r = some (.int (mCast mb (nI p) Z).1) ∧ Rm ad np nb (mCast mb (nI p) Z).2 L h2)) cX5_cast h (0, 0) [some (.ref (ad (5, 0, 0))), some (.int (nI p)), some (.int (mCastW Z p)), some (.int (mOldM Z p)), some (.int (mNew Z p)), some (.int (mCop Z p)), some (.int (nI mb)), some (.int (nI i))] 294 [] := by
                intro nn
                induction nn with
                | zero => intro i h1 h2; omega
                | succ nn ih =>
                  intro i h1 h2 h hR
                  refine j_iload dX5_cast_294 rfl ?_
                  refine j_iconst (v := 5) dX5_cast_296 (by decide) ?_
                  refine j_icmp_ge 329 dX5_cast_297 (by decide) (fun c_297 => ?_) (fun c_297 => ?_)
                  · have hl297 : 5 ≤ i := (nI_leI (a := 5) (b := i) (by omega) (by omega)).mp c_297
                    obtain rfl : i = 5 := by omega
                    refine j_iconst (v := 0) dX5_cast_329 (by decide) ?_
                    refine j_istore dX5_cast_330 (Nat.le_of_ble_eq_true rfl) rfl ?_
                    exact k3 41 0 (by omega) (by omega) _ hR
                  · have hl297 : i < 5 := Nat.not_le.mp (fun q => c_297 ((nI_leI (a := 5) (b := i) (by omega) (by omega)).mpr q))
                    refine j_aload_n dX5_cast_300 rfl ?_
                    refine gX5_43 rfl (hR.1 _ ⟨by first | assumption | exact Nat.zero_lt_one, rfl⟩) rfl dX5_cast_301 ?_
                    refine j_iconst (v := 5) dX5_cast_304 (by decide) ?_
                    refine j_iload dX5_cast_305 rfl ?_
                    refine j_imul dX5_cast_307 ?_
                    refine j_iload dX5_cast_308 rfl ?_
                    refine j_iadd dX5_cast_310 ?_
                    refine j_aload_n dX5_cast_311 rfl ?_
                    refine gX5_22 rfl (hR.1 _ ⟨by first | assumption | exact Nat.zero_lt_one, rfl⟩) rfl dX5_cast_312 ?_
                    refine j_iconst (v := 5) dX5_cast_315 (by decide) ?_
                    refine j_iload_n dX5_cast_316 rfl ?_
                    refine j_imul dX5_cast_317 ?_
                    refine j_iload dX5_cast_318 rfl ?_
                    refine j_iadd dX5_cast_320 ?_
                    refine j_iald (hR.1 _ ⟨by first | assumption | exact Nat.zero_lt_one, rfl⟩) (5 * p + i) (xi5 p i) (by omega) (by decide) dX5_cast_321 ?_
                    refine r_iast hR ⟨by first | assumption | exact Nat.zero_lt_one, rfl⟩ (fun _ => rfl) (5 * mb + i) (xi5 mb i) (by omega) (by decide) dX5_cast_322 (fun h hR => ?_)
                    refine j_iinc dX5_cast_323 rfl (nI_inc _) (Nat.le_of_ble_eq_true rfl) rfl ?_
                    refine j_goto 294 dX5_cast_326 (by decide) ?_
                    exact ih (i + 1) (by omega) (by omega) _ hR
              have k1 : ∀ nn i, 8 < i + nn → i ≤ 8 → ∀ h, Rm ad np nb (itZ (cs1 p mb) (mC5 Z p mb) i) L h → J (thM l G mX5_cast 1 0 0 (fun r h2 => r = some (.int (mCast mb (nI p) Z).1) ∧ Rm ad np nb (mCast mb (nI p) Z).2 L h2)) cX5_cast h (0, 0) [some (.ref (ad (5, 0, 0))), some (.int (nI p)), some (.int (mCastW Z p)), some (.int (mOldM Z p)), some (.int (mNew Z p)), some (.int (mCop Z p)), some (.int (nI mb)), some (.int (nI i))] 203 [] := by
                intro nn
                induction nn with
                | zero => intro i h1 h2; omega
                | succ nn ih =>
                  intro i h1 h2 h hR
                  refine j_iload dX5_cast_203 rfl ?_
                  refine j_bipush (v := 8) dX5_cast_205 (by decide) ?_
                  refine j_icmp_ge 291 dX5_cast_207 (by decide) (fun c_207 => ?_) (fun c_207 => ?_)
                  · have hl207 : 8 ≤ i := (nI_leI (a := 8) (b := i) (by omega) (by omega)).mp c_207
                    obtain rfl : i = 8 := by omega
                    refine j_iconst (v := 0) dX5_cast_291 (by decide) ?_
                    refine j_istore dX5_cast_292 (Nat.le_of_ble_eq_true rfl) rfl ?_
                    exact k2 6 0 (by omega) (by omega) _ hR
                  · have hl207 : i < 8 := Nat.not_le.mp (fun q => c_207 ((nI_leI (a := 8) (b := i) (by omega) (by omega)).mpr q))
                    refine j_aload_n dX5_cast_210 rfl ?_
                    refine gX5_34 rfl (hR.1 _ ⟨by first | assumption | exact Nat.zero_lt_one, rfl⟩) rfl dX5_cast_211 ?_
                    refine j_bipush (v := 8) dX5_cast_214 (by decide) ?_
                    refine j_iload dX5_cast_216 rfl ?_
                    refine j_imul dX5_cast_218 ?_
                    refine j_iload dX5_cast_219 rfl ?_
                    refine j_iadd dX5_cast_221 ?_
                    refine j_aload_n dX5_cast_222 rfl ?_
                    refine gX5_13 rfl (hR.1 _ ⟨by first | assumption | exact Nat.zero_lt_one, rfl⟩) rfl dX5_cast_223 ?_
                    refine j_bipush (v := 8) dX5_cast_226 (by decide) ?_
                    refine j_iload_n dX5_cast_228 rfl ?_
                    refine j_imul dX5_cast_229 ?_
                    refine j_iload dX5_cast_230 rfl ?_
                    refine j_iadd dX5_cast_232 ?_
                    refine j_iald (hR.1 _ ⟨by first | assumption | exact Nat.zero_lt_one, rfl⟩) (8 * p + i) (xi8 p i) (by omega) (by decide) dX5_cast_233 ?_
                    refine r_iast hR ⟨by first | assumption | exact Nat.zero_lt_one, rfl⟩ (fun _ => rfl) (8 * mb + i) (xi8 mb i) (by omega) (by decide) dX5_cast_234 (fun h hR => ?_)
                    refine j_aload_n dX5_cast_235 rfl ?_
                    refine gX5_37 rfl (hR.1 _ ⟨by first | assumption | exact Nat.zero_lt_one, rfl⟩) rfl dX5_cast_236 ?_
                    refine j_bipush (v := 8) dX5_cast_239 (by decide) ?_
                    refine j_iload dX5_cast_241 rfl ?_
                    refine j_imul dX5_cast_243 ?_
                    refine j_iload dX5_cast_244 rfl ?_
                    refine j_iadd dX5_cast_246 ?_
                    refine j_aload_n dX5_cast_247 rfl ?_
                    refine gX5_16 rfl (hR.1 _ ⟨by first | assumption | exact Nat.zero_lt_one, rfl⟩) rfl dX5_cast_248 ?_
                    refine j_bipush (v := 8) dX5_cast_251 (by decide) ?_
                    refine j_iload_n dX5_cast_253 rfl ?_
                    refine j_imul dX5_cast_254 ?_
                    refine j_iload dX5_cast_255 rfl ?_
                    refine j_iadd dX5_cast_257 ?_
                    refine j_iald (hR.1 _ ⟨by first | assumption | exact Nat.zero_lt_one, rfl⟩) (8 * p + i) (xi8 p i) (by omega) (by decide) dX5_cast_258 ?_
                    refine r_iast hR ⟨by first | assumption | exact Nat.zero_lt_one, rfl⟩ (fun _ => rfl) (8 * mb + i) (xi8 mb i) (by omega) (by decide) dX5_cast_259 (fun h hR => ?_)
                    refine j_aload_n dX5_cast_260 rfl ?_
                    refine gX5_40 rfl (hR.1 _ ⟨by first | assumption | exact Nat.zero_lt_one, rfl⟩) rfl dX5_cast_261 ?_
                    refine j_bipush (v := 8) dX5_cast_264 (by decide) ?_
                    refine j_iload dX5_cast_266 rfl ?_
                    refine j_imul dX5_cast_268 ?_
                    refine j_iload dX5_cast_269 rfl ?_
                    refine j_iadd dX5_cast_271 ?_
                    refine j_aload_n dX5_cast_272 rfl ?_
                    refine gX5_19 rfl (hR.1 _ ⟨by first | assumption | exact Nat.zero_lt_one, rfl⟩) rfl dX5_cast_273 ?_
                    refine j_bipush (v := 8) dX5_cast_276 (by decide) ?_
                    refine j_iload_n dX5_cast_278 rfl ?_
                    refine j_imul dX5_cast_279 ?_
                    refine j_iload dX5_cast_280 rfl ?_
                    refine j_iadd dX5_cast_282 ?_
                    refine j_iald (hR.1 _ ⟨by first | assumption | exact Nat.zero_lt_one, rfl⟩) (8 * p + i) (xi8 p i) (by omega) (by decide) dX5_cast_283 ?_
                    refine r_iast hR ⟨by first | assumption | exact Nat.zero_lt_one, rfl⟩ (fun _ => rfl) (8 * mb + i) (xi8 mb i) (by omega) (by decide) dX5_cast_284 (fun h hR => ?_)
                    refine j_iinc dX5_cast_285 rfl (nI_inc _) (Nat.le_of_ble_eq_true rfl) rfl ?_
                    refine j_goto 203 dX5_cast_288 (by decide) ?_
                    exact ih (i + 1) (by omega) (by omega) _ hR
              refine j_aload_n dX5_cast_128 rfl ?_
              refine j_dup dX5_cast_129 rfl ?_
              refine gX5_105 rfl (hR.1 _ ⟨by first | assumption | exact Nat.zero_lt_one, rfl⟩) rfl dX5_cast_130 ?_
              refine j_iload_n dX5_cast_133 rfl ?_
              refine j_isub dX5_cast_134 ?_
              refine qX5_105 rfl hR dX5_cast_135 (fun h hR => ?_)
              refine j_aload_n dX5_cast_138 rfl ?_
              refine j_dup dX5_cast_139 rfl ?_
              refine gX5_98 rfl (hR.1 _ ⟨by first | assumption | exact Nat.zero_lt_one, rfl⟩) rfl dX5_cast_140 ?_
              refine j_iload dX5_cast_143 rfl ?_
              refine j_isub dX5_cast_145 ?_
              refine qX5_98 rfl hR dX5_cast_146 (fun h hR => ?_)
              refine j_aload_n dX5_cast_149 rfl ?_
              refine j_dup dX5_cast_150 rfl ?_
              refine gX5_102 rfl (hR.1 _ ⟨by first | assumption | exact Nat.zero_lt_one, rfl⟩) rfl dX5_cast_151 ?_
              refine j_iload dX5_cast_154 rfl ?_
              refine j_iload dX5_cast_156 rfl ?_
              refine j_isub dX5_cast_158 ?_
              refine j_isub dX5_cast_159 ?_
              refine qX5_102 rfl hR dX5_cast_160 (fun h hR => ?_)
              refine j_aload_n dX5_cast_163 rfl ?_
              refine gX5_86 rfl (hR.1 _ ⟨by first | assumption | exact Nat.zero_lt_one, rfl⟩) rfl dX5_cast_164 ?_
              rw [show upZ (upZ (upZ Z (5, 0, 0) 20 (Z (5, 0, 0) 20 - mOldM Z p)) (5, 0, 0) 18 (upZ Z (5, 0, 0) 20 (Z (5, 0, 0) 20 - mOldM Z p) (5, 0, 0) 18 - mCop Z p)) (5, 0, 0) 19 (upZ (upZ Z (5, 0, 0) 20 (Z (5, 0, 0) 20 - mOldM Z p)) (5, 0, 0) 18 (upZ Z (5, 0, 0) 20 (Z (5, 0, 0) 20 - mOldM Z p) (5, 0, 0) 18 - mCop Z p) (5, 0, 0) 19 - (mNew Z p - mCop Z p)) (5, 0, 0) 7 = nI mb by
                rw [upZ_nk (Or.inr (by decide)), upZ_nk (Or.inr (by decide)), upZ_nk (Or.inr (by decide))]
                exact hmb]
              refine j_istore dX5_cast_167 (Nat.le_of_ble_eq_true rfl) rfl ?_
              refine j_aload_n dX5_cast_169 rfl ?_
              refine j_dup dX5_cast_170 rfl ?_
              refine gX5_86 rfl (hR.1 _ ⟨by first | assumption | exact Nat.zero_lt_one, rfl⟩) rfl dX5_cast_171 ?_
              refine j_iconst (v := 1) dX5_cast_174 (by decide) ?_
              refine j_iadd dX5_cast_175 ?_
              refine qX5_86 rfl hR dX5_cast_176 (fun h hR => ?_)
              refine j_aload_n dX5_cast_179 rfl ?_
              refine gX5_28 rfl (hR.1 _ ⟨by first | assumption | exact Nat.zero_lt_one, rfl⟩) rfl dX5_cast_180 ?_
              refine j_iload dX5_cast_183 rfl ?_
              refine j_iload_n dX5_cast_185 rfl ?_
              refine r_iast hR ⟨by first | assumption | exact Nat.zero_lt_one, rfl⟩ (fun _ => rfl) mb rfl hmlt (by decide) dX5_cast_186 (fun h hR => ?_)
              refine j_aload_n dX5_cast_187 rfl ?_
              refine gX5_31 rfl (hR.1 _ ⟨by first | assumption | exact Nat.zero_lt_one, rfl⟩) rfl dX5_cast_188 ?_
              refine j_iload dX5_cast_191 rfl ?_
              refine j_aload_n dX5_cast_193 rfl ?_
              refine gX5_7 rfl (hR.1 _ ⟨by first | assumption | exact Nat.zero_lt_one, rfl⟩) rfl dX5_cast_194 ?_
              refine j_iload_n dX5_cast_197 rfl ?_
              refine j_iald (hR.1 _ ⟨by first | assumption | exact Nat.zero_lt_one, rfl⟩) p rfl (by omega) (by decide) dX5_cast_198 ?_
              refine r_iast hR ⟨by first | assumption | exact Nat.zero_lt_one, rfl⟩ (fun _ => rfl) mb rfl hmlt (by decide) dX5_cast_199 (fun h hR => ?_)
              refine j_iconst (v := 0) dX5_cast_200 (by decide) ?_
              refine j_istore dX5_cast_201 (Nat.le_of_ble_eq_true rfl) rfl ?_
              exact k1 9 0 (by omega) (by omega) _ hR
            · refine j_iconst (v := (-1)) dX5_cast_126 (by decide) ?_
              refine j_iret rfl (Nat.le_of_ble_eq_true rfl) (Nat.le_of_ble_eq_true rfl) dX5_cast_127 ?_
              exact ⟨by simp [mCast, g_11, hclp, c_20, c_111, c_123], by simpa [mCast, g_11, hclp, c_20, c_111, c_123] using hR⟩
      have k0 : ∀ nn i, 8 < i + nn → i ≤ 8 → J (thM l G mX5_cast 1 0 0 (fun r h2 => r = some (.int (mCast mb (nI p) Z).1) ∧ Rm ad np nb (mCast mb (nI p) Z).2 L h2)) cX5_cast h (0, 0) [some (.ref (ad (5, 0, 0))), some (.int (nI p)), some (.int (wsum (Z (5, 0, 2) p) (fun i => Z (5, 0, 5) (8 * p + i)) (fun i => Z (5, 0, 3) (8 * p + i)) i)), some (.int (nI (8 * p + i))), none, none, none, none] 37 [] := by
        intro nn
        induction nn with
        | zero => intro i h1 h2; omega
        | succ nn ih =>
          intro i h1 h2 
          refine j_iload_n dX5_cast_37 rfl ?_
          refine j_bipush (v := 8) dX5_cast_38 (by decide) ?_
          refine j_iload_n dX5_cast_40 rfl ?_
          refine j_imul dX5_cast_41 ?_
          refine j_bipush (v := 8) dX5_cast_42 (by decide) ?_
          refine j_iadd dX5_cast_44 ?_
          refine j_icmp_ge 70 dX5_cast_45 (by decide) (fun c_45 => ?_) (fun c_45 => ?_)
          · have hlt : 8 * p + 8 ≤ 8 * p + i := (nI_leI (a := 8 * p + 8) (b := 8 * p + i) (by omega) (by omega)).mp ((xi8 p 8) ▸ c_45)
            obtain rfl : i = 8 := by omega
            exact k00
          · have hlt : i < 8 := by
              have := Nat.not_le.mp (fun q => c_45 ((xi8 p 8) ▸ (nI_leI (a := 8 * p + 8) (b := 8 * p + i) (by omega) (by omega)).mpr q))
              omega
            refine j_iload_n dX5_cast_48 rfl ?_
            refine j_aload_n dX5_cast_49 rfl ?_
            refine gX5_19 rfl (hR.1 _ ⟨by first | assumption | exact Nat.zero_lt_one, rfl⟩) rfl dX5_cast_50 ?_
            refine j_iload_n dX5_cast_53 rfl ?_
            refine j_iald (hR.1 _ ⟨by first | assumption | exact Nat.zero_lt_one, rfl⟩) _ rfl (by omega) (by decide) dX5_cast_54 ?_
            refine j_aload_n dX5_cast_55 rfl ?_
            refine gX5_13 rfl (hR.1 _ ⟨by first | assumption | exact Nat.zero_lt_one, rfl⟩) rfl dX5_cast_56 ?_
            refine j_iload_n dX5_cast_59 rfl ?_
            refine j_iald (hR.1 _ ⟨by first | assumption | exact Nat.zero_lt_one, rfl⟩) _ rfl (by omega) (by decide) dX5_cast_60 ?_
            refine j_imul dX5_cast_61 ?_
            refine j_iadd dX5_cast_62 ?_
            refine j_istore_n dX5_cast_63 (Nat.le_of_ble_eq_true rfl) rfl ?_
            refine j_iinc dX5_cast_64 rfl (nI_inc _) (Nat.le_of_ble_eq_true rfl) rfl ?_
            refine j_goto 37 dX5_cast_67 (by decide) ?_
            exact ih (i + 1) (by omega) (by omega)
      rw [show (8 : Int32) * nI p = nI (8 * p + 0) from pk_mul 8 p]
      exact k0 9 0 (by omega) (by omega)
    · refine j_iconst (v := (-1)) dX5_cast_23 (by decide) ?_
      refine j_iret rfl (Nat.le_of_ble_eq_true rfl) (Nat.le_of_ble_eq_true rfl) dX5_cast_24 ?_
      exact ⟨by simp [mCast, g_11, hclp, c_20], by simpa [mCast, g_11, hclp, c_20] using hR⟩

