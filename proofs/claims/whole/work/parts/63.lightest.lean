/-! ===== bits ===== -/
theorem shOne {n : Nat} (h : n < 24) : (1 : Int32) <<< (nI n &&& 31) = nI (2 ^ n) := by
  have : ∀ n, n < 24 → (1 : Int32) <<< (nI n &&& 31) = nI (2 ^ n) := by decide +kernel
  exact this n h
theorem sm32 {n : Nat} (h : n < 24) : ((nI n &&& 31).toBitVec.smod 32).toNat = n := by
  have : ∀ n, n < 24 → ((nI n &&& 31).toBitVec.smod 32).toNat = n := by decide +kernel
  exact this n h
theorem bi_eq1 (b : Bool) : bi b = 1 ↔ b = true := by cases b <;> decide
theorem bit_1 {t b : Nat} (ht : t < 2147483648) (hb : b < 24) : (nI t >>> (nI b &&& 31)) &&& 1 = bi (t.testBit b) := by
  rw [pk_shrN ht _ b (sm32 hb), pk_andN (m := 1) (Nat.lt_of_le_of_lt (Nat.div_le_self _ _) (by omega)) 1 (by decide), Nat.testBit_eq_decide_div_mod_eq]
  rcases Nat.mod_two_eq_zero_or_one (t / 2 ^ b) with q | q
  · rw [Nat.pow_one, q]; rfl
  · rw [Nat.pow_one, q]; rfl
theorem nI_or (a b : Nat) : nI a ||| nI b = nI (a ||| b) := by
  rw [← Int32.toBitVec_inj, Int32.toBitVec_or]
  apply BitVec.eq_of_toNat_eq
  show ((BitVec.ofNat 32 a) ||| (BitVec.ofNat 32 b)).toNat = (BitVec.ofNat 32 (a ||| b)).toNat
  rw [BitVec.toNat_or, BitVec.toNat_ofNat, BitVec.toNat_ofNat, BitVec.toNat_ofNat, Nat.or_mod_two_pow]
theorem nI_sub1 {n : Nat} (h : 0 < n) : nI n - 1 = nI (n - 1) := by
  cases n with
  | zero => omega
  | succ n => rw [nI_pred]; rfl
theorem p2pos (n : Nat) : 0 < 2 ^ n := Nat.pow_pos (by omega)
/-! ===== the reference's search, in its memory ===== -/
def avM (Z : ZT) (tk b : Nat) : Bool := decide (Z (5, 0, 17) b = 0) && !tk.testBit b
def agM (Z : ZT) (f i b : Nat) : Bool := iw (Z (5, 0, 32) b - Z (5, 0, 32) f - Z (5, 0, 25) i) (-(Z (5, 0, 0) 25)) (Z (5, 0, 0) 25)
theorem agM_keep {Z Y : ZT} (h : keep1 (5, 0, 33) Z Y) (f i b : Nat) : agM Y f i b = agM Z f i b := by
  unfold agM
  rw [h (5, 0, 0) (by decide), h (5, 0, 32) (by decide), h (5, 0, 25) (by decide)]
set_option maxRecDepth 100000 in
set_option maxHeartbeats 4000000 in
theorem c_X5_agrees (l : Launch) (G : GG) {ad : NM → Nat} {np nb : Nat} {Z : ZT} {L : LT} {h : AH} (hR : Rm ad np nb Z L h) {f i b : Nat} (hf : f < 24) (hi : i < 8) (hb : b < 24) : Con l G mX5_agrees 0 0 0 [.ref (ad (5, 0, 0)), .int (nI f), .int (nI i), .int (nI b)] h (fun r h2 => r = some (.int (bi (agM Z f i b))) ∧ h2 = h) := by
  refine Con.of 1 rfl (Nat.le_of_ble_eq_true rfl) ?_
  refine j_aload_n dX5_agrees_0 rfl ?_
  refine gX5_80 rfl (hR.1 _ ⟨by first | assumption | exact Nat.zero_lt_one, rfl⟩) rfl dX5_agrees_1 ?_
  refine j_iload_n dX5_agrees_4 rfl ?_
  refine j_iald (hR.1 _ ⟨by first | assumption | exact Nat.zero_lt_one, rfl⟩) b rfl (by omega) (by decide) dX5_agrees_5 ?_
  refine j_aload_n dX5_agrees_6 rfl ?_
  refine gX5_80 rfl (hR.1 _ ⟨by first | assumption | exact Nat.zero_lt_one, rfl⟩) rfl dX5_agrees_7 ?_
  refine j_iload_n dX5_agrees_10 rfl ?_
  refine j_iald (hR.1 _ ⟨by first | assumption | exact Nat.zero_lt_one, rfl⟩) f rfl (by omega) (by decide) dX5_agrees_11 ?_
  refine j_isub dX5_agrees_12 ?_
  refine j_aload_n dX5_agrees_13 rfl ?_
  refine gX5_65 rfl (hR.1 _ ⟨by first | assumption | exact Nat.zero_lt_one, rfl⟩) rfl dX5_agrees_14 ?_
  refine j_iload_n dX5_agrees_17 rfl ?_
  refine j_iald (hR.1 _ ⟨by first | assumption | exact Nat.zero_lt_one, rfl⟩) i rfl (by omega) (by decide) dX5_agrees_18 ?_
  refine j_isub dX5_agrees_19 ?_
  refine j_istore dX5_agrees_20 (Nat.le_of_ble_eq_true rfl) rfl ?_
  refine j_iload dX5_agrees_22 rfl ?_
  refine j_aload_n dX5_agrees_24 rfl ?_
  refine gX5_143 rfl (hR.1 _ ⟨by first | assumption | exact Nat.zero_lt_one, rfl⟩) rfl dX5_agrees_25 ?_
  refine j_ineg dX5_agrees_28 ?_
  refine j_icmp_lt 45 dX5_agrees_29 (by decide) (fun c_29 => ?_) (fun c_29 => ?_)
  · refine j_iconst (v := 0) dX5_agrees_45 (by decide) ?_
    refine j_zret rfl rfl (Nat.le_of_ble_eq_true rfl) (Nat.le_of_ble_eq_true rfl) dX5_agrees_46 ?_
    exact ⟨by unfold agM; rw [iw_lo c_29]; rfl, rfl⟩
  · refine j_iload dX5_agrees_32 rfl ?_
    refine j_aload_n dX5_agrees_34 rfl ?_
    refine gX5_143 rfl (hR.1 _ ⟨by first | assumption | exact Nat.zero_lt_one, rfl⟩) rfl dX5_agrees_35 ?_
    refine j_icmp_gt 45 dX5_agrees_38 (by decide) (fun c_38 => ?_) (fun c_38 => ?_)
    · refine j_iconst (v := 0) dX5_agrees_45 (by decide) ?_
      refine j_zret rfl rfl (Nat.le_of_ble_eq_true rfl) (Nat.le_of_ble_eq_true rfl) dX5_agrees_46 ?_
      exact ⟨by unfold agM; rw [iw_hi c_38]; rfl, rfl⟩
    · refine j_iconst (v := 1) dX5_agrees_41 (by decide) ?_
      refine j_goto 46 dX5_agrees_42 (by decide) ?_
      refine j_zret rfl rfl (Nat.le_of_ble_eq_true rfl) (Nat.le_of_ble_eq_true rfl) dX5_agrees_46 ?_
      exact ⟨by unfold agM; rw [iw_in c_29 c_38]; rfl, rfl⟩

set_option maxRecDepth 100000 in
set_option maxHeartbeats 4000000 in
theorem c_X5_lightest (l : Launch) (G : GG) {ad : NM → Nat} {np nb : Nat} {Z : ZT} {L : LT} {h : AH} (hR : Rm ad np nb Z L h) {mb : Nat} (hmb : Z (5, 0, 0) 7 = nI mb) (hm : mb ≤ 24) {n : Nat} (hnn : Z (5, 0, 0) 23 = nI n) (hn8 : n ≤ 8) {f nt tk : Nat} (hf : f < 24) (hnt : nt ≤ n) (htk : tk < 2147483648) {w : Nat → Nat} (hw : ∀ b, b < mb → Z (5, 0, 31) b = nI (w b) ∧ w b ≤ 44600) : Con l G mX5_lightest 1 0 0 [.ref (ad (5, 0, 0)), .int (nI f), .int (nI nt), .int (nI tk)] h (fun r h2 => ∃ x Y, r = some (.int x) ∧ Rm ad np nb Y L h2 ∧ keep1 (5, 0, 33) Z Y ∧ LsV (Ac (avM Z tk) (agM Z f) w nt n mb (2 ^ n - 1)) x) := by
  have hN8 : 2 ^ n ≤ 256 := Nat.pow_le_pow_right (n := 2) (by omega) hn8
  have hntN : 2 ^ nt ≤ 2 ^ n := Nat.pow_le_pow_right (n := 2) (by omega) hnt
  have hN0 := p2pos n
  have hnt0 := p2pos nt
  obtain ⟨N, hN⟩ : ∃ N, N = 2 ^ n := ⟨_, rfl⟩
  rw [← hN] at hN8 hntN hN0
  have k1 : ∀ nn1 i, N < i + nn1 → i ≤ N → ∀ h Y, Rm ad np nb Y L h → keep1 (5, 0, 33) Z Y → (∀ s, s < i → Y (5, 0, 33) s = -1) → J (thM l G mX5_lightest 1 0 0 (fun r h2 => ∃ x Y, r = some (.int x) ∧ Rm ad np nb Y L h2 ∧ keep1 (5, 0, 33) Z Y ∧ LsV (Ac (avM Z tk) (agM Z f) w nt n mb (2 ^ n - 1)) x)) cX5_lightest h (0, 0) [some (.ref (ad (5, 0, 0))), some (.int (nI f)), some (.int (nI nt)), some (.int (nI tk)), some (.int (nI N)), some (.int (nI i)), none, none, none, none] 11 [] := by
    intro nn1
    induction nn1 with
    | zero => intro i h1 h2; omega
    | succ nn1 ih1 =>
      intro i h1 h2 h Y hR hkp hm1
      refine j_iload dX5_lightest_11 rfl ?_
      refine j_iload dX5_lightest_13 rfl ?_
      refine j_icmp_ge 32 dX5_lightest_15 (by decide) (fun c_15 => ?_) (fun c_15 => ?_)
      · have hl : N ≤ i := (nI_leI (a := N) (b := i) (by omega) (by omega)).mp c_15
        refine j_aload_n dX5_lightest_32 rfl ?_
        refine gX5_83 rfl (hR.1 _ ⟨by first | assumption | exact Nat.zero_lt_one, rfl⟩) rfl dX5_lightest_33 ?_
        refine j_iconst (v := 1) dX5_lightest_36 (by decide) ?_
        refine j_iload_n dX5_lightest_37 rfl ?_
        refine j_ishl dX5_lightest_38 ?_
        rw [shOne (by omega)]
        refine j_iconst (v := 1) dX5_lightest_39 (by decide) ?_
        refine j_isub dX5_lightest_40 ?_
        rw [nI_sub1 (p2pos nt)]
        refine j_iconst (v := 0) dX5_lightest_41 (by decide) ?_
        refine r_iast hR ⟨by first | assumption | exact Nat.zero_lt_one, rfl⟩ (fun _ => rfl) (2 ^ nt - 1) rfl (by omega) (by decide) dX5_lightest_42 (fun h hR => ?_)
        refine j_iconst (v := 0) dX5_lightest_43 (by decide) ?_
        refine j_istore dX5_lightest_44 (Nat.le_of_ble_eq_true rfl) rfl ?_
        have k2 : ∀ nn2 b, mb < b + nn2 → b ≤ mb → ∀ h Y, Rm ad np nb Y L h → keep1 (5, 0, 33) Z Y → FI n (Ac (avM Z tk) (agM Z f) w nt n b) (Y (5, 0, 33)) → J (thM l G mX5_lightest 1 0 0 (fun r h2 => ∃ x Y, r = some (.int x) ∧ Rm ad np nb Y L h2 ∧ keep1 (5, 0, 33) Z Y ∧ LsV (Ac (avM Z tk) (agM Z f) w nt n mb (2 ^ n - 1)) x)) cX5_lightest h (0, 0) [some (.ref (ad (5, 0, 0))), some (.int (nI f)), some (.int (nI nt)), some (.int (nI tk)), some (.int (nI N)), some (.int (nI b)), none, none, none, none] 46 [] := by
          intro nn2
          induction nn2 with
          | zero => intro b h1 h2; omega
          | succ nn2 ih2 =>
            intro b h1 h2 h Y hR hkp hF
            refine j_iload dX5_lightest_46 rfl ?_
            refine j_aload_n dX5_lightest_48 rfl ?_
            refine gX5_86 rfl (hR.1 _ ⟨by first | assumption | exact Nat.zero_lt_one, rfl⟩) rfl dX5_lightest_49 ?_
            rw [hkp (5, 0, 0) (by decide), hmb]
            refine j_icmp_ge 221 dX5_lightest_52 (by decide) (fun c_52 => ?_) (fun c_52 => ?_)
            · have hlb : mb ≤ b := (nI_leI (a := mb) (b := b) (by omega) (by omega)).mp c_52
              obtain rfl : b = mb := by omega
              refine j_aload_n dX5_lightest_221 rfl ?_
              refine gX5_83 rfl (hR.1 _ ⟨by first | assumption | exact Nat.zero_lt_one, rfl⟩) rfl dX5_lightest_222 ?_
              refine j_iload dX5_lightest_225 rfl ?_
              refine j_iconst (v := 1) dX5_lightest_227 (by decide) ?_
              refine j_isub dX5_lightest_228 ?_
              rw [nI_sub1 hN0]
              refine j_iald (hR.1 _ ⟨by first | assumption | exact Nat.zero_lt_one, rfl⟩) (N - 1) rfl (by omega) (by decide) dX5_lightest_229 ?_
              refine j_iret rfl (Nat.le_of_ble_eq_true rfl) (Nat.le_of_ble_eq_true rfl) dX5_lightest_230 ?_
              refine ⟨_, Y, rfl, hR, hkp, ?_⟩
              have := hF (N - 1) (by rw [← hN]; omega)
              rw [← hN]
              exact this
            · have hlb : b < mb := Nat.not_le.mp (fun q => c_52 ((nI_leI (a := mb) (b := b) (by omega) (by omega)).mpr q))
              refine j_aload_n dX5_lightest_55 rfl ?_
              refine gX5_53 rfl (hR.1 _ ⟨by first | assumption | exact Nat.zero_lt_one, rfl⟩) rfl dX5_lightest_56 ?_
              refine j_iload dX5_lightest_59 rfl ?_
              refine j_zald (hR.1 _ ⟨by first | assumption | exact Nat.zero_lt_one, rfl⟩) b rfl (by omega) (by decide) dX5_lightest_61 ?_
              rw [hkp (5, 0, 17) (by decide)]
              refine j_if_ne 215 dX5_lightest_62 (by decide) (fun c_62 => ?_) (fun c_62 => ?_)
              · refine j_iinc dX5_lightest_215 rfl (nI_inc _) (Nat.le_of_ble_eq_true rfl) rfl ?_
                refine j_goto 46 dX5_lightest_218 (by decide) ?_
                exact ih2 (b + 1) (by omega) (by omega) _ _ hR hkp (hF.skip (by unfold avM; rw [decide_eq_false c_62]; rfl))
              · refine j_iload_n dX5_lightest_65 rfl ?_
                refine j_iload dX5_lightest_66 rfl ?_
                refine j_ishr dX5_lightest_68 ?_
                refine j_iconst (v := 1) dX5_lightest_69 (by decide) ?_
                refine j_iand dX5_lightest_70 ?_
                rw [bit_1 (t := tk) (b := b) htk (by omega)]
                refine j_iconst (v := 1) dX5_lightest_71 (by decide) ?_
                refine j_icmp_ne 78 dX5_lightest_72 (by decide) (fun c_72 => ?_) (fun c_72 => ?_)
                · have hav : avM Z tk b = true := by
                    have e : tk.testBit b = false := by
                      cases q : tk.testBit b with
                      | false => rfl
                      | true => exact absurd ((bi_eq1 _).mpr q) c_72
                    unfold avM
                    rw [decide_eq_true c_62, e]
                    rfl
                  refine j_iload dX5_lightest_78 rfl ?_
                  refine j_iconst (v := 1) dX5_lightest_80 (by decide) ?_
                  refine j_isub dX5_lightest_81 ?_
                  refine j_istore dX5_lightest_82 (Nat.le_of_ble_eq_true rfl) rfl ?_
                  have k3 : ∀ c, c ≤ N → ∀ h Y, Rm ad np nb Y L h → keep1 (5, 0, 33) Z Y → FI n (PS (avM Z tk) (agM Z f) w nt n b (fun t _ => c ≤ t)) (Y (5, 0, 33)) → J (thM l G mX5_lightest 1 0 0 (fun r h2 => ∃ x Y, r = some (.int x) ∧ Rm ad np nb Y L h2 ∧ keep1 (5, 0, 33) Z Y ∧ LsV (Ac (avM Z tk) (agM Z f) w nt n mb (2 ^ n - 1)) x)) cX5_lightest h (0, 0) [some (.ref (ad (5, 0, 0))), some (.int (nI f)), some (.int (nI nt)), some (.int (nI tk)), some (.int (nI N)), some (.int (nI b)), some (.int (nI c - 1)), none, none, none] 84 [] := by
                    intro c
                    induction c with
                    | zero =>
                      intro hcl h Y hR hkp hF
                      refine j_iload dX5_lightest_84 rfl ?_
                      refine j_if_lt 215 dX5_lightest_86 (by decide) (fun c_86 => ?_) (fun c_86 => ?_)
                      · refine j_iinc dX5_lightest_215 rfl (nI_inc _) (Nat.le_of_ble_eq_true rfl) rfl ?_
                        refine j_goto 46 dX5_lightest_218 (by decide) ?_
                        refine J.drop 6 ?_
                        exact ih2 (b + 1) (by omega) (by omega) _ _ hR hkp (hF.end_ hav)
                      · exact absurd (by decide) c_86
                    | succ c ih3 =>
                      intro hcl h Y hR hkp hF
                      have hcN : c < 2 ^ n := by rw [← hN]; omega
                      rw [nI_pred]
                      refine j_iload dX5_lightest_84 rfl ?_
                      refine j_if_lt 215 dX5_lightest_86 (by decide) (fun c_86 => ?_) (fun c_86 => ?_)
                      · exact absurd c_86 (nI_pos (n := c) (by omega))
                      · refine j_aload_n dX5_lightest_89 rfl ?_
                        refine gX5_83 rfl (hR.1 _ ⟨by first | assumption | exact Nat.zero_lt_one, rfl⟩) rfl dX5_lightest_90 ?_
                        refine j_iload dX5_lightest_93 rfl ?_
                        refine j_iald (hR.1 _ ⟨by first | assumption | exact Nat.zero_lt_one, rfl⟩) c rfl (by omega) (by decide) dX5_lightest_95 ?_
                        refine j_if_ge 102 dX5_lightest_96 (by decide) (fun c_96 => ?_) (fun c_96 => ?_)
                        · obtain ⟨m, hm2, hfc⟩ := nI_of (Int32.not_lt.mpr c_96)
                          have hm2 : m < 2147483648 := hm2
                          refine j_iload_n dX5_lightest_102 rfl ?_
                          refine j_istore dX5_lightest_103 (Nat.le_of_ble_eq_true rfl) rfl ?_
                          have k4 : ∀ nn4 j, n < j + nn4 → j ≤ n → nt ≤ j → ∀ h Y, Rm ad np nb Y L h → keep1 (5, 0, 33) Z Y → FI n (PS (avM Z tk) (agM Z f) w nt n b (Dj c j)) (Y (5, 0, 33)) → Y (5, 0, 33) c = nI m → J (thM l G mX5_lightest 1 0 0 (fun r h2 => ∃ x Y, r = some (.int x) ∧ Rm ad np nb Y L h2 ∧ keep1 (5, 0, 33) Z Y ∧ LsV (Ac (avM Z tk) (agM Z f) w nt n mb (2 ^ n - 1)) x)) cX5_lightest h (0, 0) [some (.ref (ad (5, 0, 0))), some (.int (nI f)), some (.int (nI nt)), some (.int (nI tk)), some (.int (nI N)), some (.int (nI b)), some (.int (nI c)), some (.int (nI j)), none, none] 105 [] := by
                            intro nn4
                            induction nn4 with
                            | zero => intro j h1 h2; omega
                            | succ nn4 ih4 =>
                              intro j h1 h2 hntj h Y hR hkp hF hfc
                              refine j_iload dX5_lightest_105 rfl ?_
                              refine j_aload_n dX5_lightest_107 rfl ?_
                              refine gX5_140 rfl (hR.1 _ ⟨by first | assumption | exact Nat.zero_lt_one, rfl⟩) rfl dX5_lightest_108 ?_
                              rw [hkp (5, 0, 0) (by decide), hnn]
                              refine j_icmp_ge 209 dX5_lightest_111 (by decide) (fun c_111 => ?_) (fun c_111 => ?_)
                              · have hl : n ≤ j := (nI_leI (a := n) (b := j) (by omega) (by omega)).mp c_111
                                obtain rfl : j = n := by omega
                                refine j_iinc dX5_lightest_209 rfl (Int32.sub_eq_add_neg (nI c) 1).symm (Nat.le_of_ble_eq_true rfl) rfl ?_
                                refine j_goto 84 dX5_lightest_212 (by decide) ?_
                                refine J.drop 7 ?_
                                exact ih3 (by omega) _ _ hR hkp hF.close_
                              · have hl : j < n := Nat.not_le.mp (fun q => c_111 ((nI_leI (a := n) (b := j) (by omega) (by omega)).mpr q))
                                refine j_iload dX5_lightest_114 rfl ?_
                                refine j_iload dX5_lightest_116 rfl ?_
                                refine j_ishr dX5_lightest_118 ?_
                                refine j_iconst (v := 1) dX5_lightest_119 (by decide) ?_
                                refine j_iand dX5_lightest_120 ?_
                                rw [bit_1 (t := c) (b := j) (by omega) (by omega)]
                                refine j_if_ne 203 dX5_lightest_121 (by decide) (fun c_121 => ?_) (fun c_121 => ?_)
                                · have g_121 := (bi_ne0 _).mp c_121
                                  refine j_iinc dX5_lightest_203 rfl (nI_inc _) (Nat.le_of_ble_eq_true rfl) rfl ?_
                                  refine j_goto 105 dX5_lightest_206 (by decide) ?_
                                  exact ih4 (j + 1) (by omega) (by omega) (by omega) _ _ hR hkp (hF.nostep (fun q => by rw [g_121] at q; cases q.1)) hfc
                                · have g_121 := (bi_eq0 _).mp c_121
                                  refine j_aload_n dX5_lightest_124 rfl ?_
                                  refine j_iload_n dX5_lightest_125 rfl ?_
                                  refine j_iload dX5_lightest_126 rfl ?_
                                  refine j_iload dX5_lightest_128 rfl ?_
                                  refine j_callV (rest := []) (c_X5_agrees l G hR (f := f) (i := j) (b := b) hf (by omega) (by omega)) (hR.1 _ ⟨by first | assumption | exact Nat.zero_lt_one, rfl⟩) rfl cw_X5_agrees wl_X5_146 wm_X5_agrees wx_X5_agrees rfl rfl (Nat.le_of_ble_eq_true rfl) (Nat.le_of_ble_eq_true rfl) (Nat.le_of_ble_eq_true rfl) (Nat.le_of_ble_eq_true rfl) (Nat.le_of_ble_eq_true rfl) dX5_lightest_130 (fun v_130 h_130 e_130 => ?_)
                                  obtain ⟨rfl, hh⟩ := e_130
                                  have hh := hh.symm
                                  subst hh
                                  rw [agM_keep hkp]
                                  refine j_if_eq 203 dX5_lightest_133 (by decide) (fun c_133 => ?_) (fun c_133 => ?_)
                                  · have g_133 := (bi_eq0 _).mp c_133
                                    refine j_iinc dX5_lightest_203 rfl (nI_inc _) (Nat.le_of_ble_eq_true rfl) rfl ?_
                                    refine j_goto 105 dX5_lightest_206 (by decide) ?_
                                    exact ih4 (j + 1) (by omega) (by omega) (by omega) _ _ hR hkp (hF.nostep (fun q => by rw [g_133] at q; cases q.2)) hfc
                                  · have g_133 := (bi_ne0 _).mp c_133
                                    refine j_iload dX5_lightest_136 rfl ?_
                                    refine j_iconst (v := 1) dX5_lightest_138 (by decide) ?_
                                    refine j_iload dX5_lightest_139 rfl ?_
                                    refine j_ishl dX5_lightest_141 ?_
                                    rw [shOne (by omega)]
                                    refine j_ior dX5_lightest_142 ?_
                                    rw [nI_or]
                                    refine j_istore dX5_lightest_143 (Nat.le_of_ble_eq_true rfl) rfl ?_
                                    refine j_aload_n dX5_lightest_145 rfl ?_
                                    refine gX5_83 rfl (hR.1 _ ⟨by first | assumption | exact Nat.zero_lt_one, rfl⟩) rfl dX5_lightest_146 ?_
                                    refine j_iload dX5_lightest_149 rfl ?_
                                    refine j_iald (hR.1 _ ⟨by first | assumption | exact Nat.zero_lt_one, rfl⟩) c rfl (by omega) (by decide) dX5_lightest_151 ?_
                                    rw [hfc]
                                    refine j_aload_n dX5_lightest_152 rfl ?_
                                    refine gX5_77 rfl (hR.1 _ ⟨by first | assumption | exact Nat.zero_lt_one, rfl⟩) rfl dX5_lightest_153 ?_
                                    refine j_iload dX5_lightest_156 rfl ?_
                                    refine j_iald (hR.1 _ ⟨by first | assumption | exact Nat.zero_lt_one, rfl⟩) b rfl (by omega) (by decide) dX5_lightest_158 ?_
                                    rw [hkp (5, 0, 31) (by decide), (hw b hlb).1]
                                    refine j_iadd dX5_lightest_159 ?_
                                    rw [nI_add]
                                    refine j_istore dX5_lightest_160 (Nat.le_of_ble_eq_true rfl) rfl ?_
                                    refine j_aload_n dX5_lightest_162 rfl ?_
                                    refine gX5_83 rfl (hR.1 _ ⟨by first | assumption | exact Nat.zero_lt_one, rfl⟩) rfl dX5_lightest_163 ?_
                                    refine j_iload dX5_lightest_166 rfl ?_
                                    refine j_aload_n dX5_lightest_168 rfl ?_
                                    refine gX5_83 rfl (hR.1 _ ⟨by first | assumption | exact Nat.zero_lt_one, rfl⟩) rfl dX5_lightest_169 ?_
                                    refine j_iload dX5_lightest_172 rfl ?_
                                    refine j_iald (hR.1 _ ⟨by first | assumption | exact Nat.zero_lt_one, rfl⟩) (c ||| 2 ^ j) rfl (by have := or_lt hcN hl; omega) (by decide) dX5_lightest_174 ?_
                                    refine j_if_lt 190 dX5_lightest_175 (by decide) (fun c_175 => ?_) (fun c_175 => ?_)
                                    · refine j_iload dX5_lightest_190 rfl ?_
                                      refine j_goto 202 dX5_lightest_192 (by decide) ?_
                                      refine r_iast hR ⟨by first | assumption | exact Nat.zero_lt_one, rfl⟩ (fun _ => rfl) (c ||| 2 ^ j) rfl (by have := or_lt hcN hl; omega) (by decide) dX5_lightest_202 (fun h hR => ?_)
                                      refine j_iinc dX5_lightest_203 rfl (nI_inc _) (Nat.le_of_ble_eq_true rfl) rfl ?_
                                      refine j_goto 105 dX5_lightest_206 (by decide) ?_
                                      refine J.drop 8 ?_
                                      refine J.drop 9 ?_
                                      have hF2 := hF.step hcN hntj hl g_121 g_133 (fun b hb => (hw b hb).2) hlb hm hfc hm2
                                      rw [if_pos (Or.inl c_175)] at hF2
                                      exact ih4 (j + 1) (by omega) (by omega) (by omega) _ _ hR (hkp.up _ _) (by rw [upZ_self]; exact hF2) (by rw [upZ_nk (Or.inr (Nat.ne_of_lt (or_gt g_121)))]; exact hfc)
                                    · refine j_iload dX5_lightest_178 rfl ?_
                                      refine j_aload_n dX5_lightest_180 rfl ?_
                                      refine gX5_83 rfl (hR.1 _ ⟨by first | assumption | exact Nat.zero_lt_one, rfl⟩) rfl dX5_lightest_181 ?_
                                      refine j_iload dX5_lightest_184 rfl ?_
                                      refine j_iald (hR.1 _ ⟨by first | assumption | exact Nat.zero_lt_one, rfl⟩) (c ||| 2 ^ j) rfl (by have := or_lt hcN hl; omega) (by decide) dX5_lightest_186 ?_
                                      refine j_icmp_ge 195 dX5_lightest_187 (by decide) (fun c_187 => ?_) (fun c_187 => ?_)
                                      · refine j_aload_n dX5_lightest_195 rfl ?_
                                        refine gX5_83 rfl (hR.1 _ ⟨by first | assumption | exact Nat.zero_lt_one, rfl⟩) rfl dX5_lightest_196 ?_
                                        refine j_iload dX5_lightest_199 rfl ?_
                                        refine j_iald (hR.1 _ ⟨by first | assumption | exact Nat.zero_lt_one, rfl⟩) (c ||| 2 ^ j) rfl (by have := or_lt hcN hl; omega) (by decide) dX5_lightest_201 ?_
                                        refine r_iast hR ⟨by first | assumption | exact Nat.zero_lt_one, rfl⟩ (fun _ => rfl) (c ||| 2 ^ j) rfl (by have := or_lt hcN hl; omega) (by decide) dX5_lightest_202 (fun h hR => ?_)
                                        refine j_iinc dX5_lightest_203 rfl (nI_inc _) (Nat.le_of_ble_eq_true rfl) rfl ?_
                                        refine j_goto 105 dX5_lightest_206 (by decide) ?_
                                        refine J.drop 8 ?_
                                        refine J.drop 9 ?_
                                        have hF2 := hF.step hcN hntj hl g_121 g_133 (fun b hb => (hw b hb).2) hlb hm hfc hm2
                                        rw [if_neg (fun q => by
                                          rcases q with q | q
                                          · exact c_175 q
                                          · exact Int32.not_le.mpr q c_187)] at hF2
                                        exact ih4 (j + 1) (by omega) (by omega) (by omega) _ _ hR (hkp.up _ _) (by rw [upZ_self]; exact hF2) (by rw [upZ_nk (Or.inr (Nat.ne_of_lt (or_gt g_121)))]; exact hfc)
                                      · refine j_iload dX5_lightest_190 rfl ?_
                                        refine j_goto 202 dX5_lightest_192 (by decide) ?_
                                        refine r_iast hR ⟨by first | assumption | exact Nat.zero_lt_one, rfl⟩ (fun _ => rfl) (c ||| 2 ^ j) rfl (by have := or_lt hcN hl; omega) (by decide) dX5_lightest_202 (fun h hR => ?_)
                                        refine j_iinc dX5_lightest_203 rfl (nI_inc _) (Nat.le_of_ble_eq_true rfl) rfl ?_
                                        refine j_goto 105 dX5_lightest_206 (by decide) ?_
                                        refine J.drop 8 ?_
                                        refine J.drop 9 ?_
                                        have hF2 := hF.step hcN hntj hl g_121 g_133 (fun b hb => (hw b hb).2) hlb hm hfc hm2
                                        rw [if_pos (Or.inr (Int32.not_le.mp c_187))] at hF2
                                        exact ih4 (j + 1) (by omega) (by omega) (by omega) _ _ hR (hkp.up _ _) (by rw [upZ_self]; exact hF2) (by rw [upZ_nk (Or.inr (Nat.ne_of_lt (or_gt g_121)))]; exact hfc)
                          exact k4 (n + 1) nt (by omega) (by omega) (Nat.le_refl _) _ _ hR hkp hF.open_ hfc
                        · have hneg : Y (5, 0, 33) c < 0 := Int32.not_le.mp c_96
                          refine j_goto 209 dX5_lightest_99 (by decide) ?_
                          refine j_iinc dX5_lightest_209 rfl (Int32.sub_eq_add_neg (nI c) 1).symm (Nat.le_of_ble_eq_true rfl) rfl ?_
                          refine j_goto 84 dX5_lightest_212 (by decide) ?_
                          exact ih3 (by omega) _ _ hR hkp (hF.none hcN hneg)
                  exact k3 N (Nat.le_refl _) _ _ hR hkp (by rw [hN]; exact hF.begin_)
                · refine j_goto 215 dX5_lightest_75 (by decide) ?_
                  refine j_iinc dX5_lightest_215 rfl (nI_inc _) (Nat.le_of_ble_eq_true rfl) rfl ?_
                  refine j_goto 46 dX5_lightest_218 (by decide) ?_
                  exact ih2 (b + 1) (by omega) (by omega) _ _ hR hkp (hF.skip (by unfold avM; rw [(bi_eq1 _).mp c_72, Bool.not_true, Bool.and_false]))
        exact k2 (mb + 1) 0 (by omega) (by omega) _ _ hR (hkp.up _ _) (FI.init (fun s hs hne => by
          rw [upZ_nk (Or.inr hne)]
          exact hm1 s (by rw [← hN] at hs; omega)) (upZ_at _ _ _ _))
      · have hl : i < N := Nat.not_le.mp (fun q => c_15 ((nI_leI (a := N) (b := i) (by omega) (by omega)).mpr q))
        refine j_aload_n dX5_lightest_18 rfl ?_
        refine gX5_83 rfl (hR.1 _ ⟨by first | assumption | exact Nat.zero_lt_one, rfl⟩) rfl dX5_lightest_19 ?_
        refine j_iload dX5_lightest_22 rfl ?_
        refine j_iconst (v := (-1)) dX5_lightest_24 (by decide) ?_
        refine r_iast hR ⟨by first | assumption | exact Nat.zero_lt_one, rfl⟩ (fun _ => rfl) i rfl (by omega) (by decide) dX5_lightest_25 (fun h hR => ?_)
        refine j_iinc dX5_lightest_26 rfl (nI_inc _) (Nat.le_of_ble_eq_true rfl) rfl ?_
        refine j_goto 11 dX5_lightest_29 (by decide) ?_
        exact ih1 (i + 1) (by omega) (by omega) _ _ hR (hkp.up _ _) (fun s hs => by
          rcases Nat.lt_or_ge s i with h9 | h9
          · rw [upZ_nk (Or.inr (by omega))]; exact hm1 s h9
          · rw [show s = i by omega, upZ_at])
  refine Con.of 6 rfl (Nat.le_of_ble_eq_true rfl) ?_
  refine j_iconst (v := 1) dX5_lightest_0 (by decide) ?_
  refine j_aload_n dX5_lightest_1 rfl ?_
  refine gX5_140 rfl (hR.1 _ ⟨by first | assumption | exact Nat.zero_lt_one, rfl⟩) rfl dX5_lightest_2 ?_
  rw [hnn]
  refine j_ishl dX5_lightest_5 ?_
  rw [shOne (by omega), show nI (2 ^ n) = nI N by rw [hN]]
  refine j_istore dX5_lightest_6 (Nat.le_of_ble_eq_true rfl) rfl ?_
  refine j_iconst (v := 0) dX5_lightest_8 (by decide) ?_
  refine j_istore dX5_lightest_9 (Nat.le_of_ble_eq_true rfl) rfl ?_
  exact k1 (N + 1) 0 (by omega) (by omega) _ _ hR keep1.rf (fun s hs => absurd hs (by omega))

