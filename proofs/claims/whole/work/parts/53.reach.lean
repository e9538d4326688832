def RFp (S : Nat → Nat) (j : Nat) (R R' : Nat → Int) (F F' : Nat → Option Nat) (Y : ZT) (M : LT) : Prop := ∀ b, b < 24 →
  ((∃ k, k < j ∧ S k = b) → M (1, 0, 11) b = lI (R' b) ∧ (R' b < NO → Y (1, 0, 12) b = enc (F' b))) ∧ ((¬ ∃ k, k < j ∧ S k = b) → M (1, 0, 11) b = lI (R b) ∧ (R b < NO → Y (1, 0, 12) b = enc (F b)))
theorem RFp.init {S : Nat → Nat} {R R' : Nat → Int} {F F' : Nat → Option Nat} {Y : ZT} {M : LT} (h : RF R F Y M) : RFp S 0 R R' F F' Y M := fun b hb => ⟨fun ⟨k, hk, _⟩ => absurd hk (by omega), fun _ => h b hb⟩
theorem RFp.fin {S : Nat → Nat} {sc : Nat} {R R' : Nat → Int} {F F' : Nat → Option Nat} {Y : ZT} {M : LT} (h : RFp S sc R R' F F' Y M) (hn : ∀ b, snd S sc b = false → R' b = R b ∧ F' b = F b) : RF R' F' Y M := fun b hb => by
  by_cases q : ∃ k, k < sc ∧ S k = b
  · exact (h b hb).1 q
  · have := hn b (by unfold snd; exact decide_eq_false q)
    rw [this.1, this.2]
    exact (h b hb).2 q
theorem RFp.no {S : Nat → Nat} {j : Nat} {R R' : Nat → Int} {F F' : Nat → Option Nat} {Y : ZT} {M : LT} (h : RFp S j R R' F F' Y M) (hd : ∀ k, k < j → S k ≠ S j) (h1 : R' (S j) = R (S j)) (h2 : F' (S j) = F (S j)) : RFp S (j + 1) R R' F F' Y M := fun b hb => by
  constructor
  · rintro ⟨k, hk, e⟩
    rcases Nat.lt_or_ge k j with q | q
    · exact (h b hb).1 ⟨k, q, e⟩
    · obtain rfl : k = j := by omega
      rw [← e, h1, h2]
      exact (h (S k) (e ▸ hb)).2 (fun ⟨k', hk', e'⟩ => hd k' hk' e')
  · intro q
    exact (h b hb).2 (fun ⟨k, hk, e⟩ => q ⟨k, by omega, e⟩)
theorem RFp.up {S : Nat → Nat} {j : Nat} {R R' : Nat → Int} {F F' : Nat → Option Nat} {Y : ZT} {M : LT} (h : RFp S j R R' F F' Y M) {v : Int64} {f : Int32} (h1 : v = lI (R' (S j))) (h2 : f = enc (F' (S j))) : RFp S (j + 1) R R' F F' (upZ Y (1, 0, 12) (S j) f) (upL M (1, 0, 11) (S j) v) := fun b hb => by
  by_cases e : b = S j
  · refine ⟨fun _ => ?_, fun q => absurd ⟨j, by omega, e.symm⟩ q⟩
    rw [e, upL_at, upZ_at]
    exact ⟨h1, fun _ => h2⟩
  · rw [upL_nk (Or.inr e), upZ_nk (Or.inr e)]
    refine ⟨fun ⟨k, hk, e'⟩ => (h b hb).1 ⟨k, ?_, e'⟩, fun q => (h b hb).2 (fun ⟨k, hk, e⟩ => q ⟨k, by omega, e⟩)⟩
    rcases Nat.lt_or_ge k j with q | q
    · exact q
    · exfalso
      apply e
      rw [← e', show k = j by omega]
set_option maxRecDepth 100000 in
set_option maxHeartbeats 4000000 in
theorem c_X1_reachFrom (l : Launch) (G : GG) {ad : NM → Nat} {np nb : Nat} {Z : ZT} {L : LT} {h : AH} (hR : Rm ad np nb Z L h) {w S : Nat → Nat} {sc : Nat} (hSd : Sd Z w S sc) {f i : Nat} (hf : f < 24) (hi0 : 0 < i) (hi8 : i < 8) {fo : Option Nat} {s : Int} {R : Nat → Int} {F : Nat → Option Nat} (hRF : RF R F Z L) (hRr : ∀ b, rg (R b)) (hsr : ∀ b, snd S sc b = true → rg (s + (cN w i b : Int))) : Con l G mX1_reachFrom 2 0 0 [.ref (ad (1, 0, 0)), .int (nI i), .int (nI f), .int (enc fo), .long (lI s)] h (fun r h2 => ∃ Y M bt, r = some (.int (bi bt)) ∧ Rm ad np nb Y M h2 ∧ keepC Z Y ∧ keepLC L M ∧ Y (1, 0, 10) = Z (1, 0, 10) ∧ RF (rlx (okC Z S sc f) (cN w) i s R) (rlxF (okC Z S sc f) (cN w) i s R fo F) Y M ∧ (bt = false → ∀ b, ¬ (okC Z S sc f i b = true ∧ s + (cN w i b : Int) < R b))) := by
  have hsc := hSd.2.1
  have key : ∀ nn j, sc < j + nn → j ≤ sc → ∀ (bt : Bool) h Y M, Rm ad np nb Y M h → keepC Z Y → keepLC L M → Y (1, 0, 10) = Z (1, 0, 10) → RFp S j R (rlx (okC Z S sc f) (cN w) i s R) F (rlxF (okC Z S sc f) (cN w) i s R fo F) Y M → (bt = false → ∀ k, k < j → ¬ (okC Z S sc f i (S k) = true ∧ s + (cN w i (S k) : Int) < R (S k))) → J (thM l G mX1_reachFrom 2 0 0 (fun r h2 => ∃ Y M bt, r = some (.int (bi bt)) ∧ Rm ad np nb Y M h2 ∧ keepC Z Y ∧ keepLC L M ∧ Y (1, 0, 10) = Z (1, 0, 10) ∧ RF (rlx (okC Z S sc f) (cN w) i s R) (rlxF (okC Z S sc f) (cN w) i s R fo F) Y M ∧ (bt = false → ∀ b, ¬ (okC Z S sc f i b = true ∧ s + (cN w i b : Int) < R b)))) cX1_reachFrom h (0, 0) [some (.ref (ad (1, 0, 0))), some (.int (nI i)), some (.int (nI f)), some (.int (enc fo)), some (.long (lI s)), none, some (.int (bi bt)), some (.int (nI j)), none, none, none, none] 6 [] := by
    intro nn
    induction nn with
    | zero => intro j h1 h2; omega
    | succ nn ih =>
      intro j h1 h2 bt h Y M hR hk hkl h10 hp hbt
      have hS := hSd.keep hk
      refine j_iload dX1_reachFrom_6 rfl ?_
      refine j_aload_n dX1_reachFrom_8 rfl ?_
      refine gX1_59 rfl (hR.1 _ ⟨by first | assumption | exact Nat.zero_lt_one, rfl⟩) rfl dX1_reachFrom_9 ?_
      refine j_icmp_ge 121 dX1_reachFrom_12 (by decide) (fun c_12 => ?_) (fun c_12 => ?_)
      · have hlt : sc ≤ j := (nI_leI (a := sc) (b := j) (by omega) (by omega)).mp (hS.1 ▸ c_12)
        obtain rfl : j = sc := by omega
        refine j_iload dX1_reachFrom_121 rfl ?_
        refine j_zret rfl (bi_nar _) (Nat.le_of_ble_eq_true rfl) (Nat.le_of_ble_eq_true rfl) dX1_reachFrom_123 ?_
        refine ⟨Y, M, bt, rfl, hR, hk, hkl, h10, hp.fin (fun b hb => ?_), fun hb b q => ?_⟩
        · have : ¬ (okC Z S j f i b = true ∧ s + (cN w i b : Int) < R b) := fun q => by
            have := ((okCS hi0).mp q.1).1
            rw [hb] at this
            cases this
          exact ⟨if_neg this, if_neg this⟩
        · obtain ⟨k, hk2, rfl⟩ := snd_iff.mp ((okCS hi0).mp q.1).1
          exact hbt hb k hk2 q
      · have hlt : j < sc := Nat.not_le.mp (fun q => c_12 (hS.1 ▸ (nI_leI (a := sc) (b := j) (by omega) (by omega)).mpr q))
        have hSj := hS.2.2.1 j hlt
        refine j_aload_n dX1_reachFrom_15 rfl ?_
        refine gX1_21 rfl (hR.1 _ ⟨by first | assumption | exact Nat.zero_lt_one, rfl⟩) rfl dX1_reachFrom_16 ?_
        refine j_iload dX1_reachFrom_19 rfl ?_
        refine j_iald (hR.1 _ ⟨by first | assumption | exact Nat.zero_lt_one, rfl⟩) j rfl (by omega) (by decide) dX1_reachFrom_21 ?_
        rw [hSj.1]
        refine j_istore dX1_reachFrom_22 (Nat.le_of_ble_eq_true rfl) rfl ?_
        refine j_aload_n dX1_reachFrom_24 rfl ?_
        refine gX1_27 rfl (hR.1 _ ⟨by first | assumption | exact Nat.zero_lt_one, rfl⟩) rfl dX1_reachFrom_25 ?_
        refine j_iload dX1_reachFrom_28 rfl ?_
        refine j_iald (hR.1 _ ⟨by first | assumption | exact Nat.zero_lt_one, rfl⟩) (S j) rfl hSj.2.1 (by decide) dX1_reachFrom_30 ?_
        refine j_aload_n dX1_reachFrom_31 rfl ?_
        refine gX1_27 rfl (hR.1 _ ⟨by first | assumption | exact Nat.zero_lt_one, rfl⟩) rfl dX1_reachFrom_32 ?_
        refine j_iload_n dX1_reachFrom_35 rfl ?_
        refine j_iald (hR.1 _ ⟨by first | assumption | exact Nat.zero_lt_one, rfl⟩) f rfl (by omega) (by decide) dX1_reachFrom_36 ?_
        refine j_isub dX1_reachFrom_37 ?_
        refine j_aload_n dX1_reachFrom_38 rfl ?_
        refine gX1_11 rfl (hR.1 _ ⟨by first | assumption | exact Nat.zero_lt_one, rfl⟩) rfl dX1_reachFrom_39 ?_
        refine j_iload_n dX1_reachFrom_42 rfl ?_
        refine j_iald (hR.1 _ ⟨by first | assumption | exact Nat.zero_lt_one, rfl⟩) i rfl (by omega) (by decide) dX1_reachFrom_43 ?_
        refine j_isub dX1_reachFrom_44 ?_
        refine j_istore dX1_reachFrom_45 (Nat.le_of_ble_eq_true rfl) rfl ?_
        refine j_lload dX1_reachFrom_47 rfl ?_
        refine j_aload_n dX1_reachFrom_49 rfl ?_
        refine j_iload_n dX1_reachFrom_50 rfl ?_
        refine j_iload dX1_reachFrom_51 rfl ?_
        refine j_callV (rest := [.long (lI s)]) (c_X1_numberOf l G hR hi8 hSj.2.1 hSj.2.2.1 hSj.2.2.2) (hR.1 _ ⟨by first | assumption | exact Nat.zero_lt_one, rfl⟩) rfl cw_X1_numberOf wl_X1_90 wm_X1_numberOf wx_X1_numberOf rfl rfl (Nat.le_of_ble_eq_true rfl) (Nat.le_of_ble_eq_true rfl) (Nat.le_of_ble_eq_true rfl) (Nat.le_of_ble_eq_true rfl) (Nat.le_of_ble_eq_true rfl) dX1_reachFrom_53 (fun v_53 h_53 e_53 => ?_)
        obtain ⟨rfl, hh⟩ := e_53
        have hh := hh.symm
        subst hh
        refine j_ladd dX1_reachFrom_56 ?_
        rw [lI_add]
        refine j_lstore dX1_reachFrom_57 (Nat.le_of_ble_eq_true rfl) rfl ?_
        refine j_iload dX1_reachFrom_59 rfl ?_
        refine j_iload_n dX1_reachFrom_61 rfl ?_
        refine j_icmp_eq 115 dX1_reachFrom_62 (by decide) (fun c_62 => ?_) (fun c_62 => ?_)
        · have hn : ¬ (okC Z S sc f i (S j) = true ∧ s + (cN w i (S j) : Int) < R (S j)) := fun q => ((okCS hi0).mp q.1).2.1 ((nI_eq (a := S j) (b := f) (by omega) (by omega)).mp c_62)
          refine j_iinc dX1_reachFrom_115 rfl (nI_inc _) (Nat.le_of_ble_eq_true rfl) rfl ?_
          refine j_goto 6 dX1_reachFrom_118 (by decide) ?_
          refine J.drop 8 ?_
          refine J.drop 9 ?_
          refine J.drop 10 ?_
          exact ih (j + 1) (by omega) (by omega) bt _ _ _ hR hk hkl h10 (hp.no (fun k hkj => hSd.2.2.2 k j hkj hlt) (if_neg hn) (if_neg hn)) (fun hb k hk2 => by
            rcases Nat.lt_or_ge k j with q | q
            · exact hbt hb k q
            · rw [show k = j by omega]; exact hn)
        · have hne : S j ≠ f := fun q => c_62 (by rw [q])
          refine j_iload dX1_reachFrom_65 rfl ?_
          refine j_aload_n dX1_reachFrom_67 rfl ?_
          refine gX1_48 rfl (hR.1 _ ⟨by first | assumption | exact Nat.zero_lt_one, rfl⟩) rfl dX1_reachFrom_68 ?_
          refine j_ineg dX1_reachFrom_71 ?_
          refine j_aload_n dX1_reachFrom_72 rfl ?_
          refine gX1_48 rfl (hR.1 _ ⟨by first | assumption | exact Nat.zero_lt_one, rfl⟩) rfl dX1_reachFrom_73 ?_
          refine j_callSN (host := RX4) (rest := []) (c_X4_within l G) cw_X4_within (hl := fun s hs => hs.2.2.1) ws_X4_within rfl rfl (Nat.le_of_ble_eq_true rfl) (Nat.le_of_ble_eq_true rfl) (Nat.le_of_ble_eq_true rfl) (Nat.le_of_ble_eq_true rfl) (Nat.le_of_ble_eq_true rfl) dX1_reachFrom_76 (fun v_76 h_76 e_76 => ?_)
          obtain ⟨rfl, hh⟩ := e_76
          have hh := hh.symm
          subst hh
          refine j_if_eq 115 dX1_reachFrom_79 (by decide) (fun c_79 => ?_) (fun c_79 => ?_)
          · have g_79 := (bi_eq0 _).mp c_79
            have hn : ¬ (okC Z S sc f i (S j) = true ∧ s + (cN w i (S j) : Int) < R (S j)) := fun q => by
              have q2 := ((okCS hi0).mp q.1).2.2
              rw [← agr_keep hk] at q2
              exact absurd (q2.symm.trans g_79) (by decide)
            refine j_iinc dX1_reachFrom_115 rfl (nI_inc _) (Nat.le_of_ble_eq_true rfl) rfl ?_
            refine j_goto 6 dX1_reachFrom_118 (by decide) ?_
            refine J.drop 8 ?_
            refine J.drop 9 ?_
            refine J.drop 10 ?_
            exact ih (j + 1) (by omega) (by omega) bt _ _ _ hR hk hkl h10 (hp.no (fun k hkj => hSd.2.2.2 k j hkj hlt) (if_neg hn) (if_neg hn)) (fun hb k hk2 => by
              rcases Nat.lt_or_ge k j with q | q
              · exact hbt hb k q
              · rw [show k = j by omega]; exact hn)
          · have g_79 := (bi_ne0 _).mp c_79
            have hag : agr Z f i (S j) = true := by rw [← agr_keep hk]; exact g_79
            refine j_lload dX1_reachFrom_82 rfl ?_
            refine j_aload_n dX1_reachFrom_84 rfl ?_
            refine gX1_33 rfl (hR.1 _ ⟨by first | assumption | exact Nat.zero_lt_one, rfl⟩) rfl dX1_reachFrom_85 ?_
            refine j_iload dX1_reachFrom_88 rfl ?_
            refine j_lald (hR.1 _ ⟨by first | assumption | exact Nat.zero_lt_one, rfl⟩) (S j) rfl hSj.2.1 (by decide) dX1_reachFrom_90 ?_
            rw [((hp (S j) hSj.2.1).2 (fun ⟨k, hk2, e⟩ => hSd.2.2.2 k j hk2 hlt e)).1]
            refine j_lcmp dX1_reachFrom_91 ?_
            refine j_if_ge 115 dX1_reachFrom_92 (by decide) (fun c_92 => ?_) (fun c_92 => ?_)
            · have hn : ¬ (okC Z S sc f i (S j) = true ∧ s + (cN w i (S j) : Int) < R (S j)) := fun q => absurd ((lI_le (hRr _) (hsr _ (by rw [snd_iff]; exact ⟨j, hlt, rfl⟩))).mp ((lg_cmp_ge _ _).mp c_92)) (Int.not_le.mpr q.2)
              refine j_iinc dX1_reachFrom_115 rfl (nI_inc _) (Nat.le_of_ble_eq_true rfl) rfl ?_
              refine j_goto 6 dX1_reachFrom_118 (by decide) ?_
              refine J.drop 8 ?_
              refine J.drop 9 ?_
              refine J.drop 10 ?_
              exact ih (j + 1) (by omega) (by omega) bt _ _ _ hR hk hkl h10 (hp.no (fun k hkj => hSd.2.2.2 k j hkj hlt) (if_neg hn) (if_neg hn)) (fun hb k hk2 => by
                rcases Nat.lt_or_ge k j with q | q
                · exact hbt hb k q
                · rw [show k = j by omega]; exact hn)
            · have hu : okC Z S sc f i (S j) = true ∧ s + (cN w i (S j) : Int) < R (S j) := ⟨(okCS hi0).mpr ⟨by rw [snd_iff]; exact ⟨j, hlt, rfl⟩, hne, hag⟩, Int.not_le.mp (fun q => c_92 ((lg_cmp_ge _ _).mpr ((lI_le (hRr _) (hsr _ (by rw [snd_iff]; exact ⟨j, hlt, rfl⟩))).mpr q)))⟩
              refine j_aload_n dX1_reachFrom_95 rfl ?_
              refine gX1_33 rfl (hR.1 _ ⟨by first | assumption | exact Nat.zero_lt_one, rfl⟩) rfl dX1_reachFrom_96 ?_
              refine j_iload dX1_reachFrom_99 rfl ?_
              refine j_lload dX1_reachFrom_101 rfl ?_
              refine r_last hR ⟨by first | assumption | exact Nat.zero_lt_one, rfl⟩ (fun _ => rfl) (S j) rfl hSj.2.1 (by decide) dX1_reachFrom_103 (fun h hR => ?_)
              refine j_aload_n dX1_reachFrom_104 rfl ?_
              refine gX1_37 rfl (hR.1 _ ⟨by first | assumption | exact Nat.zero_lt_one, rfl⟩) rfl dX1_reachFrom_105 ?_
              refine j_iload dX1_reachFrom_108 rfl ?_
              refine j_iload_n dX1_reachFrom_110 rfl ?_
              refine r_iast hR ⟨by first | assumption | exact Nat.zero_lt_one, rfl⟩ (fun _ => rfl) (S j) rfl hSj.2.1 (by decide) dX1_reachFrom_111 (fun h hR => ?_)
              refine j_iconst (v := 1) dX1_reachFrom_112 (by decide) ?_
              refine j_istore dX1_reachFrom_113 (Nat.le_of_ble_eq_true rfl) rfl ?_
              refine j_iinc dX1_reachFrom_115 rfl (nI_inc _) (Nat.le_of_ble_eq_true rfl) rfl ?_
              refine j_goto 6 dX1_reachFrom_118 (by decide) ?_
              refine J.drop 8 ?_
              refine J.drop 9 ?_
              refine J.drop 10 ?_
              exact ih (j + 1) (by omega) (by omega) true _ _ _ hR (hk.up12 _ _) (hkl.up _ _) (by rw [upZ_ne (by simp)]; exact h10) (hp.up (congrArg lI (if_pos hu).symm) (congrArg enc (if_pos hu).symm)) (fun hb => absurd hb (by decide))
  refine Con.of 6 rfl (Nat.le_of_ble_eq_true rfl) ?_
  refine j_iconst (v := 0) dX1_reachFrom_0 (by decide) ?_
  refine j_istore dX1_reachFrom_1 (Nat.le_of_ble_eq_true rfl) rfl ?_
  refine j_iconst (v := 0) dX1_reachFrom_3 (by decide) ?_
  refine j_istore dX1_reachFrom_4 (Nat.le_of_ble_eq_true rfl) rfl ?_
  exact key (sc + 1) 0 (by omega) (by omega) false _ _ _ hR keepC.rf keepLC.rf rfl (RFp.init hRF) (fun _ k hk => absurd hk (by omega))

