def MX : Int := 49039318110437376
def BDR (q : Nat) (R : Nat → Int) : Prop := ∀ b, R b = NO ∨ (-(q * MX) ≤ R b ∧ R b ≤ q * MX)
theorem BDR.rg {q : Nat} {R : Nat → Int} (h : BDR q R) (hq : q ≤ 180) (b : Nat) : rg (R b) := by
  have := h b
  unfold MX NO at this
  exact ⟨by omega, by omega⟩
theorem BDR.mono {q q' : Nat} {R : Nat → Int} (h : BDR q R) (hq : q ≤ q') : BDR q' R := fun b => by
  have := h b
  unfold MX at this ⊢
  omega
theorem BDR.step {ok : Nat → Nat → Bool} {c : Nat → Nat → Nat} {q i x : Nat} {R : Nat → Int} (h : BDR q R) (hq : q ≤ 180) (hx : R x < NO) (hcx : (c i x : Int) ≤ MX) (hc : ∀ b, ok i b = true → (c i b : Int) ≤ MX) : BDR (q + 1) (rlx ok c i (R x - c i x) R) := fun b => by
  unfold rlx
  have h1 := h b
  have h2 := h x
  unfold MX at *
  split
  · rename_i p
    have := hc b p.1
    omega
  · omega
theorem bfi_first {ok : Nat → Nat → Bool} {c : Nat → Nat → Nat} {a : Nat → Nat} {n f : Nat} {R : Nat → Int} {F : Nat → Option Nat} (h : BFI ok c a n R F) (hn : 0 < n) (h1 : ∀ i, 0 < i → ok i f = false) (ha : a 0 = f) : ¬ R f < NO := fun q => by
  rcases (h f).2 q with ⟨_, p, _⟩ | ⟨i, _, _, p1, _, p2, _⟩
  · rw [h1 n hn] at p; cases p
  · rcases Nat.eq_zero_or_pos i with z | z
    · rw [z] at p1; exact p1 ha
    · rw [h1 i z] at p2; cases p2
/-- how many of the first n numbers p holds of -/
def ctr (p : Nat → Bool) : Nat → Nat
  | 0 => 0
  | n + 1 => ctr p n + (if p n = true then 1 else 0)
theorem ctr_le (p : Nat → Bool) : ∀ n, ctr p n ≤ n
  | 0 => Nat.le_refl _
  | n + 1 => by
    have := ctr_le p n
    unfold ctr
    split <;> omega
theorem ctr_mono {p p' : Nat → Bool} (h : ∀ i, p i = true → p' i = true) : ∀ n, ctr p n ≤ ctr p' n
  | 0 => Nat.le_refl _
  | n + 1 => by
    have h1 := ctr_mono h n
    have h2 := h n
    unfold ctr
    split
    · rename_i q; rw [if_pos (h2 q)]; omega
    · omega
theorem ctr_lt {p p' : Nat → Bool} (h : ∀ i, p i = true → p' i = true) {i : Nat} (h0 : p i = false) (h1 : p' i = true) : ∀ n, i < n → ctr p n + 1 ≤ ctr p' n
  | 0, hi => absurd hi (Nat.not_lt_zero _)
  | n + 1, hi => by
    have h2 := h n
    unfold ctr
    rcases Nat.lt_or_ge i n with q | q
    · have h3 := ctr_lt h h0 h1 n q
      split
      · rename_i q; rw [if_pos (h2 q)]; omega
      · omega
    · obtain rfl : i = n := by omega
      have h3 := ctr_mono h i
      rw [h0, h1, if_pos rfl, if_neg (by decide)]
      omega
theorem snd_up {S : Nat → Nat} {j b : Nat} (h : snd S j b = true) : snd S (j + 1) b = true := by
  obtain ⟨k, hk, e⟩ := snd_iff.mp h
  exact snd_iff.mpr ⟨k, by omega, e⟩
def MV (ok : Nat → Nat → Bool) (c : Nat → Nat → Nat) (a : Nat → Nat) (n : Nat) (S : Nat → Nat) (R : Nat → Int) (q j : Nat) (R' : Nat → Int) (F' : Nat → Option Nat) : Prop :=
  BFI ok c a n R' F' ∧ (∀ b, R' b ≤ R b) ∧ BDR (q + ctr (fun i => snd S j (a i)) n) R' ∧ ∀ k, k < j → ∀ i b, i < n → a i = S k → R (a i) < NO → ok i b = true → R' b ≤ R (a i) - c i (a i) + c i b ∧ R' b < NO
theorem MV.skip {ok : Nat → Nat → Bool} {c : Nat → Nat → Nat} {a : Nat → Nat} {n : Nat} {S : Nat → Nat} {R : Nat → Int} {q j : Nat} {R' : Nat → Int} {F' : Nat → Option Nat} (h : MV ok c a n S R q j R' F') (hx : ∀ i, i < n → a i = S j → ¬ R (a i) < NO) : MV ok c a n S R q (j + 1) R' F' :=
  ⟨h.1, h.2.1, h.2.2.1.mono (Nat.add_le_add_left (ctr_mono (fun _ => snd_up) n) q), fun k hk i b hi e hr ho => by
    rcases Nat.lt_or_ge k j with p | p
    · exact h.2.2.2 k p i b hi e hr ho
    · rw [show k = j by omega] at e
      exact absurd hr (hx i hi e)⟩
theorem MV.step {ok : Nat → Nat → Bool} {c : Nat → Nat → Nat} {a : Nat → Nat} {n : Nat} {S : Nat → Nat} {R : Nat → Int} {q j : Nat} {R' : Nat → Int} {F' : Nat → Option Nat} (h : MV ok c a n S R q j R' F') (hq : q + n ≤ 90) (hS : ∀ k, k < j → S k ≠ S j) (hA : Va ok n a) (hc : ∀ i b, i < n → ok i b = true → (c i b : Int) ≤ MX) {i : Nat} (hi : i < n) (e : a i = S j) (hr : R' (a i) < NO) :
    MV ok c a n S R q (j + 1) (rlx ok c i (R' (a i) - c i (a i)) R') (rlxF ok c i (R' (a i) - c i (a i)) R' (some (a i)) F') := by
  have hcn := ctr_le (fun i => snd S j (a i)) n
  have hcl := ctr_lt (p := fun i => snd S j (a i)) (p' := fun i => snd S (j + 1) (a i)) (fun _ => snd_up) (i := i) (by
    cases hx : snd S j (a i) with
    | false => rfl
    | true =>
      obtain ⟨k, hk, e2⟩ := snd_iff.mp hx
      exact absurd (e2.trans e) (hS k hk)) (snd_iff.mpr ⟨j, by omega, e.symm⟩) n hi
  have hst1 := h.2.2.1.step (ok := ok) (c := c) (i := i) (x := a i) (by omega) hr (hc i _ hi (hA.1 i hi)) (fun b hb => hc i b hi hb)
  have hst := hst1.mono (q' := q + ctr (fun i => snd S (j + 1) (a i)) n) (by omega)
  refine ⟨h.1.step hi hr, fun b => Int.le_trans (rlx_le b) (h.2.1 b), hst, fun k hk i' b hi' e' hr' ho => ?_⟩
  rcases Nat.lt_or_ge k j with p | p
  · have := h.2.2.2 k p i' b hi' e' hr' ho
    have := rlx_le (ok := ok) (c := c) (i := i) (s := R' (a i) - c i (a i)) (R := R') b
    omega
  · rw [show k = j by omega, ← e] at e'
    obtain rfl : i' = i := hA.2 _ _ hi' hi e'
    have h1 := rlx_to (c := c) (s := R' (a i') - c i' (a i')) (R := R') ho
    have h2 := h.2.1 (a i')
    have h3 := hst1 b
    have h4 := h.2.2.1 (a i')
    have h5 := hc i' b hi ho
    have h6 : (0 : Int) ≤ c i' (a i') := Int.natCast_nonneg _
    unfold MX NO at *
    omega
set_option maxRecDepth 100000 in
set_option maxHeartbeats 4000000 in
theorem c_X1_moveHolders (l : Launch) (G : GG) {ad : NM → Nat} {np nb : Nat} {Z : ZT} {L : LT} {h : AH} (hR : Rm ad np nb Z L h) {w S : Nat → Nat} {sc : Nat} (hSd : Sd Z w S sc) {f n : Nat} (hf : f < 24) (hn0 : 0 < n) (hn8 : n < 8) {a : Nat → Nat} {H : Nat → Option Nat} (hA : Va (okC Z S sc f) n a) (hH : Hd n a H) (hHm : ∀ b, b < 24 → Z (1, 0, 10) b = enc (H b)) {R : Nat → Int} {F : Nat → Option Nat} (hfs : snd S sc f = true) (hRF : RF R F Z L) (hB : BFI (okC Z S sc f) (cN w) a n R F) {q : Nat} (hq : q + 7 ≤ 60) (hbd : BDR q R)  : Con l G mX1_moveHolders 3 0 0 [.ref (ad (1, 0, 0)), .int (nI f)] h (fun r h2 => ∃ Y M bt R' F', r = some (.int (bi bt)) ∧ Rm ad np nb Y M h2 ∧ keepC Z Y ∧ keepLC L M ∧ Y (1, 0, 10) = Z (1, 0, 10) ∧ RF R' F' Y M ∧ BFI (okC Z S sc f) (cN w) a n R' F' ∧ (∀ b, R' b ≤ R b) ∧ RND (okC Z S sc f) (cN w) a n R R' ∧ BDR (q + 7) R' ∧ (bt = false → R' = R)) := by
  have hsc := hSd.2.1
  have hcb : ∀ i b, okC Z S sc f i b = true → (cN w i b : Int) ≤ MX := fun i b ho => by
    have hs : snd S sc b = true := by
      rcases Nat.eq_zero_or_pos i with z | z
      · rw [z] at ho; rw [okC0.mp ho]; exact hfs
      · exact ((okCS z).mp ho).1
    obtain ⟨k, hk, e⟩ := snd_iff.mp hs
    have h1 := hSd.2.2.1 k hk
    rw [e] at h1
    have := cN_lt (i := i) h1.2.1 h1.2.2.2
    unfold MX
    omega
  have key : ∀ nn j, sc < j + nn → j ≤ sc → ∀ (bt : Bool) R' F' h Y M, Rm ad np nb Y M h → keepC Z Y → keepLC L M → Y (1, 0, 10) = Z (1, 0, 10) → RF R' F' Y M → MV (okC Z S sc f) (cN w) a n S R q j R' F' → (bt = false → R' = R) → J (thM l G mX1_moveHolders 3 0 0 (fun r h2 => ∃ Y M bt R' F', r = some (.int (bi bt)) ∧ Rm ad np nb Y M h2 ∧ keepC Z Y ∧ keepLC L M ∧ Y (1, 0, 10) = Z (1, 0, 10) ∧ RF R' F' Y M ∧ BFI (okC Z S sc f) (cN w) a n R' F' ∧ (∀ b, R' b ≤ R b) ∧ RND (okC Z S sc f) (cN w) a n R R' ∧ BDR (q + 7) R' ∧ (bt = false → R' = R))) cX1_moveHolders h (0, 0) [some (.ref (ad (1, 0, 0))), some (.int (nI f)), some (.int (bi bt)), some (.int (nI j)), none, none] 4 [] := by
    intro nn
    induction nn with
    | zero => intro j h1 h2; omega
    | succ nn ih =>
      intro j h1 h2 bt R' F' h Y M hR hk hkl h10 hrf hmv hbt
      have hS := hSd.keep hk
      have hqn : q + ctr (fun i => snd S j (a i)) n ≤ 180 := by
        have := ctr_le (fun i => snd S j (a i)) n
        omega
      refine j_iload_n dX1_moveHolders_4 rfl ?_
      refine j_aload_n dX1_moveHolders_5 rfl ?_
      refine gX1_59 rfl (hR.1 _ ⟨by first | assumption | exact Nat.zero_lt_one, rfl⟩) rfl dX1_moveHolders_6 ?_
      refine j_icmp_ge 85 dX1_moveHolders_9 (by decide) (fun c_9 => ?_) (fun c_9 => ?_)
      · have hlt : sc ≤ j := (nI_leI (a := sc) (b := j) (by omega) (by omega)).mp (hS.1 ▸ c_9)
        obtain rfl : j = sc := by omega
        refine j_iload_n dX1_moveHolders_85 rfl ?_
        refine j_zret rfl (bi_nar _) (Nat.le_of_ble_eq_true rfl) (Nat.le_of_ble_eq_true rfl) dX1_moveHolders_86 ?_
        refine ⟨Y, M, bt, R', F', rfl, hR, hk, hkl, h10, hrf, hmv.1, hmv.2.1, fun i b hi hr ho => ?_, hmv.2.2.1.mono (by have := ctr_le (fun i => snd S j (a i)) n; omega), hbt⟩
        have hsx : snd S j (a i) = true := by
          rcases Nat.eq_zero_or_pos i with z | z
          · rw [z, okC0.mp (hA.1 0 hn0)]; exact hfs
          · exact ((okCS z).mp (hA.1 i hi)).1
        obtain ⟨k, hk3, e⟩ := snd_iff.mp hsx
        exact hmv.2.2.2 k hk3 i b hi e.symm hr ho
      · have hlt : j < sc := Nat.not_le.mp (fun q => c_9 (hS.1 ▸ (nI_leI (a := sc) (b := j) (by omega) (by omega)).mpr q))
        have hSj := hS.2.2.1 j hlt
        refine j_aload_n dX1_moveHolders_12 rfl ?_
        refine gX1_21 rfl (hR.1 _ ⟨by first | assumption | exact Nat.zero_lt_one, rfl⟩) rfl dX1_moveHolders_13 ?_
        refine j_iload_n dX1_moveHolders_16 rfl ?_
        refine j_iald (hR.1 _ ⟨by first | assumption | exact Nat.zero_lt_one, rfl⟩) j rfl (by omega) (by decide) dX1_moveHolders_17 ?_
        rw [hSj.1]
        refine j_istore dX1_moveHolders_18 (Nat.le_of_ble_eq_true rfl) rfl ?_
        refine j_aload_n dX1_moveHolders_20 rfl ?_
        refine gX1_30 rfl (hR.1 _ ⟨by first | assumption | exact Nat.zero_lt_one, rfl⟩) rfl dX1_moveHolders_21 ?_
        refine j_iload dX1_moveHolders_24 rfl ?_
        refine j_iald (hR.1 _ ⟨by first | assumption | exact Nat.zero_lt_one, rfl⟩) (S j) rfl hSj.2.1 (by decide) dX1_moveHolders_26 ?_
        rw [h10, hHm (S j) hSj.2.1]
        refine j_istore dX1_moveHolders_27 (Nat.le_of_ble_eq_true rfl) rfl ?_
        cases hHx : H (S j) with
        | none =>
          refine j_iload dX1_moveHolders_29 rfl ?_
          refine j_iconst (v := (-1)) dX1_moveHolders_31 (by decide) ?_
          refine j_icmp_eq 79 dX1_moveHolders_32 (by decide) (fun c_32 => ?_) (fun c_32 => ?_)
          · refine j_iinc dX1_moveHolders_79 rfl (nI_inc _) (Nat.le_of_ble_eq_true rfl) rfl ?_
            refine j_goto 4 dX1_moveHolders_82 (by decide) ?_
            refine J.drop 4 ?_
            refine J.drop 5 ?_
            exact ih (j + 1) (by omega) (by omega) bt R' F' _ _ _ hR hk hkl h10 hrf (hmv.skip (fun i hi e hr => by
              rcases Nat.eq_zero_or_pos i with z | z
              · have ha0 : a 0 = f := okC0.mp (hA.1 0 hn0)
                rw [z, ha0] at hr
                exact bfi_first hB hn0 (fun i hi => by
                  cases hx : okC Z S sc f i f with
                  | false => rfl
                  | true => exact absurd rfl ((okCS hi).mp hx).2.1) ha0 hr
              · have := (hH (S j) i).mpr ⟨z, hi, e⟩
                rw [hHx] at this
                cases this)) hbt
          · exact absurd rfl c_32
        | some i =>
          have hi := (hH (S j) i).mp hHx
          refine j_iload dX1_moveHolders_29 rfl ?_
          refine j_iconst (v := (-1)) dX1_moveHolders_31 (by decide) ?_
          refine j_icmp_eq 79 dX1_moveHolders_32 (by decide) (fun c_32 => ?_) (fun c_32 => ?_)
          · exact absurd c_32 (enc_ne (by omega))
          · refine j_aload_n dX1_moveHolders_35 rfl ?_
            refine gX1_33 rfl (hR.1 _ ⟨by first | assumption | exact Nat.zero_lt_one, rfl⟩) rfl dX1_moveHolders_36 ?_
            refine j_iload dX1_moveHolders_39 rfl ?_
            refine j_lald (hR.1 _ ⟨by first | assumption | exact Nat.zero_lt_one, rfl⟩) (S j) rfl hSj.2.1 (by decide) dX1_moveHolders_41 ?_
            rw [(hrf (S j) hSj.2.1).1]
            refine j_ldc2 (own := RX1) rfl wc_X1_15 dX1_moveHolders_42 ?_
            rw [show (4611686018427387904 : Int64) = lI NO from lI_NO.symm]
            refine j_lcmp dX1_moveHolders_45 ?_
            refine j_if_eq 79 dX1_moveHolders_46 (by decide) (fun c_46 => ?_) (fun c_46 => ?_)
            · have hno : R' (S j) = NO := (lI_eq (hmv.2.2.1.rg hqn _) rg_NO).mp ((lg_cmp_eq _ _).mp c_46)
              refine j_iinc dX1_moveHolders_79 rfl (nI_inc _) (Nat.le_of_ble_eq_true rfl) rfl ?_
              refine j_goto 4 dX1_moveHolders_82 (by decide) ?_
              refine J.drop 4 ?_
              refine J.drop 5 ?_
              exact ih (j + 1) (by omega) (by omega) bt R' F' _ _ _ hR hk hkl h10 hrf (hmv.skip (fun i' hi' e hr => by
                have := hmv.2.1 (a i')
                rw [e] at this hr
                have hN : R' (S j) = NO := hno
                omega)) hbt
            · have hlt2 : R' (S j) < NO := by
                have h1 := (hmv.1 (S j)).1
                have h2 : R' (S j) ≠ NO := fun q => c_46 ((lg_cmp_eq _ _).mpr (by rw [q]))
                omega
              have hsr : ∀ b, snd S sc b = true → rg (R' (S j) - cN w i (S j) + (cN w i b : Int)) := fun b hb => by
                obtain ⟨k, hk3, rfl⟩ := snd_iff.mp hb
                have h1 := hmv.2.2.1 (S j)
                have h2 := cN_lt (i := i) (hSd.2.2.1 k hk3).2.1 (hSd.2.2.1 k hk3).2.2.2
                have h3 := cN_lt (i := i) hSj.2.1 hSj.2.2.2
                unfold MX NO at h1
                unfold NO at hlt2
                unfold rg
                omega
              refine j_aload_n dX1_moveHolders_49 rfl ?_
              refine j_iload dX1_moveHolders_50 rfl ?_
              refine j_iload_n dX1_moveHolders_52 rfl ?_
              refine j_iload dX1_moveHolders_53 rfl ?_
              refine j_aload_n dX1_moveHolders_55 rfl ?_
              refine gX1_33 rfl (hR.1 _ ⟨by first | assumption | exact Nat.zero_lt_one, rfl⟩) rfl dX1_moveHolders_56 ?_
              refine j_iload dX1_moveHolders_59 rfl ?_
              refine j_lald (hR.1 _ ⟨by first | assumption | exact Nat.zero_lt_one, rfl⟩) (S j) rfl hSj.2.1 (by decide) dX1_moveHolders_61 ?_
              rw [(hrf (S j) hSj.2.1).1]
              refine j_aload_n dX1_moveHolders_62 rfl ?_
              refine j_iload dX1_moveHolders_63 rfl ?_
              refine j_iload dX1_moveHolders_65 rfl ?_
              refine j_callV (rest := [.long (lI (R' (S j))), .int (nI (S j)), .int (nI f), .int (nI i), .ref (ad (1, 0, 0))]) (c_X1_numberOf l G hR (i := i) (by omega) hSj.2.1 hSj.2.2.1 hSj.2.2.2) (hR.1 _ ⟨by first | assumption | exact Nat.zero_lt_one, rfl⟩) rfl cw_X1_numberOf wl_X1_90 wm_X1_numberOf wx_X1_numberOf rfl rfl (Nat.le_of_ble_eq_true rfl) (Nat.le_of_ble_eq_true rfl) (Nat.le_of_ble_eq_true rfl) (Nat.le_of_ble_eq_true rfl) (Nat.le_of_ble_eq_true rfl) dX1_moveHolders_67 (fun v_67 h_67 e_67 => ?_)
              obtain ⟨rfl, hh⟩ := e_67
              have hh := hh.symm
              subst hh
              refine j_lsub dX1_moveHolders_70 ?_
              rw [lI_sub]
              refine j_callV (rest := []) (c_X1_reachFrom l G hR (hSd.keep hk) (f := f) hf hi.1 (by omega) (fo := some (S j)) (s := R' (S j) - cN w i (S j)) hrf (fun b => hmv.2.2.1.rg hqn b) hsr) (hR.1 _ ⟨by first | assumption | exact Nat.zero_lt_one, rfl⟩) rfl cw_X1_reachFrom wl_X1_100 wm_X1_reachFrom wx_X1_reachFrom rfl rfl (Nat.le_of_ble_eq_true rfl) (Nat.le_of_ble_eq_true rfl) (Nat.le_of_ble_eq_true rfl) (Nat.le_of_ble_eq_true rfl) (Nat.le_of_ble_eq_true rfl) dX1_moveHolders_71 (fun v_71 h_71 e_71 => ?_)
              obtain ⟨Y2, M2, bt2, rfl, hR, hk2, hkl2, h102, hrf2, hbt2⟩ := e_71
              rw [okC_keep hk] at hrf2 hbt2
              have hmv2 := hmv.step (by omega) (fun k hk => hSd.2.2.2 k j hk hlt) hA (fun i' b hi' ho => hcb i' b ho) hi.2.1 hi.2.2 (by rw [hi.2.2]; exact hlt2)
              rw [hi.2.2] at hmv2
              refine j_if_eq 79 dX1_moveHolders_74 (by decide) (fun c_74 => ?_) (fun c_74 => ?_)
              · have g_74 := (bi_eq0 _).mp c_74
                refine j_iinc dX1_moveHolders_79 rfl (nI_inc _) (Nat.le_of_ble_eq_true rfl) rfl ?_
                refine j_goto 4 dX1_moveHolders_82 (by decide) ?_
                refine J.drop 4 ?_
                refine J.drop 5 ?_
                exact ih (j + 1) (by omega) (by omega) bt _ _ _ _ _ hR (hk.tr hk2) (hkl.tr hkl2) (h102.trans h10) hrf2 hmv2 (fun hb => by
                  rw [← hbt hb]
                  funext b
                  unfold rlx
                  rw [if_neg (hbt2 g_74 b)])
              · have g_74 := (bi_ne0 _).mp c_74
                refine j_iconst (v := 1) dX1_moveHolders_77 (by decide) ?_
                refine j_istore_n dX1_moveHolders_78 (Nat.le_of_ble_eq_true rfl) rfl ?_
                refine j_iinc dX1_moveHolders_79 rfl (nI_inc _) (Nat.le_of_ble_eq_true rfl) rfl ?_
                refine j_goto 4 dX1_moveHolders_82 (by decide) ?_
                refine J.drop 4 ?_
                refine J.drop 5 ?_
                exact ih (j + 1) (by omega) (by omega) true _ _ _ _ _ hR (hk.tr hk2) (hkl.tr hkl2) (h102.trans h10) hrf2 hmv2 (fun hb => absurd hb (by decide))
  refine Con.of 4 rfl (Nat.le_of_ble_eq_true rfl) ?_
  refine j_iconst (v := 0) dX1_moveHolders_0 (by decide) ?_
  refine j_istore_n dX1_moveHolders_1 (Nat.le_of_ble_eq_true rfl) rfl ?_
  refine j_iconst (v := 0) dX1_moveHolders_2 (by decide) ?_
  refine j_istore_n dX1_moveHolders_3 (Nat.le_of_ble_eq_true rfl) rfl ?_
  exact key (sc + 1) 0 (by omega) (by omega) false R F _ _ _ hR keepC.rf keepLC.rf rfl hRF ⟨hB, fun _ => Int.le_refl _, hbd.mono (Nat.le_add_right _ _), fun k hk => absurd hk (by omega)⟩ (fun _ => rfl)

