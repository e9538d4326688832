theorem enc_none {E : Option Nat} (h : ∀ x, E = some x → x < 2147483648) (e : enc E = -1) : E = none := by
  cases E with
  | none => rfl
  | some x => exact absurd e (enc_ne (h x rfl))
def Near (S : Nat → Nat) (sc : Nat) (H : Nat → Option Nat) (R : Nat → Int) (j : Nat) : Option Nat → Prop
  | none => ∀ k, k < j → H (S k) = none → ¬ R (S k) < NO
  | some e => snd S sc e = true ∧ e < 24 ∧ H e = none ∧ R e < NO ∧ ∀ k, k < j → H (S k) = none → R e ≤ R (S k)
theorem Near.skip {S : Nat → Nat} {sc : Nat} {H : Nat → Option Nat} {R : Nat → Int} {j : Nat} {E : Option Nat} (h : Near S sc H R j E) (hle : ∀ b, R b ≤ NO) (hx : H (S j) = none → ¬ R (S j) < NO) : Near S sc H R (j + 1) E := by
  cases E with
  | none =>
    intro k hk
    rcases Nat.lt_or_ge k j with q | q
    · exact h k q
    · rw [show k = j by omega]; exact hx
  | some e =>
    refine ⟨h.1, h.2.1, h.2.2.1, h.2.2.2.1, fun k hk hn => ?_⟩
    rcases Nat.lt_or_ge k j with q | q
    · exact h.2.2.2.2 k q hn
    · rw [show k = j by omega] at hn ⊢
      have := hx hn
      have := hle e
      omega
theorem Near.stay {S : Nat → Nat} {sc : Nat} {H : Nat → Option Nat} {R : Nat → Int} {j e : Nat} (h : Near S sc H R j (some e)) (hx : R e ≤ R (S j)) : Near S sc H R (j + 1) (some e) := by
  refine ⟨h.1, h.2.1, h.2.2.1, h.2.2.2.1, fun k hk hn => ?_⟩
  rcases Nat.lt_or_ge k j with q | q
  · exact h.2.2.2.2 k q hn
  · rw [show k = j by omega]; exact hx
theorem Near.first {S : Nat → Nat} {sc : Nat} {H : Nat → Option Nat} {R : Nat → Int} {j : Nat} (h : Near S sc H R j none) (hj : j < sc) (h24 : S j < 24) (hH : H (S j) = none) (hr : R (S j) < NO) : Near S sc H R (j + 1) (some (S j)) := by
  refine ⟨snd_iff.mpr ⟨j, hj, rfl⟩, h24, hH, hr, fun k hk hn => ?_⟩
  rcases Nat.lt_or_ge k j with q | q
  · have := h k q hn; omega
  · rw [show k = j by omega]; exact Int.le_refl _
theorem Near.better {S : Nat → Nat} {sc : Nat} {H : Nat → Option Nat} {R : Nat → Int} {j e : Nat} (h : Near S sc H R j (some e)) (hj : j < sc) (h24 : S j < 24) (hH : H (S j) = none) (hr : R (S j) < R e) : Near S sc H R (j + 1) (some (S j)) := by
  have h4 := h.2.2.2.1
  refine ⟨snd_iff.mpr ⟨j, hj, rfl⟩, h24, hH, by omega, fun k hk hn => ?_⟩
  rcases Nat.lt_or_ge k j with q | q
  · have := h.2.2.2.2 k q hn; omega
  · rw [show k = j by omega]; exact Int.le_refl _
set_option maxRecDepth 100000 in
set_option maxHeartbeats 4000000 in
theorem c_X1_nearestFree (l : Launch) (G : GG) {ad : NM → Nat} {np nb : Nat} {Z : ZT} {L : LT} {h : AH} (hR : Rm ad np nb Z L h) {w S : Nat → Nat} {sc : Nat} (hSd : Sd Z w S sc) {H : Nat → Option Nat} (hHm : ∀ b, b < 24 → Z (1, 0, 10) b = enc (H b)) (hH8 : ∀ b i, H b = some i → i < 8) {R : Nat → Int} {F : Nat → Option Nat} (hRF : RF R F Z L) (hRr : ∀ b, rg (R b)) (hle : ∀ b, R b ≤ NO) : Con l G mX1_nearestFree 0 0 0 [.ref (ad (1, 0, 0))] h (fun r h2 => h2 = h ∧ ∃ E, r = some (.int (enc E)) ∧ Near S sc H R sc E) := by
  have hsc := hSd.2.1
  have key : ∀ nn j, sc < j + nn → j ≤ sc → ∀ E, Near S sc H R j E → J (thM l G mX1_nearestFree 0 0 0 (fun r h2 => h2 = h ∧ ∃ E, r = some (.int (enc E)) ∧ Near S sc H R sc E)) cX1_nearestFree h (0, 0) [some (.ref (ad (1, 0, 0))), some (.int (enc E)), some (.int (nI j)), none] 4 [] := by
    intro nn
    induction nn with
    | zero => intro j h1 h2; omega
    | succ nn ih =>
      intro j h1 h2 E hE
      refine j_iload_n dX1_nearestFree_4 rfl ?_
      refine j_aload_n dX1_nearestFree_5 rfl ?_
      refine gX1_59 rfl (hR.1 _ ⟨by first | assumption | exact Nat.zero_lt_one, rfl⟩) rfl dX1_nearestFree_6 ?_
      refine j_icmp_ge 71 dX1_nearestFree_9 (by decide) (fun c_9 => ?_) (fun c_9 => ?_)
      · have hlt : sc ≤ j := (nI_leI (a := sc) (b := j) (by omega) (by omega)).mp (hSd.1 ▸ c_9)
        obtain rfl : j = sc := by omega
        refine j_iload_n dX1_nearestFree_71 rfl ?_
        refine j_iret rfl (Nat.le_of_ble_eq_true rfl) (Nat.le_of_ble_eq_true rfl) dX1_nearestFree_72 ?_
        exact ⟨rfl, E, rfl, hE⟩
      · have hlt : j < sc := Nat.not_le.mp (fun q => c_9 (hSd.1 ▸ (nI_leI (a := sc) (b := j) (by omega) (by omega)).mpr q))
        have hSj := hSd.2.2.1 j hlt
        refine j_aload_n dX1_nearestFree_12 rfl ?_
        refine gX1_21 rfl (hR.1 _ ⟨by first | assumption | exact Nat.zero_lt_one, rfl⟩) rfl dX1_nearestFree_13 ?_
        refine j_iload_n dX1_nearestFree_16 rfl ?_
        refine j_iald (hR.1 _ ⟨by first | assumption | exact Nat.zero_lt_one, rfl⟩) j rfl (by omega) (by decide) dX1_nearestFree_17 ?_
        rw [hSj.1]
        refine j_istore_n dX1_nearestFree_18 (Nat.le_of_ble_eq_true rfl) rfl ?_
        refine j_aload_n dX1_nearestFree_19 rfl ?_
        refine gX1_30 rfl (hR.1 _ ⟨by first | assumption | exact Nat.zero_lt_one, rfl⟩) rfl dX1_nearestFree_20 ?_
        refine j_iload_n dX1_nearestFree_23 rfl ?_
        refine j_iald (hR.1 _ ⟨by first | assumption | exact Nat.zero_lt_one, rfl⟩) (S j) rfl hSj.2.1 (by decide) dX1_nearestFree_24 ?_
        rw [hHm (S j) hSj.2.1]
        refine j_iconst (v := (-1)) dX1_nearestFree_25 (by decide) ?_
        refine j_icmp_ne 65 dX1_nearestFree_26 (by decide) (fun c_26 => ?_) (fun c_26 => ?_)
        · refine j_iinc dX1_nearestFree_65 rfl (nI_inc _) (Nat.le_of_ble_eq_true rfl) rfl ?_
          refine j_goto 4 dX1_nearestFree_68 (by decide) ?_
          refine J.drop 3 ?_
          exact ih (j + 1) (by omega) (by omega) E (hE.skip hle (fun q => absurd (by rw [q]; rfl) c_26))
        · have hHx : H (S j) = none := enc_none (fun x hx => by have := hH8 _ _ hx; omega) c_26
          refine j_aload_n dX1_nearestFree_29 rfl ?_
          refine gX1_33 rfl (hR.1 _ ⟨by first | assumption | exact Nat.zero_lt_one, rfl⟩) rfl dX1_nearestFree_30 ?_
          refine j_iload_n dX1_nearestFree_33 rfl ?_
          refine j_lald (hR.1 _ ⟨by first | assumption | exact Nat.zero_lt_one, rfl⟩) (S j) rfl hSj.2.1 (by decide) dX1_nearestFree_34 ?_
          rw [(hRF (S j) hSj.2.1).1]
          refine j_ldc2 (own := RX1) rfl wc_X1_15 dX1_nearestFree_35 ?_
          rw [show (4611686018427387904 : Int64) = lI NO from lI_NO.symm]
          refine j_lcmp dX1_nearestFree_38 ?_
          refine j_if_eq 65 dX1_nearestFree_39 (by decide) (fun c_39 => ?_) (fun c_39 => ?_)
          · have hno : R (S j) = NO := (lI_eq (hRr _) rg_NO).mp ((lg_cmp_eq _ _).mp c_39)
            refine j_iinc dX1_nearestFree_65 rfl (nI_inc _) (Nat.le_of_ble_eq_true rfl) rfl ?_
            refine j_goto 4 dX1_nearestFree_68 (by decide) ?_
            refine J.drop 3 ?_
            exact ih (j + 1) (by omega) (by omega) E (hE.skip hle (fun _ => by rw [hno]; exact Int.lt_irrefl _))
          · have hlt2 : R (S j) < NO := by
              have h1 := hle (S j)
              have h2 : R (S j) ≠ NO := fun q => c_39 ((lg_cmp_eq _ _).mpr (by rw [q]))
              omega
            cases E with
            | none =>
              refine j_iload_n dX1_nearestFree_42 rfl ?_
              refine j_iconst (v := (-1)) dX1_nearestFree_43 (by decide) ?_
              refine j_icmp_eq 63 dX1_nearestFree_44 (by decide) (fun c_44 => ?_) (fun c_44 => ?_)
              · refine j_iload_n dX1_nearestFree_63 rfl ?_
                refine j_istore_n dX1_nearestFree_64 (Nat.le_of_ble_eq_true rfl) rfl ?_
                refine j_iinc dX1_nearestFree_65 rfl (nI_inc _) (Nat.le_of_ble_eq_true rfl) rfl ?_
                refine j_goto 4 dX1_nearestFree_68 (by decide) ?_
                refine J.drop 3 ?_
                exact ih (j + 1) (by omega) (by omega) (some (S j)) (hE.first hlt hSj.2.1 hHx hlt2)
              · exact absurd rfl c_44
            | some e =>
              refine j_iload_n dX1_nearestFree_42 rfl ?_
              refine j_iconst (v := (-1)) dX1_nearestFree_43 (by decide) ?_
              refine j_icmp_eq 63 dX1_nearestFree_44 (by decide) (fun c_44 => ?_) (fun c_44 => ?_)
              · exact absurd c_44 (enc_ne (by have := hE.2.1; omega))
              · refine j_aload_n dX1_nearestFree_47 rfl ?_
                refine gX1_33 rfl (hR.1 _ ⟨by first | assumption | exact Nat.zero_lt_one, rfl⟩) rfl dX1_nearestFree_48 ?_
                refine j_iload_n dX1_nearestFree_51 rfl ?_
                refine j_lald (hR.1 _ ⟨by first | assumption | exact Nat.zero_lt_one, rfl⟩) (S j) rfl hSj.2.1 (by decide) dX1_nearestFree_52 ?_
                rw [(hRF (S j) hSj.2.1).1]
                refine j_aload_n dX1_nearestFree_53 rfl ?_
                refine gX1_33 rfl (hR.1 _ ⟨by first | assumption | exact Nat.zero_lt_one, rfl⟩) rfl dX1_nearestFree_54 ?_
                refine j_iload_n dX1_nearestFree_57 rfl ?_
                refine j_lald (hR.1 _ ⟨by first | assumption | exact Nat.zero_lt_one, rfl⟩) e rfl hE.2.1 (by decide) dX1_nearestFree_58 ?_
                rw [(hRF e hE.2.1).1]
                refine j_lcmp dX1_nearestFree_59 ?_
                refine j_if_ge 65 dX1_nearestFree_60 (by decide) (fun c_60 => ?_) (fun c_60 => ?_)
                · have hge := (lI_le (hRr _) (hRr _)).mp ((lg_cmp_ge _ _).mp c_60)
                  refine j_iinc dX1_nearestFree_65 rfl (nI_inc _) (Nat.le_of_ble_eq_true rfl) rfl ?_
                  refine j_goto 4 dX1_nearestFree_68 (by decide) ?_
                  refine J.drop 3 ?_
                  exact ih (j + 1) (by omega) (by omega) (some e) (hE.stay hge)
                · have hlt3 : R (S j) < R e := Int.not_le.mp (fun q => c_60 ((lg_cmp_ge _ _).mpr ((lI_le (hRr _) (hRr _)).mpr q)))
                  refine j_iload_n dX1_nearestFree_63 rfl ?_
                  refine j_istore_n dX1_nearestFree_64 (Nat.le_of_ble_eq_true rfl) rfl ?_
                  refine j_iinc dX1_nearestFree_65 rfl (nI_inc _) (Nat.le_of_ble_eq_true rfl) rfl ?_
                  refine j_goto 4 dX1_nearestFree_68 (by decide) ?_
                  refine J.drop 3 ?_
                  exact ih (j + 1) (by omega) (by omega) (some (S j)) (hE.better hlt hSj.2.1 hHx hlt3)
  refine Con.of 3 rfl (Nat.le_of_ble_eq_true rfl) ?_
  refine j_iconst (v := (-1)) dX1_nearestFree_0 (by decide) ?_
  refine j_istore_n dX1_nearestFree_1 (Nat.le_of_ble_eq_true rfl) rfl ?_
  refine j_iconst (v := 0) dX1_nearestFree_2 (by decide) ?_
  refine j_istore_n dX1_nearestFree_3 (Nat.le_of_ble_eq_true rfl) rfl ?_
  exact key (sc + 1) 0 (by omega) (by omega) none (fun k hk => absurd hk (by omega))

