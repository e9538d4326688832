theorem enc_up {Y : ZT} {H : Nat → Option Nat} {x : Nat} {o : Option Nat} (h : ∀ b, b < 24 → Y (1, 0, 10) b = enc (H b)) : ∀ b, b < 24 → upZ Y (1, 0, 10) x (enc o) (1, 0, 10) b = enc (upH H x o b) := fun b hb => by
  unfold upH
  by_cases q : b = x
  · rw [q, upZ_at, if_pos rfl]
  · rw [upZ_nk (Or.inr q), if_neg q, h b hb]
theorem okC_snd {Z : ZT} {S : Nat → Nat} {sc f i b : Nat} (hfs : snd S sc f = true) (h : okC Z S sc f i b = true) : snd S sc b = true := by
  rcases Nat.eq_zero_or_pos i with z | z
  · rw [z] at h; rw [okC0.mp h]; exact hfs
  · exact ((okCS z).mp h).1
theorem snd_lt {Z : ZT} {w S : Nat → Nat} {sc b : Nat} (hS : Sd Z w S sc) (h : snd S sc b = true) : b < 24 ∧ w b ≤ 44600 := by
  obtain ⟨k, hk, e⟩ := snd_iff.mp h
  have := hS.2.2.1 k hk
  rw [e] at this
  exact ⟨this.2.1, this.2.2.2⟩
theorem okC_no {Z : ZT} {S : Nat → Nat} {sc f i : Nat} (hi : 0 < i) : okC Z S sc f i f = false := by
  cases hx : okC Z S sc f i f with
  | false => rfl
  | true => exact absurd rfl ((okCS hi).mp hx).2.1
set_option maxRecDepth 100000 in
set_option maxHeartbeats 4000000 in
theorem c_X1_passAlong (l : Launch) (G : GG) {ad : NM → Nat} {np nb : Nat} {Z : ZT} {L : LT} {h : AH} (hR : Rm ad np nb Z L h) {w S : Nat → Nat} {sc : Nat} (hSd : Sd Z w S sc) {f n e : Nat} (hfs : snd S sc f = true) (hn0 : 0 < n) (hn8 : n < 8) {a : Nat → Nat} {H : Nat → Option Nat} (hA : Opt (okC Z S sc f) (cN w) n a) (hH : Hd n a H) (hHm : ∀ b, b < 24 → Z (1, 0, 10) b = enc (H b)) {R : Nat → Int} {F : Nat → Option Nat} (hRF : RF R F Z L) (hB : BFI (okC Z S sc f) (cN w) a n R F) (he : e < 24) (heH : H e = none) (heR : R e < NO) : Con l G mX1_passAlong 0 0 0 [.ref (ad (1, 0, 0)), .int (nI n), .int (nI e)] h (fun r h2 => r = none ∧ ∃ Y H2 a2, Rm ad np nb Y L h2 ∧ keepC Z Y ∧ (∀ b, b < 24 → Y (1, 0, 10) b = enc (H2 b)) ∧ Va (okC Z S sc f) (n + 1) a2 ∧ Hd (n + 1) a2 H2 ∧ (cs (cN w) a2 (n + 1) : Int) ≤ cs (cN w) a n + R e) := by
  have hsc := hSd.2.1
  have ha0 : a 0 = f := okC0.mp (hA.1.1 0 hn0)
  have ha24 : ∀ i, i < n → a i < 24 := fun i hi => (snd_lt hSd (okC_snd hfs (hA.1.1 i hi))).1
  have hD : ∀ b, Va (okC Z S sc f) n b → cs (cN w) b n = cs (cN w) a n → ∀ i, i < n → b i = a i := fun b hb hc => cs_inj (by omega) (fun i hi => by have := ha24 i hi; omega) (fun i hi => by have := (snd_lt hSd (okC_snd hfs (hb.1 i hi))).1; omega) hc
  have hef : e ≠ f := fun q => by rw [q] at heR; exact bfi_first hB hn0 (fun i hi => okC_no hi) ha0 heR
  have hfree : ∀ i, i < n → a i ≠ bet F e 0 := fun i hi q => by
    rcases Nat.eq_zero_or_pos i with z | z
    · rw [z, ha0] at q; exact hef q.symm
    · have := (hH e i).mpr ⟨z, hi, q⟩
      rw [heH] at this
      cases this
  have key : ∀ nn m, 8 < m + nn → m ≤ 8 → ∀ h Y H2, Rm ad np nb Y L h → (keepC Z Y ∧ Y (1, 0, 12) = Z (1, 0, 12)) → (∀ b, b < 24 → Y (1, 0, 10) b = enc (H2 b)) → PA (okC Z S sc f) (cN w) a n R (bet F e) m H2 → (∀ l, l ≤ m → bet F e l < 24 ∧ bet F e l ≠ f) → R (bet F e m) < NO → J (thM l G mX1_passAlong 0 0 0 (fun r h2 => r = none ∧ ∃ Y H2 a2, Rm ad np nb Y L h2 ∧ keepC Z Y ∧ (∀ b, b < 24 → Y (1, 0, 10) b = enc (H2 b)) ∧ Va (okC Z S sc f) (n + 1) a2 ∧ Hd (n + 1) a2 H2 ∧ (cs (cN w) a2 (n + 1) : Int) ≤ cs (cN w) a n + R e)) cX1_passAlong h (0, 0) [some (.ref (ad (1, 0, 0))), some (.int (nI n)), some (.int (nI e)), some (.int (nI (bet F e m))), some (.int (nI m)), none] 5 [] := by
    intro nn
    induction nn with
    | zero => intro m h1 h2; omega
    | succ nn ih =>
      intro m h1 h2 h Y H2 hR hk12 hHY hpa hbe hRm
      obtain ⟨hk, h12⟩ := hk12
      have hlen := Ch.len hpa.1 hn0 (okC0.mpr rfl) (fun b hb => okC0.mp hb) (fun l hl => (hbe l hl).2)
      refine j_iload dX1_passAlong_5 rfl ?_
      refine j_iload_n dX1_passAlong_7 rfl ?_
      refine j_icmp_ge 56 dX1_passAlong_8 (by decide) (fun c_8 => ?_) (fun c_8 => ?_)
      · exact absurd ((nI_leI (a := n) (b := m) (by omega) (by omega)).mp c_8) (by have := Ch.len hpa.1 hn0 (okC0.mpr rfl) (fun b hb => okC0.mp hb) (fun l hl => (hbe l hl).2); omega)
      · refine j_iload_n dX1_passAlong_11 rfl ?_
        refine j_iconst (v := (-1)) dX1_passAlong_12 (by decide) ?_
        refine j_icmp_eq 56 dX1_passAlong_13 (by decide) (fun c_13 => ?_) (fun c_13 => ?_)
        · exact absurd c_13 (enc_ne (by have := (hbe m (Nat.le_refl _)).1; omega))
        · refine j_aload_n dX1_passAlong_16 rfl ?_
          refine gX1_37 rfl (hR.1 _ ⟨by first | assumption | exact Nat.zero_lt_one, rfl⟩) rfl dX1_passAlong_17 ?_
          refine j_iload_n dX1_passAlong_20 rfl ?_
          refine j_iald (hR.1 _ ⟨by first | assumption | exact Nat.zero_lt_one, rfl⟩) (bet F e m) rfl (hbe m (Nat.le_refl _)).1 (by decide) dX1_passAlong_21 ?_
          rw [show Y (1, 0, 12) = Z (1, 0, 12) from h12, (hRF _ (hbe m (Nat.le_refl _)).1).2 hRm]
          refine j_istore dX1_passAlong_22 (Nat.le_of_ble_eq_true rfl) rfl ?_
          have hcase := (hB (bet F e m)).2 hRm
          cases hFx : F (bet F e m) with
          | none =>
            have hok2 : okC Z S sc f n (bet F e m) = true ∧ R (bet F e m) = cN w n (bet F e m) := by
              rcases hcase with ⟨_, p1, p2⟩ | ⟨i, _, p, _⟩
              · exact ⟨p1, p2⟩
              · rw [hFx] at p; cases p
            refine j_aload_n dX1_passAlong_24 rfl ?_
            refine gX1_30 rfl (hR.1 _ ⟨by first | assumption | exact Nat.zero_lt_one, rfl⟩) rfl dX1_passAlong_25 ?_
            refine j_iload_n dX1_passAlong_28 rfl ?_
            refine j_iload dX1_passAlong_29 rfl ?_
            refine j_iconst (v := (-1)) dX1_passAlong_31 (by decide) ?_
            refine j_icmp_ne 39 dX1_passAlong_32 (by decide) (fun c_32 => ?_) (fun c_32 => ?_)
            · exact absurd rfl c_32
            · refine j_iload_n dX1_passAlong_35 rfl ?_
              refine j_goto 46 dX1_passAlong_36 (by decide) ?_
              refine r_iast hR ⟨by first | assumption | exact Nat.zero_lt_one, rfl⟩ (fun _ => rfl) (bet F e m) rfl (hbe m (Nat.le_refl _)).1 (by decide) dX1_passAlong_46 (fun h hR => ?_)
              refine j_iload dX1_passAlong_47 rfl ?_
              refine j_istore_n dX1_passAlong_49 (Nat.le_of_ble_eq_true rfl) rfl ?_
              refine j_iinc dX1_passAlong_50 rfl (nI_inc _) (Nat.le_of_ble_eq_true rfl) rfl ?_
              refine j_goto 5 dX1_passAlong_53 (by decide) ?_
              refine j_iload dX1_passAlong_5 rfl ?_
              refine j_iload_n dX1_passAlong_7 rfl ?_
              refine j_icmp_ge 56 dX1_passAlong_8 (by decide) (fun c_8 => ?_) (fun c_8 => ?_)
              · refine j_vret rfl (Nat.le_of_ble_eq_true rfl) (Nat.le_of_ble_eq_true rfl) dX1_passAlong_56 ?_
                obtain ⟨a2, v1, v2, v3⟩ := hpa.last (f := f) hA.1 hn0 hok2.1 hok2.2
                exact ⟨rfl, _, _, a2, hR, hk.up10 _ _, enc_up (o := some n) hHY, v1, v2, v3⟩
              · refine j_iload_n dX1_passAlong_11 rfl ?_
                refine j_iconst (v := (-1)) dX1_passAlong_12 (by decide) ?_
                refine j_icmp_eq 56 dX1_passAlong_13 (by decide) (fun c_13 => ?_) (fun c_13 => ?_)
                · refine j_vret rfl (Nat.le_of_ble_eq_true rfl) (Nat.le_of_ble_eq_true rfl) dX1_passAlong_56 ?_
                  obtain ⟨a2, v1, v2, v3⟩ := hpa.last (f := f) hA.1 hn0 hok2.1 hok2.2
                  exact ⟨rfl, _, _, a2, hR, hk.up10 _ _, enc_up (o := some n) hHY, v1, v2, v3⟩
                · exact absurd rfl c_13
          | some x =>
            obtain ⟨i, hin, hfx, hne, hRx, hoki, hine⟩ : ∃ i, i < n ∧ x = a i ∧ a i ≠ bet F e m ∧ R (a i) < NO ∧ okC Z S sc f i (bet F e m) = true ∧ R (a i) - cN w i (a i) + cN w i (bet F e m) ≤ R (bet F e m) := by
              rcases hcase with ⟨p, _, _⟩ | ⟨i, p1, p2, p3⟩
              · rw [hFx] at p; cases p
              · rw [hFx] at p2; exact ⟨i, p1, Option.some.inj p2, p3⟩
            subst hfx
            have hbm : bet F e (m + 1) = a i := by rw [bet, hFx]; rfl
            have hai24 := ha24 i hin
            have haif : a i ≠ f := fun q => by rw [q] at hRx; exact bfi_first hB hn0 (fun i hi => okC_no hi) ha0 hRx
            have hi0 : 0 < i := by
              rcases Nat.eq_zero_or_pos i with z | z
              · rw [z, ha0] at haif; exact absurd rfl haif
              · exact z
            have hch := Ch.fresh hA hD ha24 (fun l hl => (hbe l hl).1) hpa.1 hfree ⟨i, hin, hbm.symm, hoki, by rw [hbm]; exact hine⟩ (by rw [hbm]; exact hne)
            obtain ⟨hst, hpa2⟩ := hpa.step hch hA.1.2 hin hi0 hbm.symm hoki (by rw [hbm]; exact hine)
            rw [hbm] at hst
            refine j_aload_n dX1_passAlong_24 rfl ?_
            refine gX1_30 rfl (hR.1 _ ⟨by first | assumption | exact Nat.zero_lt_one, rfl⟩) rfl dX1_passAlong_25 ?_
            refine j_iload_n dX1_passAlong_28 rfl ?_
            refine j_iload dX1_passAlong_29 rfl ?_
            refine j_iconst (v := (-1)) dX1_passAlong_31 (by decide) ?_
            refine j_icmp_ne 39 dX1_passAlong_32 (by decide) (fun c_32 => ?_) (fun c_32 => ?_)
            · refine j_aload_n dX1_passAlong_39 rfl ?_
              refine gX1_30 rfl (hR.1 _ ⟨by first | assumption | exact Nat.zero_lt_one, rfl⟩) rfl dX1_passAlong_40 ?_
              refine j_iload dX1_passAlong_43 rfl ?_
              refine j_iald (hR.1 _ ⟨by first | assumption | exact Nat.zero_lt_one, rfl⟩) (a i) rfl (by omega) (by decide) dX1_passAlong_45 ?_
              rw [hHY (a i) hai24, hst]
              refine r_iast hR ⟨by first | assumption | exact Nat.zero_lt_one, rfl⟩ (fun _ => rfl) (bet F e m) rfl (hbe m (Nat.le_refl _)).1 (by decide) dX1_passAlong_46 (fun h hR => ?_)
              refine j_iload dX1_passAlong_47 rfl ?_
              refine j_istore_n dX1_passAlong_49 (Nat.le_of_ble_eq_true rfl) rfl ?_
              refine j_iinc dX1_passAlong_50 rfl (nI_inc _) (Nat.le_of_ble_eq_true rfl) rfl ?_
              refine j_goto 5 dX1_passAlong_53 (by decide) ?_
              refine J.drop 5 ?_
              have hfin := ih (m + 1) (by omega) (by omega) _ _ _ hR ⟨hk.up10 _ _, by rw [upZ_ne (by simp)]; exact h12⟩ (enc_up (o := some i) hHY) hpa2 (fun l hl => by
                rcases Nat.lt_or_ge l (m + 1) with q | q
                · exact hbe l (by omega)
                · rw [show l = m + 1 by omega, hbm]; exact ⟨hai24, haif⟩) (by rw [hbm]; exact hRx)
              rw [hbm] at hfin
              exact hfin
            · exact absurd c_32 (enc_ne (by omega))
  refine Con.of 3 rfl (Nat.le_of_ble_eq_true rfl) ?_
  refine j_iload_n dX1_passAlong_0 rfl ?_
  refine j_istore_n dX1_passAlong_1 (Nat.le_of_ble_eq_true rfl) rfl ?_
  refine j_iconst (v := 0) dX1_passAlong_2 (by decide) ?_
  refine j_istore dX1_passAlong_3 (Nat.le_of_ble_eq_true rfl) rfl ?_
  exact key 9 0 (by omega) (by omega) _ _ H hR ⟨keepC.rf, rfl⟩ hHm ⟨⟨fun l hl => absurd hl (by omega), fun l k h1 h2 => absurd h1 (by omega)⟩, a, ⟨hA.1.2, hfree, fun _ _ h => h, fun _ _ _ => rfl, fun _ _ _ h => absurd h (by omega), Int.le_refl _⟩, fun b i _ => hH b i⟩ (fun l hl => by rw [show l = 0 by omega]; exact ⟨he, hef⟩) heR

