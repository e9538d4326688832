theorem cs_bd {c : Nat → Nat → Nat} {ok : Nat → Nat → Bool} {B : Nat → Nat} (hc : ∀ i b, ok i b = true → (c i b : Int) ≤ MX) : ∀ n, Va ok n B → (cs c B n : Int) ≤ n * MX := by
  intro n
  induction n with
  | zero => intro _; unfold cs MX; omega
  | succ n ih =>
    intro hB
    have h1 := ih (hB.mono (by omega))
    have h2 := hc n _ (hB.1 n (by omega))
    rw [cs]
    unfold MX at *
    omega
def LW (ok : Nat → Nat → Bool) (c : Nat → Nat → Nat) (n : Nat) (T : Int) (Y : ZT) : Prop := (T = NO ∧ ∀ B, ¬ Va ok n B) ∨ (∃ a H, Opt ok c n a ∧ Hd n a H ∧ (∀ b, b < 24 → Y (1, 0, 10) b = enc (H b)) ∧ T = cs c a n)
theorem LW.rg {ok : Nat → Nat → Bool} {c : Nat → Nat → Nat} {n : Nat} {T : Int} {Y : ZT} (h : LW ok c n T Y) (hc : ∀ i b, ok i b = true → (c i b : Int) ≤ MX) (hn : n ≤ 8) : rg T := by
  rcases h with ⟨rfl, _⟩ | ⟨a, H, h1, _, _, rfl⟩
  · exact rg_NO
  · have := cs_bd hc n h1.1
    unfold MX at this
    exact ⟨by omega, by omega⟩
theorem LW.lb {ok : Nat → Nat → Bool} {c : Nat → Nat → Nat} {n m : Nat} {T : Int} {Y : ZT} (h : LW ok c n T Y) (hm : n ≤ m) (B : Nat → Nat) (hB : Va ok m B) : T ≤ cs c B m := by
  rcases h with ⟨_, h⟩ | ⟨a, H, h1, _, _, rfl⟩
  · exact absurd (hB.mono hm) (h B)
  · have := h1.2 B (hB.mono hm)
    have := cs_mono (c := c) (a := B) hm
    omega
set_option maxRecDepth 100000 in
set_option maxHeartbeats 4000000 in
theorem c_X1_leastWithFirst (l : Launch) (G : GG) {ad : NM → Nat} {np nb : Nat} {Z : ZT} {L : LT} {h : AH} (hR : Rm ad np nb Z L h) {w S : Nat → Nat} {sc : Nat} (hSd : Sd Z w S sc) {f nn : Nat} (hfs : snd S sc f = true) (hnn : Z (1, 0, 0) 1 = nI nn) (hn1 : 1 ≤ nn) (hn8 : nn ≤ 8) {cv : Int} (hcv : L (1, 0, 0) 4 = lI cv) (hcr : rg cv) (hcN : cv ≤ NO)  : Con l G mX1_leastWithFirst 5 0 0 [.ref (ad (1, 0, 0)), .int (nI f)] h (fun r h2 => ∃ Y M T, r = some (.long (lI T)) ∧ Rm ad np nb Y M h2 ∧ keepC Z Y ∧ keepLC L M ∧ rg T ∧ (∀ B, Va (okC Z S sc f) nn B → T ≤ cs (cN w) B nn) ∧ (T < cv → ∃ B, Va (okC Z S sc f) nn B ∧ T = cs (cN w) B nn)) := by
  have hsc := hSd.2.1
  have hcb : ∀ i b, okC Z S sc f i b = true → (cN w i b : Int) ≤ MX := fun i b ho => by
    have := cN_lt (i := i) (snd_lt hSd (okC_snd hfs ho)).1 (snd_lt hSd (okC_snd hfs ho)).2
    unfold MX
    omega
  have key : ∀ nq n, nn < n + nq → n ≤ nn → 0 < n → ∀ T h Y M, Rm ad np nb Y M h → keepC Z Y → keepLC L M → LW (okC Z S sc f) (cN w) n T Y → J (thM l G mX1_leastWithFirst 5 0 0 (fun r h2 => ∃ Y M T, r = some (.long (lI T)) ∧ Rm ad np nb Y M h2 ∧ keepC Z Y ∧ keepLC L M ∧ rg T ∧ (∀ B, Va (okC Z S sc f) nn B → T ≤ cs (cN w) B nn) ∧ (T < cv → ∃ B, Va (okC Z S sc f) nn B ∧ T = cs (cN w) B nn))) cX1_leastWithFirst h (0, 0) [some (.ref (ad (1, 0, 0))), some (.int (nI f)), some (.long (lI T)), none, some (.int (nI n)), none, none] 18 [] := by
    intro nq
    induction nq with
    | zero => intro n h1 h2; omega
    | succ nq ih =>
      intro n h1 h2 hn0 T h Y M hR hk hkl hlw
      refine j_iload dX1_leastWithFirst_18 rfl ?_
      refine j_aload_n dX1_leastWithFirst_20 rfl ?_
      refine gX1_44 rfl (hR.1 _ ⟨by first | assumption | exact Nat.zero_lt_one, rfl⟩) rfl dX1_leastWithFirst_21 ?_
      refine j_icmp_ge 71 dX1_leastWithFirst_24 (by decide) (fun c_24 => ?_) (fun c_24 => ?_)
      · have hge : nn ≤ n := (nI_leI (a := nn) (b := n) (by omega) (by omega)).mp (by rw [← hnn, ← hk (1, 0, 0) (by simp) (by simp)]; exact c_24)
        obtain rfl : n = nn := by omega
        refine j_lload_n dX1_leastWithFirst_71 rfl ?_
        refine j_lret rfl (Nat.le_of_ble_eq_true rfl) (Nat.le_of_ble_eq_true rfl) dX1_leastWithFirst_72 ?_
        refine ⟨Y, M, T, rfl, hR, hk, hkl, hlw.rg hcb (by omega), hlw.lb (by omega), fun hT => ?_⟩
        rcases hlw with ⟨rfl, _⟩ | ⟨a, H, ho, _, _, e⟩
        · exfalso
          omega
        · exact ⟨a, ho.1, e⟩
      · have hlt : n < nn := Nat.not_le.mp (fun q => c_24 (by rw [hk (1, 0, 0) (by simp) (by simp), hnn]; exact (nI_leI (a := nn) (b := n) (by omega) (by omega)).mpr q))
        refine j_lload_n dX1_leastWithFirst_27 rfl ?_
        refine j_aload_n dX1_leastWithFirst_28 rfl ?_
        refine gX1_17 rfl (hR.1 _ ⟨by first | assumption | exact Nat.zero_lt_one, rfl⟩) rfl dX1_leastWithFirst_29 ?_
        rw [hkl (1, 0, 0) (by simp), hcv]
        refine j_lcmp dX1_leastWithFirst_32 ?_
        refine j_if_ge 71 dX1_leastWithFirst_33 (by decide) (fun c_33 => ?_) (fun c_33 => ?_)
        · have hge := (lI_le hcr (hlw.rg hcb (by omega))).mp ((lg_cmp_ge _ _).mp c_33)
          refine j_lload_n dX1_leastWithFirst_71 rfl ?_
          refine j_lret rfl (Nat.le_of_ble_eq_true rfl) (Nat.le_of_ble_eq_true rfl) dX1_leastWithFirst_72 ?_
          refine ⟨Y, M, T, rfl, hR, hk, hkl, hlw.rg hcb (by omega), hlw.lb (by omega), fun hT => ?_⟩
          exact absurd hT (by omega)
        · have hlt3 : T < cv := Int.not_le.mp (fun q => c_33 ((lg_cmp_ge _ _).mpr ((lI_le hcr (hlw.rg hcb (by omega))).mpr q)))
          obtain ⟨a, H, ho, hH, hHY, rfl⟩ : ∃ a H, Opt (okC Z S sc f) (cN w) n a ∧ Hd n a H ∧ (∀ b, b < 24 → Y (1, 0, 10) b = enc (H b)) ∧ T = cs (cN w) a n := by
            rcases hlw with ⟨rfl, _⟩ | h
            · exfalso
              omega
            · exact h
          refine j_aload_n dX1_leastWithFirst_36 rfl ?_
          refine j_iload dX1_leastWithFirst_37 rfl ?_
          refine j_iload_n dX1_leastWithFirst_39 rfl ?_
          refine j_callV (rest := []) (c_X1_seat l G hR (hSd.keep hk) hfs hn0 (by omega) (by rw [okC_keep hk]; exact ho) hH hHY) (hR.1 _ ⟨by first | assumption | exact Nat.zero_lt_one, rfl⟩) rfl cw_X1_seat wl_X1_94 wm_X1_seat wx_X1_seat rfl rfl (Nat.le_of_ble_eq_true rfl) (Nat.le_of_ble_eq_true rfl) (Nat.le_of_ble_eq_true rfl) (Nat.le_of_ble_eq_true rfl) (Nat.le_of_ble_eq_true rfl) dX1_leastWithFirst_40 (fun v_40 h_40 e_40 => ?_)
          obtain ⟨Y2, M2, v, rfl, hR, hk2, hkl2, hcase⟩ := e_40
          rw [okC_keep hk] at hcase
          refine j_lstore dX1_leastWithFirst_43 (Nat.le_of_ble_eq_true rfl) rfl ?_
          rcases hcase with ⟨rfl, hnone⟩ | ⟨hvlt, hvr, a2, H2, ho2, hh2, hHY2, hc2⟩
          · skip
            refine j_lload dX1_leastWithFirst_45 rfl ?_
            refine j_ldc2 (own := RX1) rfl wc_X1_15 dX1_leastWithFirst_47 ?_
            rw [show (4611686018427387904 : Int64) = lI NO from lI_NO.symm]
            refine j_lcmp dX1_leastWithFirst_50 ?_
            refine j_if_ne 60 dX1_leastWithFirst_51 (by decide) (fun c_51 => ?_) (fun c_51 => ?_)
            · exact absurd ((lg_cmp_eq _ _).mpr rfl) c_51
            · refine j_ldc2 (own := RX1) rfl wc_X1_15 dX1_leastWithFirst_54 ?_
              rw [show (4611686018427387904 : Int64) = lI NO from lI_NO.symm]
              refine j_goto 64 dX1_leastWithFirst_57 (by decide) ?_
              refine j_lstore_n dX1_leastWithFirst_64 (Nat.le_of_ble_eq_true rfl) rfl ?_
              refine j_iinc dX1_leastWithFirst_65 rfl (nI_inc _) (Nat.le_of_ble_eq_true rfl) rfl ?_
              refine j_goto 18 dX1_leastWithFirst_68 (by decide) ?_
              refine J.drop 5 ?_
              exact ih (n + 1) (by omega) (by omega) (by omega) NO _ _ _ hR (hk.tr hk2) (hkl.tr hkl2) (Or.inl ⟨rfl, hnone⟩)
          · skip
            refine j_lload dX1_leastWithFirst_45 rfl ?_
            refine j_ldc2 (own := RX1) rfl wc_X1_15 dX1_leastWithFirst_47 ?_
            rw [show (4611686018427387904 : Int64) = lI NO from lI_NO.symm]
            refine j_lcmp dX1_leastWithFirst_50 ?_
            refine j_if_ne 60 dX1_leastWithFirst_51 (by decide) (fun c_51 => ?_) (fun c_51 => ?_)
            · refine j_lload_n dX1_leastWithFirst_60 rfl ?_
              refine j_lload dX1_leastWithFirst_61 rfl ?_
              refine j_ladd dX1_leastWithFirst_63 ?_
              rw [lI_add]
              refine j_lstore_n dX1_leastWithFirst_64 (Nat.le_of_ble_eq_true rfl) rfl ?_
              refine j_iinc dX1_leastWithFirst_65 rfl (nI_inc _) (Nat.le_of_ble_eq_true rfl) rfl ?_
              refine j_goto 18 dX1_leastWithFirst_68 (by decide) ?_
              refine J.drop 5 ?_
              exact ih (n + 1) (by omega) (by omega) (by omega) _ _ _ _ hR (hk.tr hk2) (hkl.tr hkl2) (Or.inr ⟨a2, H2, ho2, hh2, hHY2, by rw [hc2]⟩)
            · exact absurd ((lI_eq hvr rg_NO).mp ((lg_cmp_eq _ _).mp c_51)) (by omega)
  refine Con.of 5 rfl (Nat.le_of_ble_eq_true rfl) ?_
  refine j_aload_n dX1_leastWithFirst_0 rfl ?_
  refine gX1_30 rfl (hR.1 _ ⟨by first | assumption | exact Nat.zero_lt_one, rfl⟩) rfl dX1_leastWithFirst_1 ?_
  refine j_iconst (v := (-1)) dX1_leastWithFirst_4 (by decide) ?_
  refine j_callS (rest := []) (c_J7_fill_53178 l G (hR.1 (1, 0, 10) ⟨Nat.zero_lt_one, rfl⟩) (by decide)) cw_J7_fill_53178 wl_X1_84 ws_J7_fill_53178 rfl rfl (Nat.le_of_ble_eq_true rfl) (Nat.le_of_ble_eq_true rfl) (Nat.le_of_ble_eq_true rfl) (Nat.le_of_ble_eq_true rfl) (Nat.le_of_ble_eq_true rfl) dX1_leastWithFirst_5 (fun v_5 h_5 e_5 => ?_)
  obtain ⟨rfl, rfl⟩ := e_5
  have hR := hR.setz (1, 0, 10) (fun _ => -1) ⟨Nat.zero_lt_one, rfl⟩ (e := iA 24 (fun _ => -1)) rfl
  generalize upA h (ad (1, 0, 10)) (iA 24 (fun _ => -1)) = h3 at hR ⊢
  have hk3 : keepC Z (setZ Z (1, 0, 10) (fun _ => -1)) := fun m a _ => setZ_ne a
  obtain ⟨kf, hkf, ekf⟩ := snd_iff.mp hfs
  have hSf := (hSd.keep hk3).2.2.1 kf hkf
  rw [ekf] at hSf
  refine j_aload_n dX1_leastWithFirst_8 rfl ?_
  refine j_iconst (v := 0) dX1_leastWithFirst_9 (by decide) ?_
  refine j_iload_n dX1_leastWithFirst_10 rfl ?_
  refine j_callV (rest := []) (c_X1_numberOf l G hR (i := 0) (by omega) hSf.2.1 hSf.2.2.1 hSf.2.2.2) (hR.1 _ ⟨by first | assumption | exact Nat.zero_lt_one, rfl⟩) rfl cw_X1_numberOf wl_X1_90 wm_X1_numberOf wx_X1_numberOf rfl rfl (Nat.le_of_ble_eq_true rfl) (Nat.le_of_ble_eq_true rfl) (Nat.le_of_ble_eq_true rfl) (Nat.le_of_ble_eq_true rfl) (Nat.le_of_ble_eq_true rfl) dX1_leastWithFirst_11 (fun v_11 h_11 e_11 => ?_)
  obtain ⟨rfl, hh⟩ := e_11
  have hh := hh.symm
  subst hh
  refine j_lstore_n dX1_leastWithFirst_14 (Nat.le_of_ble_eq_true rfl) rfl ?_
  refine j_iconst (v := 1) dX1_leastWithFirst_15 (by decide) ?_
  refine j_istore dX1_leastWithFirst_16 (Nat.le_of_ble_eq_true rfl) rfl ?_
  refine key (nn + 1) 1 (by omega) (by omega) (by omega) _ _ _ _ hR hk3 keepLC.rf (Or.inr ⟨fun _ => f, fun _ => none, ⟨⟨fun i hi => by rw [show i = 0 by omega]; exact okC0.mpr rfl, fun i j hi hj _ => by omega⟩, fun B hB => ?_⟩, fun b i => ⟨fun h => absurd h (by simp), fun h => by omega⟩, fun b hb => by rw [setZ_self]; rfl, ?_⟩)
  · have := okC0.mp (hB.1 0 (by omega))
    unfold cs cs
    rw [this]
    exact Nat.le_refl _
  · unfold cs cs
    omega

