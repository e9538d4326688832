def setL (L : LT) (n : NM) (g : Nat → Int64) : LT := fun m => if m = n then g else L m
theorem setL_self (L : LT) (n : NM) (g : Nat → Int64) : setL L n g n = g := if_pos rfl
theorem setL_ne {L : LT} {n m : NM} {g : Nat → Int64} (h : m ≠ n) : setL L n g m = L m := if_neg h
theorem Rm.setl {ad : NM → Nat} {np nb : Nat} {Z : ZT} {L : LT} {h : AH} (hR : Rm ad np nb Z L h) (n : NM) (g : Nat → Int64) (hn : lvm np nb n) {e : AE} (he : e = shp ad np nb n (Z n) g) : Rm ad np nb Z (setL L n g) (upA h (ad n) e) := by
  refine ⟨fun m hm => ?_, hR.2⟩
  by_cases hmn : m = n
  · subst hmn
    rw [upA_self, setL_self, he]
  · rw [upA_ne (fun q => hmn (hR.2 m n hm hn q)), setL_ne hmn]
    exact hR.1 m hm
theorem keepLC.set {L : LT} (g : Nat → Int64) : keepLC L (setL L (1, 0, 11) g) := fun m a => setL_ne a
set_option maxRecDepth 100000 in
set_option maxHeartbeats 4000000 in
theorem c_X1_seat (l : Launch) (G : GG) {ad : NM → Nat} {np nb : Nat} {Z : ZT} {L : LT} {h : AH} (hR : Rm ad np nb Z L h) {w S : Nat → Nat} {sc : Nat} (hSd : Sd Z w S sc) {f n : Nat} (hfs : snd S sc f = true) (hn0 : 0 < n) (hn8 : n < 8) {a : Nat → Nat} {H : Nat → Option Nat} (hA : Opt (okC Z S sc f) (cN w) n a) (hH : Hd n a H) (hHm : ∀ b, b < 24 → Z (1, 0, 10) b = enc (H b))  : Con l G mX1_seat 4 0 0 [.ref (ad (1, 0, 0)), .int (nI n), .int (nI f)] h (fun r h2 => ∃ Y M v, r = some (.long (lI v)) ∧ Rm ad np nb Y M h2 ∧ keepC Z Y ∧ keepLC L M ∧ ((v = NO ∧ ∀ B, ¬ Va (okC Z S sc f) (n + 1) B) ∨ (v < NO ∧ rg v ∧ ∃ a2 H2, Opt (okC Z S sc f) (cN w) (n + 1) a2 ∧ Hd (n + 1) a2 H2 ∧ (∀ b, b < 24 → Y (1, 0, 10) b = enc (H2 b)) ∧ (cs (cN w) a2 (n + 1) : Int) = cs (cN w) a n + v))) := by
  have hsc := hSd.2.1
  have hcb : ∀ i b, okC Z S sc f i b = true → (cN w i b : Int) ≤ MX := fun i b ho => by
    have := cN_lt (i := i) (snd_lt hSd (okC_snd hfs ho)).1 (snd_lt hSd (okC_snd hfs ho)).2
    unfold MX
    omega
  have hcn : ∀ b, okC Z S sc f n b = true → (cN w n b : Int) < NO := fun b ho => by
    have := hcb n b ho
    unfold MX at this
    unfold NO
    omega
  have fin : ∀ (bt : Bool) (mv : Nat) R F h Y M, Rm ad np nb Y M h → keepC Z Y → keepLC L M → (∀ b, b < 24 → Y (1, 0, 10) b = enc (H b)) → RF R F Y M → BFI (okC Z S sc f) (cN w) a n R F → BDR 170 R → WB (okC Z S sc f) (cN w) a n n R → J (thM l G mX1_seat 4 0 0 (fun r h2 => ∃ Y M v, r = some (.long (lI v)) ∧ Rm ad np nb Y M h2 ∧ keepC Z Y ∧ keepLC L M ∧ ((v = NO ∧ ∀ B, ¬ Va (okC Z S sc f) (n + 1) B) ∨ (v < NO ∧ rg v ∧ ∃ a2 H2, Opt (okC Z S sc f) (cN w) (n + 1) a2 ∧ Hd (n + 1) a2 H2 ∧ (∀ b, b < 24 → Y (1, 0, 10) b = enc (H2 b)) ∧ (cs (cN w) a2 (n + 1) : Int) = cs (cN w) a n + v)))) cX1_seat h (0, 0) [some (.ref (ad (1, 0, 0))), some (.int (nI n)), some (.int (nI f)), some (.int (bi bt)), some (.int (nI mv))] 44 [] := by
    intro bt mv R F h Y M hR hk hkl hHY hRF hB hbd hW
    have hreach : ∀ x, (∀ i, i < n → a i ≠ x) → R x < NO → ∃ k, k < sc ∧ S k = x ∧ H x = none := fun x hx hr => by
      have hs : snd S sc x = true := by
        rcases (hB x).2 hr with ⟨_, p, _⟩ | ⟨i, _, _, _, _, p, _⟩
        · exact okC_snd hfs p
        · exact okC_snd hfs p
      obtain ⟨k, hk3, e⟩ := snd_iff.mp hs
      refine ⟨k, hk3, e, ?_⟩
      cases hHx : H x with
      | none => rfl
      | some i => exact absurd ((hH x i).mp hHx).2.2 (hx i ((hH x i).mp hHx).2.1)
    refine j_aload_n dX1_seat_44 rfl ?_
    refine j_callV (rest := []) (c_X1_nearestFree l G hR (hSd.keep hk) hHY (fun b i hb => by have := (hH b i).mp hb; omega) hRF (fun b => hbd.rg (by omega) b) (fun b => (hB b).1)) (hR.1 _ ⟨by first | assumption | exact Nat.zero_lt_one, rfl⟩) rfl cw_X1_nearestFree wl_X1_108 wm_X1_nearestFree wx_X1_nearestFree rfl rfl (Nat.le_of_ble_eq_true rfl) (Nat.le_of_ble_eq_true rfl) (Nat.le_of_ble_eq_true rfl) (Nat.le_of_ble_eq_true rfl) (Nat.le_of_ble_eq_true rfl) dX1_seat_45 (fun v_45 h_45 e_45 => ?_)
    obtain ⟨rfl, E, rfl, hE⟩ := e_45
    cases E with
    | none =>
      refine j_istore dX1_seat_48 (Nat.le_of_ble_eq_true rfl) rfl ?_
      refine j_iload dX1_seat_50 rfl ?_
      refine j_iconst (v := (-1)) dX1_seat_52 (by decide) ?_
      refine j_icmp_ne 60 dX1_seat_53 (by decide) (fun c_53 => ?_) (fun c_53 => ?_)
      · exact absurd rfl c_53
      · refine j_ldc2 (own := RX1) rfl wc_X1_15 dX1_seat_56 ?_
        rw [show (4611686018427387904 : Int64) = lI NO from lI_NO.symm]
        refine j_lret rfl (Nat.le_of_ble_eq_true rfl) (Nat.le_of_ble_eq_true rfl) dX1_seat_59 ?_
        refine ⟨Y, M, NO, rfl, hR, hk, hkl, Or.inl ⟨rfl, seat_none hA hW hn0 (fun b hb => okC0.mp hb) (fun x hx hr => ?_)⟩⟩
        obtain ⟨k, hk3, e, hHx⟩ := hreach x hx hr
        rw [← e] at hHx hr
        exact hE k hk3 hHx hr
    | some e =>
      refine j_istore dX1_seat_48 (Nat.le_of_ble_eq_true rfl) rfl ?_
      refine j_iload dX1_seat_50 rfl ?_
      refine j_iconst (v := (-1)) dX1_seat_52 (by decide) ?_
      refine j_icmp_ne 60 dX1_seat_53 (by decide) (fun c_53 => ?_) (fun c_53 => ?_)
      · refine j_aload_n dX1_seat_60 rfl ?_
        refine j_iload_n dX1_seat_61 rfl ?_
        refine j_iload dX1_seat_62 rfl ?_
        refine j_callV (rest := []) (c_X1_passAlong l G hR (hSd.keep hk) hfs hn0 hn8 (a := a) (by rw [okC_keep hk]; exact hA) hH hHY (R := R) (F := F) hRF (by rw [okC_keep hk]; exact hB) hE.2.1 hE.2.2.1 hE.2.2.2.1) (hR.1 _ ⟨by first | assumption | exact Nat.zero_lt_one, rfl⟩) rfl cw_X1_passAlong wl_X1_111 wm_X1_passAlong wx_X1_passAlong rfl rfl (Nat.le_of_ble_eq_true rfl) (Nat.le_of_ble_eq_true rfl) (Nat.le_of_ble_eq_true rfl) (Nat.le_of_ble_eq_true rfl) (Nat.le_of_ble_eq_true rfl) dX1_seat_64 (fun v_64 h_64 e_64 => ?_)
        obtain ⟨rfl, Y2, H2, a2, hR, hk2, hHY2, hv2, hh2, hle2⟩ := e_64
        rw [okC_keep hk] at hv2
        refine j_aload_n dX1_seat_67 rfl ?_
        refine gX1_33 rfl (hR.1 _ ⟨by first | assumption | exact Nat.zero_lt_one, rfl⟩) rfl dX1_seat_68 ?_
        refine j_iload dX1_seat_71 rfl ?_
        refine j_lald (hR.1 _ ⟨by first | assumption | exact Nat.zero_lt_one, rfl⟩) e rfl hE.2.1 (by decide) dX1_seat_73 ?_
        rw [(hRF e hE.2.1).1]
        refine j_lret rfl (Nat.le_of_ble_eq_true rfl) (Nat.le_of_ble_eq_true rfl) dX1_seat_74 ?_
        obtain ⟨q1, q2⟩ := seat_opt hA hW hn0 (fun b hb => okC0.mp hb) (e := e) (fun x hx hr => by
          obtain ⟨k, hk3, e2, hHx⟩ := hreach x hx hr
          rw [← e2] at hHx ⊢
          exact hE.2.2.2.2 k hk3 hHx) hv2 hle2
        exact ⟨Y2, M, R e, rfl, hR, hk.tr hk2, hkl, Or.inr ⟨hE.2.2.2.1, hbd.rg (by omega) _, a2, H2, q1, hh2, hHY2, q2⟩⟩
      · exact absurd c_53 (enc_ne (by have := hE.2.1; omega))
  have key : ∀ nn mv, n < mv + nn → mv ≤ n → 0 < mv → ∀ (bt : Bool) R F h Y M, Rm ad np nb Y M h → keepC Z Y → keepLC L M → (∀ b, b < 24 → Y (1, 0, 10) b = enc (H b)) → RF R F Y M → BFI (okC Z S sc f) (cN w) a n R F → BDR (1 + 7 * (mv - 1)) R → WB (okC Z S sc f) (cN w) a n mv R → (bt = false → RND (okC Z S sc f) (cN w) a n R R) → J (thM l G mX1_seat 4 0 0 (fun r h2 => ∃ Y M v, r = some (.long (lI v)) ∧ Rm ad np nb Y M h2 ∧ keepC Z Y ∧ keepLC L M ∧ ((v = NO ∧ ∀ B, ¬ Va (okC Z S sc f) (n + 1) B) ∨ (v < NO ∧ rg v ∧ ∃ a2 H2, Opt (okC Z S sc f) (cN w) (n + 1) a2 ∧ Hd (n + 1) a2 H2 ∧ (∀ b, b < 24 → Y (1, 0, 10) b = enc (H2 b)) ∧ (cs (cN w) a2 (n + 1) : Int) = cs (cN w) a n + v)))) cX1_seat h (0, 0) [some (.ref (ad (1, 0, 0))), some (.int (nI n)), some (.int (nI f)), some (.int (bi bt)), some (.int (nI mv))] 22 [] := by
    intro nn
    induction nn with
    | zero => intro mv h1 h2; omega
    | succ nn ih =>
      intro mv h1 h2 hmv0 bt R F h Y M hR hk hkl hHY hRF hB hbd hW hfl
      refine j_iload dX1_seat_22 rfl ?_
      refine j_iload_n dX1_seat_24 rfl ?_
      refine j_icmp_ge 44 dX1_seat_25 (by decide) (fun c_25 => ?_) (fun c_25 => ?_)
      · have hge : n ≤ mv := (nI_leI (a := n) (b := mv) (by omega) (by omega)).mp c_25
        obtain rfl : n = mv := by omega
        exact fin bt n R F _ _ _ hR hk hkl hHY hRF hB (hbd.mono (by omega)) hW
      · have hlt : mv < n := Nat.not_le.mp (fun q => c_25 ((nI_leI (a := n) (b := mv) (by omega) (by omega)).mpr q))
        refine j_iload_n dX1_seat_28 rfl ?_
        refine j_if_eq 44 dX1_seat_29 (by decide) (fun c_29 => ?_) (fun c_29 => ?_)
        · have g_29 := (bi_eq0 _).mp c_29
          exact fin bt mv R F _ _ _ hR hk hkl hHY hRF hB (hbd.mono (by omega)) (by
            have h1 : WB (okC Z S sc f) (cN w) a n 1 R := fun k b v hk => hW k b v (by omega)
            have h2 := h1.fix (hfl g_29) (n - 1)
            rwa [show n - 1 + 1 = n by omega] at h2)
        · have g_29 := (bi_ne0 _).mp c_29
          refine j_aload_n dX1_seat_32 rfl ?_
          refine j_iload_n dX1_seat_33 rfl ?_
          refine j_callV (rest := []) (c_X1_moveHolders l G hR (hSd.keep hk) (snd_lt hSd hfs).1 hn0 hn8 (by rw [okC_keep hk]; exact hA.1) hH hHY hfs hRF (by rw [okC_keep hk]; exact hB) (q := 1 + 7 * (mv - 1)) (by omega) hbd) (hR.1 _ ⟨by first | assumption | exact Nat.zero_lt_one, rfl⟩) rfl cw_X1_moveHolders wl_X1_104 wm_X1_moveHolders wx_X1_moveHolders rfl rfl (Nat.le_of_ble_eq_true rfl) (Nat.le_of_ble_eq_true rfl) (Nat.le_of_ble_eq_true rfl) (Nat.le_of_ble_eq_true rfl) (Nat.le_of_ble_eq_true rfl) dX1_seat_34 (fun v_34 h_34 e_34 => ?_)
          obtain ⟨Y2, M2, bt2, R2, F2, rfl, hR, hk2, hkl2, h102, hRF2, hB2, hle2, hrn2, hbd2, hbt2⟩ := e_34
          rw [okC_keep hk] at hB2 hrn2
          refine j_istore_n dX1_seat_37 (Nat.le_of_ble_eq_true rfl) rfl ?_
          refine j_iinc dX1_seat_38 rfl (nI_inc _) (Nat.le_of_ble_eq_true rfl) rfl ?_
          refine j_goto 22 dX1_seat_41 (by decide) ?_
          exact ih (mv + 1) (by omega) (by omega) (by omega) bt2 R2 F2 _ _ _ hR (hk.tr hk2) (hkl.tr hkl2) (fun b hb => by rw [h102]; exact hHY b hb) hRF2 hB2 (by rw [show 1 + 7 * (mv + 1 - 1) = 1 + 7 * (mv - 1) + 7 by omega]; exact hbd2) (hW.rnd hle2 hrn2 (by omega)) (fun hb => by rw [hbt2 hb] at hrn2 ⊢; exact hrn2)
  refine Con.of 2 rfl (Nat.le_of_ble_eq_true rfl) ?_
  refine j_aload_n dX1_seat_0 rfl ?_
  refine gX1_33 rfl (hR.1 _ ⟨by first | assumption | exact Nat.zero_lt_one, rfl⟩) rfl dX1_seat_1 ?_
  refine j_ldc2 (own := RX1) rfl wc_X1_15 dX1_seat_4 ?_
  rw [show (4611686018427387904 : Int64) = lI NO from lI_NO.symm]
  refine j_callS (rest := []) (c_J7_fill_d0a16 l G (hR.1 (1, 0, 11) ⟨Nat.zero_lt_one, rfl⟩) (by decide)) cw_J7_fill_d0a16 wl_X1_97 ws_J7_fill_d0a16 rfl rfl (Nat.le_of_ble_eq_true rfl) (Nat.le_of_ble_eq_true rfl) (Nat.le_of_ble_eq_true rfl) (Nat.le_of_ble_eq_true rfl) (Nat.le_of_ble_eq_true rfl) dX1_seat_7 (fun v_7 h_7 e_7 => ?_)
  obtain ⟨rfl, rfl⟩ := e_7
  have hR := hR.setl (1, 0, 11) (fun _ => lI NO) ⟨Nat.zero_lt_one, rfl⟩ (e := lA 24 (fun _ => lI NO)) rfl
  generalize upA h (ad (1, 0, 11)) (lA 24 (fun _ => lI NO)) = h3 at hR ⊢
  refine j_aload_n dX1_seat_10 rfl ?_
  refine j_iload_n dX1_seat_11 rfl ?_
  refine j_iload_n dX1_seat_12 rfl ?_
  refine j_iconst (v := (-1)) dX1_seat_13 (by decide) ?_
  refine j_lconst (v := 0) dX1_seat_14 (by decide) ?_
  rw [show (0 : Int64) = lI 0 from by decide]
  refine j_callV (rest := []) (c_X1_reachFrom l G hR hSd (f := f) (snd_lt hSd hfs).1 hn0 hn8 (fo := none) (s := 0) (R := fun _ => NO) (F := fun _ => none) (fun b hb => ⟨by rw [setL_self], fun q => absurd q (Int.lt_irrefl _)⟩) (fun _ => rg_NO) (fun b hb => by
    have := cN_lt (i := n) (snd_lt hSd hb).1 (snd_lt hSd hb).2
    unfold rg
    omega)) (hR.1 _ ⟨by first | assumption | exact Nat.zero_lt_one, rfl⟩) rfl cw_X1_reachFrom wl_X1_100 wm_X1_reachFrom wx_X1_reachFrom rfl rfl (Nat.le_of_ble_eq_true rfl) (Nat.le_of_ble_eq_true rfl) (Nat.le_of_ble_eq_true rfl) (Nat.le_of_ble_eq_true rfl) (Nat.le_of_ble_eq_true rfl) dX1_seat_15 (fun v_15 h_15 e_15 => ?_)
  obtain ⟨Y2, M2, bt, rfl, hR, hk2, hkl2, h102, hRF2, hbt2⟩ := e_15
  refine j_istore_n dX1_seat_18 (Nat.le_of_ble_eq_true rfl) rfl ?_
  refine j_iconst (v := 1) dX1_seat_19 (by decide) ?_
  refine j_istore dX1_seat_20 (Nat.le_of_ble_eq_true rfl) rfl ?_
  refine key (n + 1) 1 (by omega) (by omega) (by omega) bt _ _ _ _ _ hR hk2 ((keepLC.set _).tr hkl2) (fun b hb => by rw [h102]; exact hHm b hb) hRF2 BFI.start ?_ (WB.start hcn) (fun hb i b hi hr ho => ?_)
  · intro b
    unfold rlx
    split
    · rename_i p
      right
      have := hcb n b p.1
      unfold MX at *
      omega
    · left; rfl
  · exfalso
    have : rlx (okC Z S sc f) (cN w) n 0 (fun _ => NO) (a i) = NO := if_neg (hbt2 hb (a i))
    rw [this] at hr
    exact Int.lt_irrefl _ hr

