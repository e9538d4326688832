/-- nothing but the arrays ns has changed -/
def keepN (ns : List NM) (Z Y : ZT) : Prop := ∀ m, m ∉ ns → Y m = Z m
theorem keepN.rf {ns : List NM} {Z : ZT} : keepN ns Z Z := fun _ _ => rfl
theorem keepN.up {ns : List NM} {Z Y : ZT} (h : keepN ns Z Y) {n : NM} (hn : n ∈ ns) (k : Nat) (v : Int32) : keepN ns Z (upZ Y n k v) := fun m hm => by
  rw [upZ_ne (m := m) (n := n) (fun e => hm (by rw [e]; exact hn))]
  exact h m hm
theorem keepN.tr {ns : List NM} {Z Y X : ZT} (h : keepN ns Z Y) (h2 : keepN ns Y X) : keepN ns Z X := fun m hm => (h2 m hm).trans (h m hm)
theorem keepN.mono {ns ms : List NM} {Z Y : ZT} (h : keepN ns Z Y) (hs : ∀ m, m ∈ ns → m ∈ ms) : keepN ms Z Y := fun m hm => h m (fun q => hm (hs m q))
theorem keep1.N {n : NM} {Z Y : ZT} (h : keep1 n Z Y) {ns : List NM} (hn : n ∈ ns) : keepN ns Z Y := fun m hm => h m (fun e => hm (e ▸ hn))
/-- the reference's memory, told by what the search is about -/
def RM (Z : ZT) (mb n : Nat) (sd : Nat → Bool) (t st : Nat → Int32) (aw : Int32) (w : Nat → Nat) : Prop :=
  Z (5, 0, 0) 7 = nI mb ∧ Z (5, 0, 0) 23 = nI n ∧ (∀ b, sd b = true ↔ b < mb ∧ Z (5, 0, 17) b = 0) ∧ (∀ b, b < mb → Z (5, 0, 32) b = t b) ∧ Z (5, 0, 25) = st ∧ Z (5, 0, 0) 25 = aw ∧ ∀ b, b < mb → Z (5, 0, 31) b = nI (w b) ∧ w b ≤ 44600
theorem RM.keep {Z Y : ZT} {mb n : Nat} {sd : Nat → Bool} {t st : Nat → Int32} {aw : Int32} {w : Nat → Nat} (h : RM Z mb n sd t st aw w) (hk : keepN [(5, 0, 30), (5, 0, 33)] Z Y) : RM Y mb n sd t st aw w := by
  unfold RM
  rw [hk (5, 0, 0) (by decide), hk (5, 0, 17) (by decide), hk (5, 0, 32) (by decide), hk (5, 0, 25) (by decide), hk (5, 0, 31) (by decide)]
  exact h
theorem RM.av {Z : ZT} {mb n : Nat} {sd : Nat → Bool} {t st : Nat → Int32} {aw : Int32} {w : Nat → Nat} (h : RM Z mb n sd t st aw w) (tk b : Nat) : (b < mb ∧ avM Z tk b = true) ↔ sd b = true ∧ tk.testBit b = false := by
  unfold avM
  rw [h.2.2.1 b, Bool.and_eq_true, decide_eq_true_iff, Bool.not_eq_true', and_assoc]
theorem RM.ag {Z : ZT} {mb n : Nat} {sd : Nat → Bool} {t st : Nat → Int32} {aw : Int32} {w : Nat → Nat} (h : RM Z mb n sd t st aw w) {f : Nat} (hf : f < mb) (i b : Nat) (hb : b < mb) : agM Z f i b = iw (t b - t f - st i) (-aw) aw := by
  unfold agM
  rw [h.2.2.2.1 b hb, h.2.2.2.1 f hf, h.2.2.2.2.1, h.2.2.2.2.2.1]
set_option maxRecDepth 100000 in
set_option maxHeartbeats 4000000 in
theorem c_X5_fits (l : Launch) (G : GG) {ad : NM → Nat} {np nb : Nat} {Z : ZT} {L : LT} {h : AH} (hR : Rm ad np nb Z L h) {mb n : Nat} {sd : Nat → Bool} {t st : Nat → Int32} {aw : Int32} {w : Nat → Nat} (hm : mb ≤ 24) (hn8 : n ≤ 8) (hM : RM Z mb n sd t st aw w) {f i b tk v : Nat} {p : Nat → Nat} (hf : f < mb) (hi0 : 0 < i) (hin : i < n) (hb : b < mb) (htk : tk < 2 ^ 24) (hT : Tk i p tk) (hp0 : p 0 = f) (hv : v ≤ 1400000) (hg : GI sd t st aw w n i v p) : Con l G mX5_fits 2 0 0 [.ref (ad (5, 0, 0)), .int (nI f), .int (nI i), .int (nI b), .int (nI tk), .int (nI (v - wt w p i))] h (fun r h2 => ∃ q Y, r = some (.int (bi q)) ∧ Rm ad np nb Y L h2 ∧ keep1 (5, 0, 33) Z Y ∧ (q = true ↔ Hit sd t st aw w n i v p b)) := by
  have htk2 : tk < 2147483648 := Nat.lt_trans htk (by decide)
  have htk3 : tk ||| 2 ^ b < 2147483648 := Nat.lt_trans (or_lt htk (by omega)) (by decide)
  refine Con.of 1 rfl (Nat.le_of_ble_eq_true rfl) ?_
  refine j_aload_n dX5_fits_0 rfl ?_
  refine gX5_53 rfl (hR.1 _ ⟨by first | assumption | exact Nat.zero_lt_one, rfl⟩) rfl dX5_fits_1 ?_
  refine j_iload_n dX5_fits_4 rfl ?_
  refine j_zald (hR.1 _ ⟨by first | assumption | exact Nat.zero_lt_one, rfl⟩) b rfl (by omega) (by decide) dX5_fits_5 ?_
  refine j_if_ne 29 dX5_fits_6 (by decide) (fun c_6 => ?_) (fun c_6 => ?_)
  · refine j_iconst (v := 0) dX5_fits_29 (by decide) ?_
    refine j_zret rfl rfl (Nat.le_of_ble_eq_true rfl) (Nat.le_of_ble_eq_true rfl) dX5_fits_30 ?_
    exact ⟨false, Z, rfl, hR, keep1.rf, (fun q => by cases q), fun q => absurd q (Hit_no hi0 hin (fun z => c_6 ((hM.2.2.1 b).mp z.1).2))⟩
  · refine j_iload dX5_fits_9 rfl ?_
    refine j_iload_n dX5_fits_11 rfl ?_
    refine j_ishr dX5_fits_12 ?_
    refine j_iconst (v := 1) dX5_fits_13 (by decide) ?_
    refine j_iand dX5_fits_14 ?_
    rw [bit_1 (t := tk) (b := b) htk2 (by omega)]
    refine j_iconst (v := 1) dX5_fits_15 (by decide) ?_
    refine j_icmp_eq 29 dX5_fits_16 (by decide) (fun c_16 => ?_) (fun c_16 => ?_)
    · refine j_iconst (v := 0) dX5_fits_29 (by decide) ?_
      refine j_zret rfl rfl (Nat.le_of_ble_eq_true rfl) (Nat.le_of_ble_eq_true rfl) dX5_fits_30 ?_
      exact ⟨false, Z, rfl, hR, keep1.rf, (fun q => by cases q), fun q => absurd q (Hit_no hi0 hin (fun z => by
        obtain ⟨x, h1, h2⟩ := (hT b).mp ((bi_eq1 _).mp c_16)
        exact z.2.1 x h1 h2))⟩
    · refine j_aload_n dX5_fits_19 rfl ?_
      refine j_iload_n dX5_fits_20 rfl ?_
      refine j_iload_n dX5_fits_21 rfl ?_
      refine j_iload_n dX5_fits_22 rfl ?_
      refine j_callV (rest := []) (c_X5_agrees l G hR (f := f) (i := i) (b := b) (by omega) (by omega) (by omega)) (hR.1 _ ⟨by first | assumption | exact Nat.zero_lt_one, rfl⟩) rfl cw_X5_agrees wl_X5_146 wm_X5_agrees wx_X5_agrees rfl rfl (Nat.le_of_ble_eq_true rfl) (Nat.le_of_ble_eq_true rfl) (Nat.le_of_ble_eq_true rfl) (Nat.le_of_ble_eq_true rfl) (Nat.le_of_ble_eq_true rfl) dX5_fits_23 (fun v_23 h_23 e_23 => ?_)
      obtain ⟨rfl, hh⟩ := e_23
      have hh := hh.symm
      subst hh
      refine j_if_ne 31 dX5_fits_26 (by decide) (fun c_26 => ?_) (fun c_26 => ?_)
      · have g_26 := (bi_ne0 _).mp c_26
        refine j_aload_n dX5_fits_31 rfl ?_
        refine j_iload_n dX5_fits_32 rfl ?_
        refine j_iload_n dX5_fits_33 rfl ?_
        refine j_iconst (v := 1) dX5_fits_34 (by decide) ?_
        refine j_iadd dX5_fits_35 ?_
        rw [nI_1]
        refine j_iload dX5_fits_36 rfl ?_
        refine j_iconst (v := 1) dX5_fits_38 (by decide) ?_
        refine j_iload_n dX5_fits_39 rfl ?_
        refine j_ishl dX5_fits_40 ?_
        rw [shOne (by omega)]
        refine j_ior dX5_fits_41 ?_
        rw [nI_or]
        refine j_callV (rest := []) (c_X5_lightest l G hR hM.1 hm hM.2.1 hn8 (f := f) (nt := i + 1) (tk := tk ||| 2 ^ b) (by omega) (by omega) htk3 hM.2.2.2.2.2.2) (hR.1 _ ⟨by first | assumption | exact Nat.zero_lt_one, rfl⟩) rfl cw_X5_lightest wl_X5_149 wm_X5_lightest wx_X5_lightest rfl rfl (Nat.le_of_ble_eq_true rfl) (Nat.le_of_ble_eq_true rfl) (Nat.le_of_ble_eq_true rfl) (Nat.le_of_ble_eq_true rfl) (Nat.le_of_ble_eq_true rfl) dX5_fits_42 (fun v_42 h_42 e_42 => ?_)
        obtain ⟨x, Y, rfl, hR, hkp, hx⟩ := e_42
        have hnt : tk.testBit b = false := by
          cases q : tk.testBit b with
          | false => rfl
          | true => exact absurd ((bi_eq1 _).mpr q) c_16
        have hsdb : sd b = true := (hM.2.2.1 b).mpr ⟨hb, c_6⟩
        have hpn : ∀ j, j < i → p j ≠ b := fun j hj e => by
          rw [(hT b).mpr ⟨j, hj, e⟩] at hnt
          cases hnt
        have e0 : upf p i b 0 = f := by rw [upf_ne (by omega)]; exact hp0
        have hva := Va_add (hg.va hi0 (by omega)).2.1 hi0 hsdb hpn (by rw [hp0, ← hM.ag hf i b hb]; exact g_26)
        have hx2 : LsV (Ex sd t st aw w n (i + 1) (upf p i b)) x := hx.congr (Ac_Ex (by omega) (by omega) hva (hT.add b) (hM.av _) (fun j c hc => by rw [e0]; exact hM.ag hf j c hc))
        have hhit := Hit_iff hg hi0 hin hv (hM.2.2.2.2.2.2 b hb).2 hx2
        refine j_istore dX5_fits_45 (Nat.le_of_ble_eq_true rfl) rfl ?_
        refine j_iload dX5_fits_47 rfl ?_
        refine j_if_lt 70 dX5_fits_49 (by decide) (fun c_49 => ?_) (fun c_49 => ?_)
        · refine j_iconst (v := 0) dX5_fits_70 (by decide) ?_
          refine j_zret rfl rfl (Nat.le_of_ble_eq_true rfl) (Nat.le_of_ble_eq_true rfl) dX5_fits_71 ?_
          exact ⟨false, Y, rfl, hR, hkp, (fun q => by cases q), fun q => absurd c_49 (hhit.mpr q).1⟩
        · refine j_iload dX5_fits_52 rfl ?_
          refine j_aload_n dX5_fits_54 rfl ?_
          refine gX5_77 rfl (hR.1 _ ⟨by first | assumption | exact Nat.zero_lt_one, rfl⟩) rfl dX5_fits_55 ?_
          refine j_iload_n dX5_fits_58 rfl ?_
          refine j_iald (hR.1 _ ⟨by first | assumption | exact Nat.zero_lt_one, rfl⟩) b rfl (by omega) (by decide) dX5_fits_59 ?_
          rw [hkp (5, 0, 31) (by decide), (hM.2.2.2.2.2.2 b hb).1]
          refine j_iadd dX5_fits_60 ?_
          refine j_iload dX5_fits_61 rfl ?_
          refine j_icmp_ne 70 dX5_fits_63 (by decide) (fun c_63 => ?_) (fun c_63 => ?_)
          · refine j_iconst (v := 0) dX5_fits_70 (by decide) ?_
            refine j_zret rfl rfl (Nat.le_of_ble_eq_true rfl) (Nat.le_of_ble_eq_true rfl) dX5_fits_71 ?_
            exact ⟨false, Y, rfl, hR, hkp, (fun q => by cases q), fun q => absurd (hhit.mpr q).2 c_63⟩
          · refine j_iconst (v := 1) dX5_fits_66 (by decide) ?_
            refine j_goto 71 dX5_fits_67 (by decide) ?_
            refine j_zret rfl rfl (Nat.le_of_ble_eq_true rfl) (Nat.le_of_ble_eq_true rfl) dX5_fits_71 ?_
            exact ⟨true, Y, rfl, hR, hkp, fun _ => hhit.mp ⟨c_49, c_63⟩, fun _ => rfl⟩
      · have g_26 := (bi_eq0 _).mp c_26
        refine j_iconst (v := 0) dX5_fits_29 (by decide) ?_
        refine j_zret rfl rfl (Nat.le_of_ble_eq_true rfl) (Nat.le_of_ble_eq_true rfl) dX5_fits_30 ?_
        exact ⟨false, Z, rfl, hR, keep1.rf, (fun q => by cases q), fun q => absurd q (Hit_no hi0 hin (fun z => by
          rw [hM.ag hf i b hb, ← hp0, z.2.2] at g_26
          cases g_26))⟩

abbrev KR : List NM := [(5, 0, 30), (5, 0, 31), (5, 0, 32), (5, 0, 33)]
def sdM (Z : ZT) (mb b : Nat) : Bool := decide (b < mb) && decide (Z (5, 0, 17) b = 0)
def wM (Z : ZT) (b : Nat) : Nat := cl (mW Z b)
def tM (Z : ZT) (b : Nat) : Int32 := mP Z b 0
def rgM (Z : ZT) (mb n : Nat) (x : Int32) (Y : ZT) : Prop := keepN KR Z Y ∧ ((n = 0 ∧ x = -1) ∨ (0 < n ∧ RR (sdM Z mb) (tM Z) (Z (5, 0, 25)) (Z (5, 0, 0) 25) (wM Z) n x (Y (5, 0, 30))))
theorem keepN_mW {Z Y : ZT} (h : keepN KR Z Y) (b : Nat) : mW Y b = mW Z b ∧ ∀ q, mP Y b q = mP Z b q := by
  unfold mW mP
  rw [h (5, 0, 10) (by decide), h (5, 0, 13) (by decide), h (5, 0, 11) (by decide), h (5, 0, 14) (by decide), h (5, 0, 15) (by decide)]
  exact ⟨rfl, fun _ => rfl⟩
set_option maxRecDepth 100000 in
set_option maxHeartbeats 4000000 in
theorem c_X5_rings (l : Launch) (G : GG) {ad : NM → Nat} {np nb : Nat} {Z : ZT} {L : LT} {h : AH} (hR : Rm ad np nb Z L h) {mb : Nat} (hmb : Z (5, 0, 0) 7 = nI mb) (hm : mb ≤ 24) {n : Nat} (hnn : Z (5, 0, 0) 23 = nI n) (hn8 : n ≤ 8) (hw : ∀ b, b < mb → mW Z b = nI (cl (mW Z b)) ∧ cl (mW Z b) ≤ 44600)  : Con l G mX5_rings 3 0 0 [.ref (ad (5, 0, 0))] h (fun r h2 => ∃ x Y, r = some (.int x) ∧ Rm ad np nb Y L h2 ∧ rgM Z mb n x Y) := by
  have k1 : ∀ nn1 i, mb < i + nn1 → i ≤ mb → ∀ h Y1, Rm ad np nb Y1 L h → keepN KR Z Y1 → (∀ b, b < i → Y1 (5, 0, 31) b = mW Z b ∧ Y1 (5, 0, 32) b = mP Z b 0) → J (thM l G mX5_rings 3 0 0 (fun r h2 => ∃ x Y, r = some (.int x) ∧ Rm ad np nb Y L h2 ∧ rgM Z mb n x Y)) cX5_rings h (0, 0) [some (.ref (ad (5, 0, 0))), some (.int (nI i)), none, none, none, none, none] 2 [] := by
    intro nn1
    induction nn1 with
    | zero => intro i h1 h2; omega
    | succ nn1 ih1 =>
      intro i h1 h2 h Y1 hR hk1 hwp
      refine j_iload_n dX5_rings_2 rfl ?_
      refine j_aload_n dX5_rings_3 rfl ?_
      refine gX5_86 rfl (hR.1 _ ⟨by first | assumption | exact Nat.zero_lt_one, rfl⟩) rfl dX5_rings_4 ?_
      rw [hk1 (5, 0, 0) (by decide), hmb]
      refine j_icmp_ge 39 dX5_rings_7 (by decide) (fun c_7 => ?_) (fun c_7 => ?_)
      · have hl : mb ≤ i := (nI_leI (a := mb) (b := i) (by omega) (by omega)).mp c_7
        have hwp : ∀ b, b < mb → Y1 (5, 0, 31) b = mW Z b ∧ Y1 (5, 0, 32) b = mP Z b 0 := fun b hb => hwp b (by omega)
        refine j_iconst (v := (-1)) dX5_rings_39 (by decide) ?_
        refine j_istore_n dX5_rings_40 (Nat.le_of_ble_eq_true rfl) rfl ?_
        refine j_iconst (v := (-1)) dX5_rings_41 (by decide) ?_
        refine j_istore_n dX5_rings_42 (Nat.le_of_ble_eq_true rfl) rfl ?_
        refine j_iconst (v := 0) dX5_rings_43 (by decide) ?_
        refine j_istore_n dX5_rings_44 (Nat.le_of_ble_eq_true rfl) rfl ?_
        have hM : RM Y1 mb n (sdM Z mb) (tM Z) (Z (5, 0, 25)) (Z (5, 0, 0) 25) (wM Z) := ⟨by rw [hk1 (5, 0, 0) (by decide)]; exact hmb, by rw [hk1 (5, 0, 0) (by decide)]; exact hnn, fun b => by
            unfold sdM
            rw [hk1 (5, 0, 17) (by decide), Bool.and_eq_true, decide_eq_true_iff, decide_eq_true_iff], fun b hb => (hwp b hb).2, hk1 (5, 0, 25) (by decide), by rw [hk1 (5, 0, 0) (by decide)], fun b hb => ⟨by rw [(hwp b hb).1]; exact (hw b hb).1, (hw b hb).2⟩⟩
        have hsdm : ∀ b, sdM Z mb b = true → b < mb := fun b hb => ((hM.2.2.1 b).mp hb).1
        have k3 : ∀ nn3 i, mb < i + nn3 → i ≤ mb → ∀ best first h Y, Rm ad np nb Y L h → keep1 (5, 0, 33) Y1 Y → RI (sdM Z mb) (tM Z) (Z (5, 0, 25)) (Z (5, 0, 0) 25) (wM Z) n i best first → (n = 0 → best < 0) → J (thM l G mX5_rings 3 0 0 (fun r h2 => ∃ x Y, r = some (.int x) ∧ Rm ad np nb Y L h2 ∧ rgM Z mb n x Y)) cX5_rings h (0, 0) [some (.ref (ad (5, 0, 0))), some (.int best), some (.int first), some (.int (nI i)), none, none, none] 45 [] := by
          intro nn3
          induction nn3 with
          | zero => intro i h1 h2; omega
          | succ nn3 ih3 =>
            intro i h1 h2 best first h Y hR hkf hri hbn
            refine j_iload_n dX5_rings_45 rfl ?_
            refine j_aload_n dX5_rings_46 rfl ?_
            refine gX5_86 rfl (hR.1 _ ⟨by first | assumption | exact Nat.zero_lt_one, rfl⟩) rfl dX5_rings_47 ?_
            rw [hkf (5, 0, 0) (by decide), hM.1]
            refine j_icmp_ge 124 dX5_rings_50 (by decide) (fun c_50 => ?_) (fun c_50 => ?_)
            · have hl : mb ≤ i := (nI_leI (a := mb) (b := i) (by omega) (by omega)).mp c_50
              have him : i = mb := by omega
              rw [him] at hri
              refine j_iload_n dX5_rings_124 rfl ?_
              refine j_if_ge 130 dX5_rings_125 (by decide) (fun c_125 => ?_) (fun c_125 => ?_)
              · obtain ⟨v, f, rfl, hv, rfl, hfm, hsf, hg⟩ := GI.init hri hsdm (Int32.not_lt.mpr c_125)
                have hn0 : 0 < n := by
                  rcases Nat.eq_zero_or_pos n with z | z
                  · exact absurd (hbn z) (nI_pos (by omega))
                  · exact z
                have hle := (hg.va (by omega) (by omega)).2.2
                have e1 : wt (wM Z) (fun _ => f) 1 = wM Z f := by simp only [wt, Nat.zero_add]
                rw [e1] at hle
                refine j_aload_n dX5_rings_130 rfl ?_
                refine gX5_74 rfl (hR.1 _ ⟨by first | assumption | exact Nat.zero_lt_one, rfl⟩) rfl dX5_rings_131 ?_
                refine j_iconst (v := 0) dX5_rings_134 (by decide) ?_
                refine j_iload_n dX5_rings_135 rfl ?_
                refine r_iast hR ⟨by first | assumption | exact Nat.zero_lt_one, rfl⟩ (fun _ => rfl) 0 rfl (by omega) (by decide) dX5_rings_136 (fun h hR => ?_)
                refine j_iconst (v := 1) dX5_rings_137 (by decide) ?_
                refine j_iload_n dX5_rings_138 rfl ?_
                refine j_ishl dX5_rings_139 ?_
                rw [shOne (by omega)]
                refine j_istore_n dX5_rings_140 (Nat.le_of_ble_eq_true rfl) rfl ?_
                refine j_iload_n dX5_rings_141 rfl ?_
                refine j_aload_n dX5_rings_142 rfl ?_
                refine gX5_77 rfl (hR.1 _ ⟨by first | assumption | exact Nat.zero_lt_one, rfl⟩) rfl dX5_rings_143 ?_
                refine j_iload_n dX5_rings_146 rfl ?_
                refine j_iald (hR.1 _ ⟨by first | assumption | exact Nat.zero_lt_one, rfl⟩) f rfl (by omega) (by decide) dX5_rings_147 ?_
                rw [upZ_ne (by decide), hkf (5, 0, 31) (by decide), (hM.2.2.2.2.2.2 f hfm).1]
                refine j_isub dX5_rings_148 ?_
                rw [pk_sub hle, show v - wM Z f = v - wt (wM Z) (fun _ => f) 1 by rw [e1]]
                refine j_istore dX5_rings_149 (Nat.le_of_ble_eq_true rfl) rfl ?_
                refine j_iconst (v := 1) dX5_rings_151 (by decide) ?_
                refine j_istore dX5_rings_152 (Nat.le_of_ble_eq_true rfl) rfl ?_
                have k5 : ∀ nn5 k, n < k + nn5 → k ≤ n → 0 < k → ∀ p tk h Y, p 0 = f → Tk k p tk → tk < 2 ^ 24 → Rm ad np nb Y L h → keepN [(5, 0, 30), (5, 0, 33)] Y1 Y → GI (sdM Z mb) (tM Z) (Z (5, 0, 25)) (Z (5, 0, 0) 25) (wM Z) n k v p → (∀ i, i < k → Y (5, 0, 30) i = nI (p i)) → J (thM l G mX5_rings 3 0 0 (fun r h2 => ∃ x Y, r = some (.int x) ∧ Rm ad np nb Y L h2 ∧ rgM Z mb n x Y)) cX5_rings h (0, 0) [some (.ref (ad (5, 0, 0))), some (.int (nI v)), some (.int (nI f)), some (.int (nI tk)), some (.int (nI (v - wt (wM Z) p k))), some (.int (nI k)), none] 154 [] := by
                  intro nn5
                  induction nn5 with
                  | zero => intro k h1 h2; omega
                  | succ nn5 ih5 =>
                    intro k h1 h2 hk0 p tk h Y hp0 hT htk hR hkg hg hring
                    refine j_iload dX5_rings_154 rfl ?_
                    refine j_aload_n dX5_rings_156 rfl ?_
                    refine gX5_140 rfl (hR.1 _ ⟨by first | assumption | exact Nat.zero_lt_one, rfl⟩) rfl dX5_rings_157 ?_
                    rw [(hM.keep hkg).2.1]
                    refine j_icmp_ge 221 dX5_rings_160 (by decide) (fun c_160 => ?_) (fun c_160 => ?_)
                    · have hl : n ≤ k := (nI_leI (a := n) (b := k) (by omega) (by omega)).mp c_160
                      obtain rfl : k = n := by omega
                      refine j_iload_n dX5_rings_221 rfl ?_
                      refine j_iret rfl (Nat.le_of_ble_eq_true rfl) (Nat.le_of_ble_eq_true rfl) dX5_rings_222 ?_
                      exact ⟨_, Y, rfl, hR, hk1.tr (hkg.mono (by decide)), Or.inr ⟨by omega, Or.inr ⟨v, p, rfl, hv, hg, hring⟩⟩⟩
                    · have hl : k < n := Nat.not_le.mp (fun q => c_160 ((nI_leI (a := n) (b := k) (by omega) (by omega)).mpr q))
                      refine j_iconst (v := 0) dX5_rings_163 (by decide) ?_
                      refine j_istore dX5_rings_164 (Nat.le_of_ble_eq_true rfl) rfl ?_
                      obtain ⟨b0, hb0⟩ := hg.ex
                      have hb0m := hsdm _ (Hit_sd hb0 hl)
                      have k6 : ∀ nn6 b, b0 < b + nn6 → b ≤ b0 → (∀ c, c < b → ¬ Hit (sdM Z mb) (tM Z) (Z (5, 0, 25)) (Z (5, 0, 0) 25) (wM Z) n k v p c) → ∀ h Y, Rm ad np nb Y L h → keepN [(5, 0, 30), (5, 0, 33)] Y1 Y → (∀ i, i < k → Y (5, 0, 30) i = nI (p i)) → J (thM l G mX5_rings 3 0 0 (fun r h2 => ∃ x Y, r = some (.int x) ∧ Rm ad np nb Y L h2 ∧ rgM Z mb n x Y)) cX5_rings h (0, 0) [some (.ref (ad (5, 0, 0))), some (.int (nI v)), some (.int (nI f)), some (.int (nI tk)), some (.int (nI (v - wt (wM Z) p k))), some (.int (nI k)), some (.int (nI b))] 166 [] := by
                        intro nn6
                        induction nn6 with
                        | zero => intro b h1 h2; omega
                        | succ nn6 ih6 =>
                          intro b h1 h2 hnh h Y hR hkg hring
                          refine j_aload_n dX5_rings_166 rfl ?_
                          refine j_iload_n dX5_rings_167 rfl ?_
                          refine j_iload dX5_rings_168 rfl ?_
                          refine j_iload dX5_rings_170 rfl ?_
                          refine j_iload_n dX5_rings_172 rfl ?_
                          refine j_iload dX5_rings_173 rfl ?_
                          refine j_callV (rest := []) (c_X5_fits l G hR hm hn8 (hM.keep hkg) (f := f) (i := k) (b := b) (tk := tk) (v := v) (p := p) (by omega) (by omega) hl (by omega) htk hT hp0 hv hg) (hR.1 _ ⟨by first | assumption | exact Nat.zero_lt_one, rfl⟩) rfl cw_X5_fits wl_X5_153 wm_X5_fits wx_X5_fits rfl rfl (Nat.le_of_ble_eq_true rfl) (Nat.le_of_ble_eq_true rfl) (Nat.le_of_ble_eq_true rfl) (Nat.le_of_ble_eq_true rfl) (Nat.le_of_ble_eq_true rfl) dX5_rings_175 (fun v_175 h_175 e_175 => ?_)
                          obtain ⟨q, Y3, rfl, hR, hkf, hq⟩ := e_175
                          have hkg := hkg.tr (hkf.N (ns := [(5, 0, 30), (5, 0, 33)]) (by decide))
                          have hring : ∀ i, i < k → Y3 (5, 0, 30) i = nI (p i) := fun i hi => by rw [hkf (5, 0, 30) (by decide)]; exact hring i hi
                          refine j_if_ne 187 dX5_rings_178 (by decide) (fun c_178 => ?_) (fun c_178 => ?_)
                          · have g_178 := (bi_ne0 _).mp c_178
                            have hhit := hq.mp g_178
                            refine j_aload_n dX5_rings_187 rfl ?_
                            refine gX5_74 rfl (hR.1 _ ⟨by first | assumption | exact Nat.zero_lt_one, rfl⟩) rfl dX5_rings_188 ?_
                            refine j_iload dX5_rings_191 rfl ?_
                            refine j_iload dX5_rings_193 rfl ?_
                            refine r_iast hR ⟨by first | assumption | exact Nat.zero_lt_one, rfl⟩ (fun _ => rfl) k rfl (by omega) (by decide) dX5_rings_195 (fun h hR => ?_)
                            refine j_iload_n dX5_rings_196 rfl ?_
                            refine j_iconst (v := 1) dX5_rings_197 (by decide) ?_
                            refine j_iload dX5_rings_198 rfl ?_
                            refine j_ishl dX5_rings_200 ?_
                            rw [shOne (by omega)]
                            refine j_ior dX5_rings_201 ?_
                            rw [nI_or]
                            refine j_istore_n dX5_rings_202 (Nat.le_of_ble_eq_true rfl) rfl ?_
                            refine j_iload dX5_rings_203 rfl ?_
                            refine j_aload_n dX5_rings_205 rfl ?_
                            refine gX5_77 rfl (hR.1 _ ⟨by first | assumption | exact Nat.zero_lt_one, rfl⟩) rfl dX5_rings_206 ?_
                            refine j_iload dX5_rings_209 rfl ?_
                            refine j_iald (hR.1 _ ⟨by first | assumption | exact Nat.zero_lt_one, rfl⟩) b rfl (by omega) (by decide) dX5_rings_211 ?_
                            rw [upZ_ne (by decide), hkg (5, 0, 31) (by decide), (hM.2.2.2.2.2.2 b (by omega)).1]
                            refine j_isub dX5_rings_212 ?_
                            refine j_istore dX5_rings_213 (Nat.le_of_ble_eq_true rfl) rfl ?_
                            refine j_iinc dX5_rings_215 rfl (nI_inc _) (Nat.le_of_ble_eq_true rfl) rfl ?_
                            refine j_goto 154 dX5_rings_218 (by decide) ?_
                            refine J.drop 6 ?_
                            have e9 : wt (wM Z) (upf p k b) (k + 1) = wt (wM Z) p k + wM Z b := by rw [wt, upf_at, wt_congr (b := p) (fun i hi => upf_ne (by omega))]
                            have hgs := hg.step hhit hnh
                            have hle := (hgs.va (by omega) (by omega)).2.2
                            rw [e9] at hle
                            rw [pk_sub (by omega), show v - wt (wM Z) p k - wM Z b = v - wt (wM Z) (upf p k b) (k + 1) by rw [e9]; omega]
                            exact ih5 (k + 1) (by omega) (by omega) (by omega) (upf p k b) (tk ||| 2 ^ b) _ _ (by rw [upf_ne (by omega)]; exact hp0) (hT.add b) (or_lt htk (by omega)) hR (hkg.up (by decide) _ _) hgs (fun i hi => by
                              by_cases q9 : i = k
                              · rw [q9, upf_at, upZ_at]
                              · rw [upZ_nk (Or.inr q9), upf_ne q9]; exact hring i (by omega))
                          · have g_178 := (bi_eq0 _).mp c_178
                            have hnot : ¬ Hit (sdM Z mb) (tM Z) (Z (5, 0, 25)) (Z (5, 0, 0) 25) (wM Z) n k v p b := fun z => by rw [hq.mpr z] at g_178; cases g_178
                            have hbne : b ≠ b0 := fun e => hnot (e ▸ hb0)
                            refine j_iinc dX5_rings_181 rfl (nI_inc _) (Nat.le_of_ble_eq_true rfl) rfl ?_
                            refine j_goto 166 dX5_rings_184 (by decide) ?_
                            exact ih6 (b + 1) (by omega) (by omega) (fun c hc => by
                              rcases Nat.lt_or_ge c b with h9 | h9
                              · exact hnh c h9
                              · rw [show c = b by omega]; exact hnot) _ _ hR hkg hring
                      exact k6 (b0 + 1) 0 (by omega) (by omega) (fun c hc => absurd hc (by omega)) _ _ hR hkg hring
                exact k5 (n + 1) 1 (by omega) (by omega) (by omega) (fun _ => f) (2 ^ f) _ _ rfl (Tk.one f) (Nat.pow_lt_pow_right (by omega) (by omega)) hR ((hkf.N (by decide)).up (by decide) _ _) hg (fun i hi => by
                  rw [show i = 0 by omega, upZ_at])
              · refine j_iconst (v := (-1)) dX5_rings_128 (by decide) ?_
                refine j_iret rfl (Nat.le_of_ble_eq_true rfl) (Nat.le_of_ble_eq_true rfl) dX5_rings_129 ?_
                rcases Nat.eq_zero_or_pos n with z | z
                · exact ⟨_, Y, rfl, hR, hk1.tr (hkf.N (by decide)), Or.inl ⟨z, rfl⟩⟩
                · exact ⟨_, Y, rfl, hR, hk1.tr (hkf.N (by decide)), Or.inr ⟨z, Or.inl ⟨rfl, hri.none hsdm (Int32.not_le.mp c_125)⟩⟩⟩
            · have hl : i < mb := Nat.not_le.mp (fun q => c_50 ((nI_leI (a := mb) (b := i) (by omega) (by omega)).mpr q))
              have hwi : wM Z i ≤ 44600 := (hM.2.2.2.2.2.2 i hl).2
              refine j_aload_n dX5_rings_53 rfl ?_
              refine gX5_140 rfl (hR.1 _ ⟨by first | assumption | exact Nat.zero_lt_one, rfl⟩) rfl dX5_rings_54 ?_
              rw [hkf (5, 0, 0) (by decide), hM.2.1]
              refine j_if_le 124 dX5_rings_57 (by decide) (fun c_57 => ?_) (fun c_57 => ?_)
              · have hz : n = 0 := by
                  have := (nI_leI (a := n) (b := 0) (by omega) (by omega)).mp c_57
                  omega
                refine j_iload_n dX5_rings_124 rfl ?_
                refine j_if_ge 130 dX5_rings_125 (by decide) (fun c_125 => ?_) (fun c_125 => ?_)
                · exact absurd (hbn hz) (Int32.not_lt.mpr c_125)
                · refine j_iconst (v := (-1)) dX5_rings_128 (by decide) ?_
                  refine j_iret rfl (Nat.le_of_ble_eq_true rfl) (Nat.le_of_ble_eq_true rfl) dX5_rings_129 ?_
                  exact ⟨_, Y, rfl, hR, hk1.tr (hkf.N (by decide)), Or.inl ⟨hz, rfl⟩⟩
              · have hn0 : 0 < n := Nat.not_le.mp (fun q => c_57 ((nI_leI (a := n) (b := 0) (by omega) (by omega)).mpr q))
                refine j_aload_n dX5_rings_60 rfl ?_
                refine gX5_53 rfl (hR.1 _ ⟨by first | assumption | exact Nat.zero_lt_one, rfl⟩) rfl dX5_rings_61 ?_
                refine j_iload_n dX5_rings_64 rfl ?_
                refine j_zald (hR.1 _ ⟨by first | assumption | exact Nat.zero_lt_one, rfl⟩) i rfl (by omega) (by decide) dX5_rings_65 ?_
                refine j_if_eq 73 dX5_rings_66 (by decide) (fun c_66 => ?_) (fun c_66 => ?_)
                · refine j_aload_n dX5_rings_73 rfl ?_
                  refine j_iload_n dX5_rings_74 rfl ?_
                  refine j_iconst (v := 1) dX5_rings_75 (by decide) ?_
                  refine j_iconst (v := 1) dX5_rings_76 (by decide) ?_
                  refine j_iload_n dX5_rings_77 rfl ?_
                  refine j_ishl dX5_rings_78 ?_
                  rw [shOne (by omega)]
                  refine j_callV (rest := []) (c_X5_lightest l G hR (hM.keep (hkf.N (ns := [(5, 0, 30), (5, 0, 33)]) (by decide))).1 hm (hM.keep (hkf.N (ns := [(5, 0, 30), (5, 0, 33)]) (by decide))).2.1 hn8 (f := i) (nt := 1) (tk := 2 ^ i) (by omega) (by omega) (Nat.lt_of_lt_of_le (Nat.pow_lt_pow_right (n := 24) (by omega) (by omega)) (by decide)) (hM.keep (hkf.N (ns := [(5, 0, 30), (5, 0, 33)]) (by decide))).2.2.2.2.2.2) (hR.1 _ ⟨by first | assumption | exact Nat.zero_lt_one, rfl⟩) rfl cw_X5_lightest wl_X5_149 wm_X5_lightest wx_X5_lightest rfl rfl (Nat.le_of_ble_eq_true rfl) (Nat.le_of_ble_eq_true rfl) (Nat.le_of_ble_eq_true rfl) (Nat.le_of_ble_eq_true rfl) (Nat.le_of_ble_eq_true rfl) dX5_rings_79 (fun v_79 h_79 e_79 => ?_)
                  obtain ⟨x, Y3, rfl, hR, hkp, hx⟩ := e_79
                  have hkf0 := hkf
                  have hkf := hkf.tr hkp
                  have hsi : sdM Z mb i = true := (hM.2.2.1 i).mpr ⟨hl, by rw [hkf0 (5, 0, 17) (by decide)] at c_66; exact c_66⟩
                  have hMy := hM.keep (hkf0.N (ns := [(5, 0, 30), (5, 0, 33)]) (by decide))
                  have hrx : RX (sdM Z mb) (tM Z) (Z (5, 0, 25)) (Z (5, 0, 0) 25) (wM Z) n i x := RX.of hsi hn0 (hx.congr (Ac_Ex (p := fun _ => i) (by omega) (by omega) ⟨fun j hj => by rw [show j = 0 by omega]; exact okR_0.mpr rfl, fun a c h1 h2 _ => by omega⟩ (Tk.one i) (hMy.av _) (fun j c hc => hMy.ag hl j c hc)))
                  refine j_istore dX5_rings_82 (Nat.le_of_ble_eq_true rfl) rfl ?_
                  refine j_iload dX5_rings_84 rfl ?_
                  refine j_if_lt 118 dX5_rings_86 (by decide) (fun c_86 => ?_) (fun c_86 => ?_)
                  · refine j_iinc dX5_rings_118 rfl (nI_inc _) (Nat.le_of_ble_eq_true rfl) rfl ?_
                    refine j_goto 45 dX5_rings_121 (by decide) ?_
                    refine J.drop 4 ?_
                    exact ih3 (i + 1) (by omega) (by omega) _ _ _ _ hR hkf (hri.no hrx c_86) (fun z => absurd z (by omega))
                  · refine j_iload_n dX5_rings_89 rfl ?_
                    refine j_if_lt 106 dX5_rings_90 (by decide) (fun c_90 => ?_) (fun c_90 => ?_)
                    · refine j_iload dX5_rings_106 rfl ?_
                      refine j_aload_n dX5_rings_108 rfl ?_
                      refine gX5_77 rfl (hR.1 _ ⟨by first | assumption | exact Nat.zero_lt_one, rfl⟩) rfl dX5_rings_109 ?_
                      refine j_iload_n dX5_rings_112 rfl ?_
                      refine j_iald (hR.1 _ ⟨by first | assumption | exact Nat.zero_lt_one, rfl⟩) i rfl (by omega) (by decide) dX5_rings_113 ?_
                      rw [hkf (5, 0, 31) (by decide), (hM.2.2.2.2.2.2 i hl).1]
                      refine j_iadd dX5_rings_114 ?_
                      refine j_istore_n dX5_rings_115 (Nat.le_of_ble_eq_true rfl) rfl ?_
                      refine j_iload_n dX5_rings_116 rfl ?_
                      refine j_istore_n dX5_rings_117 (Nat.le_of_ble_eq_true rfl) rfl ?_
                      refine j_iinc dX5_rings_118 rfl (nI_inc _) (Nat.le_of_ble_eq_true rfl) rfl ?_
                      refine j_goto 45 dX5_rings_121 (by decide) ?_
                      refine J.drop 4 ?_
                      exact ih3 (i + 1) (by omega) (by omega) _ _ _ _ hR hkf (hri.take hrx hwi c_86 (Or.inl c_90)) (fun z => absurd z (by omega))
                    · refine j_iload dX5_rings_93 rfl ?_
                      refine j_aload_n dX5_rings_95 rfl ?_
                      refine gX5_77 rfl (hR.1 _ ⟨by first | assumption | exact Nat.zero_lt_one, rfl⟩) rfl dX5_rings_96 ?_
                      refine j_iload_n dX5_rings_99 rfl ?_
                      refine j_iald (hR.1 _ ⟨by first | assumption | exact Nat.zero_lt_one, rfl⟩) i rfl (by omega) (by decide) dX5_rings_100 ?_
                      rw [hkf (5, 0, 31) (by decide), (hM.2.2.2.2.2.2 i hl).1]
                      refine j_iadd dX5_rings_101 ?_
                      refine j_iload_n dX5_rings_102 rfl ?_
                      refine j_icmp_ge 118 dX5_rings_103 (by decide) (fun c_103 => ?_) (fun c_103 => ?_)
                      · refine j_iinc dX5_rings_118 rfl (nI_inc _) (Nat.le_of_ble_eq_true rfl) rfl ?_
                        refine j_goto 45 dX5_rings_121 (by decide) ?_
                        refine J.drop 4 ?_
                        exact ih3 (i + 1) (by omega) (by omega) _ _ _ _ hR hkf (hri.keep hrx hwi c_86 c_90 c_103) (fun z => absurd z (by omega))
                      · refine j_iload dX5_rings_106 rfl ?_
                        refine j_aload_n dX5_rings_108 rfl ?_
                        refine gX5_77 rfl (hR.1 _ ⟨by first | assumption | exact Nat.zero_lt_one, rfl⟩) rfl dX5_rings_109 ?_
                        refine j_iload_n dX5_rings_112 rfl ?_
                        refine j_iald (hR.1 _ ⟨by first | assumption | exact Nat.zero_lt_one, rfl⟩) i rfl (by omega) (by decide) dX5_rings_113 ?_
                        rw [hkf (5, 0, 31) (by decide), (hM.2.2.2.2.2.2 i hl).1]
                        refine j_iadd dX5_rings_114 ?_
                        refine j_istore_n dX5_rings_115 (Nat.le_of_ble_eq_true rfl) rfl ?_
                        refine j_iload_n dX5_rings_116 rfl ?_
                        refine j_istore_n dX5_rings_117 (Nat.le_of_ble_eq_true rfl) rfl ?_
                        refine j_iinc dX5_rings_118 rfl (nI_inc _) (Nat.le_of_ble_eq_true rfl) rfl ?_
                        refine j_goto 45 dX5_rings_121 (by decide) ?_
                        refine J.drop 4 ?_
                        exact ih3 (i + 1) (by omega) (by omega) _ _ _ _ hR hkf (hri.take hrx hwi c_86 (Or.inr (Int32.not_le.mp c_103))) (fun z => absurd z (by omega))
                · have hrx : RX (sdM Z mb) (tM Z) (Z (5, 0, 25)) (Z (5, 0, 0) 25) (wM Z) n i (-1) := RX.cracked (by
                    unfold sdM
                    rw [hkf (5, 0, 17) (by decide), hk1 (5, 0, 17) (by decide)] at c_66
                    rw [decide_eq_false c_66, Bool.and_false])
                  refine j_iconst (v := (-1)) dX5_rings_69 (by decide) ?_
                  refine j_goto 82 dX5_rings_70 (by decide) ?_
                  refine j_istore dX5_rings_82 (Nat.le_of_ble_eq_true rfl) rfl ?_
                  refine j_iload dX5_rings_84 rfl ?_
                  refine j_if_lt 118 dX5_rings_86 (by decide) (fun c_86 => ?_) (fun c_86 => ?_)
                  · refine j_iinc dX5_rings_118 rfl (nI_inc _) (Nat.le_of_ble_eq_true rfl) rfl ?_
                    refine j_goto 45 dX5_rings_121 (by decide) ?_
                    refine J.drop 4 ?_
                    exact ih3 (i + 1) (by omega) (by omega) _ _ _ _ hR hkf (hri.no hrx c_86) (fun z => absurd z (by omega))
                  · exact absurd m1_lt c_86
        exact k3 (mb + 1) 0 (by omega) (by omega) _ _ _ _ hR keep1.rf RI.init (fun _ => m1_lt)
      · have hl : i < mb := Nat.not_le.mp (fun q => c_7 ((nI_leI (a := mb) (b := i) (by omega) (by omega)).mpr q))
        refine j_aload_n dX5_rings_10 rfl ?_
        refine gX5_77 rfl (hR.1 _ ⟨by first | assumption | exact Nat.zero_lt_one, rfl⟩) rfl dX5_rings_11 ?_
        refine j_iload_n dX5_rings_14 rfl ?_
        refine j_aload_n dX5_rings_15 rfl ?_
        refine j_iload_n dX5_rings_16 rfl ?_
        refine j_callV (rest := [.int (nI i), .ref (ad (5, 0, 31))]) (c_X5_weightOf l G hR (b := i) (by omega)) (hR.1 _ ⟨by first | assumption | exact Nat.zero_lt_one, rfl⟩) rfl cw_X5_weightOf wl_X5_115 wm_X5_weightOf wx_X5_weightOf rfl rfl (Nat.le_of_ble_eq_true rfl) (Nat.le_of_ble_eq_true rfl) (Nat.le_of_ble_eq_true rfl) (Nat.le_of_ble_eq_true rfl) (Nat.le_of_ble_eq_true rfl) dX5_rings_17 (fun v_17 h_17 e_17 => ?_)
        obtain ⟨rfl, hh⟩ := e_17
        have hh := hh.symm
        subst hh
        rw [(keepN_mW hk1 i).1]
        refine r_iast hR ⟨by first | assumption | exact Nat.zero_lt_one, rfl⟩ (fun _ => rfl) i rfl (by omega) (by decide) dX5_rings_20 (fun h hR => ?_)
        refine j_aload_n dX5_rings_21 rfl ?_
        refine gX5_80 rfl (hR.1 _ ⟨by first | assumption | exact Nat.zero_lt_one, rfl⟩) rfl dX5_rings_22 ?_
        refine j_iload_n dX5_rings_25 rfl ?_
        refine j_aload_n dX5_rings_26 rfl ?_
        refine j_iload_n dX5_rings_27 rfl ?_
        refine j_iconst (v := 0) dX5_rings_28 (by decide) ?_
        refine j_callV (rest := [.int (nI i), .ref (ad (5, 0, 32))]) (c_X5_partOf l G hR (b := i) (q := 0) (by omega) (by omega)) (hR.1 _ ⟨by first | assumption | exact Nat.zero_lt_one, rfl⟩) rfl cw_X5_partOf wl_X5_120 wm_X5_partOf wx_X5_partOf rfl rfl (Nat.le_of_ble_eq_true rfl) (Nat.le_of_ble_eq_true rfl) (Nat.le_of_ble_eq_true rfl) (Nat.le_of_ble_eq_true rfl) (Nat.le_of_ble_eq_true rfl) dX5_rings_29 (fun v_29 h_29 e_29 => ?_)
        obtain ⟨rfl, hh⟩ := e_29
        have hh := hh.symm
        subst hh
        rw [(keepN_mW (hk1.up (n := (5, 0, 31)) (by decide) i _) i).2 0]
        refine r_iast hR ⟨by first | assumption | exact Nat.zero_lt_one, rfl⟩ (fun _ => rfl) i rfl (by omega) (by decide) dX5_rings_32 (fun h hR => ?_)
        refine j_iinc dX5_rings_33 rfl (nI_inc _) (Nat.le_of_ble_eq_true rfl) rfl ?_
        refine j_goto 2 dX5_rings_36 (by decide) ?_
        exact ih1 (i + 1) (by omega) (by omega) _ _ hR ((hk1.up (by decide) _ _).up (by decide) _ _) (fun b hb => by
          rcases Nat.lt_or_ge b i with h9 | h9
          · rw [upZ_ne (by decide), upZ_nk (Or.inr (by omega)), upZ_nk (Or.inr (by omega)), upZ_ne (by decide)]; exact hwp b h9
          · rw [show b = i by omega, upZ_ne (by decide), upZ_at, upZ_at]; exact ⟨rfl, rfl⟩)
  refine Con.of 6 rfl (Nat.le_of_ble_eq_true rfl) ?_
  refine j_iconst (v := 0) dX5_rings_0 (by decide) ?_
  refine j_istore_n dX5_rings_1 (Nat.le_of_ble_eq_true rfl) rfl ?_
  exact k1 (mb + 1) 0 (by omega) (by omega) _ _ hR keepN.rf (fun b hb => absurd hb (by omega))

set_option maxRecDepth 100000 in
set_option maxHeartbeats 4000000 in
theorem c_X5_ringWeight (l : Launch) (G : GG) {ad : NM → Nat} {np nb : Nat} {Z : ZT} {L : LT} {h : AH} (hR : Rm ad np nb Z L h) {mb : Nat} (hmb : Z (5, 0, 0) 7 = nI mb) (hm : mb ≤ 24) {n : Nat} (hnn : Z (5, 0, 0) 23 = nI n) (hn8 : n ≤ 8) (hw : ∀ b, b < mb → mW Z b = nI (cl (mW Z b)) ∧ cl (mW Z b) ≤ 44600)  : Con l G mX5_ringWeight 4 0 0 [.ref (ad (5, 0, 0))] h (fun r h2 => ∃ x Y, r = some (.int x) ∧ Rm ad np nb Y L h2 ∧ rgM Z mb n x Y) := by
  refine Con.of 0 rfl (Nat.le_of_ble_eq_true rfl) ?_
  refine j_aload_n dX5_ringWeight_0 rfl ?_
  refine j_callV (rest := []) (c_X5_rings l G hR hmb hm hnn hn8 hw) (hR.1 _ ⟨by first | assumption | exact Nat.zero_lt_one, rfl⟩) rfl cw_X5_rings wl_X5_157 wm_X5_rings wx_X5_rings rfl rfl (Nat.le_of_ble_eq_true rfl) (Nat.le_of_ble_eq_true rfl) (Nat.le_of_ble_eq_true rfl) (Nat.le_of_ble_eq_true rfl) (Nat.le_of_ble_eq_true rfl) dX5_ringWeight_1 (fun v_1 h_1 e_1 => ?_)
  obtain ⟨x, Y, rfl, hR, hx⟩ := e_1
  refine j_iret rfl (Nat.le_of_ble_eq_true rfl) (Nat.le_of_ble_eq_true rfl) dX5_ringWeight_4 ?_
  exact ⟨x, Y, rfl, hR, hx⟩

set_option maxRecDepth 100000 in
set_option maxHeartbeats 4000000 in
theorem c_X5_ringBell (l : Launch) (G : GG) {ad : NM → Nat} {np nb : Nat} {Z : ZT} {L : LT} {h : AH} (hR : Rm ad np nb Z L h) {mb : Nat} (hmb : Z (5, 0, 0) 7 = nI mb) (hm : mb ≤ 24) {n : Nat} (hnn : Z (5, 0, 0) 23 = nI n) (hn8 : n ≤ 8) (hw : ∀ b, b < mb → mW Z b = nI (cl (mW Z b)) ∧ cl (mW Z b) ≤ 44600) {v : Int32} : Con l G mX5_ringBell 4 0 0 [.ref (ad (5, 0, 0)), .int v] h (fun r h2 => ∃ x Y, r = some (.int x) ∧ Rm ad np nb Y L h2 ∧ ((iw v 0 (nI n - 1) = false ∧ x = -1 ∧ Y = Z) ∨ (iw v 0 (nI n - 1) = true ∧ ∃ y, rgM Z mb n y Y ∧ x = if y < 0 then -1 else Y (5, 0, 30) (cl v)))) := by
  refine Con.of 0 rfl (Nat.le_of_ble_eq_true rfl) ?_
  refine j_iload_n dX5_ringBell_0 rfl ?_
  refine j_iconst (v := 0) dX5_ringBell_1 (by decide) ?_
  refine j_aload_n dX5_ringBell_2 rfl ?_
  refine gX5_140 rfl (hR.1 _ ⟨by first | assumption | exact Nat.zero_lt_one, rfl⟩) rfl dX5_ringBell_3 ?_
  rw [hnn]
  refine j_iconst (v := 1) dX5_ringBell_6 (by decide) ?_
  refine j_isub dX5_ringBell_7 ?_
  refine j_callS (rest := []) (c_X5_in l G) cw_X5_in wl_X5_90 ws_X5_in rfl rfl (Nat.le_of_ble_eq_true rfl) (Nat.le_of_ble_eq_true rfl) (Nat.le_of_ble_eq_true rfl) (Nat.le_of_ble_eq_true rfl) (Nat.le_of_ble_eq_true rfl) dX5_ringBell_8 (fun v_8 h_8 e_8 => ?_)
  obtain ⟨rfl, hh⟩ := e_8
  have hh := hh.symm
  subst hh
  refine j_if_eq 30 dX5_ringBell_11 (by decide) (fun c_11 => ?_) (fun c_11 => ?_)
  · have g_11 := (bi_eq0 _).mp c_11
    refine j_iconst (v := (-1)) dX5_ringBell_30 (by decide) ?_
    refine j_iret rfl (Nat.le_of_ble_eq_true rfl) (Nat.le_of_ble_eq_true rfl) dX5_ringBell_31 ?_
    exact ⟨_, Z, rfl, hR, Or.inl ⟨g_11, rfl, rfl⟩⟩
  · have g_11 := (bi_ne0 _).mp c_11
    obtain ⟨i, hi, rfl, hcl⟩ := iw_lt (by omega) g_11
    have hcl : cl (nI i) = i := hcl
    refine j_aload_n dX5_ringBell_14 rfl ?_
    refine j_callV (rest := []) (c_X5_rings l G hR hmb hm hnn hn8 hw) (hR.1 _ ⟨by first | assumption | exact Nat.zero_lt_one, rfl⟩) rfl cw_X5_rings wl_X5_157 wm_X5_rings wx_X5_rings rfl rfl (Nat.le_of_ble_eq_true rfl) (Nat.le_of_ble_eq_true rfl) (Nat.le_of_ble_eq_true rfl) (Nat.le_of_ble_eq_true rfl) (Nat.le_of_ble_eq_true rfl) dX5_ringBell_15 (fun v_15 h_15 e_15 => ?_)
    obtain ⟨x, Y, rfl, hR, hx⟩ := e_15
    refine j_if_lt 30 dX5_ringBell_18 (by decide) (fun c_18 => ?_) (fun c_18 => ?_)
    · refine j_iconst (v := (-1)) dX5_ringBell_30 (by decide) ?_
      refine j_iret rfl (Nat.le_of_ble_eq_true rfl) (Nat.le_of_ble_eq_true rfl) dX5_ringBell_31 ?_
      exact ⟨_, Y, rfl, hR, Or.inr ⟨g_11, x, hx, by rw [if_pos c_18]⟩⟩
    · refine j_aload_n dX5_ringBell_21 rfl ?_
      refine gX5_74 rfl (hR.1 _ ⟨by first | assumption | exact Nat.zero_lt_one, rfl⟩) rfl dX5_ringBell_22 ?_
      refine j_iload_n dX5_ringBell_25 rfl ?_
      refine j_iald (hR.1 _ ⟨by first | assumption | exact Nat.zero_lt_one, rfl⟩) i rfl (by omega) (by decide) dX5_ringBell_26 ?_
      refine j_goto 31 dX5_ringBell_27 (by decide) ?_
      refine j_iret rfl (Nat.le_of_ble_eq_true rfl) (Nat.le_of_ble_eq_true rfl) dX5_ringBell_31 ?_
      exact ⟨_, Y, rfl, hR, Or.inr ⟨g_11, x, hx, by rw [if_neg c_18, hcl]⟩⟩

