/-! ===== pulls, weights, cuts ===== -/
section SIM
variable {np nb nn sp : Nat} {L : LT} {A B : ZT}
theorem wX_eq (h : EqV np nb A B) {b : Nat} (hb : b < nb) : wNow A b = mW B b := by
  unfold wNow mW
  exact wsum_congr (e_mw h hb) (fun i hi => e_mm h hb hi) (fun i hi => e_bh h hb hi)
theorem pX_eq (h : EqV np nb A B) {b q : Nat} (hb : b < nb) (hq : q < 5) : pNow A b q = mP B b q := by
  unfold pNow mP
  exact wsum_congr (e_mb h hb hq) (fun i hi => by rw [e_mt h hb (i := q * 8 + i) (by omega), show 40 * b + (q * 8 + i) = 40 * b + 8 * q + i by omega]) (fun i hi => e_bh h hb hi)
theorem iw_nI {j n : Nat} (h : j ≤ n) (hn : n < 2147483648) : iw (nI j) 0 (nI n) = true := iw_iff.mpr ⟨nI_pos' (by omega), nI_le h hn⟩
theorem iw_nI4 {j : Nat} (h : j < 5) : iw (nI j) 0 4 = true := iw_nI (n := 4) (by omega) (by omega)
theorem pull_eq (h : EqV np nb A B) {b : Nat} (hb : b < nb) {w : Int32} (hw : wayOk w) : xPull A b w (xShare A w) = mPull B b w := by
  rcases hw with rfl | ⟨j, hj, rfl⟩
  · unfold xPull mPull
    rw [if_pos rfl, if_neg (by decide)]
  · unfold xPull mPull xShare
    rw [if_neg (enc_ne (by omega)), if_pos (iw_nI4 hj), if_pos (nI_pos' (by omega)), cl_nI (by omega), wX_eq h hb, e_shr h hj]
theorem pulls_eq (h : SS np nb nn sp L A B) (s : Int32) : ∀ n, n ≤ nb → xPulls A (-1) s n = mPulls B n := by
  intro n
  induction n with
  | zero => intro _; rfl
  | succ n ih =>
    intro hn
    rw [xPulls, mPulls, ih (by omega), ← e_bw h.2.2 (show n < nb by omega), ← pull_eq h.2.2 (show n < nb by omega) (h.1.2.2.1 n (by omega)).2.1]
    by_cases q : A (4, n, 0) 5 = -1
    · rw [if_pos q, q]
      unfold xPull
      rw [if_pos rfl, if_pos rfl]
    · rw [if_neg q]
theorem pulls_tow (h : SS np nb nn sp L A B) {j : Nat} (hj : j < 5) (s : Int32) : ∀ n, n ≤ nb → xPulls A (nI j) s n = mPulls (upZ B (5, 0, 27) j s) n := by
  intro n
  induction n with
  | zero => intro _; rfl
  | succ n ih =>
    intro hn
    have hnb : n < nb := by omega
    have hw := (h.1.2.2.1 n hnb).2.1
    have h2 := u_shr h.2.2 hj s
    rw [xPulls, mPulls, ih (by omega), upZ_ne (m := (5, 0, 18)) (n := (5, 0, 27)) (by decide), ← e_bw h.2.2 hnb, ← pull_eq h2 hnb hw]
    congr 1
    have e1 : ∀ x y, xPull (upZ A (0, 0, 10) j s) n x y = xPull A n x y := fun x y => by
      unfold xPull wNow
      rw [upZ_ne (by simp), upZ_ne (by simp), upZ_ne (by simp)]
    rw [e1]
    rcases hw with e | ⟨i, hi, e⟩
    · rw [e]
      unfold xPull
      rw [if_pos rfl, if_pos rfl]
    · rw [e]
      unfold xShare
      rw [if_pos (iw_nI4 hi), if_pos (iw_nI4 hi), cl_nI (by omega)]
      by_cases q : i = j
      · rw [q, if_pos rfl, upZ_at]
      · rw [if_neg (fun z => q ((nI_eq (by omega) (by omega)).mp z)), upZ_nk (Or.inr q)]
theorem mPulls_hang (j : Nat) (w : Int32) : ∀ n, mPulls (upZ B (5, 0, 18) j w) n = if j < n then mPulls B n - mPull B j (B (5, 0, 18) j) + mPull B j w else mPulls B n := by
  have e1 : ∀ b x, mPull (upZ B (5, 0, 18) j w) b x = mPull B b x := fun b x => by
    unfold mPull mW
    rw [upZ_ne (by decide), upZ_ne (by decide), upZ_ne (by decide), upZ_ne (by decide)]
  intro n
  induction n with
  | zero => rfl
  | succ n ih =>
    rw [mPulls, ih, e1]
    rcases Nat.lt_trichotomy j n with q | q | q
    · rw [if_pos q, if_pos (by omega), upZ_nk (Or.inr (by omega)), mPulls, Int32.sub_eq_add_neg, Int32.sub_eq_add_neg]
      ac_rfl
    · subst q
      rw [if_neg (Nat.lt_irrefl j), if_pos (by omega), upZ_at, mPulls, Int32.add_sub_cancel]
    · rw [if_neg (by omega), if_neg (by omega), upZ_nk (Or.inr (by omega)), mPulls]
theorem iw_way {w : Int32} : (decide (w = -1) || iw w 0 4) = iw w (-1) 4 := by
  rw [Bool.eq_iff_iff, Bool.or_eq_true, decide_eq_true_iff, iw_int, iw_int, ← Int32.toInt_inj]
  have e1 : (-1 : Int32).toInt = -1 := by decide
  have e0 : (0 : Int32).toInt = 0 := by decide
  have e4 : (4 : Int32).toInt = 4 := by decide
  rw [e1, e0, e4]
  omega
theorem XI.upW (h : XI np nb nn sp A L) {j : Nat} {w : Int32} (hw : wayOk w) : XI np nb nn sp (upZ A (4, j, 0) 5 w) L := by
  obtain ⟨a1, a2, a3, a4, a5, a6⟩ := h
  refine ⟨?_, a2.congr (fun _ _ _ => upZ_ne (by simp)), fun b hb => ?_, a4.congr (fun b _ => ⟨fun _ => upZ_ne (by simp), upZ_ne (by simp), upZ_nk (Or.inr (by decide)), upZ_nk (Or.inr (by decide)), upZ_ne (by simp)⟩) (upZ_ne (by simp)) (upZ_ne (by simp)), a5.congr (fun _ _ => upZ_ne (by simp)), a6.congr (fun b _ => ⟨fun _ => upZ_ne (by simp), upZ_ne (by simp), upZ_nk (Or.inr (by decide))⟩) (upZ_ne (by simp)) (by rw [upZ_ne (by simp)]) (by rw [upZ_ne (by simp)])⟩
  · unfold XS
    rw [upZ_ne (by simp), upZ_ne (by simp), upZ_ne (by simp)]
    exact a1
  · obtain ⟨g1, g2, g3⟩ := a3 b hb
    unfold PRb
    rw [upZ_ne (by simp), upZ_ne (by simp), upZ_ne (by simp), upZ_ne (by simp), upZ_ne (by simp), upZ_ne (by simp), upZ_nk (m := (4, b, 0)) (j := 8) (Or.inr (by decide))]
    refine ⟨g1, ?_, g3⟩
    by_cases q : b = j
    · rw [q, upZ_at]; exact hw
    · rw [upZ_nk (Or.inl (by simp [q]))]; exact g2
theorem s_hang (h : SS np nb nn sp L A B) (v w : Int32) : (xHang nb v w A).1 = (mHang nb v w B).1 ∧ SS np nb nn sp L (xHang nb v w A).2 (mHang nb v w B).2 := by
  have hb := h.1.1.1.2.1
  unfold xHang mHang
  rw [h.eqb, iw_way]
  by_cases c : (iw v 0 (nI nb - 1) && decide (B (5, 0, 17) (cl v) = 0) && iw w (-1) 4) = true
  · have c0 := c
    simp only [Bool.and_eq_true] at c0
    obtain ⟨⟨c1, c2⟩, c3⟩ := c0
    obtain ⟨v1, v2⟩ := iw_cl (by omega) c1
    have hwo := wayOk_of c3
    have e : xHangS A nb (cl v) w = mPulls (upZ B (5, 0, 18) (cl v) w) nb := by
      unfold xHangS
      rw [mPulls_hang, if_pos v1, pulls_eq h 0 nb (Nat.le_refl _), pull_eq h.2.2 v1 (h.1.2.2.1 _ v1).2.1, pull_eq h.2.2 v1 hwo, e_bw h.2.2 v1]
    rw [if_pos c, e_bc h.2.2 v1, c, Bool.true_and, e, e_bear h.2.2, upZ_ne (m := (5, 0, 0)) (n := (5, 0, 18)) (by decide)]
    by_cases q : mPulls (upZ B (5, 0, 18) (cl v) w) nb ≤ B (5, 0, 0) 27
    · rw [if_pos q, if_pos (decide_eq_true q)]
      exact ⟨rfl, h.1.upW hwo, h.2.1.up (by decide) _ _, u_bw h.2.2 v1 _⟩
    · rw [if_neg q, if_neg (by rw [decide_eq_false q]; decide), upZ_upZ, upZ_eta _ _ _ rfl]
      exact ⟨rfl, h⟩
  · rw [if_neg c, if_neg (fun z => c ?_)]
    · exact ⟨rfl, h⟩
    · simp only [Bool.and_eq_true] at z ⊢
      obtain ⟨⟨⟨c1, c2⟩, c3⟩, _⟩ := z
      obtain ⟨v1, v2⟩ := iw_cl (by omega) c1
      rw [e_bc h.2.2 v1] at c2
      exact ⟨⟨c1, c2⟩, c3⟩
theorem s_tower (h : SS np nb nn sp L A B) (w s b : Int32) : (xTower nb w s b A).1 = (mTower nb w s b B).1 ∧ SS np nb nn sp L (xTower nb w s b A).2 (mTower nb w s b B).2 := by
  unfold xTower mTower
  rw [iw_way]
  by_cases hw : iw w (-1) 4 = true
  · rcases wayOk_of hw with rfl | ⟨j, hj, rfl⟩
    · have e0 : ∀ X : ZT, ∀ y, mTow1 (-1) y X = X := fun X y => by unfold mTow1; rw [if_neg (by decide)]
      rw [e0, e0, pulls_eq h s nb (Nat.le_refl _), if_pos rfl, show decide ((-1 : Int32) = -1) = true from rfl, show decide ((-1 : Int32) < 0) = true from rfl, hw, Bool.true_or, Bool.and_true, Bool.and_true, Bool.true_and, Bool.true_and]
      by_cases c : iw b 0 1000000 = true
      · rw [c, Bool.true_and, if_pos rfl]
        by_cases q : mPulls B nb ≤ b
        · rw [if_pos q, if_pos (decide_eq_true q)]
          exact ⟨rfl, h.1.up0 (by decide) (by decide) _, h.2.1.up (by decide) _ _, u_bear h.2.2 _⟩
        · rw [if_neg q, if_neg (by rw [decide_eq_false q]; decide)]
          exact ⟨rfl, h⟩
      · rw [if_neg c, if_neg (by simp [c])]
        exact ⟨rfl, h⟩
    · have e0 : ∀ X : ZT, ∀ y, mTow1 (nI j) y X = upZ X (5, 0, 27) j y := fun X y => by unfold mTow1; rw [if_pos (nI_pos' (by omega)), cl_nI (by omega)]
      have n1 : ¬ nI j = -1 := enc_ne (by omega)
      rw [e0, e0, pulls_tow h hj s nb (Nat.le_refl _), if_neg n1, cl_nI (by omega), upZ_upZ, upZ_eta B _ _ rfl, decide_eq_false n1, decide_eq_false (nI_pos (n := j) (by omega)), hw, Bool.false_or, Bool.and_true, Bool.true_and]
      by_cases c : (iw s 0 300 && iw b 0 1000000) = true
      · have c2 : (iw b 0 1000000 && iw s 0 300) = true := by rw [Bool.and_comm]; exact c
        rw [c, c2, Bool.true_and, if_pos rfl]
        by_cases q : mPulls (upZ B (5, 0, 27) j s) nb ≤ b
        · rw [if_pos q, if_pos (decide_eq_true q)]
          exact ⟨rfl, (h.1.upS _ _).up0 (by decide) (by decide) _, (h.2.1.up (by decide) _ _).up (by decide) _ _, u_bear (u_shr h.2.2 hj _) _⟩
        · rw [if_neg q, if_neg (by rw [decide_eq_false q]; decide)]
          exact ⟨rfl, h⟩
      · rw [if_neg c, if_neg (fun z => c ?_)]
        · exact ⟨rfl, h⟩
        · simp only [Bool.and_eq_true] at z ⊢
          exact ⟨z.1.2, z.1.1⟩
  · have hw : iw w (-1) 4 = false := by cases q : iw w (-1) 4 with
      | false => rfl
      | true => exact absurd q hw
    rw [hw, Bool.and_false, Bool.false_and, Bool.false_and, Bool.false_and, Bool.false_and, if_neg (by decide), if_neg (by decide)]
    exact ⟨rfl, h⟩
theorem metal_eq (h : SS np nb nn sp L A B) : ∀ n, n ≤ nb → xMetal A n = mMetal B n := by
  intro n
  induction n with
  | zero => intro _; rfl
  | succ n ih =>
    intro hn
    rw [xMetal, mMetal, ih (by omega), e_bc h.2.2 (show n < nb by omega), wX_eq h.2.2 (show n < nb by omega)]
    by_cases q : B (5, 0, 17) n = 0
    · rw [if_pos q, if_pos q]
    · rw [if_neg q, if_neg q, Int32.add_zero]
theorem iw1014 {w : Int32} (h : iw w 10 14 = true) : cl w - 10 < 5 ∧ ∀ k : Nat, k < 10 → w ≠ nI k := by
  obtain ⟨j, h1, h2, h3, h4⟩ := iw_ab (v := w) 10 14 (by omega) h (by omega)
  refine ⟨by omega, fun k hk e => ?_⟩
  rw [h3] at e
  have := (nI_eq (a := j) (b := k) (by omega) (by omega)).mp e
  omega
theorem s_about (h : SS np nb nn sp L A B) (w : Int32) : xAbout nb w A = mAbout nb w B := by
  unfold xAbout mAbout
  rw [e_np h.2.2, e_nb h.2.2, e_cop h.2.2, e_tin h.2.2, e_heap h.2.2, metal_eq h nb (Nat.le_refl _), e_nn h.2.2, e_awr h.2.2, pulls_eq h 0 nb (Nat.le_refl _), e_bear h.2.2]
  by_cases q : iw w 10 14 = true
  · obtain ⟨h1, h2⟩ := iw1014 q
    rw [if_pos q, if_pos q, e_shr h.2.2 h1, if_neg (show ¬ w = 0 from h2 0 (by omega)), if_neg (show ¬ w = 1 from h2 1 (by omega)), if_neg (show ¬ w = 2 from h2 2 (by omega)), if_neg (show ¬ w = 3 from h2 3 (by omega)), if_neg (show ¬ w = 4 from h2 4 (by omega)), if_neg (show ¬ w = 5 from h2 5 (by omega)), if_neg (show ¬ w = 6 from h2 6 (by omega)), if_neg (show ¬ w = 7 from h2 7 (by omega)), if_neg (show ¬ w = 8 from h2 8 (by omega)), if_neg (show ¬ w = 9 from h2 9 (by omega))]
  · rw [if_neg q, if_neg q]
theorem s_bellOf (h : SS np nb nn sp L A B) (v w : Int32) : xBellOf nb v w A = mBellOf v w B := by
  have hb := h.1.1.1.2.1
  unfold xBellOf mBellOf
  rw [h.eqb]
  by_cases c : iw v 0 (nI nb - 1) = true
  · obtain ⟨v1, v2⟩ := iw_cl (by omega) c
    rw [if_pos c, if_pos c, wX_eq h.2.2 v1, e_bo h.2.2 v1, e_bc h.2.2 v1, pull_eq h.2.2 v1 (h.1.2.2.1 _ v1).2.1, e_bw h.2.2 v1, e_bp h.2.2 v1]
    by_cases q : iw w 0 4 = true
    · rw [if_pos q, if_pos q, pX_eq h.2.2 v1 (by have := (iw_clw (n := 4) (by omega) q).1; omega)]
    · rw [if_neg q, if_neg q]
      by_cases q2 : iw w 10 17 = true
      · obtain ⟨j, g1, g2, g3, g4⟩ := iw_ab (v := w) 10 17 (by omega) q2 (by omega)
        rw [if_pos q2, if_pos q2, e_bh h.2.2 v1 (by omega)]
      · rw [if_neg q2, if_neg q2]
  · rw [if_neg c, if_neg c]
end SIM
