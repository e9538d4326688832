/-! ===== a profile more, a bell more ===== -/
theorem itF {d : NM} {base n : Nat} {v : Int32} {Z : ZT} : (∀ m, m ≠ d → itZ (fun i Y => upZ Y d (base + i) v) Z n m = Z m) ∧ ∀ k, itZ (fun i Y => upZ Y d (base + i) v) Z n d k = if base ≤ k ∧ k < base + n then v else Z d k := by
  induction n with
  | zero => exact ⟨fun _ _ => rfl, fun k => by rw [if_neg (by omega)]; rfl⟩
  | succ n ih =>
    refine ⟨fun m hm => by rw [itZ, upZ_ne hm]; exact ih.1 m hm, fun k => ?_⟩
    rw [itZ]
    by_cases q : k = base + n
    · rw [q, upZ_at, if_pos (by omega)]
    · rw [upZ_nk (Or.inr q), ih.2 k]
      by_cases z : base ≤ k ∧ k < base + n
      · rw [if_pos z, if_pos (by omega)]
      · rw [if_neg z, if_neg (by omega)]
theorem itC {d s : NM} {b1 b2 n : Nat} {Z : ZT} (hds : s ≠ d) : (∀ m, m ≠ d → itZ (fun i Y => cpZ Y d (b1 + i) s (b2 + i)) Z n m = Z m) ∧ ∀ k, itZ (fun i Y => cpZ Y d (b1 + i) s (b2 + i)) Z n d k = if b1 ≤ k ∧ k < b1 + n then Z s (b2 + (k - b1)) else Z d k := by
  induction n with
  | zero => exact ⟨fun _ _ => rfl, fun k => by rw [if_neg (by omega)]; rfl⟩
  | succ n ih =>
    refine ⟨fun m hm => by rw [itZ, cpZ, upZ_ne hm]; exact ih.1 m hm, fun k => ?_⟩
    rw [itZ, cpZ, ih.1 s hds]
    by_cases q : k = b1 + n
    · rw [q, upZ_at, if_pos (by omega), show b1 + n - b1 = n by omega]
    · rw [upZ_nk (Or.inr q), ih.2 k]
      by_cases z : b1 ≤ k ∧ k < b1 + n
      · rw [if_pos z, if_pos (by omega)]
      · rw [if_neg z, if_neg (by omega)]
section SIM
variable {np nb nn sp : Nat} {L : LT} {A B : ZT}
theorem s_profN (h : SS np nb nn sp L A B) {w : Int32} (hn : A (0, 0, 0) 1 = 4 ∨ iw w 0 5000 = false) : mProfile np w B = (-1, B) := by
  unfold mProfile
  rw [if_neg]
  intro q
  rw [Bool.and_eq_true] at q
  rcases hn with hn | hn
  · rw [e_np h.2.2] at hn
    rw [hn] at q
    exact absurd q.2 (by decide)
  · rw [hn] at q
    cases q.1
theorem s_prof (h : SS np nb nn sp L A B) {w : Int32} (hn : np < 4) (hw : iw w 0 5000 = true) : (mProfile np w B).1 = nI np ∧ SS (np + 1) nb nn sp L (xProf np w A) (mProfile np w B).2 := by
  have hc : (iw w 0 5000 && !decide (B (5, 0, 0) 0 = 4)) = true := by
    rw [hw, h.eqp, decide_eq_false (fun q => by have := (nI_eq (a := np) (b := 4) (by omega) (by omega)).mp q; omega)]
    rfl
  unfold mProfile
  rw [if_pos hc]
  refine ⟨rfl, ?_⟩
  dsimp only
  generalize hB2 : upZ (mProf1 np w B) (5, 0, 0) 0 (nI (np + 1)) = B2
  generalize hA2 : xProf np w A = A2
  have a1 : ∀ m : NM, m.1 ≠ 2 → m ≠ (0, 0, 0) → A2 m = A m := fun m h2 h0 => by
    rw [← hA2]
    unfold xProf zP
    rw [upZ_ne h0, if_neg (fun q => h2 q.1)]
  have a2 : ∀ p f, p ≠ np → A2 (2, p, f) = A (2, p, f) := fun p f hp => by
    rw [← hA2]
    unfold xProf zP
    rw [upZ_ne (by simp), if_neg (fun q => hp q.2)]
  have a3 : ∀ f, A2 (2, np, f) = if f = 0 then (fun _ => w) else if f = 4 then (fun _ => 1) else fun _ => 0 := fun f => by
    rw [← hA2]
    unfold xProf zP
    rw [upZ_ne (by simp), if_pos ⟨rfl, rfl⟩]
  have a4 : ∀ k, k ≠ 1 → A2 (0, 0, 0) k = A (0, 0, 0) k := fun k hk => by
    rw [← hA2]
    unfold xProf zP
    rw [upZ_nk (Or.inr hk), if_neg (by simp)]
  have a5 : A2 (0, 0, 0) 1 = nI (np + 1) := by
    rw [← hA2]
    unfold xProf
    rw [upZ_at]
  have b1 : ∀ f, f ≠ 0 → f ≠ 2 → f ≠ 5 → B2 (5, 0, f) = B (5, 0, f) := fun f h0 h2 h5 => by
    rw [← hB2, upZ_ne (by simp [h0])]
    unfold mProf1
    rw [itF.1 _ (by simp [h5]), upZ_ne (by simp [h2])]
  have b2 : ∀ k, k ≠ 0 → B2 (5, 0, 0) k = B (5, 0, 0) k := fun k hk => by
    rw [← hB2, upZ_nk (Or.inr hk)]
    unfold mProf1
    rw [itF.1 _ (by simp), upZ_ne (by simp)]
  have b3 : B2 (5, 0, 0) 0 = nI (np + 1) := by rw [← hB2, upZ_at]
  have b4 : ∀ k, k ≠ np → B2 (5, 0, 2) k = B (5, 0, 2) k := fun k hk => by
    rw [← hB2, upZ_ne (by simp)]
    unfold mProf1
    rw [itF.1 _ (by simp), upZ_nk (Or.inr hk)]
  have b5 : B2 (5, 0, 2) np = w := by
    rw [← hB2, upZ_ne (by simp)]
    unfold mProf1
    rw [itF.1 _ (by simp), upZ_at]
  have b6 : ∀ k, B2 (5, 0, 5) k = if 8 * np ≤ k ∧ k < 8 * np + 8 then 1 else B (5, 0, 5) k := fun k => by
    rw [← hB2, upZ_ne (by simp)]
    unfold mProf1
    rw [itF.2 k, upZ_ne (by simp)]
  have hz := h.2.1.1 np (Nat.le_refl _) hn
  refine ⟨?_, ?_, ?_⟩
  · obtain ⟨⟨⟨c1, c2, c3, c4⟩, c5, c6, c7, c8⟩, d2, d3, d4, d5, d6⟩ := h.1
    refine ⟨⟨⟨by omega, c2, c3, c4⟩, a5, by rw [a4 3 (by omega)]; exact c6, by rw [a1 _ (by simp) (by simp)]; exact c7, by rw [a1 _ (by simp) (by simp)]; exact c8⟩, fun p hp => ?_, d3.congr (fun b _ => ⟨fun _ => a1 _ (by simp) (by simp), a1 _ (by simp) (by simp), by rw [a1 _ (by simp) (by simp)], by rw [a1 _ (by simp) (by simp)]⟩), d4.congr (fun b _ => ⟨fun _ => a1 _ (by simp) (by simp), a1 _ (by simp) (by simp), by rw [a1 _ (by simp) (by simp)], by rw [a1 _ (by simp) (by simp)], a1 _ (by simp) (by simp)⟩) (a1 _ (by simp) (by simp)) (a1 _ (by simp) (by simp)), d5.congr (fun _ _ => a1 _ (by simp) (by simp)), d6.congr (fun b _ => ⟨fun _ => a1 _ (by simp) (by simp), a1 _ (by simp) (by simp), by rw [a1 _ (by simp) (by simp)]⟩) (a1 _ (by simp) (by simp)) (by rw [a1 _ (by simp) (by simp)]) (by rw [a1 _ (by simp) (by simp)])⟩
    by_cases q : p = np
    · rw [q]
      unfold PRp
      rw [a3, a3, a3, a3, a3, a3, if_pos rfl, if_neg (by decide), if_neg (by decide), if_neg (by decide), if_neg (by decide), if_neg (by decide), if_pos rfl, if_neg (by decide), if_neg (by decide), if_neg (by decide), if_neg (by decide)]
      obtain ⟨x1, x2⟩ := iw_clw (n := 5000) (by omega) hw
      exact ⟨⟨_, x2, x1⟩, fun _ _ => (by decide : -20000 ≤ (0 : Int32).toInt ∧ (0 : Int32).toInt ≤ 20000), fun _ _ => (by decide : -50 ≤ (0 : Int32).toInt ∧ (0 : Int32).toInt ≤ 50), fun _ _ => ⟨1, rfl, by omega, by omega⟩, fun _ _ => ⟨0, 0, rfl, rfl, by omega, by omega⟩⟩
    · unfold PRp
      rw [a2 p 0 q, a2 p 2 q, a2 p 3 q, a2 p 4 q, a2 p 5 q, a2 p 6 q]
      exact d2 p (by omega)
  · refine ⟨fun p h1 h2 => ?_, fun b h1 h2 => ?_⟩
    · rw [b1 3 (by omega) (by omega) (by omega), b1 4 (by omega) (by omega) (by omega), b1 6 (by omega) (by omega) (by omega), b1 7 (by omega) (by omega) (by omega)]
      exact h.2.1.1 p (by omega) h2
    · rw [b1 16 (by omega) (by omega) (by omega), b1 17 (by omega) (by omega) (by omega)]
      exact h.2.1.2 b h1 h2
  · exact EqV.mk (by rw [a5, b3]) (by rw [a4 3 (by omega), b2 7 (by omega)]; exact e_nb h.2.2) (by rw [a4 4 (by omega), b2 18 (by omega)]; exact e_cop h.2.2) (by rw [a4 5 (by omega), b2 19 (by omega)]; exact e_tin h.2.2) (by rw [a4 6 (by omega), b2 20 (by omega)]; exact e_heap h.2.2) (by rw [a4 10 (by omega), b2 27 (by omega)]; exact e_bear h.2.2) (fun i hi => by rw [a1 _ (by simp) (by simp), b1 27 (by omega) (by omega) (by omega)]; exact e_shr h.2.2 hi) (by rw [a1 _ (by simp) (by simp), b2 23 (by omega)]; exact e_nn h.2.2) (by rw [a1 _ (by simp) (by simp), b2 25 (by omega)]; exact e_awr h.2.2) (fun i hi => by rw [a1 _ (by simp) (by simp), b1 25 (by omega) (by omega) (by omega)]; exact e_stp h.2.2 hi) (fun i hi => by rw [a1 _ (by simp) (by simp), b1 22 (by omega) (by omega) (by omega)]; exact e_fr h.2.2 hi) (fun i hi => by rw [a1 _ (by simp) (by simp), b1 23 (by omega) (by omega) (by omega)]; exact e_to h.2.2 hi) (fun b hb => by
    by_cases q : b = np
    · rw [q, a3, if_pos rfl, b5]
    · rw [a2 _ _ q, b4 _ q]
      exact e_pw h.2.2 (b := b) (by omega)) (fun b hb i hi => by
    by_cases q : b = np
    · rw [q, a3, if_neg (by decide), if_neg (by decide), b1 6 (by omega) (by omega) (by omega), hz.2.1 i hi]
    · rw [a2 _ _ q, b1 6 (by omega) (by omega) (by omega)]
      exact e_pb h.2.2 (b := b) (by omega) hi) (fun b hb i hi => by
    by_cases q : b = np
    · rw [q, a3, if_neg (by decide), if_neg (by decide), b1 7 (by omega) (by omega) (by omega), hz.2.2 i hi]
    · rw [a2 _ _ q, b1 7 (by omega) (by omega) (by omega)]
      exact e_pt h.2.2 (b := b) (by omega) hi) (fun b hb i hi => by
    by_cases q : b = np
    · rw [q, a3, if_neg (by decide), if_pos rfl, b6, if_pos (by omega)]
    · rw [a2 _ _ q, b6, if_neg (by omega)]
      exact e_pm h.2.2 (b := b) (by omega) hi) (fun b hb i hi => by
    by_cases q : b = np
    · rw [q, a3, if_neg (by decide), if_neg (by decide), b1 4 (by omega) (by omega) (by omega), (hz.1 i hi).2]
    · rw [a2 _ _ q, b1 4 (by omega) (by omega) (by omega)]
      exact e_pl h.2.2 (b := b) (by omega) hi) (fun b hb i hi => by
    by_cases q : b = np
    · rw [q, a3, if_neg (by decide), if_neg (by decide), b1 3 (by omega) (by omega) (by omega), (hz.1 i hi).1]
    · rw [a2 _ _ q, b1 3 (by omega) (by omega) (by omega)]
      exact e_ph h.2.2 (b := b) (by omega) hi) (fun b hb => by rw [a1 _ (by simp) (by simp), b1 9 (by omega) (by omega) (by omega)]; exact e_bp h.2.2 hb) (fun b hb => by rw [a1 _ (by simp) (by simp), b1 16 (by omega) (by omega) (by omega)]; exact e_bo h.2.2 hb) (fun b hb => by rw [a1 _ (by simp) (by simp), b1 17 (by omega) (by omega) (by omega)]; exact e_bc h.2.2 hb) (fun b hb => by rw [a1 _ (by simp) (by simp), b1 18 (by omega) (by omega) (by omega)]; exact e_bw h.2.2 hb) (fun b hb i hi => by rw [a1 _ (by simp) (by simp), b1 11 (by omega) (by omega) (by omega)]; exact e_bh h.2.2 hb hi) (fun b hb => by rw [a1 _ (by simp) (by simp), b1 10 (by omega) (by omega) (by omega)]; exact e_mw h.2.2 hb) (fun b hb i hi => by rw [a1 _ (by simp) (by simp), b1 14 (by omega) (by omega) (by omega)]; exact e_mb h.2.2 hb hi) (fun b hb i hi => by rw [a1 _ (by simp) (by simp), b1 15 (by omega) (by omega) (by omega)]; exact e_mt h.2.2 hb hi) (fun b hb i hi => by rw [a1 _ (by simp) (by simp), b1 13 (by omega) (by omega) (by omega)]; exact e_mm h.2.2 hb hi) (fun b hb i hi => by rw [a1 _ (by simp) (by simp), b1 12 (by omega) (by omega) (by omega)]; exact e_ml h.2.2 hb hi)
theorem cw_eq (h : EqV np nb A B) {p : Nat} (hp : p < np) : xCW A p = mCastW B p := by
  unfold xCW mCastW
  exact wsum_congr (e_pw h hp) (fun i hi => e_pm h hp hi) (fun i hi => e_ph h hp hi)
theorem old_eq (h : EqV np nb A B) {p : Nat} (hp : p < np) : xOld A (xCW A p) = mOldM B p := by
  unfold xOld mOldM
  rw [cw_eq h hp, e_heap h]
  by_cases q : B (5, 0, 0) 20 ≤ mCastW B p
  · rw [if_pos q, if_neg (Int32.not_lt.mpr q)]
  · rw [if_neg q, if_pos (Int32.not_le.mp q)]
theorem rest_eq (h : EqV np nb A B) {p : Nat} (hp : p < np) : xRest A (xCW A p) = mNew B p := by
  unfold xRest mNew
  rw [old_eq h hp, cw_eq h hp]
theorem cop_eq (h : EqV np nb A B) {p : Nat} (hp : p < np) : xCop A (xCW A p) = mCop B p := by
  unfold xCop mCop
  rw [rest_eq h hp]
theorem cast_ok (h : SS np nb nn sp L A B) (v : Int32) : xCastOk np v A = (iw v 0 (B (5, 0, 0) 0 - 1) && !decide (B (5, 0, 0) 7 = 24) && !decide (B (5, 0, 0) 18 < mCop B (cl v)) && decide (mNew B (cl v) - mCop B (cl v) ≤ B (5, 0, 0) 19)) := by
  have hp := h.1.1.1.1
  have hb := h.1.1.1.2.1
  unfold xCastOk xChB
  rw [h.eqp, h.eqb, h.1.1.2.2.1]
  by_cases c : iw v 0 (nI np - 1) = true
  · obtain ⟨v1, _⟩ := iw_cl (by omega) c
    rw [cop_eq h.2.2 v1, rest_eq h.2.2 v1, e_cop h.2.2, e_tin h.2.2, Bool.and_assoc, Bool.and_assoc, Bool.and_assoc]
    congr 3
    rw [Bool.eq_iff_iff, decide_eq_true_iff, decide_eq_true_iff]
    have e1 := nI_leI (a := 24) (b := nb) (by omega) (by omega)
    have e2 := nI_eq (a := nb) (b := 24) (by omega) (by omega)
    exact ⟨fun q => e2.mpr (by have := e1.mp q; omega), fun q => e1.mpr (by have := e2.mp q; omega)⟩
  · have c : iw v 0 (nI np - 1) = false := by cases q : iw v 0 (nI np - 1) with
      | false => rfl
      | true => exact absurd q c
    rw [c, Bool.false_and, Bool.false_and, Bool.false_and, Bool.false_and, Bool.false_and]
theorem s_castN (h : SS np nb nn sp L A B) {v : Int32} (hn : xCastOk np v A = false) : mCast nb v B = (-1, B) := by
  unfold mCast
  rw [← cast_ok h, hn]
  rfl
theorem cs1_it {p mb n : Nat} {Z : ZT} : (∀ f, f ≠ 11 → f ≠ 12 → f ≠ 13 → itZ (cs1 p mb) Z n (5, 0, f) = Z (5, 0, f)) ∧ (∀ k, itZ (cs1 p mb) Z n (5, 0, 11) k = if 8 * mb ≤ k ∧ k < 8 * mb + n then Z (5, 0, 3) (8 * p + (k - 8 * mb)) else Z (5, 0, 11) k) ∧ (∀ k, itZ (cs1 p mb) Z n (5, 0, 12) k = if 8 * mb ≤ k ∧ k < 8 * mb + n then Z (5, 0, 4) (8 * p + (k - 8 * mb)) else Z (5, 0, 12) k) ∧ ∀ k, itZ (cs1 p mb) Z n (5, 0, 13) k = if 8 * mb ≤ k ∧ k < 8 * mb + n then Z (5, 0, 5) (8 * p + (k - 8 * mb)) else Z (5, 0, 13) k := by
  induction n with
  | zero => exact ⟨fun _ _ _ _ => rfl, fun k => by rw [if_neg (by omega)]; rfl, fun k => by rw [if_neg (by omega)]; rfl, fun k => by rw [if_neg (by omega)]; rfl⟩
  | succ n ih =>
    obtain ⟨i1, i2, i3, i4⟩ := ih
    have key : ∀ (k : Nat) (x y z : Int32), (k = 8 * mb + n → x = z) → (k ≠ 8 * mb + n → x = if 8 * mb ≤ k ∧ k < 8 * mb + n then z else y) → x = if 8 * mb ≤ k ∧ k < 8 * mb + (n + 1) then z else y := fun k x y z h1 h2 => by
      by_cases q : k = 8 * mb + n
      · rw [if_pos (by omega)]; exact h1 q
      · rw [h2 q]
        by_cases z : 8 * mb ≤ k ∧ k < 8 * mb + n
        · rw [if_pos z, if_pos (by omega)]
        · rw [if_neg z, if_neg (by omega)]
    refine ⟨fun f h1 h2 h3 => ?_, fun k => key k _ _ _ (fun q => ?_) (fun q => ?_), fun k => key k _ _ _ (fun q => ?_) (fun q => ?_), fun k => key k _ _ _ (fun q => ?_) (fun q => ?_)⟩
    · rw [itZ, cs1, cpZ, upZ_ne (by simp [h3]), cpZ, upZ_ne (by simp [h2]), cpZ, upZ_ne (by simp [h1])]
      exact i1 f h1 h2 h3
    · rw [itZ, cs1, cpZ, upZ_ne (by simp), cpZ, upZ_ne (by simp), cpZ, q, upZ_at, i1 3 (by omega) (by omega) (by omega), show 8 * mb + n - 8 * mb = n by omega]
    · rw [itZ, cs1, cpZ, upZ_ne (by simp), cpZ, upZ_ne (by simp), cpZ, upZ_nk (Or.inr q), i2 k]
    · rw [itZ, cs1, cpZ, upZ_ne (by simp), cpZ, q, upZ_at, cpZ, upZ_ne (by simp), i1 4 (by omega) (by omega) (by omega), show 8 * mb + n - 8 * mb = n by omega]
    · rw [itZ, cs1, cpZ, upZ_ne (by simp), cpZ, upZ_nk (Or.inr q), cpZ, upZ_ne (by simp), i3 k]
    · rw [itZ, cs1, cpZ, q, upZ_at, cpZ, upZ_ne (by simp), cpZ, upZ_ne (by simp), i1 5 (by omega) (by omega) (by omega), show 8 * mb + n - 8 * mb = n by omega]
    · rw [itZ, cs1, cpZ, upZ_nk (Or.inr q), cpZ, upZ_ne (by simp), cpZ, upZ_ne (by simp), i4 k]
/-- the reference behind a casting -/
theorem mC9_at {p mb : Nat} {Z : ZT} : (∀ f, f ≠ 0 → f ≠ 9 → f ≠ 10 → f ≠ 11 → f ≠ 12 → f ≠ 13 → f ≠ 14 → f ≠ 15 → f ≠ 18 → mC9 Z p mb (5, 0, f) = Z (5, 0, f)) ∧ mC9 Z p mb (5, 0, 0) = mC4 Z p (5, 0, 0) ∧
    (∀ k, mC9 Z p mb (5, 0, 9) k = if k = mb then nI p else Z (5, 0, 9) k) ∧ (∀ k, mC9 Z p mb (5, 0, 10) k = if k = mb then Z (5, 0, 2) p else Z (5, 0, 10) k) ∧
    (∀ k, mC9 Z p mb (5, 0, 11) k = if 8 * mb ≤ k ∧ k < 8 * mb + 8 then Z (5, 0, 3) (8 * p + (k - 8 * mb)) else Z (5, 0, 11) k) ∧ (∀ k, mC9 Z p mb (5, 0, 12) k = if 8 * mb ≤ k ∧ k < 8 * mb + 8 then Z (5, 0, 4) (8 * p + (k - 8 * mb)) else Z (5, 0, 12) k) ∧ (∀ k, mC9 Z p mb (5, 0, 13) k = if 8 * mb ≤ k ∧ k < 8 * mb + 8 then Z (5, 0, 5) (8 * p + (k - 8 * mb)) else Z (5, 0, 13) k) ∧
    (∀ k, mC9 Z p mb (5, 0, 14) k = if 5 * mb ≤ k ∧ k < 5 * mb + 5 then Z (5, 0, 6) (5 * p + (k - 5 * mb)) else Z (5, 0, 14) k) ∧ (∀ k, mC9 Z p mb (5, 0, 15) k = if 40 * mb ≤ k ∧ k < 40 * mb + 40 then Z (5, 0, 7) (40 * p + (k - 40 * mb)) else Z (5, 0, 15) k) ∧ ∀ k, mC9 Z p mb (5, 0, 18) k = if k = mb then -1 else Z (5, 0, 18) k := by
  have c4 : ∀ f, f ≠ 0 → mC4 Z p (5, 0, f) = Z (5, 0, f) := fun f hf => by
    unfold mC4 mC3 mC2 mC1
    rw [upZ_ne (by simp [hf]), upZ_ne (by simp [hf]), upZ_ne (by simp [hf]), upZ_ne (by simp [hf])]
  have c5 : ∀ f, f ≠ 9 → f ≠ 10 → mC5 Z p mb (5, 0, f) = mC4 Z p (5, 0, f) := fun f h9 h10 => by
    unfold mC5 cpZ
    rw [upZ_ne (by simp [h10]), upZ_ne (by simp [h9])]
  have c6 : ∀ f, f ≠ 11 → f ≠ 12 → f ≠ 13 → mC6 Z p mb (5, 0, f) = mC5 Z p mb (5, 0, f) := fun f h1 h2 h3 => cs1_it.1 f h1 h2 h3
  have i7 := itC (d := (5, 0, 14)) (s := (5, 0, 6)) (b1 := 5 * mb) (b2 := 5 * p) (n := 5) (Z := mC6 Z p mb) (by decide)
  have c7 : ∀ f, f ≠ 14 → mC7 Z p mb (5, 0, f) = mC6 Z p mb (5, 0, f) := fun f h => i7.1 _ (by simp [h])
  have i8 := itC (d := (5, 0, 15)) (s := (5, 0, 7)) (b1 := 40 * mb) (b2 := 40 * p) (n := 40) (Z := mC7 Z p mb) (by decide)
  have c8 : ∀ f, f ≠ 15 → mC8 Z p mb (5, 0, f) = mC7 Z p mb (5, 0, f) := fun f h => i8.1 _ (by simp [h])
  have c9 : ∀ f, f ≠ 18 → mC9 Z p mb (5, 0, f) = mC8 Z p mb (5, 0, f) := fun f h => by
    unfold mC9
    rw [upZ_ne (by simp [h])]
  refine ⟨fun f g0 g9 g10 g11 g12 g13 g14 g15 g18 => ?_, ?_, fun k => ?_, fun k => ?_, fun k => ?_, fun k => ?_, fun k => ?_, fun k => ?_, fun k => ?_, fun k => ?_⟩
  · rw [c9 f g18, c8 f g15, c7 f g14, c6 f g11 g12 g13, c5 f g9 g10, c4 f g0]
  · rw [c9 0 (by omega), c8 0 (by omega), c7 0 (by omega), c6 0 (by omega) (by omega) (by omega), c5 0 (by omega) (by omega)]
  · rw [c9 9 (by omega), c8 9 (by omega), c7 9 (by omega), c6 9 (by omega) (by omega) (by omega)]
    unfold mC5 cpZ
    rw [upZ_ne (by simp)]
    by_cases q : k = mb
    · rw [q, upZ_at, if_pos rfl]
    · rw [upZ_nk (Or.inr q), if_neg q, c4 9 (by omega)]
  · rw [c9 10 (by omega), c8 10 (by omega), c7 10 (by omega), c6 10 (by omega) (by omega) (by omega)]
    unfold mC5 cpZ
    by_cases q : k = mb
    · rw [q, upZ_at, if_pos rfl, upZ_ne (by simp), c4 2 (by omega)]
    · rw [upZ_nk (Or.inr q), if_neg q, upZ_ne (by simp), c4 10 (by omega)]
  · rw [c9 11 (by omega), c8 11 (by omega), c7 11 (by omega)]
    unfold mC6
    rw [cs1_it.2.1 k, c5 3 (by omega) (by omega), c4 3 (by omega), c5 11 (by omega) (by omega), c4 11 (by omega)]
  · rw [c9 12 (by omega), c8 12 (by omega), c7 12 (by omega)]
    unfold mC6
    rw [cs1_it.2.2.1 k, c5 4 (by omega) (by omega), c4 4 (by omega), c5 12 (by omega) (by omega), c4 12 (by omega)]
  · rw [c9 13 (by omega), c8 13 (by omega), c7 13 (by omega)]
    unfold mC6
    rw [cs1_it.2.2.2 k, c5 5 (by omega) (by omega), c4 5 (by omega), c5 13 (by omega) (by omega), c4 13 (by omega)]
  · rw [c9 14 (by omega), c8 14 (by omega)]
    show itZ (cs2 p mb) (mC6 Z p mb) 5 (5, 0, 14) k = _
    rw [show itZ (cs2 p mb) (mC6 Z p mb) 5 (5, 0, 14) k = _ from i7.2 k, c6 6 (by omega) (by omega) (by omega), c5 6 (by omega) (by omega), c4 6 (by omega), c6 14 (by omega) (by omega) (by omega), c5 14 (by omega) (by omega), c4 14 (by omega)]
  · rw [c9 15 (by omega)]
    show itZ (cs3 p mb) (mC7 Z p mb) 40 (5, 0, 15) k = _
    rw [show itZ (cs3 p mb) (mC7 Z p mb) 40 (5, 0, 15) k = _ from i8.2 k, c7 7 (by omega), c6 7 (by omega) (by omega) (by omega), c5 7 (by omega) (by omega), c4 7 (by omega), c7 15 (by omega), c6 15 (by omega) (by omega) (by omega), c5 15 (by omega) (by omega), c4 15 (by omega)]
  · unfold mC9
    by_cases q : k = mb
    · rw [q, upZ_at, if_pos rfl]
    · rw [upZ_nk (Or.inr q), if_neg q, c8 18 (by omega), c7 18 (by omega), c6 18 (by omega) (by omega) (by omega), c5 18 (by omega) (by omega), c4 18 (by omega)]
theorem s_cast (h : SS np nb nn sp L A B) {v : Int32} (hn : xCastOk np v A = true) (v1 : cl v < np) (hb4 : nb < 24) : (mCast nb v B).1 = nI nb ∧ SS np (nb + 1) nn sp L (xCastZ nb (cl v) A) (mCast nb v B).2 := by
  unfold mCast
  rw [← cast_ok h, hn, if_pos rfl]
  refine ⟨rfl, ?_⟩
  dsimp only
  have hE := h.2.2
  have ec := cop_eq hE v1
  have er := rest_eq hE v1
  have eo := old_eq hE v1
  obtain ⟨b1, b0, b9, b10, b11, b12, b13, b14, b15, b18⟩ := mC9_at (p := cl v) (mb := nb) (Z := B)
  generalize mC9 B (cl v) nb = B2 at *
  generalize hA2 : xCastZ nb (cl v) A = A2
  have a1 : ∀ m : NM, m.1 ≠ 0 → m.1 ≠ 1 → (m.1 = 4 ∨ m.1 = 6 → m.2.1 ≠ nb) → A2 m = A m := fun m h0 h1 h4 => by
    rw [← hA2]
    unfold xCastZ zB
    rw [upZ_ne (fun e => h1 (by rw [e])), upZ_ne (fun e => h0 (by rw [e])), if_neg (fun q => h4 (Or.inl q.1) q.2), if_neg (fun q => h4 (Or.inr q.1) q.2), xCh3_ne (fun e => h0 (by rw [e]))]
  have a10 : A2 (0, 0, 10) = A (0, 0, 10) := by
    rw [← hA2]
    unfold xCastZ zB
    rw [upZ_ne (by simp), upZ_ne (by simp), if_neg (by simp), if_neg (by simp), xCh3_ne (by simp)]
  have a0 : ∀ k, k ≠ 3 → A2 (0, 0, 0) k = xCh3 A (xCW A (cl v)) (0, 0, 0) k := fun k hk => by
    rw [← hA2]
    unfold xCastZ zB
    rw [upZ_ne (by simp), upZ_nk (Or.inr hk), if_neg (by simp), if_neg (by simp)]
  have a03 : A2 (0, 0, 0) 3 = nI (nb + 1) := by
    rw [← hA2]
    unfold xCastZ
    rw [upZ_ne (by simp), upZ_at]
  have a11 : ∀ f, f ≠ 0 → A2 (1, 0, f) = A (1, 0, f) := fun f hf => by
    rw [← hA2]
    unfold xCastZ zB
    rw [upZ_ne (by simp [hf]), upZ_ne (by simp), if_neg (by simp), if_neg (by simp), xCh3_ne (by simp)]
  have a12 : ∀ k, k ≠ 3 → A2 (1, 0, 0) k = A (1, 0, 0) k := fun k hk => by
    rw [← hA2]
    unfold xCastZ zB
    rw [upZ_nk (Or.inr hk), upZ_ne (by simp), if_neg (by simp), if_neg (by simp), xCh3_ne (by simp)]
  have a13 : A2 (1, 0, 0) 3 = 0 := by
    rw [← hA2]
    unfold xCastZ
    rw [upZ_at]
  have a4 : ∀ f, A2 (4, nb, f) = if f = 0 then (fun k => if k = 0 then nI (cl v) else if k = 3 ∨ k = 4 then 0 else -1) else if f = 3 then A (2, cl v, 6) else fun _ => 0 := fun f => by
    rw [← hA2]
    unfold xCastZ zB
    rw [upZ_ne (by simp), upZ_ne (by simp), if_pos ⟨rfl, rfl⟩, xCh3_ne (by simp)]
  have a6 : ∀ f, A2 (6, nb, f) = A (2, cl v, f) := fun f => by
    rw [← hA2]
    unfold xCastZ zB
    rw [upZ_ne (by simp), upZ_ne (by simp), if_neg (by simp), if_pos ⟨rfl, rfl⟩, xCh3_ne (by simp)]
  have e2 : ∀ p f, A2 (2, p, f) = A (2, p, f) := fun p f => a1 _ (by simp) (by simp) (by simp)
  have e4 : ∀ x f, x ≠ nb → A2 (4, x, f) = A (4, x, f) := fun x f hx => a1 _ (by simp) (by simp) (fun _ => hx)
  have e6 : ∀ x f, x ≠ nb → A2 (6, x, f) = A (6, x, f) := fun x f hx => a1 _ (by simp) (by simp) (fun _ => hx)
  have e3 : ∀ f, A2 (3, 0, f) = A (3, 0, f) := fun f => a1 _ (by simp) (by simp) (by simp)
  have f40 : A2 (4, nb, 0) = fun k => if k = 0 then nI (cl v) else if k = 3 ∨ k = 4 then 0 else -1 := by rw [a4, if_pos rfl]
  have f43 : A2 (4, nb, 3) = A (2, cl v, 6) := by rw [a4, if_neg (by decide), if_pos rfl]
  have hz := h.2.1.2 nb (Nat.le_refl _) hb4
  refine ⟨?_, ?_, ?_⟩
  · obtain ⟨⟨⟨c1, c2, c3, c4⟩, c5, c6, c7, c8⟩, d2, d3, d4, d5, d6⟩ := h.1
    refine ⟨⟨⟨c1, by omega, c3, c4⟩, ?_, a03, by rw [a12 1 (by omega)]; exact c7, by rw [e3]; exact c8⟩, d2.congr (fun p _ f => e2 p f), fun x hx => ?_, fun x hx hz2 => ?_, d5.congr (fun f _ => e3 f), XK.no a13⟩
    · rw [a0 1 (by omega)]
      unfold xCh3 xCh2 xCh1
      rw [upZ_nk (Or.inr (by decide)), upZ_nk (Or.inr (by decide)), upZ_nk (Or.inr (by decide))]; exact c5
    · by_cases q : x = nb
      · rw [q]
        refine ⟨?_, ?_, ?_⟩
        · unfold PRb
          rw [a6, a6, a6, a6, a6, f43]
          exact d2 _ v1
        · rw [f40]; exact Or.inl rfl
        · rw [f40]; exact Or.inl rfl
      · unfold PRb
        rw [e6 x 0 q, e6 x 2 q, e6 x 3 q, e6 x 4 q, e6 x 5 q, e4 x 3 q, e4 x 0 q]
        exact d3 x (by omega)
    · by_cases q : x = nb
      · rw [q, f40] at hz2
        exact absurd (show nI sp = -1 from hz2.symm) (enc_ne (by omega))
      · rw [e4 x 0 q] at hz2
        exact planOK_congr (d4 x (by omega) hz2) (fun f => e6 x f q) (e4 x 3 q) (by rw [e4 x 0 q]) (e4 x 7 q) (e3 1) (e3 2)
  · refine ⟨fun p h1 h2 => ?_, fun b h1 h2 => ?_⟩
    · rw [b1 3 (by omega) (by omega) (by omega) (by omega) (by omega) (by omega) (by omega) (by omega) (by omega), b1 4 (by omega) (by omega) (by omega) (by omega) (by omega) (by omega) (by omega) (by omega) (by omega), b1 6 (by omega) (by omega) (by omega) (by omega) (by omega) (by omega) (by omega) (by omega) (by omega), b1 7 (by omega) (by omega) (by omega) (by omega) (by omega) (by omega) (by omega) (by omega) (by omega)]
      exact h.2.1.1 p h1 h2
    · rw [b1 16 (by omega) (by omega) (by omega) (by omega) (by omega) (by omega) (by omega) (by omega) (by omega), b1 17 (by omega) (by omega) (by omega) (by omega) (by omega) (by omega) (by omega) (by omega) (by omega)]
      exact h.2.1.2 b (by omega) h2
  · exact EqV.mk (by rw [a0 1 (by omega), b0]; unfold xCh3 xCh2 xCh1; unfold mC4 mC3 mC2 mC1; rw [upZ_nk (Or.inr (by decide)), upZ_nk (Or.inr (by decide)), upZ_nk (Or.inr (by decide)), upZ_nk (Or.inr (by decide)), upZ_nk (Or.inr (by decide)), upZ_nk (Or.inr (by decide)), upZ_nk (Or.inr (by decide))]; exact e_np hE) (by rw [a03, b0]; unfold mC4 mC3 mC2 mC1; rw [upZ_at, upZ_nk (Or.inr (by decide)), upZ_nk (Or.inr (by decide)), upZ_nk (Or.inr (by decide)), h.eqb, nI_1]) (by rw [a0 4 (by omega), b0]; unfold xCh3 xCh2 xCh1; unfold mC4 mC3 mC2 mC1; rw [upZ_nk (Or.inr (by decide)), upZ_at, upZ_nk (Or.inr (by decide)), upZ_nk (Or.inr (by decide)), upZ_nk (Or.inr (by decide)), upZ_at, upZ_nk (Or.inr (by decide)), ec, e_cop hE]) (by rw [a0 5 (by omega), b0]; unfold xCh3 xCh2 xCh1; unfold mC4 mC3 mC2 mC1; rw [upZ_at, upZ_nk (Or.inr (by decide)), upZ_nk (Or.inr (by decide)), upZ_nk (Or.inr (by decide)), upZ_at, upZ_nk (Or.inr (by decide)), upZ_nk (Or.inr (by decide)), ec, er, e_tin hE]) (by rw [a0 6 (by omega), b0]; unfold xCh3 xCh2 xCh1; unfold mC4 mC3 mC2 mC1; rw [upZ_nk (Or.inr (by decide)), upZ_nk (Or.inr (by decide)), upZ_at, upZ_nk (Or.inr (by decide)), upZ_nk (Or.inr (by decide)), upZ_nk (Or.inr (by decide)), upZ_at, eo, e_heap hE]) (by rw [a0 10 (by omega), b0]; unfold xCh3 xCh2 xCh1; unfold mC4 mC3 mC2 mC1; rw [upZ_nk (Or.inr (by decide)), upZ_nk (Or.inr (by decide)), upZ_nk (Or.inr (by decide)), upZ_nk (Or.inr (by decide)), upZ_nk (Or.inr (by decide)), upZ_nk (Or.inr (by decide)), upZ_nk (Or.inr (by decide))]; exact e_bear hE) (fun i hi => by rw [a10, b1 27 (by omega) (by omega) (by omega) (by omega) (by omega) (by omega) (by omega) (by omega) (by omega)]; exact e_shr hE hi) (by rw [a12 1 (by omega), b0]; unfold mC4 mC3 mC2 mC1; rw [upZ_nk (Or.inr (by decide)), upZ_nk (Or.inr (by decide)), upZ_nk (Or.inr (by decide)), upZ_nk (Or.inr (by decide))]; exact e_nn hE) (by rw [a12 2 (by omega), b0]; unfold mC4 mC3 mC2 mC1; rw [upZ_nk (Or.inr (by decide)), upZ_nk (Or.inr (by decide)), upZ_nk (Or.inr (by decide)), upZ_nk (Or.inr (by decide))]; exact e_awr hE) (fun i hi => by rw [a11 1 (by omega), b1 25 (by omega) (by omega) (by omega) (by omega) (by omega) (by omega) (by omega) (by omega) (by omega)]; exact e_stp hE hi) (fun i hi => by rw [e3, b1 22 (by omega) (by omega) (by omega) (by omega) (by omega) (by omega) (by omega) (by omega) (by omega)]; exact e_fr hE hi) (fun i hi => by rw [e3, b1 23 (by omega) (by omega) (by omega) (by omega) (by omega) (by omega) (by omega) (by omega) (by omega)]; exact e_to hE hi) (fun b hb => by rw [e2, b1 2 (by omega) (by omega) (by omega) (by omega) (by omega) (by omega) (by omega) (by omega) (by omega)]; exact e_pw hE hb) (fun b hb i hi => by rw [e2, b1 6 (by omega) (by omega) (by omega) (by omega) (by omega) (by omega) (by omega) (by omega) (by omega)]; exact e_pb hE hb hi) (fun b hb i hi => by rw [e2, b1 7 (by omega) (by omega) (by omega) (by omega) (by omega) (by omega) (by omega) (by omega) (by omega)]; exact e_pt hE hb hi) (fun b hb i hi => by rw [e2, b1 5 (by omega) (by omega) (by omega) (by omega) (by omega) (by omega) (by omega) (by omega) (by omega)]; exact e_pm hE hb hi) (fun b hb i hi => by rw [e2, b1 4 (by omega) (by omega) (by omega) (by omega) (by omega) (by omega) (by omega) (by omega) (by omega)]; exact e_pl hE hb hi) (fun b hb i hi => by rw [e2, b1 3 (by omega) (by omega) (by omega) (by omega) (by omega) (by omega) (by omega) (by omega) (by omega)]; exact e_ph hE hb hi) (fun b hb => by
    by_cases q : b = nb
    · rw [q, f40, b9, if_pos rfl]; rfl
    · rw [e4 _ _ q, b9, if_neg q]
      exact e_bp hE (b := b) (by omega)) (fun b hb => by
    by_cases q : b = nb
    · rw [q, f40, b1 16 (by omega) (by omega) (by omega) (by omega) (by omega) (by omega) (by omega) (by omega) (by omega)]; exact hz.1.symm
    · rw [e4 _ _ q, b1 16 (by omega) (by omega) (by omega) (by omega) (by omega) (by omega) (by omega) (by omega) (by omega)]
      exact e_bo hE (b := b) (by omega)) (fun b hb => by
    by_cases q : b = nb
    · rw [q, f40, b1 17 (by omega) (by omega) (by omega) (by omega) (by omega) (by omega) (by omega) (by omega) (by omega)]; exact hz.2.symm
    · rw [e4 _ _ q, b1 17 (by omega) (by omega) (by omega) (by omega) (by omega) (by omega) (by omega) (by omega) (by omega)]
      exact e_bc hE (b := b) (by omega)) (fun b hb => by
    by_cases q : b = nb
    · rw [q, f40, b18, if_pos rfl]; rfl
    · rw [e4 _ _ q, b18, if_neg q]
      exact e_bw hE (b := b) (by omega)) (fun b hb i hi => by
    by_cases q : b = nb
    · rw [q, f43, b11, if_pos (by omega), show 8 * nb + i - 8 * nb = i by omega]; exact e_ph hE v1 hi
    · rw [e4 _ _ q, b11, if_neg (by omega)]
      exact e_bh hE (b := b) (by omega) hi) (fun b hb => by
    by_cases q : b = nb
    · rw [q, a6, b10, if_pos rfl]; exact e_pw hE v1
    · rw [e6 _ _ q, b10, if_neg q]
      exact e_mw hE (b := b) (by omega)) (fun b hb i hi => by
    by_cases q : b = nb
    · rw [q, a6, b14, if_pos (by omega), show 5 * nb + i - 5 * nb = i by omega]; exact e_pb hE v1 hi
    · rw [e6 _ _ q, b14, if_neg (by omega)]
      exact e_mb hE (b := b) (by omega) hi) (fun b hb i hi => by
    by_cases q : b = nb
    · rw [q, a6, b15, if_pos (by omega), show 40 * nb + i - 40 * nb = i by omega]; exact e_pt hE v1 hi
    · rw [e6 _ _ q, b15, if_neg (by omega)]
      exact e_mt hE (b := b) (by omega) hi) (fun b hb i hi => by
    by_cases q : b = nb
    · rw [q, a6, b13, if_pos (by omega), show 8 * nb + i - 8 * nb = i by omega]; exact e_pm hE v1 hi
    · rw [e6 _ _ q, b13, if_neg (by omega)]
      exact e_mm hE (b := b) (by omega) hi) (fun b hb i hi => by
    by_cases q : b = nb
    · rw [q, a6, b12, if_pos (by omega), show 8 * nb + i - 8 * nb = i by omega]; exact e_pl hE v1 hi
    · rw [e6 _ _ q, b12, if_neg (by omega)]
      exact e_ml hE (b := b) (by omega) hi)
end SIM
