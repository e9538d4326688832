/-! ===== shapes, cuts, tunings, rings ===== -/
section SIM
variable {np nb nn sp : Nat} {L : LT} {A B : ZT}
theorem s_shape (h : SS np nb nn sp L A B) (p w k v : Int32) : (xShape np p w k v A).1 = (mShape p w k v B).1 ∧ SS np nb nn sp L (xShape np p w k v A).2 (mShape p w k v B).2 := by
  have hp := h.1.1.1.1
  unfold xShape mShape
  rw [h.eqp]
  by_cases c : (iw p 0 (nI np - 1) && iw k 0 7 && iw w 0 7) = true
  · have c0 := c
    simp only [Bool.and_eq_true] at c0
    obtain ⟨⟨c1, c2⟩, c3⟩ := c0
    obtain ⟨p1, p2⟩ := iw_cl (by omega) c1
    have k1 := (iw_clw (n := 7) (by omega) c2).1
    have w1 := (iw_clw (n := 7) (by omega) c3).1
    have eg : xGood A (cl p) (cl w) (cl k) v = mGood v (cl w) (8 * cl p + cl k) B := by
      unfold xGood mGood
      rw [e_ph h.2.2 p1 (by omega), e_pl h.2.2 p1 (by omega)]
      by_cases q5 : cl w < 5
      · rw [if_pos q5, if_pos q5]
      · rw [if_neg q5, if_neg q5]
        by_cases q6 : cl w = 5
        · rw [if_pos q6, if_pos q6]
        · rw [if_neg q6, if_neg q6]
          by_cases q7 : cl w = 6
          · rw [if_pos q7, if_pos q7]
          · rw [if_neg q7, if_neg q7, if_pos (by omega)]
    rw [c, c1, c2, c3, eg, Bool.true_and, Bool.true_and, Bool.true_and, Bool.true_and]
    obtain ⟨g1, g2, g3, g4, g5⟩ := h.1.2.1 (cl p) p1
    split
    · rename_i z
      dsimp only
      unfold mGood at z
      by_cases q5 : cl w < 5
      · rw [if_pos q5] at z
        rw [if_pos q5, if_pos q5]
        have z := iw_int.mp z
        refine ⟨rfl, h.1.upP ?_, h.2.1.upI _ (by omega), ?_⟩
        · unfold PRp
          rw [upZ_self, upZ_ne (by simp), upZ_ne (by simp), upZ_ne (by simp), upZ_ne (by simp), upZ_ne (by simp)]
          refine ⟨g1, g2, fun i hi => ?_, g4, g5⟩
          by_cases y : i = cl w * 8 + cl k
          · simp only [upd, if_pos y]; exact z
          · simp only [upd, if_neg y]; exact g3 i hi
        · rw [show 40 * cl p + 8 * cl w + cl k = 40 * cl p + (cl w * 8 + cl k) by omega]
          exact u_pt h.2.2 p1 (by omega) _
      · rw [if_neg q5] at z
        rw [if_neg q5, if_neg q5]
        by_cases q6 : cl w = 5
        · rw [if_pos q6] at z
          rw [if_pos q6, if_pos q6]
          obtain ⟨x, y1, y2, y3, _⟩ := iw_ab (v := v) 1 50 (by omega) z (by omega)
          refine ⟨rfl, h.1.upP ?_, h.2.1.up (by decide) _ _, u_pm h.2.2 p1 (by omega) _⟩
          unfold PRp
          rw [upZ_self, upZ_ne (by simp), upZ_ne (by simp), upZ_ne (by simp), upZ_ne (by simp), upZ_ne (by simp)]
          refine ⟨g1, g2, g3, fun i hi => ?_, g5⟩
          by_cases y : i = cl k
          · simp only [upd, if_pos y]; exact ⟨x, y3, y1, y2⟩
          · simp only [upd, if_neg y]; exact g4 i hi
        · rw [if_neg q6] at z
          rw [if_neg q6, if_neg q6]
          obtain ⟨t, s, t1, t2, t3, t4⟩ := g5 (cl k) (by omega)
          by_cases q7 : cl w = 6
          · rw [if_pos q7, ← e_ph h.2.2 p1 (show cl k < 8 by omega), t1] at z
            rw [if_pos q7, if_pos q7]
            obtain ⟨y1, y2⟩ := iw_clw (by omega) z
            refine ⟨rfl, h.1.upP ?_, h.2.1.upI _ (by omega), u_pl h.2.2 p1 (by omega) _⟩
            unfold PRp
            rw [upZ_self, upZ_ne (by simp), upZ_ne (by simp), upZ_ne (by simp), upZ_ne (by simp), upZ_ne (by simp)]
            refine ⟨g1, g2, g3, g4, fun i hi => ?_⟩
            by_cases y : i = cl k
            · rw [y]
              simp only [upd, if_true]
              exact ⟨t, cl v, t1, y2, y1, t4⟩
            · simp only [upd, if_neg y]; exact g5 i hi
          · rw [if_neg q7, ← e_pl h.2.2 p1 (show cl k < 8 by omega), t2] at z
            rw [if_neg q7, if_neg q7]
            obtain ⟨x, y1, y2, y3, _⟩ := iw_ab (v := v) s 99 (by omega) z (by omega)
            refine ⟨rfl, h.1.upP ?_, h.2.1.upI _ (by omega), u_ph h.2.2 p1 (by omega) _⟩
            unfold PRp
            rw [upZ_self, upZ_ne (by simp), upZ_ne (by simp), upZ_ne (by simp), upZ_ne (by simp), upZ_ne (by simp)]
            refine ⟨g1, g2, g3, g4, fun i hi => ?_⟩
            by_cases y : i = cl k
            · rw [y]
              simp only [upd, if_true]
              exact ⟨x, s, y3, t2, y1, y2⟩
            · simp only [upd, if_neg y]; exact g5 i hi
    · exact ⟨rfl, h⟩
  · rw [if_neg (fun z => c ?_), if_neg (fun z => c ?_)]
    · exact ⟨rfl, h⟩
    · simp only [Bool.and_eq_true] at z ⊢
      exact ⟨⟨z.1.1.1, z.1.2⟩, z.1.1.2⟩
    · simp only [Bool.and_eq_true] at z ⊢
      exact ⟨⟨z.1.1.1, z.1.1.2⟩, z.1.2⟩
/-- what a cut leaves as it was -/
theorem xTrim_ne {b i : Nat} {c : Int32} {m : NM} (h0 : m.1 ≠ 0) (h1 : m.1 ≠ 1) (h3 : m ≠ (4, b, 3)) (h4 : m ≠ (4, b, 0)) : xTrim A b i c m = A m := by
  unfold xTrim
  rw [upZ_ne (fun e => h1 (by rw [e])), upZ_ne (fun e => h0 (by rw [e])), upZ_ne h4, upZ_ne h3]
theorem XI.trim (h : XI np nb nn sp A L) {b i : Nat} (hb : b < nb) (hi : i < 8) {c : Int32} (ht : ∃ t s : Nat, A (4, b, 3) i - c = nI t ∧ A (6, b, 5) i = nI s ∧ s ≤ t ∧ t ≤ 99) : XI np nb nn sp (xTrim A b i c) L := by
  obtain ⟨⟨a0, a1, a2, a3, a4⟩, b2, b3, b4, b5, b6⟩ := h
  have e6 : ∀ x f, xTrim A b i c (6, x, f) = A (6, x, f) := fun x f => xTrim_ne (by simp) (by simp) (by simp) (by simp)
  have e43 : ∀ x, x ≠ b → xTrim A b i c (4, x, 3) = A (4, x, 3) := fun x hx => xTrim_ne (by simp) (by simp) (by simp [hx]) (by simp)
  have e40 : ∀ x, x ≠ b → xTrim A b i c (4, x, 0) = A (4, x, 0) := fun x hx => xTrim_ne (by simp) (by simp) (by simp) (by simp [hx])
  have e8 : xTrim A b i c (4, b, 0) 8 = -1 := by
    unfold xTrim
    rw [upZ_ne (by simp), upZ_ne (by simp), upZ_at]
  refine ⟨⟨a0, ?_, ?_, ?_, ?_⟩, b2.congr (fun p _ f => xTrim_ne (by simp) (by simp) (by simp) (by simp)), fun x hx => ?_, fun x hx hz => ?_, b5.congr (fun f _ => xTrim_ne (by simp) (by simp) (by simp) (by simp)), XK.no ?_⟩
  · unfold xTrim
    rw [upZ_ne (by simp), upZ_nk (Or.inr (by decide)), upZ_ne (by simp), upZ_ne (by simp)]; exact a1
  · unfold xTrim
    rw [upZ_ne (by simp), upZ_nk (Or.inr (by decide)), upZ_ne (by simp), upZ_ne (by simp)]; exact a2
  · unfold xTrim
    rw [upZ_nk (Or.inr (by decide)), upZ_ne (by simp), upZ_ne (by simp), upZ_ne (by simp)]; exact a3
  · unfold xTrim
    rw [upZ_ne (by simp), upZ_ne (by simp), upZ_ne (by simp), upZ_ne (by simp)]; exact a4
  · obtain ⟨⟨g1, g2, g3, g4, g5⟩, w1, w2⟩ := b3 x hx
    by_cases q : x = b
    · subst q
      refine ⟨?_, ?_, Or.inl e8⟩
      · unfold PRb
        rw [e6, e6, e6, e6, e6]
        refine ⟨g1, g2, g3, g4, fun k hk => ?_⟩
        have ek : xTrim A x i c (4, x, 3) k = upZ A (4, x, 3) i (A (4, x, 3) i - c) (4, x, 3) k := by
          unfold xTrim
          rw [upZ_ne (by simp), upZ_ne (by simp), upZ_ne (by simp)]
        rw [ek]
        by_cases z : k = i
        · rw [z, upZ_at]; exact ht
        · rw [upZ_nk (Or.inr z)]; exact g5 k hk
      · unfold xTrim
        rw [upZ_ne (by simp), upZ_ne (by simp), upZ_nk (Or.inr (by decide)), upZ_ne (by simp)]; exact w1
    · unfold PRb
      rw [e6, e6, e6, e6, e6, e43 x q, e40 x q]
      exact ⟨⟨g1, g2, g3, g4, g5⟩, w1, w2⟩
  · by_cases q : x = b
    · rw [q, e8] at hz
      exact absurd hz.symm (enc_ne (by have := a0.2.2.2; omega))
    · rw [e40 x q] at hz
      exact planOK_congr (b4 x hx hz) (e6 x) (e43 x q) (by rw [e40 x q]) (xTrim_ne (by simp) (by simp) (by simp) (by simp)) (xTrim_ne (by simp) (by simp) (by simp) (by simp)) (xTrim_ne (by simp) (by simp) (by simp) (by simp))
  · unfold xTrim
    rw [upZ_at]
theorem EqV.trim (h : EqV np nb A B) {b i : Nat} (hb : b < nb) (hi : i < 8) (c : Int32) : EqV np nb (xTrim A b i c) (mT2 B b i c) := by
  unfold xTrim mT2 mT1
  rw [upZ_ne (m := (5, 0, 0)) (n := (5, 0, 11)) (by decide), upZ_ne (m := (5, 0, 13)) (n := (5, 0, 11)) (by decide), ← e_heap h, ← e_mm h hb hi, ← e_bh h hb hi]
  exact (u_heap ((u_bh h hb hi _).upX (by decide) _) _).upX (by decide) _
theorem MZ.trim (h : MZ np nb B) (b i : Nat) (c : Int32) : MZ np nb (mT2 B b i c) := (h.up (by decide) _ _).up (by decide) _ _
theorem can_eq (h : SS np nb nn sp L A B) (v : Int32) : mCan B v = (iw v 0 (nI nb - 1) && xCan A (cl v)) := by
  have hb := h.1.1.1.2.1
  unfold mCan xCan
  rw [h.eqb]
  by_cases c : iw v 0 (nI nb - 1) = true
  · obtain ⟨v1, _⟩ := iw_cl (by omega) c
    rw [e_bo h.2.2 v1, e_bc h.2.2 v1, Bool.and_assoc]
  · have c : iw v 0 (nI nb - 1) = false := by cases q : iw v 0 (nI nb - 1) with
      | false => rfl
      | true => exact absurd q c
    rw [c, Bool.false_and, Bool.false_and, Bool.false_and]
theorem mCut2_T (b k : Nat) : mCut2 B (8 * b + k) = mT2 B b k 1 := by
  unfold mCut2 mT2 mCut1 mT1
  rw [Int32.mul_one]
theorem s_cut (h : SS np nb nn sp L A B) (v k : Int32) : (xCut nb v k A).1 = (mCut v k B).1 ∧ SS np nb nn sp L (xCut nb v k A).2 (mCut v k B).2 := by
  have hb := h.1.1.1.2.1
  unfold xCut mCut
  rw [can_eq h]
  by_cases c : (iw v 0 (nI nb - 1) && xCan A (cl v) && iw k 0 7) = true
  · have c0 := c
    simp only [Bool.and_eq_true] at c0
    obtain ⟨⟨c1, c2⟩, c3⟩ := c0
    obtain ⟨v1, v2⟩ := iw_cl (by omega) c1
    have k1 := (iw_clw (n := 7) (by omega) c3).1
    obtain ⟨t, s, t1, t2, t3, t4⟩ := (h.1.2.2.1 _ v1).1.2.2.2.2 (cl k) (by omega)
    have e : decide (1 ≤ A (4, cl v, 3) (cl k) - A (6, cl v, 5) (cl k)) = !decide (B (5, 0, 11) (8 * cl v + cl k) = B (5, 0, 12) (8 * cl v + cl k)) := by
      rw [← e_bh h.2.2 v1 (show cl k < 8 by omega), ← e_ml h.2.2 v1 (show cl k < 8 by omega), t1, t2, pk_sub t3]
      rw [Bool.eq_iff_iff, Bool.not_eq_true', decide_eq_true_iff, decide_eq_false_iff_not]
      have e1 := nI_leI (a := 1) (b := t - s) (by omega) (by omega)
      have e2 := nI_eq (a := t) (b := s) (by omega) (by omega)
      rw [e2]
      exact ⟨fun q => by have := e1.mp q; omega, fun q => e1.mpr (by omega)⟩
    rw [c, c1, c2, c3, e, Bool.true_and, Bool.true_and, Bool.true_and]
    split
    · rename_i z
      dsimp only
      rw [mCut2_T]
      have hE := h.2.2.trim v1 (show cl k < 8 by omega) 1
      refine ⟨e_bh hE v1 (by omega), h.1.trim v1 (by omega) ?_, h.2.1.trim _ _ _, hE⟩
      rw [← e, decide_eq_true_iff, t1, t2, pk_sub t3] at z
      have z := (nI_leI (a := 1) (b := t - s) (by omega) (by omega)).mp z
      refine ⟨t - 1, s, ?_, t2, by omega, by omega⟩
      rw [t1, nI_sub1 (by omega)]
    · exact ⟨rfl, h⟩
  · rw [if_neg (fun z => c ?_), if_neg (fun z => c ?_)]
    · exact ⟨rfl, h⟩
    · simp only [Bool.and_eq_true] at z ⊢
      exact z.1
    · simp only [Bool.and_eq_true] at z ⊢
      exact ⟨⟨z.1.1.1, z.1.2⟩, z.1.1.2⟩
theorem s_crack (h : SS np nb nn sp L A B) (v : Int32) : (xCrack nb v A).1 = (mCrack v B).1 ∧ SS np nb nn sp L (xCrack nb v A).2 (mCrack v B).2 := by
  have hb := h.1.1.1.2.1
  unfold xCrack mCrack
  rw [h.eqb]
  by_cases c : (iw v 0 (nI nb - 1) && decide (B (5, 0, 17) (cl v) = 0)) = true
  · have c0 := c
    simp only [Bool.and_eq_true] at c0
    obtain ⟨v1, v2⟩ := iw_cl (by omega) c0.1
    rw [e_bc h.2.2 v1, if_pos c, if_pos c]
    dsimp only
    refine ⟨rfl, ?_, ?_, ?_⟩
    · obtain ⟨⟨a0, a1, a2, a3, a4⟩, b2, b3, b4, b5, b6⟩ := h.1
      have em : ∀ m : NM, m.1 ≠ 0 → m.1 ≠ 1 → m ≠ (4, cl v, 0) → xCrk2 A (cl v) m = A m := fun m h0 h1 h4 => by
        unfold xCrk2 xCrk1
        rw [upZ_ne (fun e => h1 (by rw [e])), upZ_ne (fun e => h0 (by rw [e])), upZ_ne h4, upZ_ne h4]
      have ej : ∀ x j, j ≠ 4 → j ≠ 5 → xCrk2 A (cl v) (4, x, 0) j = A (4, x, 0) j := fun x j h4 h5 => by
        unfold xCrk2 xCrk1
        rw [upZ_ne (by simp), upZ_ne (by simp), upZ_nk (Or.inr h5), upZ_nk (Or.inr h4)]
      refine ⟨⟨a0, ?_, ?_, ?_, ?_⟩, b2.congr (fun p _ f => em _ (by simp) (by simp) (by simp)), fun x hx => ?_, b4.congr (fun x _ => ⟨fun _ => em _ (by simp) (by simp) (by simp), em _ (by simp) (by simp) (by simp), ej x 7 (by omega) (by omega), ej x 8 (by omega) (by omega), em _ (by simp) (by simp) (by simp)⟩) (em _ (by simp) (by simp) (by simp)) (em _ (by simp) (by simp) (by simp)), b5.congr (fun f _ => em _ (by simp) (by simp) (by simp)), XK.no ?_⟩
      · unfold xCrk2 xCrk1
        rw [upZ_ne (by simp), upZ_nk (Or.inr (by decide)), upZ_ne (by simp), upZ_ne (by simp)]; exact a1
      · unfold xCrk2 xCrk1
        rw [upZ_ne (by simp), upZ_nk (Or.inr (by decide)), upZ_ne (by simp), upZ_ne (by simp)]; exact a2
      · unfold xCrk2 xCrk1
        rw [upZ_nk (Or.inr (by decide)), upZ_ne (by simp), upZ_ne (by simp), upZ_ne (by simp)]; exact a3
      · rw [em _ (by simp) (by simp) (by simp)]; exact a4
      · obtain ⟨g1, g2, g3⟩ := b3 x hx
        have e6 : ∀ f, xCrk2 A (cl v) (6, x, f) = A (6, x, f) := fun f => em _ (by simp) (by simp) (by simp)
        unfold PRb
        rw [e6, e6, e6, e6, e6, em (4, x, 3) (by simp) (by simp) (by simp), ej x 8 (by omega) (by omega)]
        refine ⟨g1, ?_, g3⟩
        by_cases q : x = cl v
        · rw [q]
          unfold xCrk2 xCrk1
          rw [upZ_ne (by simp), upZ_ne (by simp), upZ_at]
          exact Or.inl rfl
        · have : xCrk2 A (cl v) (4, x, 0) = A (4, x, 0) := em _ (by simp) (by simp) (by simp [q])
          rw [this]; exact g2
      · unfold xCrk2
        rw [upZ_at]
    · exact ((h.2.1.upI _ (by omega)).up (by decide) _ _).up (by decide) _ _
    · have hE := u_bw (u_bc h.2.2 v1 1) v1 (-1)
      show EqV np nb (xCrk2 A (cl v)) (mCrack2 B (cl v))
      unfold xCrk2 mCrack2
      have e1 : wNow (xCrk1 A (cl v)) (cl v) = mW (mCrack1 B (cl v)) (cl v) := wX_eq hE v1
      have e2 : xCrk1 A (cl v) (0, 0, 0) 6 = mCrack1 B (cl v) (5, 0, 0) 20 := e_heap hE
      rw [e1, e2]
      exact (u_heap hE _).upX (by decide) _
  · rw [if_neg c, if_neg (fun z => c ?_)]
    · exact ⟨rfl, h⟩
    · simp only [Bool.and_eq_true] at z ⊢
      obtain ⟨v1, v2⟩ := iw_cl (by omega) z.1
      rw [e_bc h.2.2 v1] at z
      exact z
end SIM
