/-! ===== each call keeps the invariant, and both answer alike ===== -/
section SIM
variable {np nb nn sp : Nat} {L : LT} {A B : ZT}
theorem SS.eqp (h : SS np nb nn sp L A B) : B (5, 0, 0) 0 = nI np := by rw [← e_np h.2.2]; exact h.1.1.2.1
theorem SS.eqb (h : SS np nb nn sp L A B) : B (5, 0, 0) 7 = nI nb := by rw [← e_nb h.2.2]; exact h.1.1.2.2.1
theorem SS.eqn (h : SS np nb nn sp L A B) : B (5, 0, 0) 23 = nI nn := by rw [← e_nn h.2.2]; exact h.1.1.2.2.2.1
theorem iw_cl {v : Int32} {n : Nat} (hn : n < 2147483648) (h : iw v 0 (nI n - 1) = true) : cl v < n ∧ v = nI (cl v) := by
  obtain ⟨j, h1, h2, h3⟩ := iw_lt hn h
  have h3 : cl v = j := h3
  rw [h3]
  exact ⟨h1, h2⟩
theorem iw_clw {v : Int32} {n : Nat} (hn : n < 2147483648) (h : iw v 0 (nI n) = true) : cl v ≤ n ∧ v = nI (cl v) := by
  obtain ⟨j, h1, h2, h3⟩ := iw_le hn h
  have h3 : cl v = j := h3
  rw [h3]
  exact ⟨h1, h2⟩
theorem iw_int {v a b : Int32} : iw v a b = true ↔ a.toInt ≤ v.toInt ∧ v.toInt ≤ b.toInt := by rw [iw_iff, Int32.le_iff_toInt_le, Int32.le_iff_toInt_le]
theorem XI.up0 (h : XI np nb nn sp A L) {k : Nat} (h1 : k ≠ 1) (h3 : k ≠ 3) (v : Int32) : XI np nb nn sp (upZ A (0, 0, 0) k v) L :=
  h.congr (upZ_nk (Or.inr (Ne.symm h1))) (upZ_nk (Or.inr (Ne.symm h3))) (fun b j _ _ => upZ_nk (Or.inl (by simp))) (fun m hm _ _ => upZ_ne (fun e => hm (by rw [e])))
theorem XI.upS (h : XI np nb nn sp A L) (k : Nat) (v : Int32) : XI np nb nn sp (upZ A (0, 0, 10) k v) L :=
  h.congr (upZ_nk (Or.inl (by simp))) (upZ_nk (Or.inl (by simp))) (fun b j _ _ => upZ_nk (Or.inl (by simp))) (fun m hm _ _ => upZ_ne (fun e => hm (by rw [e])))
theorem XI.upO (h : XI np nb nn sp A L) (b : Nat) (v : Int32) : XI np nb nn sp (upZ A (4, b, 0) 3 v) L :=
  h.congr (upZ_nk (Or.inl (by simp))) (upZ_nk (Or.inl (by simp))) (fun b j _ h3 => upZ_nk (Or.inr h3)) (fun m _ _ hm => upZ_ne (fun e => hm (by rw [e]) (by rw [e])))
theorem XI.upP (h : XI np nb nn sp A L) {p f k : Nat} {v : Int32} (hPR : PRp (upZ A (2, p, f) k v) p) : XI np nb nn sp (upZ A (2, p, f) k v) L := by
  obtain ⟨a1, a2, a3, a4, a5, a6⟩ := h
  refine ⟨?_, fun q hq => ?_, a3.congr (fun b _ => ⟨fun _ => upZ_ne (by simp), upZ_ne (by simp), by rw [upZ_ne (by simp)], by rw [upZ_ne (by simp)]⟩), a4.congr (fun b _ => ⟨fun _ => upZ_ne (by simp), upZ_ne (by simp), by rw [upZ_ne (by simp)], by rw [upZ_ne (by simp)], upZ_ne (by simp)⟩) (upZ_ne (by simp)) (upZ_ne (by simp)), a5.congr (fun _ _ => upZ_ne (by simp)), a6.congr (fun b _ => ⟨fun _ => upZ_ne (by simp), upZ_ne (by simp), by rw [upZ_ne (by simp)]⟩) (upZ_ne (by simp)) (by rw [upZ_ne (by simp)]) (by rw [upZ_ne (by simp)])⟩
  · unfold XS
    rw [upZ_ne (by simp), upZ_ne (by simp), upZ_ne (by simp)]
    exact a1
  · by_cases e : q = p
    · rw [e]; exact hPR
    · have e2 : ∀ g, upZ A (2, p, f) k v (2, q, g) = A (2, q, g) := fun g => upZ_ne (by simp [e])
      unfold PRp
      rw [e2, e2, e2, e2, e2, e2]
      exact a2 q hq
theorem upZ_f {f g k j : Nat} {v : Int32} (h : g = f → j ≠ k) : upZ B (5, 0, f) k v (5, 0, g) j = B (5, 0, g) j := by
  by_cases q : g = f
  · exact upZ_nk (Or.inr (h q))
  · exact upZ_nk (Or.inl (by simp [q]))
theorem MZ.upI (h : MZ np nb B) {f k : Nat} (v : Int32) (hf : (f = 3 ∨ f = 4) ∧ k < 8 * np ∨ f = 6 ∧ k < 5 * np ∨ f = 7 ∧ k < 40 * np ∨ (f = 16 ∨ f = 17) ∧ k < nb) : MZ np nb (upZ B (5, 0, f) k v) := by
  refine ⟨fun p h1 h2 => ⟨fun i hi => ⟨?_, ?_⟩, fun i hi => ?_, fun i hi => ?_⟩, fun b h1 h2 => ⟨?_, ?_⟩⟩
  · rw [upZ_f (fun q => by omega)]; exact ((h.1 p h1 h2).1 i hi).1
  · rw [upZ_f (fun q => by omega)]; exact ((h.1 p h1 h2).1 i hi).2
  · rw [upZ_f (fun q => by omega)]; exact (h.1 p h1 h2).2.1 i hi
  · rw [upZ_f (fun q => by omega)]; exact (h.1 p h1 h2).2.2 i hi
  · rw [upZ_f (fun q => by omega)]; exact (h.2 b h1 h2).1
  · rw [upZ_f (fun q => by omega)]; exact (h.2 b h1 h2).2
theorem s_buy (h : SS np nb nn sp L A B) (c t : Int32) : (xBuy c t A).1 = (mBuy c t B).1 ∧ SS np nb nn sp L (xBuy c t A).2 (mBuy c t B).2 := by
  have x5 : upZ A (0, 0, 0) 4 (A (0, 0, 0) 4 + c) (0, 0, 0) 5 = A (0, 0, 0) 5 := upZ_nk (Or.inr (by decide))
  have y5 : upZ B (5, 0, 0) 18 (B (5, 0, 0) 18 + c) (5, 0, 0) 19 = B (5, 0, 0) 19 := upZ_nk (Or.inr (by decide))
  unfold xBuy mBuy
  rw [x5, y5, e_cop h.2.2, e_tin h.2.2]
  split
  · exact ⟨rfl, (h.1.up0 (by decide) (by decide) _).up0 (by decide) (by decide) _, (h.2.1.up (by decide) _ _).up (by decide) _ _, u_tin (u_cop h.2.2 _) _⟩
  · exact ⟨rfl, h⟩
theorem s_old (h : SS np nb nn sp L A B) (v : Int32) : (xOldB nb v A).1 = (mOld v B).1 ∧ SS np nb nn sp L (xOldB nb v A).2 (mOld v B).2 := by
  have hb := h.1.1.1.2.1
  unfold xOldB mOld
  rw [h.eqb]
  split
  · rename_i q
    obtain ⟨q1, q2⟩ := iw_cl (by omega) q
    exact ⟨rfl, h.1.upO _ _, h.2.1.upI _ (by omega), u_bo h.2.2 q1 _⟩
  · exact ⟨rfl, h⟩
theorem s_base (h : SS np nb nn sp L A B) (p q v : Int32) : (xBase np p q v A).1 = (mBase p q v B).1 ∧ SS np nb nn sp L (xBase np p q v A).2 (mBase p q v B).2 := by
  have hp := h.1.1.1.1
  unfold xBase mBase
  rw [h.eqp]
  split
  · rename_i c
    dsimp only
    simp only [Bool.and_eq_true] at c
    obtain ⟨⟨c1, c2⟩, c3⟩ := c
    obtain ⟨p1, p2⟩ := iw_cl (by omega) c1
    have q1 := (iw_clw (n := 4) (by omega) c2).1
    have c3 := iw_int.mp c3
    refine ⟨rfl, h.1.upP ?_, h.2.1.upI _ (by omega), u_pb h.2.2 p1 (by omega) _⟩
    obtain ⟨g1, g2, g3, g4, g5⟩ := h.1.2.1 (cl p) p1
    unfold PRp
    rw [upZ_self, upZ_ne (by simp), upZ_ne (by simp), upZ_ne (by simp), upZ_ne (by simp), upZ_ne (by simp)]
    refine ⟨g1, fun i hi => ?_, g3, g4, g5⟩
    by_cases z : i = cl q
    · simp only [upd, if_pos z]; exact c3
    · simp only [upd, if_neg z]; exact g2 i hi
  · exact ⟨rfl, h⟩
theorem s_span (h : SS np nb nn sp L A B) (hsp : sp + 1 < 1000000) (p a b : Int32) : (xSpan p a b A).1 = (mSpan p a b B).1 ∧ ∃ s, s ≤ sp + 1 ∧ SS np nb nn s L (xSpan p a b A).2 (mSpan p a b B).2 := by
  have e : (iw p 0 4 && !decide (b < a) && !decide (a < -30000) && decide (b ≤ 30000)) = (iw p 0 4 && iw a (-30000) 30000 && iw b a 30000) := by
    rw [Bool.eq_iff_iff]
    simp only [Bool.and_eq_true, Bool.not_eq_true', decide_eq_false_iff_not, decide_eq_true_iff, iw_int, Int32.le_iff_toInt_le, Int32.lt_iff_toInt_lt]
    have e1 : (30000 : Int32).toInt = 30000 := by decide
    have e2 : (-30000 : Int32).toInt = -30000 := by decide
    rw [e1, e2]
    constructor
    · rintro ⟨⟨⟨h1, h2⟩, h3⟩, h4⟩
      exact ⟨⟨h1, by omega, by omega⟩, by omega, h4⟩
    · rintro ⟨⟨h1, h2, h3⟩, h4, h5⟩
      exact ⟨⟨⟨h1, by omega⟩, by omega⟩, h5⟩
  unfold xSpan mSpan
  rw [e]
  split
  · rename_i c
    dsimp only
    simp only [Bool.and_eq_true] at c
    have q1 := (iw_clw (n := 4) (by omega) c.1.1).1
    refine ⟨rfl, sp + 1, Nat.le_refl _, ?_, (h.2.1.up (by decide) _ _).up (by decide) _ _, (u_to (u_fr h.2.2 (by omega) _) (by omega) _).upX (by decide) _⟩
    obtain ⟨⟨⟨a1, a2, a3, a4⟩, a5, a6, a7, a8⟩, b2, b3, b4, b5, b6⟩ := h.1
    have em : ∀ m : NM, m.1 ≠ 3 → upZ (upZ (upZ A (3, 0, 1) (cl p) a) (3, 0, 2) (cl p) b) (3, 0, 0) 2 (A (3, 0, 0) 2 + 1) m = A m := fun m hm => by
      rw [upZ_ne (fun e => hm (by rw [e])), upZ_ne (fun e => hm (by rw [e])), upZ_ne (fun e => hm (by rw [e]))]
    refine ⟨⟨⟨a1, a2, a3, hsp⟩, by rw [em _ (by simp)]; exact a5, by rw [em _ (by simp)]; exact a6, by rw [em _ (by simp)]; exact a7, by rw [upZ_at, a8, nI_1]⟩, b2.congr (fun _ _ _ => em _ (by simp)), fun x hx => ?_, fun x hx hz => ?_, b5.congr (fun f hf => ?_), b6.congr (fun _ _ => ⟨fun _ => em _ (by simp), em _ (by simp), by rw [em _ (by simp)]⟩) (em _ (by simp)) (by rw [em _ (by simp)]) (by rw [em _ (by simp)])⟩
    · obtain ⟨g1, g2, g3⟩ := b3 x hx
      unfold PRb
      rw [em _ (by simp), em _ (by simp), em _ (by simp), em _ (by simp), em _ (by simp), em _ (by simp), em _ (by simp)]
      refine ⟨g1, g2, ?_⟩
      rcases g3 with g3 | ⟨j, g3, g4⟩
      · exact Or.inl g3
      · exact Or.inr ⟨j, by omega, g4⟩
    · exfalso
      rw [em _ (by simp)] at hz
      rcases (b3 x hx).2.2 with g3 | ⟨j, g3, g4⟩
      · rw [g3] at hz
        exact enc_ne (x := sp + 1) (by omega) hz.symm
      · rw [g4] at hz
        have := (nI_eq (a := j) (b := sp + 1) (by omega) (by omega)).mp hz
        omega
    · rw [upZ_ne (by simp; omega), upZ_ne (by simp; omega), upZ_ne (by simp; omega)]
  · exact ⟨rfl, sp, by omega, h⟩
theorem XI.known (h : XI np nb nn sp A L) {A2 : ZT} {n2 : Nat} (hn : n2 ≤ 8) (h1 : A2 (1, 0, 0) 1 = nI n2) (h3 : A2 (1, 0, 0) 3 = 0) (hm : ∀ m : NM, m.1 ≠ 1 → A2 m = A m) : XI np nb n2 sp A2 L := by
  obtain ⟨⟨⟨a1, a2, a3, a4⟩, a5, a6, a7, a8⟩, b2, b3, b4, b5, b6⟩ := h
  exact ⟨⟨⟨a1, a2, hn, a4⟩, by rw [hm _ (by simp)]; exact a5, by rw [hm _ (by simp)]; exact a6, h1, by rw [hm _ (by simp)]; exact a8⟩, b2.congr (fun _ _ _ => hm _ (by simp)), b3.congr (fun _ _ => ⟨fun _ => hm _ (by simp), hm _ (by simp), by rw [hm _ (by simp)], by rw [hm _ (by simp)]⟩), b4.congr (fun _ _ => ⟨fun _ => hm _ (by simp), hm _ (by simp), by rw [hm _ (by simp)], by rw [hm _ (by simp)], hm _ (by simp)⟩) (hm _ (by simp)) (hm _ (by simp)), b5.congr (fun _ _ => hm _ (by simp)), XK.no h3⟩
theorem s_ring (h : SS np nb nn sp L A B) (a : Int32) : (xRing a A).1 = (mRing a B).1 ∧ ∃ n2, SS np nb n2 sp L (xRing a A).2 (mRing a B).2 := by
  unfold xRing mRing
  split
  · dsimp only
    refine ⟨rfl, 0, h.1.known (by omega) ?_ (upZ_at _ _ _ _) (fun m hm => ?_), (h.2.1.up (by decide) _ _).up (by decide) _ _, ?_⟩
    · rw [upZ_nk (Or.inr (by decide)), upZ_nk (Or.inr (by decide)), upZ_at]; rfl
    · rw [upZ_ne (fun e => hm (by rw [e])), upZ_ne (fun e => hm (by rw [e])), upZ_ne (fun e => hm (by rw [e]))]
    · rw [upZ_comm B _ _ _ _ _ _ (Or.inr (by decide))]
      exact (u_awr (u_nn h.2.2 _) _).upX (by decide) _
  · exact ⟨rfl, nn, h⟩
theorem s_note (h : SS np nb nn sp L A B) (s : Int32) : (xNote nn s A).1 = (mNote s B).1 ∧ ∃ n2, SS np nb n2 sp L (xNote nn s A).2 (mNote s B).2 := by
  have h8 := h.1.1.1.2.2.1
  have hcl : cl (nI nn) = nn := cl_nI (by omega)
  have y : upZ B (5, 0, 25) nn s (5, 0, 0) 23 = nI nn := by rw [upZ_ne (by decide)]; exact h.eqn
  have e : (!decide (8 ≤ A (1, 0, 0) 1) && iw s (-5000) 5000) = (iw s (-5000) 5000 && !decide (nI nn = 8)) := by
    rw [h.1.1.2.2.2.1, Bool.and_comm]
    congr 2
    rw [Bool.eq_iff_iff, decide_eq_true_iff, decide_eq_true_iff]
    have e1 := nI_leI (a := 8) (b := nn) (by omega) (by omega)
    have e2 := nI_eq (a := nn) (b := 8) (by omega) (by omega)
    exact ⟨fun q => e2.mpr (by have := e1.mp q; omega), fun q => e1.mpr (by have := e2.mp q; omega)⟩
  unfold xNote mNote
  rw [e, h.eqn, hcl, y]
  split
  · rename_i c
    dsimp only
    have hlt : nn < 8 := by
      simp only [Bool.and_eq_true, Bool.not_eq_true', decide_eq_false_iff_not] at c
      rcases Nat.lt_or_ge nn 8 with q | q
      · exact q
      · exact absurd (by rw [show nn = 8 by omega]; rfl) c.2
    refine ⟨(nI_1 nn).symm, nn + 1, h.1.known (by omega) ?_ (upZ_at _ _ _ _) (fun m hm => ?_), (h.2.1.up (by decide) _ _).up (by decide) _ _, ?_⟩
    · unfold xAdd
      rw [upZ_nk (Or.inr (by decide)), upZ_at]
    · unfold xAdd
      rw [upZ_ne (fun e => hm (by rw [e])), upZ_ne (fun e => hm (by rw [e])), upZ_ne (fun e => hm (by rw [e]))]
    · unfold xAdd
      rw [← nI_1 nn]
      exact (u_nn (u_stp h.2.2 hlt _) _).upX (by decide) _
  · exact ⟨rfl, nn, h⟩
end SIM
