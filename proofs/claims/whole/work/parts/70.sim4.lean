/-! ===== tunings and rings ===== -/
theorem tunC_eq {T T2 S S2 P P2 fr fr2 to to2 : Nat → Int32} {tb tb2 : Nat → Nat → Int32} (hT : ∀ i, i < 8 → T i = T2 i) (hS : ∀ i, i < 8 → S i = S2 i) (hP : ∀ q, q < 5 → P q = P2 q) (htb : ∀ q i, q < 5 → i < 8 → tb q i = tb2 q i) (hf : ∀ q, q < 5 → fr q = fr2 q) (ht : ∀ q, q < 5 → to q = to2 q) : tunC T S P tb fr to = tunC T2 S2 P2 tb2 fr2 to2 := by
  funext c
  have e1 : allB (fun i => decide (S i ≤ T i - nI (c i))) 8 = allB (fun i => decide (S2 i ≤ T2 i - nI (c i))) 8 := allB_congr (fun i hi => by rw [hT i hi, hS i hi])
  have e2 : allB (fun q => iw (dsum (P q) (tb q) (fun i => nI (c i)) 8) (fr q) (to q)) 5 = allB (fun q => iw (dsum (P2 q) (tb2 q) (fun i => nI (c i)) 8) (fr2 q) (to2 q)) 5 := allB_congr (fun q hq => by
    rw [dsum_congr (v' := P2 q) (f' := tb2 q) (g' := fun i => nI (c i)) (hP q hq) (fun i hi => htb q i hq hi) (fun _ _ => rfl), hf q hq, ht q hq])
  unfold tunC
  rw [e1, e2]
abbrev okP (r : RW) : Prop := ¬ (r.1 = 3 ∧ 4 ≤ r.2.1) ∧ ¬ (r.1 = 4 ∧ r.2.1 = 7) ∧ (r.1 = 4 ∧ r.2.1 = 0 → r.2.2.1 + r.2.2.2.1 ≤ 7) ∧ r.2.2.2.2.1 ≤ 27 ∧ (r.1 = 1 → r.2.1 ≤ 1) ∧ (r.1 = 1 ∧ r.2.1 = 0 → r.2.2.1 + r.2.2.2.1 ≤ 3)
theorem rws_P : ∀ r, r ∈ rws → okP r := by decide +kernel
section SIM
variable {np nb nn sp : Nat} {L : LT} {A B : ZT}
theorem tun_eq (h : EqV np nb A B) {b : Nat} (hb : b < nb) : xTun A b = mTun B b := by
  unfold xTun mTun
  refine tunC_eq (fun i hi => e_bh h hb hi) (fun i hi => e_ml h hb hi) (fun q hq => pX_eq h hb hq) (fun q i hq hi => ?_) (fun q hq => e_fr h hq) (fun q hq => e_to h hq)
  unfold xtb
  rw [e_mt h hb (i := q * 8 + i) (by omega), show 40 * b + (q * 8 + i) = 40 * b + 8 * q + i by omega]
/-- scratch rows of the reference -/
theorem SS.scr (h : SS np nb nn sp L A B) {B2 : ZT} (e : ∀ f, f ≤ 27 → B2 (5, 0, f) = B (5, 0, f)) : SS np nb nn sp L A B2 :=
  ⟨h.1, h.2.1.congr (e _ (by omega)) (e _ (by omega)) (e _ (by omega)) (e _ (by omega)) (e _ (by omega)) (e _ (by omega)), h.2.2.congr (fun _ _ _ _ _ _ => rfl) (fun r hr k => by rw [e _ (rws_P r hr).2.2.2.1])⟩
theorem SS.k29 (h : SS np nb nn sp L A B) {B2 : ZT} (e : keep1 (5, 0, 29) B B2) : SS np nb nn sp L A B2 := h.scr (fun f hf => e _ (by simp; omega))
theorem SS.plan (h : SS np nb nn sp L A B) {b : Nat} (hb : b < nb) {A2 : ZT} (hk : keepP b A A2) (h8 : T8 A2) (hs : A2 (4, b, 0) 8 = A (3, 0, 0) 2) (hp : planOK A2 b) : SS np nb nn sp L A2 B := by
  obtain ⟨⟨⟨a0, a1, a2, a3, a4⟩, b2, b3, b4, b5, b6⟩, hm, hE⟩ := h
  have em : ∀ m : NM, m.1 ≠ 3 → m.1 ≠ 4 → A2 m = A m := fun m h3 h4 => hk.1 m (fun e => h3 (by rw [e])) (fun e => h3 (by rw [e])) (fun e => h3 (by rw [e])) (fun e => h3 (by rw [e])) (fun e => h4 (by rw [e])) (fun e => h4 (by rw [e]))
  have e3 : ∀ f, f < 4 → A2 (3, 0, f) = A (3, 0, f) := fun f hf => hk.1 _ (by simp; omega) (by simp; omega) (by simp; omega) (by simp; omega) (by simp) (by simp)
  have e43 : ∀ x, A2 (4, x, 3) = A (4, x, 3) := fun x => hk.1 _ (by simp) (by simp) (by simp) (by simp) (by simp) (by simp)
  have e40 : ∀ x j, j ≠ 7 → j ≠ 8 → A2 (4, x, 0) j = A (4, x, 0) j := fun x j h7 h8 => by
    by_cases q : x = b
    · rw [q]; exact hk.2 j h7 h8
    · rw [hk.1 (4, x, 0) (by simp) (by simp) (by simp) (by simp) (by simp [q]) (by simp)]
  have e40' : ∀ x, x ≠ b → A2 (4, x, 0) = A (4, x, 0) := fun x q => hk.1 (4, x, 0) (by simp) (by simp) (by simp) (by simp) (by simp [q]) (by simp)
  refine ⟨⟨⟨a0, ?_, ?_, ?_, ?_⟩, b2.congr (fun p _ f => em _ (by simp) (by simp)), fun x hx => ?_, fun x hx hz => ?_, h8, b6.congr (fun x _ => ⟨fun f => em _ (by simp) (by simp), e43 x, e40 x 4 (by omega) (by omega)⟩) (em _ (by simp) (by simp)) (by rw [em _ (by simp) (by simp)]) (by rw [em _ (by simp) (by simp)])⟩, hm, hE.congr (fun r hr i hi k hk2 => ?_) (fun _ _ _ => rfl)⟩
  · rw [em _ (by simp) (by simp)]; exact a1
  · rw [em _ (by simp) (by simp)]; exact a2
  · rw [em _ (by simp) (by simp)]; exact a3
  · rw [e3 0 (by omega)]; exact a4
  · obtain ⟨g1, g2, g3⟩ := b3 x hx
    have e6 : ∀ f, A2 (6, x, f) = A (6, x, f) := fun f => em _ (by simp) (by simp)
    unfold PRb
    rw [e6, e6, e6, e6, e6, e43, e40 x 5 (by omega) (by omega)]
    refine ⟨g1, g2, ?_⟩
    by_cases q : x = b
    · rw [q, hs, a4]; exact Or.inr ⟨sp, Nat.le_refl _, rfl⟩
    · rw [e40' x q]; exact g3
  · by_cases q : x = b
    · rw [q]; exact hp
    · rw [e40' x q] at hz
      exact planOK_congr (b4 x hx hz) (fun f => em _ (by simp) (by simp)) (e43 x) (by rw [e40' x q]) (hk.1 _ (by simp) (by simp) (by simp) (by simp) (by simp) (by simp [q])) (e3 1 (by omega)) (e3 2 (by omega))
  · obtain ⟨g1, g2, g3, _⟩ := rws_P r hr
    by_cases q3 : r.1 = 3
    · rw [hk.1 _ (fun e => g1 ⟨q3, by have := congrArg (fun x => x.2.2) e; simp at this; omega⟩) (fun e => g1 ⟨q3, by have := congrArg (fun x => x.2.2) e; simp at this; omega⟩) (fun e => g1 ⟨q3, by have := congrArg (fun x => x.2.2) e; simp at this; omega⟩) (fun e => g1 ⟨q3, by have := congrArg (fun x => x.2.2) e; simp at this; omega⟩) (by simp [q3]) (by simp [q3])]
    · by_cases q4 : r.1 = 4
      · by_cases q0 : r.2.1 = 0
        · have := g3 ⟨q4, q0⟩
          rw [q4, q0]
          exact e40 i _ (by omega) (by omega)
        · rw [hk.1 _ (by simp [q3]) (by simp [q3]) (by simp [q3]) (by simp [q3]) (by simp [q0]) (fun e => g2 ⟨q4, by have := congrArg (fun x => x.2.2) e; simpa using this⟩)]
      · rw [em _ q3 q4]
/-- the plan of the class and the reference's search are the same -/
theorem plan_seek {tun : (Nat → Nat) → Bool} {x y : Int32} {P Q : Nat → Int32}
    (hx : (x = -1 ∧ ∀ c, sm c 8 ≤ 12 → tun c = false) ∨ ∃ (n : Nat) (c : Nat → Nat), n ≤ 12 ∧ x = nI n ∧ (∀ i, i < 8 → P i = nI (c i)) ∧ First tun n c)
    (hy : (y = -1 ∧ ∀ c, sm c 8 ≤ 12 → tun c = false) ∨ ∃ (n : Nat) (c : Nat → Nat), n ≤ 12 ∧ y = nI n ∧ (∀ i, i < 8 → Q i = nI (c i)) ∧ First tun n c) :
    x = y ∧ ((x = -1) ∨ ∃ (n : Nat) (c : Nat → Nat), n ≤ 12 ∧ x = nI n ∧ sm c 8 = n ∧ tun c = true ∧ (∀ i, i < 8 → P i = nI (c i)) ∧ ∀ i, i < 8 → Q i = nI (c i)) := by
  rcases hx with ⟨e1, h1⟩ | ⟨n, c, n1, e1, p1, f1⟩
  · rcases hy with ⟨e2, h2⟩ | ⟨m, d, m1, e2, p2, f2⟩
    · exact ⟨by rw [e1, e2], Or.inl e1⟩
    · have := h1 d (by rw [f2.1]; exact m1)
      rw [f2.2.1] at this
      cases this
  · rcases hy with ⟨e2, h2⟩ | ⟨m, d, m1, e2, p2, f2⟩
    · have := h2 c (by rw [f1.1]; exact n1)
      rw [f1.2.1] at this
      cases this
    · obtain ⟨g1, g2⟩ := f1.uniq f2
      refine ⟨by rw [e1, e2, g1], Or.inr ⟨n, c, n1, e1, f1.1, f1.2.1, p1, fun i hi => by rw [p2 i hi, g2 i hi]⟩⟩
/-- TUNING, where the bell can be cut -/
theorem s_plan (h : SS np nb nn sp L A B) {v x y : Int32} {A2 B2 : ZT} (hv : iw v 0 (nI nb - 1) = true) (hx : planX A (cl v) x A2) (hk : keep1 (5, 0, 29) B B2) (hy : tuningPost B v y B2) :
    x = y ∧ SS np nb nn sp L A2 B2 ∧ (x = -1 ∨ ∃ (n : Nat) (c : Nat → Nat), n ≤ 12 ∧ x = nI n ∧ sm c 8 = n ∧ xTun A2 (cl v) c = true ∧ (∀ i, i < 8 → A2 (4, cl v, 7) i = nI (c i)) ∧ ∀ i, i < 8 → B2 (5, 0, 29) i = nI (c i)) := by
  have hb := h.1.1.1.2.1
  obtain ⟨v1, _⟩ := iw_cl (by omega) hv
  have hcan := can_eq h v
  rw [hv, Bool.true_and] at hcan
  rcases hx with ⟨c1, e1, e2⟩ | ⟨c1, k1, k2, k3, k4, k5⟩
  · rcases hy with ⟨d1, f1, f2⟩ | ⟨d1, d2⟩
    · rw [e2, f2]
      exact ⟨by rw [e1, f1], h, Or.inl e1⟩
    · rw [hcan, c1] at d1; cases d1
  · rcases hy with ⟨d1, f1, f2⟩ | ⟨d1, d2⟩
    · rw [hcan, c1] at d1; cases d1
    · have ht := k1.tun.1
      unfold planOK at k4
      unfold seekPost at d2
      rw [← k5] at k4
      rw [← tun_eq h.2.2 v1, ← ht] at d2
      obtain ⟨g1, g2⟩ := plan_seek k4 d2
      refine ⟨g1, (h.plan v1 k1 k2 k3 ?_).k29 hk, g2⟩
      unfold planOK
      rw [← k5]
      exact k4
theorem s_tuning (h : SS np nb nn sp L A B) {v x y : Int32} {A2 B2 : ZT} (hx : xTuning nb v A x A2) (hk : keep1 (5, 0, 29) B B2) (hy : tuningPost B v y B2) : x = y ∧ SS np nb nn sp L A2 B2 := by
  rcases hx with ⟨c1, e1, e2⟩ | ⟨c1, c2⟩
  · have hcan := can_eq h v
    rw [c1, Bool.false_and] at hcan
    rcases hy with ⟨d1, f1, f2⟩ | ⟨d1, d2⟩
    · rw [e2, f2]
      exact ⟨by rw [e1, f1], h⟩
    · rw [hcan] at d1; cases d1
  · have := s_plan h c1 c2 hk hy
    exact ⟨this.1, this.2.1⟩
theorem s_tunAt (h : SS np nb nn sp L A B) {v k x y : Int32} {A2 B2 : ZT} (hx : xTunAt nb v k A x A2) (hy : mTunAt v k B y B2) : x = y ∧ SS np nb nn sp L A2 B2 := by
  rcases hx with ⟨c1, e1, e2⟩ | ⟨c1, c2, z, c3, c4⟩
  · rcases hy with ⟨d1, f1, f2⟩ | ⟨d1, w, d2, d3, d4⟩
    · rw [e2, f2]
      exact ⟨by rw [e1, f1], h⟩
    · rw [d1, Bool.and_true] at c1
      have hcan := can_eq h v
      rw [c1, Bool.false_and] at hcan
      rcases d3 with ⟨_, f1, f2⟩ | ⟨f1, _⟩
      · rw [e2, f2]
        exact ⟨by rw [e1, d4, f1, if_pos m1_lt], h⟩
      · rw [hcan] at f1; cases f1
  · rcases hy with ⟨d1, f1, f2⟩ | ⟨d1, w, d2, d3, d4⟩
    · rw [c2] at d1; cases d1
    · obtain ⟨g1, g2, g3⟩ := s_plan h c1 c3 d2 d3
      refine ⟨?_, g2⟩
      rw [c4, d4]
      rcases g3 with g3 | ⟨n, c, n1, e1, _, _, p1, p2⟩
      · rw [if_pos g3, if_pos (by rw [← g1, g3]; exact m1_lt)]
      · have k7 := (iw_clw (n := 7) (by omega) c2).1
        rw [if_neg (by rw [e1]; exact enc_ne (by omega)), if_neg (by rw [← g1, e1]; exact nI_pos (by omega)), p1 _ (by omega), p2 _ (by omega)]
theorem sm_zero {c : Nat → Nat} (h : sm c 8 = 0) : ∀ i, i < 8 → c i = 0 := fun i hi => by have := sm_le (c := c) hi; omega
theorem s_tuneZ (h : SS np nb nn sp L A B) {b : Nat} (hb : b < nb) {c : Nat → Nat} (hc : sm c 8 ≤ 12) (ht : xTun A b c = true) (hA : ∀ i, i < 8 → A (4, b, 7) i = nI (c i)) (hB : ∀ i, i < 8 → B (5, 0, 29) i = nI (c i)) :
    ∀ m, m ≤ 8 → SS np nb nn sp L (tuneZ A b m) (mTuneZ B b m) ∧ (∀ k, m ≤ k → tuneZ A b m (4, b, 3) k = A (4, b, 3) k) ∧ ∀ f, tuneZ A b m (6, b, f) = A (6, b, f) := by
  have hP := (h.1.2.2.1 b hb).1
  intro m
  induction m with
  | zero => intro _; exact ⟨h, fun _ _ => rfl, fun _ => rfl⟩
  | succ m ih =>
    intro hm
    obtain ⟨i1, i2, i3⟩ := ih (by omega)
    have e1 : tuneZ A b (m + 1) = xTrim (tuneZ A b m) b m (nI (c m)) := by
      show xTrim (tuneZ A b m) b m (A (4, b, 7) m) = _
      rw [hA m (by omega)]
    have e2 : mTuneZ B b (m + 1) = mT2 (mTuneZ B b m) b m (nI (c m)) := by
      show mT2 (mTuneZ B b m) b m (B (5, 0, 29) m) = _
      rw [hB m (by omega)]
    rw [e1, e2]
    refine ⟨⟨i1.1.trim hb (by omega) ?_, i1.2.1.trim _ _ _, i1.2.2.trim hb (by omega) _⟩, fun k hk => ?_, fun f => ?_⟩
    · rw [i2 m (Nat.le_refl _), i3 5]
      obtain ⟨t, s, t1, t2, t3, t4⟩ := hP.2.2.2.2 m (by omega)
      have hle := sm_le (c := c) (show m < 8 by omega)
      unfold xTun tunC at ht
      rw [Bool.and_eq_true] at ht
      have z := decide_eq_true_iff.mp (allB_iff.mp ht.1 m (by omega))
      rw [t1, t2] at z
      rcases Nat.lt_or_ge t (c m) with q | q
      · exfalso
        have g1 := pk_sneg (a := t) (b := c m) (by omega) q
        have g2 := nI_pos' (n := s) (by omega)
        rw [Int32.le_iff_toInt_le] at z g2
        rw [Int32.lt_iff_toInt_lt] at g1
        omega
      · rw [pk_sub q] at z
        have z := (nI_leI (by omega) (by omega)).mp z
        exact ⟨t - c m, s, by rw [t1, pk_sub q], t2, z, by omega⟩
    · unfold xTrim
      rw [upZ_ne (by simp), upZ_ne (by simp), upZ_ne (by simp), upZ_nk (Or.inr (by omega))]
      exact i2 k (by omega)
    · rw [xTrim_ne (by simp) (by simp) (by simp) (by simp)]
      exact i3 f
theorem mTuneZ_0 {b : Nat} (hB : ∀ i, i < 8 → B (5, 0, 29) i = nI 0) : ∀ m, m ≤ 8 → mTuneZ B b m = B := by
  intro m
  induction m with
  | zero => intro _; rfl
  | succ m ih =>
    intro hm
    show mT2 (mTuneZ B b m) b m (B (5, 0, 29) m) = B
    rw [ih (by omega), hB m (by omega)]
    unfold mT2 mT1
    rw [show nI 0 = (0 : Int32) from rfl, Int32.sub_zero, upZ_eta B _ _ rfl, Int32.mul_zero, Int32.add_zero, upZ_eta B _ _ rfl]
theorem s_tune (h : SS np nb nn sp L A B) {v x y : Int32} {A2 B2 : ZT} (hx : xTune nb v A x A2) (hy : mTune v B y B2) : x = y ∧ SS np nb nn sp L A2 B2 := by
  obtain ⟨X, d1, d2, d3⟩ := hy
  have hb := h.1.1.1.2.1
  have m1 : (-1 : Int32) < 1 := by decide
  rcases hx with ⟨c1, e1, e2⟩ | ⟨c1, W, c2, c3⟩
  · have hcan := can_eq h v
    rw [c1, Bool.false_and] at hcan
    rcases d2 with ⟨_, f1, f2⟩ | ⟨f1, _⟩
    · rw [e2, d3, f1, if_pos m1_lt, f2]
      exact ⟨e1, h⟩
    · rw [hcan] at f1; cases f1
  · obtain ⟨v1, _⟩ := iw_cl (by omega) c1
    obtain ⟨g1, g2, g3⟩ := s_plan h c1 c2 d1 d2
    refine ⟨g1, ?_⟩
    rw [c3, d3, ← g1]
    rcases g3 with g3 | ⟨n, c, n1, e1, hs, ht, p1, p2⟩
    · rw [g3, if_pos m1, if_pos m1_lt]
      exact g2
    · rw [e1, if_neg (nI_pos (n := n) (by omega))]
      rcases Nat.eq_zero_or_pos n with z | z
      · rw [z, if_pos (by decide), mTuneZ_0 (fun i hi => by rw [p2 i hi, sm_zero (c := c) (by omega) i hi]) 8 (Nat.le_refl _)]
        exact g2
      · rw [if_neg (show ¬ nI n < 1 from fun q => absurd ((nI_ltI (a := n) (b := 1) (by omega) (by omega)).mp q) (by omega))]
        exact (s_tuneZ g2 v1 (by omega) ht p1 p2 8 (Nat.le_refl _)).1
theorem SS.ch {M : LT} (h : SS np nb nn sp L A B) {A2 B2 : ZT} {cv : Int} (hx : chX A nb nn cv A2 M) (hk : keepN KR B B2) : SS np nb nn sp M A2 B2 := by
  obtain ⟨k1, k2, k3, k4⟩ := hx
  have h2 := h.scr (B2 := B2) (fun f hf => hk _ (by simp [KR]; omega))
  obtain ⟨⟨⟨a0, a1, a2, a3, a4⟩, b2, b3, b4, b5, b6⟩, hm, hE⟩ := h2
  have em : ∀ m : NM, m.1 ≠ 1 → A2 m = A m := fun m h1 => k1.1 m (fun e => h1 (by rw [e])) (fun e => h1 (by rw [e])) (fun e => h1 (by rw [e])) (fun e => h1 (by rw [e])) (fun e => h1 (by rw [e])) (fun e => h1 (by rw [e]))
  have e11 : A2 (1, 0, 1) = A (1, 0, 1) := k1.1 _ (by simp) (by simp) (by simp) (by simp) (by simp) (by simp)
  refine ⟨⟨⟨a0, by rw [em _ (by simp)]; exact a1, by rw [em _ (by simp)]; exact a2, by rw [k1.2 1 (by omega) (by omega)]; exact a3, by rw [em _ (by simp)]; exact a4⟩, b2.congr (fun _ _ _ => em _ (by simp)), b3.congr (fun _ _ => ⟨fun _ => em _ (by simp), em _ (by simp), by rw [em _ (by simp)], by rw [em _ (by simp)]⟩), b4.congr (fun _ _ => ⟨fun _ => em _ (by simp), em _ (by simp), by rw [em _ (by simp)], by rw [em _ (by simp)], em _ (by simp)⟩) (em _ (by simp)) (em _ (by simp)), b5.congr (fun _ _ => em _ (by simp)), fun _ => ⟨cv, k3, CVok_congr k4 (fun _ _ => ⟨fun _ => em _ (by simp), em _ (by simp), by rw [em _ (by simp)]⟩) e11 (k1.2 2 (by omega) (by omega))⟩⟩, hm, hE.congr (fun r hr i hi k hk2 => ?_) (fun _ _ _ => rfl)⟩
  by_cases q : r.1 = 1
  · obtain ⟨_, _, _, _, g1, g2⟩ := rws_P r hr
    have i0 : i = 0 := cnt_1 (by omega) hi
    have := g1 q
    by_cases q0 : r.2.1 = 0
    · have := g2 ⟨q, q0⟩
      rw [q, q0, i0]
      exact k1.2 _ (by omega) (by omega)
    · rw [q, i0, show r.2.1 = 1 by omega, e11]
  · rw [em _ q]
theorem ring_eq (h : SS np nb nn sp L A B) {cv : Int} {x : Int32} {B2 : ZT} (hc : CVok A nb nn cv) (hr : rgM B nb nn x B2) : rwX cv = x ∧ ∀ i, i < nn → rbX cv i = if x < 0 then -1 else B2 (5, 0, 30) i := by
  have hb := h.1.1.1.2.1
  have h8 := h.1.1.1.2.2.1
  rcases hr.2 with ⟨n0, e⟩ | ⟨n0, hR⟩
  · have := hc.2.2.1 n0
    refine ⟨by unfold rwX; rw [if_pos this, e], fun i hi => by omega⟩
  · have hs : sdX A nb = sdM B nb := by
      funext b
      unfold sdX sdM
      by_cases q : b < nb
      · rw [e_bc h.2.2 q]
      · rw [decide_eq_false q, Bool.false_and, Bool.false_and]
    have hlt : ∀ b, sdM B nb b = true → b < nb := fun b hb => by
      unfold sdM at hb
      rw [Bool.and_eq_true, decide_eq_true_iff] at hb
      exact hb.1
    have hB : Best (sdM B nb) (wM B) (tM B) (B (5, 0, 25)) (B (5, 0, 0) 25) nn cv := by
      have := hc.2.2.2 n0
      rw [hs, e_awr h.2.2] at this
      refine Best_congr (fun b hb2 => ?_) (fun i hi => ?_) (fun b hb2 => ?_) this
      · exact pX_eq h.2.2 (hlt b hb2) (by omega)
      · exact e_stp h.2.2 (by omega)
      · show cl (wNow A b) = cl (mW B b)
        rw [wX_eq h.2.2 (hlt b hb2)]
    refine RR_Best n0 h8 (fun b hb2 => ⟨by have := hlt b hb2; omega, ?_⟩) hc.1 hc.2.1 hB hR
    show cl (mW B b) ≤ 44600
    rw [← wX_eq h.2.2 (hlt b hb2)]
    exact (h.1.2.2.1 b (hlt b hb2)).1.w.2
end SIM
