/-! ===== the reference's choice: the lightest, and of these the first by notes ===== -/
theorem wt_congr {w : Nat → Nat} {a b : Nat → Nat} {n : Nat} (h : ∀ i, i < n → a i = b i) : wt w a n = wt w b n := by
  induction n with
  | zero => rfl
  | succ n ih => rw [wt, wt, ih (fun i hi => h i (by omega)), h n (by omega)]
theorem wt_tail {w : Nat → Nat} {a r : Nat → Nat} {k n : Nat} (hk : k ≤ n) (h : ∀ i, k ≤ i → i < n → r i = a i) : wt w r n + wt w a k = wt w a n + wt w r k := by
  induction n with
  | zero => rw [show k = 0 by omega]; exact Nat.add_comm _ _
  | succ n ih =>
    rcases Nat.lt_or_ge k (n + 1) with q | q
    · have := ih (by omega) (fun i h1 h2 => h i h1 (by omega))
      rw [wt, wt, h n (by omega) (by omega)]
      omega
    · rw [show k = n + 1 by omega]; omega
theorem wt_mono {w : Nat → Nat} {a : Nat → Nat} {k n : Nat} (h : k ≤ n) : wt w a k ≤ wt w a n := by
  induction n with
  | zero => rw [show k = 0 by omega]; exact Nat.le_refl _
  | succ n ih =>
    rcases Nat.lt_or_ge k (n + 1) with q | q
    · have := ih (by omega)
      rw [wt]
      omega
    · rw [show k = n + 1 by omega]; exact Nat.le_refl _
theorem okR_S {sd : Nat → Bool} {t st : Nat → Int32} {aw : Int32} {f i b : Nat} (hi : 0 < i) : okR sd t st aw f i b = true ↔ sd b = true ∧ b ≠ f ∧ iw (t b - t f - st i) (-aw) aw = true := by
  unfold okR
  rw [if_neg (by omega)]
  simp only [Bool.and_eq_true, Bool.not_eq_true', decide_eq_false_iff_not, and_assoc]
theorem okR_0 {sd : Nat → Bool} {t st : Nat → Int32} {aw : Int32} {f b : Nat} : okR sd t st aw f 0 b = true ↔ b = f := by
  unfold okR
  rw [if_pos rfl, decide_eq_true_iff]
section RG
variable {sd : Nat → Bool} {t st : Nat → Int32} {aw : Int32} {w : Nat → Nat} {n : Nat}
/-- the sums behind a beginning p of k notes -/
def Ex (sd : Nat → Bool) (t st : Nat → Int32) (aw : Int32) (w : Nat → Nat) (n k : Nat) (p : Nat → Nat) (v : Nat) : Prop := ∃ r, Va (okR sd t st aw (p 0)) n r ∧ (∀ i, i < k → r i = p i) ∧ wt w r n = wt w p k + v
/-- the bells that are taken: those of the first k notes -/
def Tk (k : Nat) (p : Nat → Nat) (tk : Nat) : Prop := ∀ b, tk.testBit b = true ↔ ∃ i, i < k ∧ p i = b
theorem Tk.one (b : Nat) : Tk 1 (fun _ => b) (2 ^ b) := fun x => by
  rw [Nat.testBit_two_pow, decide_eq_true_iff]
  exact ⟨fun h => ⟨0, by omega, h⟩, fun ⟨_, _, h⟩ => h⟩
theorem Tk.add {k : Nat} {p : Nat → Nat} {tk : Nat} (h : Tk k p tk) (b : Nat) : Tk (k + 1) (upf p k b) (tk ||| 2 ^ b) := fun x => by
  rw [tb_or, Bool.or_eq_true, h x, decide_eq_true_iff]
  constructor
  · rintro (⟨i, h1, h2⟩ | h1)
    · exact ⟨i, by omega, by rw [upf_ne (by omega)]; exact h2⟩
    · exact ⟨k, by omega, by rw [upf_at]; exact h1⟩
  · rintro ⟨i, h1, h2⟩
    by_cases q : i = k
    · rw [q, upf_at] at h2; exact Or.inr h2
    · rw [upf_ne q] at h2; exact Or.inl ⟨i, by omega, h2⟩
theorem Ac_Ex {av : Nat → Bool} {ok : Nat → Nat → Bool} {k mb tk : Nat} {p : Nat → Nat} (hk : 0 < k) (hkn : k ≤ n) (hp : Va (okR sd t st aw (p 0)) k p) (ht : Tk k p tk)
    (hav : ∀ b, (b < mb ∧ av b = true) ↔ sd b = true ∧ tk.testBit b = false) (hok : ∀ i b, b < mb → ok i b = iw (t b - t (p 0) - st i) (-aw) aw) (v : Nat) : Ac av ok w k n mb (2 ^ n - 1) v ↔ Ex sd t st aw w n k p v := by
  rw [Ac_all hkn]
  constructor
  · rintro ⟨a, h1, h2, h3⟩
    have hlo : ∀ i, i < k → (if i < k then p i else a i) = p i := fun i hi => if_pos hi
    have hhi : ∀ i, k ≤ i → (if i < k then p i else a i) = a i := fun i hi => if_neg (by omega)
    have hnt : ∀ i j, i < k → k ≤ j → j < n → p i ≠ a j := fun i j hi hj hjn e => by
      have g1 := (hav (a j)).mp ⟨(h1 j hj hjn).1, (h1 j hj hjn).2.1⟩
      have g2 := (ht (a j)).mpr ⟨i, hi, e⟩
      rw [g1.2] at g2
      cases g2
    refine ⟨fun i => if i < k then p i else a i, ⟨fun i hi => ?_, fun i j hi hj e => ?_⟩, hlo, ?_⟩
    · show okR sd t st aw (p 0) i (if i < k then p i else a i) = true
      by_cases q : i < k
      · rw [hlo i q]; exact hp.1 i q
      · rw [hhi i (by omega)]
        have g := h1 i (by omega) hi
        refine (okR_S (by omega)).mpr ⟨((hav (a i)).mp ⟨g.1, g.2.1⟩).1, fun e => hnt 0 i hk (by omega) hi e.symm, ?_⟩
        rw [← hok i (a i) g.1]; exact g.2.2
    · have e : (if i < k then p i else a i) = (if j < k then p j else a j) := e
      by_cases q : i < k
      · by_cases z : j < k
        · rw [hlo i q, hlo j z] at e; exact hp.2 i j q z e
        · rw [hlo i q, hhi j (by omega)] at e; exact absurd e (hnt i j q (by omega) hj)
      · by_cases z : j < k
        · rw [hhi i (by omega), hlo j z] at e; exact absurd e.symm (hnt j i z (by omega) hi)
        · rw [hhi i (by omega), hhi j (by omega)] at e; exact h2 i j (by omega) hi (by omega) hj e
    · have e1 := wt_tail (w := w) (a := a) (r := fun i => if i < k then p i else a i) hkn (fun i h _ => hhi i h)
      have e2 := wt_congr (w := w) (a := fun i => if i < k then p i else a i) (b := p) (n := k) hlo
      omega
  · rintro ⟨r, h1, h2, h3⟩
    refine ⟨r, fun i hi hin => ?_, fun i j _ hi _ hj e => h1.2 i j hi hj e, ?_⟩
    · have g := (okR_S (by omega)).mp (h1.1 i hin)
      have g2 := (hav (r i)).mpr ⟨g.1, by
        cases e : tk.testBit (r i) with
        | false => rfl
        | true =>
          obtain ⟨j, hj, e2⟩ := (ht (r i)).mp e
          rw [← h2 j hj] at e2
          have := h1.2 j i (by omega) hin e2
          omega⟩
      exact ⟨g2.1, g2.2, by rw [hok i (r i) g2.1]; exact g.2.2⟩
    · have := wt_congr (w := w) (a := r) (b := p) (n := k) h2
      omega
/-- the best first bell among those below i -/
def RI (sd : Nat → Bool) (t st : Nat → Int32) (aw : Int32) (w : Nat → Nat) (n i : Nat) (best first : Int32) : Prop := (best = -1 ∧ ∀ r, RV sd t st aw n r → ¬ r 0 < i) ∨
  ∃ v f r0, best = nI v ∧ first = nI f ∧ f < i ∧ v ≤ 1400000 ∧ RV sd t st aw n r0 ∧ r0 0 = f ∧ wt w r0 n = v ∧ ∀ r, RV sd t st aw n r → r 0 < i → v ≤ wt w r n ∧ (r 0 < f → v < wt w r n)
/-- what is found of the first bell i -/
def RX (sd : Nat → Bool) (t st : Nat → Int32) (aw : Int32) (w : Nat → Nat) (n i : Nat) (x : Int32) : Prop := (x = -1 ∧ ∀ r, RV sd t st aw n r → r 0 ≠ i) ∨
  ∃ v, x = nI v ∧ v ≤ 1200000 ∧ (∃ r, RV sd t st aw n r ∧ r 0 = i ∧ wt w r n = w i + v) ∧ ∀ r, RV sd t st aw n r → r 0 = i → w i + v ≤ wt w r n
theorem RX.of {i : Nat} {x : Int32} (hs : sd i = true) (hn : 0 < n) (h : LsV (Ex sd t st aw w n 1 (fun _ => i)) x) : RX sd t st aw w n i x := by
  have e : wt w (fun _ => i) 1 = w i := by simp only [wt, Nat.zero_add]
  have hrv : ∀ r, RV sd t st aw n r → r 0 = i → Ex sd t st aw w n 1 (fun _ => i) (wt w r n - w i) := fun r hr h0 => by
    refine ⟨r, by have := hr.2; rw [h0] at this; exact this, fun j hj => by rw [show j = 0 by omega]; exact h0, ?_⟩
    have := wt_mono (w := w) (a := r) (k := 1) (n := n) hn
    rw [e]
    simp only [wt, Nat.zero_add, h0] at this
    omega
  have hw0 : ∀ r, RV sd t st aw n r → r 0 = i → w i ≤ wt w r n := fun r hr h0 => by
    have := wt_mono (w := w) (a := r) (k := 1) (n := n) hn
    simp only [wt, Nat.zero_add, h0] at this
    exact this
  rcases h with ⟨h1, h2⟩ | ⟨v, h1, h2, ⟨r, g1, g2, g3⟩, h4⟩
  · exact Or.inl ⟨h1, fun r hr h0 => h2 _ (hrv r hr h0)⟩
  · refine Or.inr ⟨v, h1, h2, ⟨r, ⟨by rw [g2 0 (by omega)]; exact hs, by rw [g2 0 (by omega)]; exact g1⟩, g2 0 (by omega), by rw [g3, e]⟩, fun r2 hr h0 => ?_⟩
    have := h4 _ (hrv r2 hr h0)
    have := hw0 r2 hr h0
    omega
theorem RX.cracked {i : Nat} (hs : sd i = false) : RX sd t st aw w n i (-1) := Or.inl ⟨rfl, fun r hr h0 => by
  have := hr.1
  rw [h0, hs] at this
  cases this⟩
theorem RI.init : RI sd t st aw w n 0 (-1) (-1) := Or.inl ⟨rfl, fun _ _ h => absurd h (by omega)⟩
theorem RI.no {i : Nat} {best first x : Int32} (h : RI sd t st aw w n i best first) (hx : RX sd t st aw w n i x) (h0 : x < 0) : RI sd t st aw w n (i + 1) best first := by
  have hno : ∀ r, RV sd t st aw n r → r 0 ≠ i := by
    rcases hx with hx | ⟨v, hx, h2, _⟩
    · exact hx.2
    · rw [hx] at h0; exact absurd h0 (nI_pos (by omega))
  rcases h with ⟨h1, h2⟩ | ⟨v, f, r0, h1, h2, h3, h4, h5, h6, h7, h8⟩
  · exact Or.inl ⟨h1, fun r hr hlt => by
      have := hno r hr
      exact h2 r hr (by omega)⟩
  · exact Or.inr ⟨v, f, r0, h1, h2, by omega, h4, h5, h6, h7, fun r hr hlt => by
      have := hno r hr
      exact h8 r hr (by omega)⟩
theorem RI.take {i : Nat} {best first x : Int32} (h : RI sd t st aw w n i best first) (hx : RX sd t st aw w n i x) (hw : w i ≤ 44600) (h0 : ¬ x < 0) (hb : best < 0 ∨ x + nI (w i) < best) : RI sd t st aw w n (i + 1) (x + nI (w i)) (nI i) := by
  rcases hx with ⟨hx, _⟩ | ⟨v, rfl, h2, ⟨r1, g1, g2, g3⟩, h4⟩
  · rw [hx] at h0; exact absurd m1_lt h0
  · rw [nI_add] at hb ⊢
    refine Or.inr ⟨v + w i, i, r1, rfl, rfl, by omega, by omega, g1, g2, by omega, fun r hr hlt => ?_⟩
    by_cases q : r 0 = i
    · have := h4 r hr q
      exact ⟨by omega, fun z => by omega⟩
    · rcases h with ⟨h5, h6⟩ | ⟨u, f, r0, h5, h6, h7, h8, h9, h10, h11, h12⟩
      · exact absurd (show r 0 < i by omega) (h6 r hr)
      · have h13 := (h12 r hr (by omega)).1
        have : v + w i < u := by
          rcases hb with hb | hb
          · rw [h5] at hb; exact absurd hb (nI_pos (by omega))
          · rw [h5] at hb; exact (nI_ltI (by omega) (by omega)).mp hb
        exact ⟨by omega, fun _ => by omega⟩
theorem RI.keep {i : Nat} {best first x : Int32} (h : RI sd t st aw w n i best first) (hx : RX sd t st aw w n i x) (hw : w i ≤ 44600) (h0 : ¬ x < 0) (hb1 : ¬ best < 0) (hb : best ≤ x + nI (w i)) : RI sd t st aw w n (i + 1) best first := by
  rcases hx with ⟨hx, _⟩ | ⟨v, rfl, h2, ⟨r1, g1, g2, g3⟩, h4⟩
  · rw [hx] at h0; exact absurd m1_lt h0
  · rw [nI_add] at hb
    rcases h with ⟨h5, h6⟩ | ⟨u, f, r0, h5, h6, h7, h8, h9, h10, h11, h12⟩
    · rw [h5] at hb1; exact absurd m1_lt hb1
    · rw [h5] at hb
      have hb := (nI_leI (by omega) (by omega)).mp hb
      refine Or.inr ⟨u, f, r0, h5, h6, by omega, h8, h9, h10, h11, fun r hr hlt => ?_⟩
      by_cases q : r 0 = i
      · have := h4 r hr q
        exact ⟨by omega, fun z => by omega⟩
      · exact h12 r hr (by omega)
/-- the beginning of k notes is right: of the choices of weight v it is the first's -/
def GI (sd : Nat → Bool) (t st : Nat → Int32) (aw : Int32) (w : Nat → Nat) (n k v : Nat) (p : Nat → Nat) : Prop :=
  (∃ r, RV sd t st aw n r ∧ (∀ i, i < k → r i = p i) ∧ wt w r n = v) ∧ (∀ r, RV sd t st aw n r → v ≤ wt w r n) ∧ ∀ r, RV sd t st aw n r → wt w r n = v → (∀ i, i < k → r i = p i) ∨ ∃ j, j < k ∧ (∀ i, i < j → r i = p i) ∧ p j < r j
def Hit (sd : Nat → Bool) (t st : Nat → Int32) (aw : Int32) (w : Nat → Nat) (n k v : Nat) (p : Nat → Nat) (b : Nat) : Prop := ∃ r, RV sd t st aw n r ∧ (∀ i, i < k → r i = p i) ∧ r k = b ∧ wt w r n = v
theorem GI.init {mb : Nat} {best first : Int32} (h : RI sd t st aw w n mb best first) (hsd : ∀ b, sd b = true → b < mb) (hb : ¬ best < 0) : ∃ v f, best = nI v ∧ v ≤ 1400000 ∧ first = nI f ∧ f < mb ∧ sd f = true ∧ GI sd t st aw w n 1 v (fun _ => f) := by
  rcases h with ⟨h1, _⟩ | ⟨v, f, r0, h1, h2, h3, h4, h5, h6, h7, h8⟩
  · rw [h1] at hb; exact absurd m1_lt hb
  · refine ⟨v, f, h1, h4, h2, h3, by rw [← h6]; exact h5.1, ⟨r0, h5, fun i hi => by rw [show i = 0 by omega]; exact h6, h7⟩, fun r hr => (h8 r hr (hsd _ hr.1)).1, fun r hr e => ?_⟩
    have := (h8 r hr (hsd _ hr.1)).2
    by_cases q : r 0 = f
    · exact Or.inl (fun i hi => by rw [show i = 0 by omega]; exact q)
    · refine Or.inr ⟨0, by omega, fun i hi => absurd hi (by omega), ?_⟩
      show f < r 0
      omega
theorem RI.none {mb : Nat} {best first : Int32} (h : RI sd t st aw w n mb best first) (hsd : ∀ b, sd b = true → b < mb) (hb : best < 0) (r : Nat → Nat) : ¬ RV sd t st aw n r := fun hr => by
  rcases h with ⟨h1, h2⟩ | ⟨v, f, r0, h1, h2, h3, h4, h5, h6, h7, h8⟩
  · exact h2 r hr (hsd _ hr.1)
  · rw [h1] at hb; exact nI_pos (by omega) hb
theorem GI.va {k v : Nat} {p : Nat → Nat} (h : GI sd t st aw w n k v p) (hk : 0 < k) (hkn : k ≤ n) : sd (p 0) = true ∧ Va (okR sd t st aw (p 0)) k p ∧ wt w p k ≤ v := by
  obtain ⟨⟨r, h1, h2, h3⟩, _⟩ := h
  have h4 := h1.2.mono hkn
  rw [h2 0 hk] at h4
  refine ⟨by rw [← h2 0 hk]; exact h1.1, ⟨fun i hi => by rw [← h2 i hi]; exact h4.1 i hi, fun i j hi hj e => h4.2 i j hi hj (by rw [h2 i hi, h2 j hj]; exact e)⟩, ?_⟩
  have := wt_mono (w := w) (a := r) hkn
  rw [wt_congr (w := w) (a := r) (b := p) (n := k) h2] at this
  omega
theorem GI.step {k v b : Nat} {p : Nat → Nat} (h : GI sd t st aw w n k v p) (hh : Hit sd t st aw w n k v p b) (hl : ∀ c, c < b → ¬ Hit sd t st aw w n k v p c) : GI sd t st aw w n (k + 1) v (upf p k b) := by
  have hlo : ∀ i, i < k → upf p k b i = p i := fun i hi => upf_ne (by omega)
  obtain ⟨r, h1, h2, h3, h4⟩ := hh
  refine ⟨⟨r, h1, fun i hi => ?_, h4⟩, h.2.1, fun r2 hr e => ?_⟩
  · by_cases q : i = k
    · rw [q, upf_at]; exact h3
    · rw [hlo i (by omega)]; exact h2 i (by omega)
  · rcases h.2.2 r2 hr e with g | ⟨j, g1, g2, g3⟩
    · rcases Nat.lt_trichotomy (r2 k) b with z | z | z
      · exact absurd ⟨r2, hr, g, rfl, e⟩ (hl _ z)
      · refine Or.inl (fun i hi => ?_)
        by_cases q : i = k
        · rw [q, upf_at]; exact z
        · rw [hlo i (by omega)]; exact g i (by omega)
      · exact Or.inr ⟨k, by omega, fun i hi => by rw [hlo i hi]; exact g i hi, by rw [upf_at]; exact z⟩
    · exact Or.inr ⟨j, by omega, fun i hi => by rw [hlo i (by omega)]; exact g2 i hi, by rw [hlo j g1]; exact g3⟩
theorem GI.ex {k v : Nat} {p : Nat → Nat} (h : GI sd t st aw w n k v p) : ∃ b, Hit sd t st aw w n k v p b := by
  obtain ⟨⟨r, h1, h2, h3⟩, _⟩ := h
  exact ⟨r k, r, h1, h2, rfl, h3⟩
theorem Hit_sd {k v b : Nat} {p : Nat → Nat} (h : Hit sd t st aw w n k v p b) (hk : k < n) : sd b = true := by
  obtain ⟨r, h1, _, h3, _⟩ := h
  rw [← h3]
  exact RV_sd h1 hk
/-- what 'fits' tells, where the bell may be had -/
theorem Hit_iff {k v b : Nat} {p : Nat → Nat} {x : Int32} (hg : GI sd t st aw w n k v p) (hk : 0 < k) (hkn : k < n) (hv : v ≤ 1400000) (hw : w b ≤ 44600) (hx : LsV (Ex sd t st aw w n (k + 1) (upf p k b)) x) : (¬ x < 0 ∧ x + nI (w b) = nI (v - wt w p k)) ↔ Hit sd t st aw w n k v p b := by
  have hlo : ∀ i, i < k → upf p k b i = p i := fun i hi => upf_ne (by omega)
  have hva := hg.va hk (by omega)
  have e1 : wt w (upf p k b) (k + 1) = wt w p k + w b := by rw [wt, upf_at, wt_congr (b := p) hlo]
  have hrv : ∀ r, Va (okR sd t st aw (upf p k b 0)) n r → (∀ i, i < k + 1 → r i = upf p k b i) → RV sd t st aw n r := fun r h1 h2 => by
    have e0 : r 0 = upf p k b 0 := h2 0 (by omega)
    refine ⟨?_, by rw [e0]; exact h1⟩
    rw [e0, hlo 0 hk]
    exact hva.1
  constructor
  · rintro ⟨h1, h2⟩
    obtain ⟨u, g1, g2, ⟨r, g3, g4, g5⟩, g6⟩ := hx.pos h1
    rw [g1, nI_add] at h2
    have h2 := (nI_eq (by omega) (by omega)).mp h2
    have hr := hrv r g3 g4
    refine ⟨r, hr, fun i hi => by rw [g4 i (by omega)]; exact hlo i hi, by rw [g4 k (by omega), upf_at], ?_⟩
    have := hva.2.2
    omega
  · rintro ⟨r, h1, h2, h3, h4⟩
    have hr0 : r 0 = upf p k b 0 := by rw [hlo 0 hk]; exact h2 0 hk
    have hag : ∀ i, i < k + 1 → r i = upf p k b i := fun i hi => by
      by_cases q : i = k
      · rw [q, upf_at]; exact h3
      · rw [hlo i (by omega)]; exact h2 i (by omega)
    have hle : wt w p k + w b ≤ v := by
      have := wt_mono (w := w) (a := r) (k := k + 1) (n := n) (by omega)
      rw [wt_congr (w := w) (a := r) hag, e1] at this
      omega
    have hE : Ex sd t st aw w n (k + 1) (upf p k b) (v - (wt w p k + w b)) := ⟨r, by rw [← hr0]; exact h1.2, hag, by rw [e1]; omega⟩
    have hx0 : ¬ x < 0 := fun q => (hx.neg q).2 _ hE
    obtain ⟨u, g1, g2, ⟨r2, g3, g4, g5⟩, g6⟩ := hx.pos hx0
    refine ⟨hx0, ?_⟩
    have a1 := g6 _ hE
    have a2 := hg.2.1 r2 (hrv r2 g3 g4)
    rw [g1, nI_add]
    congr 1
    omega
theorem Hit_no {k v b : Nat} {p : Nat → Nat} (hk : 0 < k) (hkn : k < n) (hn : ¬ (sd b = true ∧ (∀ i, i < k → p i ≠ b) ∧ iw (t b - t (p 0) - st k) (-aw) aw = true)) : ¬ Hit sd t st aw w n k v p b := by
  rintro ⟨r, h1, h2, h3, h4⟩
  have g := (okR_S hk).mp (h1.2.1 k hkn)
  rw [h3, h2 0 hk] at g
  exact hn ⟨g.1, fun i hi e => by
    have := h1.2.2 i k (by omega) hkn (by rw [h2 i hi, e, h3])
    omega, g.2.2⟩
theorem Va_add {k b : Nat} {p : Nat → Nat} (h : Va (okR sd t st aw (p 0)) k p) (hk : 0 < k) (h1 : sd b = true) (h2 : ∀ i, i < k → p i ≠ b) (h3 : iw (t b - t (p 0) - st k) (-aw) aw = true) : Va (okR sd t st aw (upf p k b 0)) (k + 1) (upf p k b) := by
  have hlo : ∀ i, i < k → upf p k b i = p i := fun i hi => upf_ne (by omega)
  rw [hlo 0 hk]
  refine ⟨fun i hi => ?_, fun i j hi hj e => ?_⟩
  · by_cases q : i = k
    · rw [q, upf_at]; exact (okR_S hk).mpr ⟨h1, fun e => h2 0 hk e.symm, h3⟩
    · rw [hlo i (by omega)]; exact h.1 i (by omega)
  · by_cases q : i = k
    · by_cases z : j = k
      · rw [q, z]
      · rw [q, upf_at, hlo j (by omega)] at e; exact absurd e.symm (h2 j (by omega))
    · by_cases z : j = k
      · rw [z, upf_at, hlo i (by omega)] at e; exact absurd e (h2 i (by omega))
      · rw [hlo i (by omega), hlo j (by omega)] at e; exact h.2 i j (by omega) (by omega) e
/-- what the reference's search has come to -/
def RR (sd : Nat → Bool) (t st : Nat → Int32) (aw : Int32) (w : Nat → Nat) (n : Nat) (x : Int32) (P : Nat → Int32) : Prop := (x = -1 ∧ ∀ r, ¬ RV sd t st aw n r) ∨ ∃ v p, x = nI v ∧ v ≤ 1400000 ∧ GI sd t st aw w n n v p ∧ ∀ i, i < n → P i = nI (p i)
theorem RR_Best {cv : Int} {x : Int32} {P : Nat → Int32} (hn : 0 < n) (hn8 : n ≤ 8) (hsd : ∀ b, sd b = true → b < 24 ∧ w b ≤ 44600) (h0 : 0 ≤ cv) (h1 : cv ≤ NO) (hb : Best sd w t st aw n cv) (hr : RR sd t st aw w n x P) : rwX cv = x ∧ ∀ i, i < n → rbX cv i = if x < 0 then -1 else P i := by
  rcases hr with ⟨e, h⟩ | ⟨v, p, e, hv, ⟨⟨r0, g1, g2, g3⟩, g4, g5⟩, hP⟩
  · have : cv = NO := by
      by_cases q : cv < NO
      · obtain ⟨r, hr, _⟩ := hb.2 q
        exact absurd hr (h r)
      · omega
    refine ⟨by unfold rwX; rw [if_pos this, e], fun i _ => ?_⟩
    unfold rbX
    rw [if_pos this, e, if_pos m1_lt]
  · have hlt : ∀ r, RV sd t st aw n r → ∀ i, i < n → r i < 32 := fun r hr i hi => by
      have := (hsd _ (RV_sd hr hi)).1
      omega
    have hbd : ∀ r, RV sd t st aw n r → (cs (cN w) r n : Int) < NO := fun r hr => by
      have e1 := cs_split w r n
      have e2 := (lo_dig hn8 (hlt r hr) 0).1
      have e3 : wt w r n ≤ n * 44600 := by
        have : ∀ m, m ≤ n → wt w r m ≤ m * 44600 := by
          intro m
          induction m with
          | zero => intro _; exact Nat.le_refl _
          | succ m ih =>
            intro hm
            have := ih (by omega)
            have := (hsd _ (RV_sd hr (show m < n by omega))).2
            rw [wt]
            omega
        exact this n (Nat.le_refl _)
      have e4 : n * 44600 ≤ 8 * 44600 := Nat.mul_le_mul_right _ hn8
      have e5 : wt w r n * 1099511627776 ≤ 356800 * 1099511627776 := Nat.mul_le_mul_right _ (by omega)
      unfold NO
      omega
    have hq : cv < NO := Int.lt_of_le_of_lt (hb.1 r0 g1) (hbd r0 g1)
    obtain ⟨r, hr, e1⟩ := hb.2 hq
    have hle := hb.1 r0 g1
    rw [e1] at hle
    have hle : cs (cN w) r n ≤ cs (cN w) r0 n := Int.ofNat_le.mp hle
    rw [cs_split, cs_split, g3] at hle
    have l1 := (lo_dig hn8 (hlt r hr) 0).1
    have l2 := (lo_dig hn8 (hlt r0 g1) 0).1
    have hm := g4 r hr
    have hwv : wt w r n = v := by
      rcases Nat.lt_or_ge v (wt w r n) with z | z
      · have : (v + 1) * 1099511627776 ≤ wt w r n * 1099511627776 := Nat.mul_le_mul_right _ z
        omega
      · omega
    have hlo0 : lo r0 n = lo p n := lo_congr g2
    have hag : ∀ i, i < n → r i = p i := by
      rcases g5 r hr hwv with z | ⟨j, z1, z2, z3⟩
      · exact z
      · exfalso
        have := lo_lex (a := p) (b := r) z1 hn8 (fun i hi => by rw [← g2 i hi]; exact hlt r0 g1 i hi) (hlt r hr) (fun i hi => (z2 i hi).symm) z3
        rw [hwv] at hle
        omega
    have hne : ¬ cv = NO := by omega
    have htn : cv.toNat = cs (cN w) r n := by omega
    refine ⟨?_, fun i hi => ?_⟩
    · unfold rwX
      rw [if_neg hne, htn, cs_wt hn8 (hlt r hr), hwv, e]
    · unfold rbX
      rw [if_neg hne, htn, cs_split, (lo_dig hn8 (hlt r hr) _).2 i hi, hag i hi, e, if_neg (nI_pos (by omega)), hP i hi]
end RG
