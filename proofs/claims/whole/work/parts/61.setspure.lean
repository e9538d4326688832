/-! ===== the reference's search over sets of notes ===== -/
/-- sums that the first b bells can make of the notes of s (and the low ones, which are there) -/
def Ac (av : Nat → Bool) (ok : Nat → Nat → Bool) (w : Nat → Nat) (nt n : Nat) : Nat → Nat → Nat → Prop
  | 0, s, v => s = 2 ^ nt - 1 ∧ v = 0
  | b + 1, s, v => Ac av ok w nt n b s v ∨ (av b = true ∧ ∃ k t u, nt ≤ k ∧ k < n ∧ t.testBit k = false ∧ s = t ||| 2 ^ k ∧ ok k b = true ∧ Ac av ok w nt n b t u ∧ v = u + w b)
theorem Ac_bd {av : Nat → Bool} {ok : Nat → Nat → Bool} {w : Nat → Nat} {nt n mb : Nat} (hw : ∀ b, b < mb → w b ≤ 44600) : ∀ b s v, b ≤ mb → Ac av ok w nt n b s v → v ≤ b * 44600 := by
  intro b
  induction b with
  | zero => intro s v _ h; have := h.2; omega
  | succ b ih =>
    intro s v hb h
    rw [Nat.succ_mul]
    rcases h with h | ⟨_, k, t, u, _, _, _, _, _, h, e⟩
    · exact Nat.le_trans (ih s v (by omega) h) (Nat.le_add_right _ _)
    · have := ih t u (by omega) h
      have := hw b (by omega)
      omega
theorem or_lt {t k n : Nat} (ht : t < 2 ^ n) (hk : k < n) : t ||| 2 ^ k < 2 ^ n := Nat.or_lt_two_pow ht (Nat.pow_lt_pow_right (by omega) hk)
theorem or_gt {t k : Nat} (h : t.testBit k = false) : t < t ||| 2 ^ k := by
  refine Nat.lt_of_le_of_ne Nat.left_le_or (fun q => ?_)
  have := congrArg (fun x => x.testBit k) q
  simp only [Nat.testBit_or, Nat.testBit_two_pow_self, Bool.or_true, h] at this
  cases this
theorem tb_or {t k j : Nat} : (t ||| 2 ^ k).testBit j = (t.testBit j || decide (k = j)) := by rw [Nat.testBit_or, Nat.testBit_two_pow]
/-- a number of the row: -1 where there is no sum, else the least -/
def LsV (P : Nat → Prop) (x : Int32) : Prop := (x = -1 ∧ ∀ v, ¬ P v) ∨ ∃ v, x = nI v ∧ v ≤ 1200000 ∧ P v ∧ ∀ u, P u → v ≤ u
theorem LsV.congr {P Q : Nat → Prop} {x : Int32} (h : LsV P x) (e : ∀ v, P v ↔ Q v) : LsV Q x := by
  rcases h with ⟨h1, h2⟩ | ⟨v, h1, h2, h3, h4⟩
  · exact Or.inl ⟨h1, fun v q => h2 v ((e v).mpr q)⟩
  · exact Or.inr ⟨v, h1, h2, (e v).mp h3, fun u q => h4 u ((e u).mpr q)⟩
theorem m1_lt : (-1 : Int32) < 0 := by decide
theorem LsV.neg {P : Nat → Prop} {x : Int32} (h : LsV P x) (hx : x < 0) : x = -1 ∧ ∀ v, ¬ P v := by
  rcases h with h | ⟨v, h1, h2, _⟩
  · exact h
  · rw [h1] at hx
    exact absurd hx (nI_pos (by omega))
theorem LsV.pos {P : Nat → Prop} {x : Int32} (h : LsV P x) (hx : ¬ x < 0) : ∃ v, x = nI v ∧ v ≤ 1200000 ∧ P v ∧ ∀ u, P u → v ≤ u := by
  rcases h with ⟨h, _⟩ | h
  · rw [h] at hx; exact absurd m1_lt hx
  · exact h
theorem LsV.up {P P' Q : Nat → Prop} {x : Int32} {m wb : Nat} (h : LsV P x) (hm : m + wb ≤ 1200000) (hq : Q m) (hl : ∀ u, Q u → m ≤ u) (e : ∀ v, P' v ↔ P v ∨ ∃ u, Q u ∧ v = u + wb) : LsV P' (if x < 0 ∨ nI (m + wb) < x then nI (m + wb) else x) := by
  rcases h with ⟨h1, h2⟩ | ⟨v, h1, h2, h3, h4⟩
  · rw [h1, if_pos (Or.inl m1_lt)]
    refine Or.inr ⟨m + wb, rfl, hm, (e _).mpr (Or.inr ⟨m, hq, rfl⟩), fun u hu => ?_⟩
    rcases (e u).mp hu with q | ⟨y, q, rfl⟩
    · exact absurd q (h2 u)
    · have := hl y q; omega
  · by_cases q : m + wb < v
    · rw [h1, if_pos (Or.inr ((nI_ltI (by omega) (by omega)).mpr q))]
      refine Or.inr ⟨m + wb, rfl, hm, (e _).mpr (Or.inr ⟨m, hq, rfl⟩), fun u hu => ?_⟩
      rcases (e u).mp hu with q2 | ⟨y, q2, rfl⟩
      · have := h4 u q2; omega
      · have := hl y q2; omega
    · rw [h1, if_neg (fun p => by
        rcases p with p | p
        · exact nI_pos (by omega) p
        · exact q ((nI_ltI (by omega) (by omega)).mp p))]
      refine Or.inr ⟨v, rfl, h2, (e _).mpr (Or.inl h3), fun u hu => ?_⟩
      rcases (e u).mp hu with q2 | ⟨y, q2, rfl⟩
      · exact h4 u q2
      · have := hl y q2; omega
/-- what the row holds while the bell b is told: of the sets t that D names (with the note k) the step is done -/
def PS (av : Nat → Bool) (ok : Nat → Nat → Bool) (w : Nat → Nat) (nt n b : Nat) (D : Nat → Nat → Prop) (s v : Nat) : Prop := Ac av ok w nt n b s v ∨ ∃ k t u, nt ≤ k ∧ k < n ∧ t.testBit k = false ∧ s = t ||| 2 ^ k ∧ ok k b = true ∧ Ac av ok w nt n b t u ∧ v = u + w b ∧ D t k
def FI (n : Nat) (P : Nat → Nat → Prop) (f : Nat → Int32) : Prop := ∀ s, s < 2 ^ n → LsV (P s) (f s)
section PSR
variable {av : Nat → Bool} {ok : Nat → Nat → Bool} {w : Nat → Nat} {nt n b : Nat} {f : Nat → Int32}
theorem FI.congr {P Q : Nat → Nat → Prop} (h : FI n P f) (e : ∀ s v, s < 2 ^ n → (P s v ↔ Q s v)) : FI n Q f := fun s hs => (h s hs).congr (fun v => e s v hs)
theorem PS_mono {D E : Nat → Nat → Prop} {s v : Nat} (h : PS av ok w nt n b D s v) (hD : ∀ t k u, nt ≤ k → k < n → t.testBit k = false → ok k b = true → Ac av ok w nt n b t u → D t k → E t k) : PS av ok w nt n b E s v := by
  rcases h with h | ⟨k, t, u, h1, h2, h3, h4, h5, h6, h7, h8⟩
  · exact Or.inl h
  · exact Or.inr ⟨k, t, u, h1, h2, h3, h4, h5, h6, h7, hD t k u h1 h2 h3 h5 h6 h8⟩
theorem FI.dom {D E : Nat → Nat → Prop} (h : FI n (PS av ok w nt n b D) f) (h1 : ∀ t k u, nt ≤ k → k < n → t.testBit k = false → ok k b = true → Ac av ok w nt n b t u → (D t k ↔ E t k)) : FI n (PS av ok w nt n b E) f :=
  h.congr (fun s v _ => ⟨fun q => PS_mono q (fun t k u a1 a2 a3 a4 a5 => (h1 t k u a1 a2 a3 a4 a5).mp), fun q => PS_mono q (fun t k u a1 a2 a3 a4 a5 => (h1 t k u a1 a2 a3 a4 a5).mpr)⟩)
/-- a bell that isn't there, or its beginning -/
theorem FI.begin_ (h : FI n (Ac av ok w nt n b) f) : FI n (PS av ok w nt n b (fun t _ => 2 ^ n ≤ t)) f := h.congr (fun s v hs => ⟨Or.inl, fun q => by
  rcases q with q | ⟨k, t, u, h1, h2, h3, h4, h5, h6, h7, h8⟩
  · exact q
  · have := or_gt h3; omega⟩)
theorem FI.skip (h : FI n (Ac av ok w nt n b) f) (ha : av b = false) : FI n (Ac av ok w nt n (b + 1)) f := h.congr (fun s v _ => ⟨Or.inl, fun q => by
  rcases q with q | ⟨h1, _⟩
  · exact q
  · rw [ha] at h1; cases h1⟩)
theorem FI.end_ (h : FI n (PS av ok w nt n b (fun t _ => 0 ≤ t)) f) (ha : av b = true) : FI n (Ac av ok w nt n (b + 1)) f := h.congr (fun s v _ => by
  constructor
  · rintro (q | ⟨k, t, u, h1, h2, h3, h4, h5, h6, h7, _⟩)
    · exact Or.inl q
    · exact Or.inr ⟨ha, k, t, u, h1, h2, h3, h4, h5, h6, h7⟩
  · rintro (q | ⟨_, k, t, u, h1, h2, h3, h4, h5, h6, h7⟩)
    · exact Or.inl q
    · exact Or.inr ⟨k, t, u, h1, h2, h3, h4, h5, h6, h7, Nat.zero_le _⟩)
/-- at the set c the notes below j are told -/
def Dj (c j : Nat) : Nat → Nat → Prop := fun t k => c + 1 ≤ t ∨ (t = c ∧ k < j)
theorem FI.none {c : Nat} (h : FI n (PS av ok w nt n b (fun t _ => c + 1 ≤ t)) f) (hc : c < 2 ^ n) (hf : f c < 0) : FI n (PS av ok w nt n b (fun t _ => c ≤ t)) f := by
  have h0 := ((h c hc).neg hf).2
  refine h.dom (fun t k u a1 a2 a3 a4 a5 => ⟨fun q => by omega, fun q => ?_⟩)
  rcases Nat.lt_or_ge c t with p | p
  · exact p
  · exact absurd (Or.inl (by rw [show c = t by omega]; exact a5)) (h0 u)
theorem FI.open_ {c : Nat} (h : FI n (PS av ok w nt n b (fun t _ => c + 1 ≤ t)) f) : FI n (PS av ok w nt n b (Dj c nt)) f :=
  h.dom (fun t k u a1 a2 a3 a4 a5 => ⟨fun q => Or.inl q, fun q => by
    rcases q with q | q
    · exact q
    · omega⟩)
theorem FI.close_ {c : Nat} (h : FI n (PS av ok w nt n b (Dj c n)) f) : FI n (PS av ok w nt n b (fun t _ => c ≤ t)) f :=
  h.dom (fun t k u a1 a2 a3 a4 a5 => ⟨fun q => by rcases q with q | q <;> omega, fun q => by
    rcases Nat.lt_or_ge c t with p | p
    · exact Or.inl p
    · exact Or.inr ⟨by omega, a2⟩⟩)
theorem FI.nostep {c j : Nat} (h : FI n (PS av ok w nt n b (Dj c j)) f) (hn : ¬ (c.testBit j = false ∧ ok j b = true)) : FI n (PS av ok w nt n b (Dj c (j + 1))) f :=
  h.dom (fun t k u a1 a2 a3 a4 a5 => ⟨fun q => by
    rcases q with q | q
    · exact Or.inl q
    · exact Or.inr ⟨q.1, by omega⟩, fun q => by
    rcases q with q | ⟨q, q2⟩
    · exact Or.inl q
    · refine Or.inr ⟨q, ?_⟩
      rcases Nat.lt_or_ge k j with p | p
      · exact p
      · have e : k = j := by omega
        rw [q, e] at a3
        rw [e] at a4
        exact absurd ⟨a3, a4⟩ hn⟩)
/-- the row at the set c itself, while it is told -/
theorem FI.here {c j : Nat} (h : FI n (PS av ok w nt n b (Dj c j)) f) (hc : c < 2 ^ n) : LsV (Ac av ok w nt n b c) (f c) := (h c hc).congr (fun v => ⟨fun q => by
  rcases q with q | ⟨k, t, u, h1, h2, h3, h4, h5, h6, h7, h8⟩
  · exact q
  · have := or_gt h3
    rcases h8 with p | p <;> omega, Or.inl⟩)
theorem FI.step {c j : Nat} {mb : Nat} (h : FI n (PS av ok w nt n b (Dj c j)) f) (hc : c < 2 ^ n) (hj : nt ≤ j) (hjn : j < n) (h1 : c.testBit j = false) (h2 : ok j b = true) (hw : ∀ b, b < mb → w b ≤ 44600) (hb : b < mb) (hm : mb ≤ 24) {m : Nat} (hm1 : f c = nI m) (hm2 : m < 2147483648) :
    FI n (PS av ok w nt n b (Dj c (j + 1))) (upd f (c ||| 2 ^ j) (if f (c ||| 2 ^ j) < 0 ∨ nI (m + w b) < f (c ||| 2 ^ j) then nI (m + w b) else f (c ||| 2 ^ j))) := by
  obtain ⟨v, e1, e2, e3, e4⟩ := (h.here hc).pos (by rw [hm1]; exact nI_pos hm2)
  obtain rfl : v = m := (nI_eq (by omega) hm2).mp (e1.symm.trans hm1)
  have hbd := Ac_bd hw b c v (by omega) e3
  have hwb := hw b hb
  have hmul : b * 44600 ≤ 23 * 44600 := Nat.mul_le_mul_right _ (by omega)
  intro s hs
  by_cases q : s = c ||| 2 ^ j
  · rw [q]
    simp only [upd, if_true]
    refine (h (c ||| 2 ^ j) (or_lt hc hjn)).up (Q := Ac av ok w nt n b c) (by omega) e3 e4 (fun x => ⟨fun p => ?_, fun p => ?_⟩)
    · rcases p with p | ⟨k, t, u, g1, g2, g3, g4, g5, g6, g7, g8⟩
      · exact Or.inl (Or.inl p)
      · rcases g8 with g8 | ⟨g8, g9⟩
        · exact Or.inl (Or.inr ⟨k, t, u, g1, g2, g3, g4, g5, g6, g7, Or.inl g8⟩)
        · rcases Nat.lt_or_ge k j with z | z
          · exact Or.inl (Or.inr ⟨k, t, u, g1, g2, g3, g4, g5, g6, g7, Or.inr ⟨g8, z⟩⟩)
          · rw [g8] at g6
            exact Or.inr ⟨u, g6, g7⟩
    · rcases p with p | ⟨u, p, e⟩
      · refine PS_mono p (fun t k u a1 a2 a3 a4 a5 a6 => ?_)
        rcases a6 with a6 | a6
        · exact Or.inl a6
        · exact Or.inr ⟨a6.1, by omega⟩
      · exact Or.inr ⟨j, c, u, hj, hjn, h1, rfl, h2, p, e, Or.inr ⟨rfl, by omega⟩⟩
  · have e : upd f (c ||| 2 ^ j) (if f (c ||| 2 ^ j) < 0 ∨ nI (v + w b) < f (c ||| 2 ^ j) then nI (v + w b) else f (c ||| 2 ^ j)) s = f s := by simp only [upd, if_neg q]
    rw [e]
    refine (h s hs).congr (fun x => ⟨fun p => PS_mono p (fun t k u a1 a2 a3 a4 a5 a6 => ?_), fun p => ?_⟩)
    · rcases a6 with a6 | a6
      · exact Or.inl a6
      · exact Or.inr ⟨a6.1, by omega⟩
    · rcases p with p | ⟨k, t, u, g1, g2, g3, g4, g5, g6, g7, g8⟩
      · exact Or.inl p
      · refine Or.inr ⟨k, t, u, g1, g2, g3, g4, g5, g6, g7, ?_⟩
        rcases g8 with g8 | ⟨g8, g9⟩
        · exact Or.inl g8
        · refine Or.inr ⟨g8, ?_⟩
          rcases Nat.lt_or_ge k j with z | z
          · exact z
          · exfalso
            apply q
            rw [g4, g8, show k = j by omega]
end PSR
theorem FI.init {av : Nat → Bool} {ok : Nat → Nat → Bool} {w : Nat → Nat} {nt n : Nat} {f : Nat → Int32} (h1 : ∀ s, s < 2 ^ n → s ≠ 2 ^ nt - 1 → f s = -1) (h2 : f (2 ^ nt - 1) = 0) : FI n (Ac av ok w nt n 0) f := by
  intro s hs
  by_cases q : s = 2 ^ nt - 1
  · rw [q, h2]
    exact Or.inr ⟨0, rfl, by omega, ⟨rfl, rfl⟩, fun u _ => Nat.zero_le u⟩
  · rw [h1 s hs q]
    exact Or.inl ⟨rfl, fun v p => q p.1⟩
/-! what the sums are -/
def smB (w : Nat → Nat) (a : Nat → Nat) (s nt : Nat) : Nat → Nat
  | 0 => 0
  | k + 1 => smB w a s nt k + if nt ≤ k ∧ s.testBit k = true then w (a k) else 0
theorem smB_congr {w : Nat → Nat} {a a2 : Nat → Nat} {s nt n : Nat} (h : ∀ k, k < n → nt ≤ k → s.testBit k = true → a k = a2 k) : smB w a s nt n = smB w a2 s nt n := by
  induction n with
  | zero => rfl
  | succ n ih =>
    rw [smB, smB, ih (fun k hk => h k (by omega))]
    by_cases q : nt ≤ n ∧ s.testBit n = true
    · rw [if_pos q, if_pos q, h n (by omega) q.1 q.2]
    · rw [if_neg q, if_neg q]
theorem smB_or {w : Nat → Nat} {a : Nat → Nat} {t k nt n : Nat} (h : t.testBit k = false) (hk : nt ≤ k) : smB w a (t ||| 2 ^ k) nt n = smB w a t nt n + if k < n then w (a k) else 0 := by
  induction n with
  | zero => simp only [smB, Nat.not_lt_zero, if_false]
  | succ n ih =>
    rw [smB, smB, ih, tb_or]
    by_cases q : k = n
    · subst q
      have e1 : (if nt ≤ k ∧ (t.testBit k || decide (k = k)) = true then w (a k) else 0) = w (a k) := if_pos ⟨hk, by simp⟩
      have e2 : (if nt ≤ k ∧ t.testBit k = true then w (a k) else 0) = 0 := if_neg (fun p => by rw [h] at p; cases p.2)
      rw [e1, e2, if_neg (Nat.lt_irrefl k), if_pos (Nat.lt_succ_self k)]
    · have e : (t.testBit n || decide (k = n)) = t.testBit n := by simp [q]
      have e3 : (if k < n + 1 then w (a k) else 0) = (if k < n then w (a k) else 0) := by
        by_cases q2 : k < n
        · rw [if_pos q2, if_pos (by omega)]
        · rw [if_neg q2, if_neg (by omega)]
      rw [e, e3]
      omega
/-- a: a bell for each note of s from nt on -/
def Sg (av : Nat → Bool) (ok : Nat → Nat → Bool) (nt n b s : Nat) (a : Nat → Nat) : Prop := (∀ k, nt ≤ k → k < n → s.testBit k = true → a k < b ∧ av (a k) = true ∧ ok k (a k) = true) ∧ ∀ i j, nt ≤ i → i < n → nt ≤ j → j < n → s.testBit i = true → s.testBit j = true → a i = a j → i = j
theorem Ac_Sg {av : Nat → Bool} {ok : Nat → Nat → Bool} {w : Nat → Nat} {nt n : Nat} : ∀ b s v, Ac av ok w nt n b s v → ∃ a, Sg av ok nt n b s a ∧ v = smB w a s nt n := by
  intro b
  induction b with
  | zero =>
    intro s v h
    have hz : ∀ k, nt ≤ k → s.testBit k = false := fun k hk => by
      rw [h.1, Nat.testBit_two_pow_sub_one]
      exact decide_eq_false (by omega)
    refine ⟨fun _ => 0, ⟨fun k h1 _ h3 => ?_, fun i j h1 _ _ _ h3 => ?_⟩, ?_⟩
    · rw [hz k h1] at h3; cases h3
    · rw [hz i h1] at h3; cases h3
    · rw [h.2]
      clear h
      induction n with
      | zero => rfl
      | succ n ih =>
        rw [smB, ← ih, if_neg (fun q => by rw [hz n q.1] at q; cases q.2)]
  | succ b ih =>
    intro s v h
    rcases h with h | ⟨ha, k, t, u, h1, h2, h3, h4, h5, h6, h7⟩
    · obtain ⟨a, h1, h2⟩ := ih s v h
      exact ⟨a, ⟨fun k g1 g2 g3 => by have := h1.1 k g1 g2 g3; exact ⟨by omega, this.2⟩, h1.2⟩, h2⟩
    · obtain ⟨a, g1, g2⟩ := ih t u h6
      have hne : ∀ i, t.testBit i = true → i ≠ k := fun i q p => by rw [p, h3] at q; cases q
      have hbit : ∀ i, s.testBit i = true → i ≠ k → t.testBit i = true := fun i q p => by
        rw [h4, tb_or] at q
        simpa [Ne.symm p] using q
      refine ⟨upf a k b, ⟨fun i i1 i2 i3 => ?_, fun i j i1 i2 j1 j2 i3 j3 e => ?_⟩, ?_⟩
      · by_cases q : i = k
        · rw [q, upf_at]; exact ⟨by omega, ha, h5⟩
        · rw [upf_ne q]
          have := g1.1 i i1 i2 (hbit i i3 q)
          exact ⟨by omega, this.2⟩
      · by_cases q : i = k
        · by_cases p : j = k
          · rw [q, p]
          · rw [q, upf_at, upf_ne p] at e
            have := (g1.1 j j1 j2 (hbit j j3 p)).1
            omega
        · by_cases p : j = k
          · rw [p, upf_at, upf_ne q] at e
            have := (g1.1 i i1 i2 (hbit i i3 q)).1
            omega
          · rw [upf_ne q, upf_ne p] at e
            exact g1.2 i j i1 i2 j1 j2 (hbit i i3 q) (hbit j j3 p) e
      · rw [h7, h4, smB_or h3 h1, if_pos h2, upf_at, g2, smB_congr (a2 := a) (fun i _ _ q => upf_ne (hne i q))]
theorem Sg_Ac {av : Nat → Bool} {ok : Nat → Nat → Bool} {w : Nat → Nat} {nt n : Nat} : ∀ b s a, s < 2 ^ n → (∀ k, k < nt → s.testBit k = true) → Sg av ok nt n b s a → Ac av ok w nt n b s (smB w a s nt n) := by
  intro b
  induction b with
  | zero =>
    intro s a hs hl h
    have hz : ∀ k, nt ≤ k → s.testBit k = false := fun k hk => by
      rcases Nat.lt_or_ge k n with q | q
      · cases e : s.testBit k with
        | false => rfl
        | true => have := (h.1 k hk q e).1; omega
      · exact Nat.testBit_lt_two_pow (Nat.lt_of_lt_of_le hs (Nat.pow_le_pow_right (by omega) q))
    refine ⟨Nat.eq_of_testBit_eq (fun k => ?_), ?_⟩
    · rw [Nat.testBit_two_pow_sub_one]
      by_cases q : k < nt
      · rw [hl k q, decide_eq_true q]
      · rw [hz k (by omega), decide_eq_false q]
    · clear hs h
      induction n with
      | zero => rfl
      | succ n ih => rw [smB, ih, if_neg (fun q => by rw [hz n q.1] at q; cases q.2)]
  | succ b ih =>
    intro s a hs hl h
    by_cases q : ∃ k, nt ≤ k ∧ k < n ∧ s.testBit k = true ∧ a k = b
    · obtain ⟨k, h1, h2, h3, h4⟩ := q
      obtain ⟨g1, g2, g3⟩ := h.1 k h1 h2 h3
      -- the set without k
      have hx : s = (s ^^^ 2 ^ k) ||| 2 ^ k := Nat.eq_of_testBit_eq (fun i => by
        rw [tb_or, Nat.testBit_xor, Nat.testBit_two_pow]
        by_cases p : k = i
        · rw [← p, h3]; simp
        · simp [p])
      have hk : (s ^^^ 2 ^ k).testBit k = false := by rw [Nat.testBit_xor, Nat.testBit_two_pow_self, h3]; rfl
      have hb : ∀ i, i ≠ k → (s ^^^ 2 ^ k).testBit i = s.testBit i := fun i p => by rw [Nat.testBit_xor, Nat.testBit_two_pow]; simp [Ne.symm p]
      have hlt : s ^^^ 2 ^ k < 2 ^ n := Nat.xor_lt_two_pow hs (Nat.pow_lt_pow_right (by omega) h2)
      have := ih (s ^^^ 2 ^ k) a hlt (fun i hi => by rw [hb i (by omega)]; exact hl i hi) ⟨fun i i1 i2 i3 => by
        have hik : i ≠ k := fun p => by rw [p, hk] at i3; cases i3
        rw [hb i hik] at i3
        have g := h.1 i i1 i2 i3
        refine ⟨?_, g.2⟩
        rcases Nat.lt_or_ge (a i) b with z | z
        · exact z
        · exact absurd (h.2 i k i1 i2 h1 h2 i3 h3 (by omega)) hik, fun i j i1 i2 j1 j2 i3 j3 e => by
        have hik : i ≠ k := fun p => by rw [p, hk] at i3; cases i3
        have hjk : j ≠ k := fun p => by rw [p, hk] at j3; cases j3
        rw [hb i hik] at i3
        rw [hb j hjk] at j3
        exact h.2 i j i1 i2 j1 j2 i3 j3 e⟩
      refine Or.inr ⟨by rw [← h4]; exact g2, k, _, _, h1, h2, hk, hx, by rw [← h4]; exact g3, this, ?_⟩
      have e := smB_or (w := w) (a := a) (n := n) hk h1
      rw [← hx, if_pos h2, h4] at e
      exact e
    · refine Or.inl (ih s a hs hl ⟨fun i i1 i2 i3 => ?_, h.2⟩)
      have g := h.1 i i1 i2 i3
      refine ⟨?_, g.2⟩
      rcases Nat.lt_or_ge (a i) b with z | z
      · exact z
      · exact absurd ⟨i, i1, i2, i3, by omega⟩ q
theorem smB_wt {w : Nat → Nat} {a : Nat → Nat} {nt n N : Nat} (h : nt ≤ n) (hN : n ≤ N) : smB w a (2 ^ N - 1) nt n + wt w a nt = wt w a n := by
  induction n with
  | zero => rw [show nt = 0 by omega]; rfl
  | succ n ih =>
    rw [smB]
    rcases Nat.lt_or_ge nt (n + 1) with q | q
    · have := ih (by omega) (by omega)
      rw [if_pos ⟨by omega, by rw [Nat.testBit_two_pow_sub_one]; exact decide_eq_true (by omega)⟩, wt]
      omega
    · obtain rfl : nt = n + 1 := by omega
      have : ∀ m, m ≤ n → smB w a (2 ^ N - 1) (n + 1) m = 0 := by
        intro m
        induction m with
        | zero => intro _; rfl
        | succ m ih => intro hm; rw [smB, ih (by omega), if_neg (fun p => by have := p.1; omega)]
      rw [this n (Nat.le_refl _), if_neg (fun p => by have := p.1; omega)]
      omega
/-- the sums of the whole set: the choices of the notes from nt on -/
theorem Ac_all {av : Nat → Bool} {ok : Nat → Nat → Bool} {w : Nat → Nat} {nt n b v : Nat} (hn : nt ≤ n) : Ac av ok w nt n b (2 ^ n - 1) v ↔ ∃ a, (∀ k, nt ≤ k → k < n → a k < b ∧ av (a k) = true ∧ ok k (a k) = true) ∧ (∀ i j, nt ≤ i → i < n → nt ≤ j → j < n → a i = a j → i = j) ∧ v + wt w a nt = wt w a n := by
  have hbit : ∀ k, k < n → (2 ^ n - 1).testBit k = true := fun k hk => by rw [Nat.testBit_two_pow_sub_one]; exact decide_eq_true hk
  constructor
  · intro h
    obtain ⟨a, h1, h2⟩ := Ac_Sg b _ v h
    refine ⟨a, fun k k1 k2 => h1.1 k k1 k2 (hbit k k2), fun i j i1 i2 j1 j2 => h1.2 i j i1 i2 j1 j2 (hbit i i2) (hbit j j2), ?_⟩
    rw [h2]
    exact smB_wt hn (Nat.le_refl _)
  · rintro ⟨a, h1, h2, h3⟩
    have := Sg_Ac (w := w) b (2 ^ n - 1) a (Nat.sub_lt (Nat.pow_pos (by omega)) (by omega)) (fun k hk => hbit k (by omega)) ⟨fun k k1 k2 _ => h1 k k1 k2, fun i j i1 i2 j1 j2 _ _ => h2 i j i1 i2 j1 j2⟩
    have e := smB_wt (w := w) (a := a) hn (Nat.le_refl n)
    rwa [show smB w a (2 ^ n - 1) nt n = v by omega] at this
