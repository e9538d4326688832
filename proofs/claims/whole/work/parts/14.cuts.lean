/-! ===== cuts: eight numbers, their sum, the order in which they are told ===== -/
def sm (c : Nat → Nat) : Nat → Nat
  | 0 => 0
  | n + 1 => sm c n + c n
def allB (f : Nat → Bool) : Nat → Bool
  | 0 => true
  | n + 1 => allB f n && f n
theorem allB_iff {f : Nat → Bool} {n : Nat} : allB f n = true ↔ ∀ i, i < n → f i = true := by
  induction n with
  | zero => exact ⟨fun _ i h => absurd h (by omega), fun _ => rfl⟩
  | succ n ih =>
    simp only [allB, Bool.and_eq_true, ih]
    constructor
    · rintro ⟨h1, h2⟩ i hi
      rcases Nat.lt_or_ge i n with h | h
      · exact h1 i h
      · rw [show i = n by omega]; exact h2
    · intro h
      exact ⟨fun i hi => h i (by omega), h n (by omega)⟩
theorem allB_no {f : Nat → Bool} {n i : Nat} (hi : i < n) (hf : f i = false) : allB f n = false := by
  cases h : allB f n with
  | false => rfl
  | true => rw [allB_iff.mp h i hi] at hf; cases hf
theorem allB_congr {f g : Nat → Bool} {n : Nat} (h : ∀ i, i < n → f i = g i) : allB f n = allB g n := by
  induction n with
  | zero => rfl
  | succ n ih => rw [allB, allB, ih (fun i hi => h i (by omega)), h n (by omega)]
def dsum (v : Int32) (f g : Nat → Int32) : Nat → Int32
  | 0 => v
  | n + 1 => dsum v f g n - f n * g n
theorem dsum_congr {v v' : Int32} {f f' g g' : Nat → Int32} {n : Nat} (hv : v = v') (hf : ∀ i, i < n → f i = f' i) (hg : ∀ i, i < n → g i = g' i) : dsum v f g n = dsum v' f' g' n := by
  induction n with
  | zero => exact hv
  | succ n ih => rw [dsum, dsum, ih (fun i hi => hf i (by omega)) (fun i hi => hg i (by omega)), hf n (by omega), hg n (by omega)]
theorem wsum_congr {v v' : Int32} {f f' g g' : Nat → Int32} {n : Nat} (hv : v = v') (hf : ∀ i, i < n → f i = f' i) (hg : ∀ i, i < n → g i = g' i) : wsum v f g n = wsum v' f' g' n := by
  induction n with
  | zero => exact hv
  | succ n ih => rw [wsum, wsum, ih (fun i hi => hf i (by omega)) (fun i hi => hg i (by omega)), hf n (by omega), hg n (by omega)]
def lexlt (n : Nat) (c d : Nat → Nat) : Prop := ∃ k, k < n ∧ (∀ i, i < k → c i = d i) ∧ c k < d k
theorem lex_tri (n : Nat) (c d : Nat → Nat) : lexlt n c d ∨ (∀ i, i < n → c i = d i) ∨ lexlt n d c := by
  induction n with
  | zero => exact Or.inr (Or.inl (fun i h => absurd h (by omega)))
  | succ n ih =>
    rcases ih with ⟨k, h1, h2, h3⟩ | h | ⟨k, h1, h2, h3⟩
    · exact Or.inl ⟨k, by omega, h2, h3⟩
    · rcases Nat.lt_trichotomy (c n) (d n) with h4 | h4 | h4
      · exact Or.inl ⟨n, by omega, h, h4⟩
      · refine Or.inr (Or.inl (fun i hi => ?_))
        rcases Nat.lt_or_ge i n with h5 | h5
        · exact h i h5
        · rw [show i = n by omega]; exact h4
      · exact Or.inr (Or.inr ⟨n, by omega, fun i hi => (h i hi).symm, h4⟩)
    · exact Or.inr (Or.inr ⟨k, by omega, h2, h3⟩)
def tunC (T S P : Nat → Int32) (tb : Nat → Nat → Int32) (fr to : Nat → Int32) (c : Nat → Nat) : Bool :=
  allB (fun i => decide (S i ≤ T i - nI (c i))) 8 && allB (fun q => iw (dsum (P q) (tb q) (fun i => nI (c i)) 8) (fr q) (to q)) 5
/-- n cuts, by c, are TUNING's: fewest, and of these the first -/
def First (tun : (Nat → Nat) → Bool) (n : Nat) (c : Nat → Nat) : Prop := sm c 8 = n ∧ tun c = true ∧ (∀ c', sm c' 8 < n → tun c' = false) ∧ ∀ c', sm c' 8 = n → lexlt 8 c' c → tun c' = false
theorem First.uniq {tun : (Nat → Nat) → Bool} {n m : Nat} {c d : Nat → Nat} (h1 : First tun n c) (h2 : First tun m d) : n = m ∧ ∀ i, i < 8 → c i = d i := by
  obtain ⟨a1, a2, a3, a4⟩ := h1
  obtain ⟨b1, b2, b3, b4⟩ := h2
  have hnm : n = m := by
    rcases Nat.lt_trichotomy n m with h | h | h
    · have := b3 c (by omega)
      rw [a2] at this
      cases this
    · exact h
    · have := a3 d (by omega)
      rw [b2] at this
      cases this
  subst hnm
  refine ⟨rfl, ?_⟩
  rcases lex_tri 8 c d with h | h | h
  · have := b4 c a1 h
    rw [a2] at this
    cases this
  · exact h
  · have := a4 d b1 h
    rw [b2] at this
    cases this
theorem sm_congr {c d : Nat → Nat} {n : Nat} (h : ∀ i, i < n → c i = d i) : sm c n = sm d n := by
  induction n with
  | zero => rfl
  | succ n ih => rw [sm, sm, ih (fun i hi => h i (by omega)), h n (by omega)]
theorem sm_mono {c : Nat → Nat} {m n : Nat} (h : m ≤ n) : sm c m ≤ sm c n := by
  induction n with
  | zero => rw [show m = 0 by omega]; exact Nat.le_refl _
  | succ n ih =>
    rcases Nat.lt_or_ge m (n + 1) with h1 | h1
    · have := ih (by omega)
      rw [sm]
      omega
    · rw [show m = n + 1 by omega]; exact Nat.le_refl _
theorem sm_le {c : Nat → Nat} {i n : Nat} (h : i < n) : c i ≤ sm c n := by
  have h1 := sm_mono (c := c) (show i + 1 ≤ n by omega)
  rw [sm] at h1
  omega
theorem tunC_congr {T S P : Nat → Int32} {tb : Nat → Nat → Int32} {fr to : Nat → Int32} {c d : Nat → Nat} (h : ∀ i, i < 8 → c i = d i) : tunC T S P tb fr to c = tunC T S P tb fr to d := by
  have e1 : allB (fun i => decide (S i ≤ T i - nI (c i))) 8 = allB (fun i => decide (S i ≤ T i - nI (d i))) 8 := allB_congr (fun i hi => by rw [h i hi])
  have e2 : allB (fun q => iw (dsum (P q) (tb q) (fun i => nI (c i)) 8) (fr q) (to q)) 5 = allB (fun q => iw (dsum (P q) (tb q) (fun i => nI (d i)) 8) (fr q) (to q)) 5 := allB_congr (fun q _ => by
    rw [dsum_congr (v' := P q) (f' := tb q) (g' := fun i => nI (d i)) rfl (fun _ _ => rfl) (fun i hi => by rw [h i hi])])
  unfold tunC
  rw [e1, e2]
def nxt (c : Nat → Nat) (h : Nat) : Nat → Nat := fun i => if i < h then c i else if i = h then c h + 1 else if i < 7 then 0 else sm c 8 - sm c (h + 1) - 1
theorem nxt_lo {c : Nat → Nat} {h i : Nat} (hi : i < h) : nxt c h i = c i := if_pos hi
theorem nxt_at {c : Nat → Nat} {h : Nat} : nxt c h h = c h + 1 := by simp [nxt]
theorem nxt_mid {c : Nat → Nat} {h i : Nat} (h1 : h < i) (h2 : i < 7) : nxt c h i = 0 := by
  simp only [nxt]
  rw [if_neg (by omega), if_neg (by omega), if_pos h2]
theorem nxt_end {c : Nat → Nat} {h : Nat} (h1 : h < 7) : nxt c h 7 = sm c 8 - sm c (h + 1) - 1 := by
  simp only [nxt]
  rw [if_neg (by omega), if_neg (by omega), if_neg (by omega)]
theorem nxt_sm7 {c : Nat → Nat} {h : Nat} (h1 : h ≤ 6) : ∀ i, h < i → i ≤ 7 → sm (nxt c h) i = sm c (h + 1) + 1 := by
  intro i
  induction i with
  | zero => intro h2; omega
  | succ i ih =>
    intro h2 h3
    rcases Nat.lt_or_ge h i with h4 | h4
    · rw [sm, ih h4 (by omega), nxt_mid h4 (by omega)]
    · obtain rfl : i = h := by omega
      rw [sm, sm_congr (d := c) (fun j hj => nxt_lo hj), nxt_at, sm]
      omega
theorem nxt_sm {c : Nat → Nat} {h : Nat} (h1 : h ≤ 6) (h2 : sm c (h + 1) < sm c 8) : sm (nxt c h) 8 = sm c 8 := by
  rw [show sm (nxt c h) 8 = sm (nxt c h) 7 + nxt c h 7 from rfl, nxt_sm7 h1 7 (by omega) (by omega), nxt_end (by omega)]
  omega
theorem nxt_gt {c : Nat → Nat} {h : Nat} (h1 : h ≤ 6) : lexlt 8 c (nxt c h) := ⟨h, by omega, fun i hi => (nxt_lo hi).symm, by rw [nxt_at]; omega⟩
theorem nxt_between {c c' : Nat → Nat} {h : Nat} (h1 : h ≤ 6) (hz : ∀ j, h < j → j ≤ 6 → sm c 8 = sm c (j + 1)) (hs : sm c' 8 = sm c 8) (hc : lexlt 8 c c') : ¬ lexlt 8 c' (nxt c h) := by
  obtain ⟨d, d1, d2, d3⟩ := hc
  rintro ⟨e, e1, e2, e3⟩
  have hdh : d ≤ h := by
    rcases Nat.lt_or_ge h d with q | q
    · exfalso
      have a1 : sm c' d = sm c d := sm_congr (fun i hi => (d2 i hi).symm)
      have a2 : sm c 8 = sm c (d + 1) := by
        rcases Nat.lt_or_ge d 7 with q2 | q2
        · exact hz d q (by omega)
        · rw [show d = 7 by omega]
      have a3 := sm_mono (c := c') (show d + 1 ≤ 8 by omega)
      have a4 : sm c (d + 1) = sm c d + c d := rfl
      have a5 : sm c' (d + 1) = sm c' d + c' d := rfl
      omega
    · exact q
  rcases Nat.lt_trichotomy e d with q | q | q
  · have := e3
    rw [nxt_lo (by omega), ← d2 e q] at this
    omega
  · subst q
    rcases Nat.lt_or_ge e h with q2 | q2
    · rw [nxt_lo q2] at e3
      omega
    · obtain rfl : e = h := by omega
      rw [nxt_at] at e3
      omega
  · have hd := e2 d q
    rcases Nat.lt_or_ge d h with q2 | q2
    · rw [nxt_lo q2] at hd
      omega
    · obtain rfl : d = h := by omega
      rcases Nat.lt_or_ge e 7 with q3 | q3
      · rw [nxt_mid q q3] at e3
        omega
      · obtain rfl : e = 7 := by omega
        have a1 : sm c' 7 = sm (nxt c d) 7 := sm_congr e2
        have a2 : sm (nxt c d) 7 = sm c (d + 1) + 1 := nxt_sm7 h1 7 (by omega) (by omega)
        have a3 : sm c' 8 = sm c' 7 + c' 7 := rfl
        rw [nxt_end (by omega)] at e3
        omega
theorem nxt_none {c c' : Nat → Nat} (hz : ∀ j, j ≤ 6 → sm c 8 = sm c (j + 1)) (hs : sm c' 8 = sm c 8) : ¬ lexlt 8 c c' := by
  rintro ⟨d, d1, d2, d3⟩
  have a1 : sm c' d = sm c d := sm_congr (fun i hi => (d2 i hi).symm)
  have a2 : sm c 8 = sm c (d + 1) := by
    rcases Nat.lt_or_ge d 7 with q2 | q2
    · exact hz d (by omega)
    · rw [show d = 7 by omega]
  have a3 := sm_mono (c := c') (show d + 1 ≤ 8 by omega)
  have a4 : sm c (d + 1) = sm c d + c d := rfl
  have a5 : sm c' (d + 1) = sm c' d + c' d := rfl
  omega
/-- the first of all cuts of one sum: all at the last height -/
def c0f (n : Nat) : Nat → Nat := fun i => if i = 7 then n else 0
theorem c0f_sm (n : Nat) : sm (c0f n) 8 = n := by simp [sm, c0f]
theorem c0f_first {n : Nat} {c : Nat → Nat} (hs : sm c 8 = n) : ¬ lexlt 8 c (c0f n) := by
  rintro ⟨d, d1, d2, d3⟩
  rcases Nat.lt_or_ge d 7 with q | q
  · simp only [c0f, if_neg (show ¬ d = 7 by omega)] at d3
    omega
  · obtain rfl : d = 7 := by omega
    have a1 : sm c 7 = sm (c0f n) 7 := sm_congr d2
    have a2 : sm (c0f n) 7 = 0 := by simp [sm, c0f]
    have a3 : sm c 8 = sm c 7 + c 7 := rfl
    simp only [c0f, if_true] at d3
    omega
def vl (c : Nat → Nat) : Nat → Nat
  | 0 => 0
  | n + 1 => vl c n * 13 + c n
theorem vl_congr {c d : Nat → Nat} {n : Nat} (h : ∀ i, i < n → c i = d i) : vl c n = vl d n := by
  induction n with
  | zero => rfl
  | succ n ih => rw [vl, vl, ih (fun i hi => h i (by omega)), h n (by omega)]
theorem vl_lt {c d : Nat → Nat} {n : Nat} (h : lexlt n c d) (hc : ∀ i, i < n → c i ≤ 12) : vl c n < vl d n := by
  obtain ⟨k, h1, h2, h3⟩ := h
  have key : ∀ m, k < m → m ≤ n → vl c m < vl d m := by
    intro m
    induction m with
    | zero => intro q; omega
    | succ m ih =>
      intro q1 q2
      rcases Nat.lt_or_ge k m with q | q
      · have := ih q (by omega)
        have := hc m (by omega)
        rw [vl, vl]
        omega
      · obtain rfl : m = k := by omega
        rw [vl, vl, vl_congr h2]
        omega
  exact key n h1 (Nat.le_refl n)
theorem vl_bd {c : Nat → Nat} {n : Nat} (hc : ∀ i, i < n → c i ≤ 12) : vl c n < 13 ^ n := by
  induction n with
  | zero => simp [vl]
  | succ n ih =>
    have := ih (fun i hi => hc i (by omega))
    have := hc n (by omega)
    rw [vl, Nat.pow_succ]
    omega
