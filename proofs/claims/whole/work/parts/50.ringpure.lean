/-! ===== rings: notes, bells, and the least choice ===== -/
def upf (a : Nat → Nat) (i v : Nat) : Nat → Nat := fun j => if j = i then v else a j
theorem upf_at (a : Nat → Nat) (i v : Nat) : upf a i v i = v := if_pos rfl
theorem upf_ne {a : Nat → Nat} {i v j : Nat} (h : j ≠ i) : upf a i v j = a j := if_neg h
def cs (c : Nat → Nat → Nat) (a : Nat → Nat) : Nat → Nat
  | 0 => 0
  | n + 1 => cs c a n + c n (a n)
theorem cs_congr {c : Nat → Nat → Nat} {a b : Nat → Nat} {n : Nat} (h : ∀ i, i < n → a i = b i) : cs c a n = cs c b n := by
  induction n with
  | zero => rfl
  | succ n ih => rw [cs, cs, ih (fun i hi => h i (by omega)), h n (by omega)]
theorem cs_ge {c : Nat → Nat → Nat} {a : Nat → Nat} {i v n : Nat} (h : n ≤ i) : cs c (upf a i v) n = cs c a n :=
  cs_congr (fun j hj => upf_ne (by omega))
theorem cs_up {c : Nat → Nat → Nat} {a : Nat → Nat} {i v n : Nat} (h : i < n) : cs c (upf a i v) n + c i (a i) = cs c a n + c i v := by
  induction n with
  | zero => omega
  | succ n ih =>
    rw [cs, cs]
    rcases Nat.lt_or_ge i n with q | q
    · have := ih q
      rw [upf_ne (show n ≠ i by omega)]
      omega
    · obtain rfl : i = n := by omega
      rw [cs_ge (Nat.le_refl _), upf_at]
      omega
/-- a choice of the first n notes: each has a bell that it may take, no two the same -/
def Va (ok : Nat → Nat → Bool) (n : Nat) (a : Nat → Nat) : Prop := (∀ i, i < n → ok i (a i) = true) ∧ ∀ i j, i < n → j < n → a i = a j → i = j
def Opt (ok : Nat → Nat → Bool) (c : Nat → Nat → Nat) (n : Nat) (a : Nat → Nat) : Prop := Va ok n a ∧ ∀ b, Va ok n b → cs c a n ≤ cs c b n
theorem Va.mono {ok : Nat → Nat → Bool} {n m : Nat} {a : Nat → Nat} (h : Va ok n a) (hm : m ≤ n) : Va ok m a := ⟨fun i hi => h.1 i (by omega), fun i j hi hj => h.2 i j (by omega) (by omega)⟩
theorem cs_mono {c : Nat → Nat → Nat} {a : Nat → Nat} {n m : Nat} (h : m ≤ n) : cs c a m ≤ cs c a n := by
  induction n with
  | zero => rw [show m = 0 by omega]; exact Nat.le_refl _
  | succ n ih =>
    rcases Nat.lt_or_ge m (n + 1) with q | q
    · have := ih (by omega)
      rw [cs]
      omega
    · rw [show m = n + 1 by omega]; exact Nat.le_refl _
theorem Va.up {ok : Nat → Nat → Bool} {n i v : Nat} {a : Nat → Nat} (h : Va ok n a) (hi : i < n) (hv : ok i v = true) (hf : ∀ j, j < n → a j ≠ v) : Va ok n (upf a i v) := by
  refine ⟨fun j hj => ?_, fun j k hj hk e => ?_⟩
  · by_cases q : j = i
    · rw [q, upf_at]; exact hv
    · rw [upf_ne q]; exact h.1 j hj
  · by_cases q : j = i
    · by_cases p : k = i
      · rw [q, p]
      · rw [q, upf_at, upf_ne p] at e; exact absurd e.symm (hf k hk)
    · by_cases p : k = i
      · rw [p, upf_at, upf_ne q] at e; exact absurd e (hf j hj)
      · rw [upf_ne q, upf_ne p] at e; exact h.2 j k hj hk e
/-- the walks of a chain: the note n takes a bell, whose holder takes another .. -/
def Wk (ok : Nat → Nat → Bool) (c : Nat → Nat → Nat) (a : Nat → Nat) (n : Nat) : Nat → Nat → Int → Prop
  | 0, _, _ => False
  | k + 1, b, v => (k = 0 ∧ ok n b = true ∧ v = c n b) ∨ ∃ x i u, Wk ok c a n k x u ∧ i < n ∧ a i = x ∧ ok i b = true ∧ v = u - c i x + c i b
theorem Wk.one {ok : Nat → Nat → Bool} {c : Nat → Nat → Nat} {a : Nat → Nat} {n b : Nat} (h : ok n b = true) : Wk ok c a n 1 b (c n b) := Or.inl ⟨rfl, h, rfl⟩
theorem Wk.step {ok : Nat → Nat → Bool} {c : Nat → Nat → Nat} {a : Nat → Nat} {n k x i b : Nat} {v : Int} (h1 : Wk ok c a n k x v) (h2 : i < n) (h3 : a i = x) (h4 : ok i b = true) : Wk ok c a n (k + 1) b (v - c i x + c i b) := Or.inr ⟨x, i, v, h1, h2, h3, h4, rfl⟩
theorem Wk.cas {ok : Nat → Nat → Bool} {c : Nat → Nat → Nat} {a : Nat → Nat} {n k b : Nat} {v : Int} (h : Wk ok c a n k b v) : (k = 1 ∧ ok n b = true ∧ v = c n b) ∨ ∃ j x i u, k = j + 1 ∧ 0 < j ∧ Wk ok c a n j x u ∧ i < n ∧ a i = x ∧ ok i b = true ∧ v = u - c i x + c i b := by
  cases k with
  | zero => exact False.elim h
  | succ k =>
    rcases h with ⟨h1, h2, h3⟩ | ⟨x, i, u, h1, h2⟩
    · exact Or.inl ⟨by omega, h2, h3⟩
    · refine Or.inr ⟨k, x, i, u, rfl, ?_, h1, h2⟩
      cases k with
      | zero => exact False.elim h1
      | succ k => omega
def dif (b a : Nat → Nat) : Nat → Nat
  | 0 => 0
  | n + 1 => dif b a n + if b n = a n then 0 else 1
theorem dif_congr {a b b2 : Nat → Nat} {n : Nat} (h : ∀ i, i < n → b i = b2 i) : dif b a n = dif b2 a n := by
  induction n with
  | zero => rfl
  | succ n ih => rw [dif, dif, ih (fun i hi => h i (by omega)), h n (by omega)]
theorem dif_up {a b : Nat → Nat} {i n : Nat} (hi : i < n) (hne : b i ≠ a i) : dif (upf b i (a i)) a n + 1 = dif b a n := by
  induction n with
  | zero => omega
  | succ n ih =>
    rw [dif, dif]
    rcases Nat.lt_or_ge i n with q | q
    · have := ih q
      rw [upf_ne (show n ≠ i by omega)]
      omega
    · obtain rfl : i = n := by omega
      rw [dif_congr (b := upf b i (a i)) (b2 := b) (fun j hj => upf_ne (by omega)), upf_at, if_pos rfl, if_neg hne]
theorem dif_le {a b : Nat → Nat} {n : Nat} : dif b a n ≤ n := by
  induction n with
  | zero => exact Nat.le_refl _
  | succ n ih => rw [dif]; split <;> omega
theorem dif_lt {a b : Nat → Nat} {n i : Nat} (hi : i < n) (h : b i = a i) : dif b a n + 1 ≤ n := by
  induction n with
  | zero => omega
  | succ n ih =>
    rw [dif]
    rcases Nat.lt_or_ge i n with q | q
    · have := ih q; split <;> omega
    · obtain rfl : i = n := by omega
      rw [if_pos h]
      have := dif_le (a := a) (b := b) (n := i)
      omega
def NO : Int := 4611686018427387904
/-- all walks of at most m moves are reached -/
def WB (ok : Nat → Nat → Bool) (c : Nat → Nat → Nat) (a : Nat → Nat) (n m : Nat) (R : Nat → Int) : Prop := ∀ k b v, k ≤ m → Wk ok c a n k b v → R b ≤ v ∧ R b < NO
theorem ring_lb {ok : Nat → Nat → Bool} {c : Nat → Nat → Nat} {a : Nat → Nat} {n : Nat} {R : Nat → Int} (hA : Opt ok c n a) (hW : WB ok c a n n R) :
    ∀ d k B b v, Va ok n B → (∀ i, i < n → B i ≠ b) → Wk ok c a n k b v → dif B a n = d → k + d ≤ n → ∃ e, (∀ i, i < n → a i ≠ e) ∧ R e < NO ∧ R e + cs c a n ≤ v + cs c B n := by
  intro d
  induction d with
  | zero =>
    intro k B b v hB hf hw hd hk
    by_cases hfr : ∀ i, i < n → a i ≠ b
    · have := hW k b v (by omega) hw
      have := hA.2 B hB
      exact ⟨b, hfr, by omega, by omega⟩
    · exfalso
      apply hfr
      intro i hi e
      have : B i ≠ a i := fun q => hf i hi (by rw [q, e])
      have := dif_up hi this
      omega
  | succ d ih =>
    intro k B b v hB hf hw hd hk
    by_cases hfr : ∀ i, i < n → a i ≠ b
    · have := hW k b v (by omega) hw
      have := hA.2 B hB
      exact ⟨b, hfr, by omega, by omega⟩
    · obtain ⟨i, hi⟩ := Classical.not_forall.mp hfr
      obtain ⟨hi, e⟩ : i < n ∧ a i = b := by
        rcases Classical.not_imp.mp hi with ⟨h1, h2⟩
        exact ⟨h1, Classical.not_not.mp h2⟩
      have hne : B i ≠ a i := fun q => hf i hi (by rw [q, e])
      have hd2 := dif_up hi hne
      rw [e] at hd2
      have hok : ok i b = true := by rw [← e]; exact hA.1.1 i hi
      obtain ⟨x, h1, h2, h3⟩ := ih (k + 1) (upf B i b) (B i) _ (hB.up hi hok hf) (fun j hj q => by
        by_cases p : j = i
        · rw [p, upf_at] at q
          exact hf i hi q.symm
        · rw [upf_ne p] at q
          exact p (hB.2 j i hj hi q)) (Wk.step hw hi e (hB.1 i hi)) (by omega) (by omega)
      refine ⟨x, h1, h2, ?_⟩
      have := cs_up (c := c) (a := B) (v := b) hi
      omega
/-- what a chain costs at least, over all choices of a note more -/
theorem ring_lb1 {ok : Nat → Nat → Bool} {c : Nat → Nat → Nat} {a : Nat → Nat} {n f : Nat} {R : Nat → Int} (hA : Opt ok c n a) (hW : WB ok c a n n R) (hn : 0 < n) (h0 : ∀ b, ok 0 b = true → b = f) {B : Nat → Nat} (hB : Va ok (n + 1) B) :
    ∃ e, (∀ i, i < n → a i ≠ e) ∧ R e < NO ∧ R e + cs c a n ≤ cs c B (n + 1) := by
  have e0 : B 0 = a 0 := by rw [h0 _ (hB.1 0 (by omega)), h0 _ (hA.1.1 0 hn)]
  obtain ⟨e, h1, h2, h3⟩ := ring_lb hA hW (dif B a n) 1 B (B n) _ (hB.mono (by omega)) (fun i hi q => absurd (hB.2 i n (by omega) (by omega) q) (by omega)) (Wk.one (hB.1 n (by omega))) rfl (by have := dif_lt hn e0; omega)
  refine ⟨e, h1, h2, ?_⟩
  rw [cs]
  omega
/-- a round: every holder that was reached has let its bell go -/
def RND (ok : Nat → Nat → Bool) (c : Nat → Nat → Nat) (a : Nat → Nat) (n : Nat) (R0 R : Nat → Int) : Prop := ∀ i b, i < n → R0 (a i) < NO → ok i b = true → R b ≤ R0 (a i) - c i (a i) + c i b ∧ R b < NO
theorem WB.rnd {ok : Nat → Nat → Bool} {c : Nat → Nat → Nat} {a : Nat → Nat} {n m : Nat} {R0 R : Nat → Int} (h : WB ok c a n m R0) (hle : ∀ b, R b ≤ R0 b) (hr : RND ok c a n R0 R) (hm : 0 < m) : WB ok c a n (m + 1) R := by
  intro k b v hk hw
  rcases hw.cas with ⟨hk1, h1, hv1⟩ | ⟨j, x, i, u, hk1, hj, h1, h2, h3, h4, hv1⟩
  · have := h 1 b _ (by omega) (Wk.one h1)
    have := hle b
    omega
  · have h5 := h j x u (by omega) h1
    have h6 := hr i b h2 (by rw [h3]; exact h5.2) h4
    rw [h3] at h6
    omega
theorem WB.fix {ok : Nat → Nat → Bool} {c : Nat → Nat → Nat} {a : Nat → Nat} {n : Nat} {R : Nat → Int} (h : WB ok c a n 1 R) (hr : RND ok c a n R R) (m : Nat) : WB ok c a n (m + 1) R := by
  induction m with
  | zero => exact h
  | succ m ih => exact ih.rnd (fun _ => Int.le_refl _) hr (by omega)
/-- where each reached bell was reached from -/
def BFI (ok : Nat → Nat → Bool) (c : Nat → Nat → Nat) (a : Nat → Nat) (n : Nat) (R : Nat → Int) (F : Nat → Option Nat) : Prop :=
  ∀ b, R b ≤ NO ∧ (R b < NO → (F b = none ∧ ok n b = true ∧ R b = c n b) ∨ ∃ i, i < n ∧ F b = some (a i) ∧ a i ≠ b ∧ R (a i) < NO ∧ ok i b = true ∧ R (a i) - c i (a i) + c i b ≤ R b)
def rlx (ok : Nat → Nat → Bool) (c : Nat → Nat → Nat) (i : Nat) (s : Int) (R : Nat → Int) : Nat → Int := fun b => if ok i b = true ∧ s + c i b < R b then s + c i b else R b
def rlxF (ok : Nat → Nat → Bool) (c : Nat → Nat → Nat) (i : Nat) (s : Int) (R : Nat → Int) (f : Option Nat) (F : Nat → Option Nat) : Nat → Option Nat := fun b => if ok i b = true ∧ s + c i b < R b then f else F b
theorem rlx_le {ok : Nat → Nat → Bool} {c : Nat → Nat → Nat} {i : Nat} {s : Int} {R : Nat → Int} (b : Nat) : rlx ok c i s R b ≤ R b := by
  unfold rlx
  split
  · omega
  · exact Int.le_refl _
theorem rlx_to {ok : Nat → Nat → Bool} {c : Nat → Nat → Nat} {i : Nat} {s : Int} {R : Nat → Int} {b : Nat} (h : ok i b = true) : rlx ok c i s R b ≤ s + c i b := by
  unfold rlx
  split
  · exact Int.le_refl _
  · rename_i q
    exact Int.not_lt.mp (fun p => q ⟨h, p⟩)
theorem BFI.step {ok : Nat → Nat → Bool} {c : Nat → Nat → Nat} {a : Nat → Nat} {n i : Nat} {R : Nat → Int} {F : Nat → Option Nat} (h : BFI ok c a n R F) (hi : i < n) (hx : R (a i) < NO) :
    BFI ok c a n (rlx ok c i (R (a i) - c i (a i)) R) (rlxF ok c i (R (a i) - c i (a i)) R (some (a i)) F) := by
  intro b
  refine ⟨Int.le_trans (rlx_le b) (h b).1, fun hb => ?_⟩
  have hxx : rlx ok c i (R (a i) - c i (a i)) R (a i) = R (a i) := by
    unfold rlx
    rw [if_neg (fun q => by omega)]
  by_cases q : ok i b = true ∧ R (a i) - c i (a i) + c i b < R b
  · right
    have e1 : rlx ok c i (R (a i) - c i (a i)) R b = R (a i) - c i (a i) + c i b := by unfold rlx; rw [if_pos q]
    have e2 : rlxF ok c i (R (a i) - c i (a i)) R (some (a i)) F b = some (a i) := by unfold rlxF; rw [if_pos q]
    refine ⟨i, hi, e2, fun p => ?_, by rw [hxx]; exact hx, q.1, by rw [hxx, e1]; exact Int.le_refl _⟩
    rw [p] at q
    omega
  · have e1 : rlx ok c i (R (a i) - c i (a i)) R b = R b := by unfold rlx; rw [if_neg q]
    have e2 : rlxF ok c i (R (a i) - c i (a i)) R (some (a i)) F b = F b := by unfold rlxF; rw [if_neg q]
    rw [e1] at hb ⊢
    rw [e2]
    rcases (h b).2 hb with h1 | ⟨j, h1, h2, h3, h4, h5, h6⟩
    · exact Or.inl h1
    · have := rlx_le (ok := ok) (c := c) (i := i) (s := R (a i) - c i (a i)) (R := R) (a j)
      exact Or.inr ⟨j, h1, h2, h3, by omega, h5, by omega⟩
theorem BFI.start {ok : Nat → Nat → Bool} {c : Nat → Nat → Nat} {a : Nat → Nat} {n : Nat} {F : Nat → Option Nat} :
    BFI ok c a n (rlx ok c n 0 (fun _ => NO)) (rlxF ok c n 0 (fun _ => NO) none F) := by
  intro b
  refine ⟨rlx_le b, fun hb => Or.inl ?_⟩
  by_cases q : ok n b = true ∧ (0 : Int) + c n b < NO
  · refine ⟨by unfold rlxF; rw [if_pos q], q.1, by unfold rlx; rw [if_pos q]; omega⟩
  · unfold rlx at hb
    rw [if_neg q] at hb
    exact absurd hb (Int.lt_irrefl _)
theorem WB.start {ok : Nat → Nat → Bool} {c : Nat → Nat → Nat} {a : Nat → Nat} {n : Nat} (hc : ∀ b, ok n b = true → (c n b : Int) < NO) : WB ok c a n 1 (rlx ok c n 0 (fun _ => NO)) := by
  intro k b v hk hw
  rcases hw.cas with ⟨hk1, h1, hv1⟩ | ⟨j, x, i, u, hk1, hj, h1, h2, h3, h4, hv1⟩
  · have := rlx_to (c := c) (s := 0) (R := fun _ => NO) h1
    have := hc b h1
    omega
  · omega
/-- who holds a bell (the first note's is not told) -/
def Hd (n : Nat) (a : Nat → Nat) (H : Nat → Option Nat) : Prop := ∀ b i, H b = some i ↔ 0 < i ∧ i < n ∧ a i = b
/-- a chain of m moves, told from its end: the holder of β (l + 1) takes β l -/
def Ch (ok : Nat → Nat → Bool) (c : Nat → Nat → Nat) (a : Nat → Nat) (n : Nat) (R : Nat → Int) (β : Nat → Nat) (m : Nat) : Prop :=
  (∀ l, l < m → ∃ i, i < n ∧ a i = β (l + 1) ∧ ok i (β l) = true ∧ R (β (l + 1)) - c i (β (l + 1)) + c i (β l) ≤ R (β l)) ∧ ∀ l k, l < k → k ≤ m → β l ≠ β k
/-- the choice behind m moves of a chain, begun at a0 -/
def RunP (ok : Nat → Nat → Bool) (c : Nat → Nat → Nat) (a : Nat → Nat) (n : Nat) (R : Nat → Int) (β : Nat → Nat) (a0 : Nat → Nat) (m : Nat) (a' : Nat → Nat) : Prop :=
  (∀ i j, i < n → j < n → a' i = a' j → i = j) ∧ (∀ i, i < n → a' i ≠ β m) ∧ (∀ i, i < n → ok i (a0 i) = true → ok i (a' i) = true) ∧ (∀ i, i < n → (∀ l, l < m → a i ≠ β (l + 1)) → a' i = a0 i) ∧
      (∀ i l, i < n → l < m → a i = β (l + 1) → a' i = β l) ∧ (cs c a' n : Int) + R (β m) ≤ cs c a0 n + R (β 0)
theorem RunP.step {ok : Nat → Nat → Bool} {c : Nat → Nat → Nat} {a : Nat → Nat} {n : Nat} {R : Nat → Int} {β : Nat → Nat} {a0 a' : Nat → Nat} {m : Nat} (h : RunP ok c a n R β a0 m a') (hinj : ∀ i j, i < n → j < n → a i = a j → i = j) (hc : Ch ok c a n R β (m + 1))
    (h3 : ∀ i l, i < n → l < m + 1 → a i = β (l + 1) → a0 i = a i) {s : Nat} (hs : s < n) (es : a s = β (m + 1)) (hok : ok s (β m) = true) (hle : R (β (m + 1)) - c s (β (m + 1)) + c s (β m) ≤ R (β m)) : a' s = β (m + 1) ∧ RunP ok c a n R β a0 (m + 1) (upf a' s (β m)) := by
  obtain ⟨g1, g2, g3, g4, g5, g6⟩ := h
  have hs0 : a' s = β (m + 1) := by
    rw [g4 s hs (fun l hl q => hc.2 (l + 1) (m + 1) (by omega) (by omega) (by rw [← q, es])), h3 s m hs (by omega) es, es]
  refine ⟨hs0, fun i j hi hj e => ?_, fun i hi q => ?_, fun i hi ho => ?_, fun i hi hl => ?_, fun i l hi hl e => ?_, ?_⟩
  · by_cases p : i = s
    · by_cases q : j = s
      · rw [p, q]
      · rw [p, upf_at, upf_ne q] at e; exact absurd e.symm (g2 j hj)
    · by_cases q : j = s
      · rw [q, upf_at, upf_ne p] at e; exact absurd e (g2 i hi)
      · rw [upf_ne p, upf_ne q] at e; exact g1 i j hi hj e
  · by_cases p : i = s
    · rw [p, upf_at] at q
      exact hc.2 m (m + 1) (by omega) (by omega) q
    · rw [upf_ne p, ← hs0] at q
      exact p (g1 i s hi hs q)
  · by_cases p : i = s
    · rw [p, upf_at]; exact hok
    · rw [upf_ne p]; exact g3 i hi ho
  · have p : i ≠ s := fun q => hl m (by omega) (by rw [q, es])
    rw [upf_ne p]
    exact g4 i hi (fun l hl2 => hl l (by omega))
  · by_cases p : i = s
    · rw [p, es] at e
      have : l = m := by
        rcases Nat.lt_trichotomy l m with q | q | q
        · exact absurd e.symm (hc.2 (l + 1) (m + 1) (by omega) (by omega))
        · exact q
        · omega
      rw [p, upf_at, this]
    · rw [upf_ne p]
      have : l < m := by
        rcases Nat.lt_or_ge l m with q | q
        · exact q
        · exfalso
          rw [show l = m by omega, ← es] at e
          exact p (hinj i s hi hs e)
      exact g5 i l hi this e
  · have := cs_up (c := c) (a := a') (v := β m) hs
    rw [hs0] at this
    omega
theorem Ch.run {ok : Nat → Nat → Bool} {c : Nat → Nat → Nat} {a : Nat → Nat} {n : Nat} {R : Nat → Int} {β : Nat → Nat} (a0 : Nat → Nat) (hinj : ∀ i j, i < n → j < n → a i = a j → i = j) :
    ∀ m, Ch ok c a n R β m → (∀ i j, i < n → j < n → a0 i = a0 j → i = j) → (∀ i, i < n → a0 i ≠ β 0) → (∀ i l, i < n → l < m → a i = β (l + 1) → a0 i = a i) → ∃ a', RunP ok c a n R β a0 m a' := by
  intro m
  induction m with
  | zero =>
    intro _ h1 h2 _
    exact ⟨a0, h1, h2, fun _ _ h => h, fun _ _ _ => rfl, fun _ _ _ h => absurd h (by omega), Int.le_refl _⟩
  | succ m ih =>
    intro hc h1 h2 h3
    obtain ⟨a', g⟩ := ih ⟨fun l hl => hc.1 l (by omega), fun l k h h' => hc.2 l k h (by omega)⟩ h1 h2 (fun i l hi hl => h3 i l hi (by omega))
    obtain ⟨s, hs, es, hok, hle⟩ := hc.1 m (by omega)
    exact ⟨_, (g.step hinj hc h3 hs es hok hle).2⟩
/-- a chain comes to no bell again -/
theorem Ch.fresh {ok : Nat → Nat → Bool} {c : Nat → Nat → Nat} {a : Nat → Nat} {n : Nat} {R : Nat → Int} {β : Nat → Nat} {m : Nat} (hA : Opt ok c n a) (hD : ∀ b, Va ok n b → cs c b n = cs c a n → ∀ i, i < n → b i = a i) (hlt : ∀ i, i < n → a i < 24) (hb : ∀ l, l ≤ m → β l < 24)
    (hc : Ch ok c a n R β m) (h0 : ∀ i, i < n → a i ≠ β 0) (hs : ∃ i, i < n ∧ a i = β (m + 1) ∧ ok i (β m) = true ∧ R (β (m + 1)) - c i (β (m + 1)) + c i (β m) ≤ R (β m)) (hne : β (m + 1) ≠ β m) : Ch ok c a n R β (m + 1) := by
  refine ⟨fun l hl => ?_, fun l k h h' => ?_⟩
  · rcases Nat.lt_or_ge l m with q | q
    · exact hc.1 l q
    · rw [show l = m by omega]; exact hs
  · rcases Nat.lt_or_ge k (m + 1) with q | q
    · exact hc.2 l k h (by omega)
    · obtain rfl : k = m + 1 := by omega
      intro e
      obtain ⟨s, hsn, es, hok, hle⟩ := hs
      rcases Nat.eq_zero_or_pos l with z | z
      · rw [z] at e
        exact h0 s hsn (by rw [es, e])
      · have hlm : l < m := by
          rcases Nat.lt_or_ge l m with q | q
          · exact q
          · rw [show l = m by omega] at e; exact absurd e.symm hne
        -- the cycle from β l round to itself
        have hch : Ch ok c a n R (fun k => β (l + k)) (m - l) := ⟨fun k hk => by
          have := hc.1 (l + k) (by omega)
          exact this, fun k k' h1 h2 => hc.2 (l + k) (l + k') (by omega) (by omega)⟩
        have hes : a s = β l := by rw [es, ← e]
        obtain ⟨a', g1, g2, g3, g4, -, g6⟩ := Ch.run (upf a s 1000) hA.1.2 (m - l) hch (fun i j hi hj e => by
            by_cases p : i = s
            · by_cases q : j = s
              · rw [p, q]
              · rw [p, upf_at, upf_ne q] at e; have := hlt j hj; omega
            · by_cases q : j = s
              · rw [q, upf_at, upf_ne p] at e; have := hlt i hi; omega
              · rw [upf_ne p, upf_ne q] at e; exact hA.1.2 i j hi hj e)
          (fun i hi q => by
            have q : upf a s 1000 i = β l := q
            by_cases p : i = s
            · rw [p, upf_at] at q; have := hb l (by omega); omega
            · rw [upf_ne p, ← hes] at q; exact p (hA.1.2 i s hi hsn q))
          (fun i k hi hk q => by
            have q : a i = β (l + (k + 1)) := q
            refine upf_ne (fun p => ?_)
            rw [p, hes] at q
            exact hc.2 l (l + (k + 1)) (by omega) (by omega) q)
        have hss : a' s = 1000 := by
          rw [g4 s hsn (fun k hk q => by
            have q : a s = β (l + (k + 1)) := q
            rw [hes] at q
            exact hc.2 l (l + (k + 1)) (by omega) (by omega) q), upf_at]
        have g2 : ∀ i, i < n → a' i ≠ β m := fun i hi => by
          have := g2 i hi
          have this : a' i ≠ β (l + (m - l)) := this
          rwa [show l + (m - l) = m by omega] at this
        have g6 : (cs c a' n : Int) + R (β m) ≤ cs c (upf a s 1000) n + R (β l) := by
          have this : (cs c a' n : Int) + R (β (l + (m - l))) ≤ cs c (upf a s 1000) n + R (β l) := g6
          rwa [show l + (m - l) = m by omega] at this
        have hv : Va ok n (upf a' s (β m)) := by
          refine ⟨fun i hi => ?_, fun i j hi hj e => ?_⟩
          · by_cases p : i = s
            · rw [p, upf_at]; exact hok
            · rw [upf_ne p]
              refine g3 i hi ?_
              rw [upf_ne p]
              exact hA.1.1 i hi
          · by_cases p : i = s
            · by_cases q : j = s
              · rw [p, q]
              · rw [p, upf_at, upf_ne q] at e; exact absurd e.symm (g2 j hj)
            · by_cases q : j = s
              · rw [q, upf_at, upf_ne p] at e; exact absurd e (g2 i hi)
              · rw [upf_ne p, upf_ne q] at e; exact g1 i j hi hj e
        have k1 := cs_up (c := c) (a := a) (v := 1000) hsn
        have k2 := cs_up (c := c) (a := a') (v := β m) hsn
        rw [hss] at k2
        rw [hes] at k1
        rw [← e] at hle
        have k3 := hA.2 _ hv
        have k4 := hD _ hv (by omega) s hsn
        rw [upf_at, hes] at k4
        exact hc.2 l m hlm (Nat.le_refl _) k4.symm
/-- no more moves than holders -/
theorem pigeon : ∀ (n m : Nat) (f : Nat → Nat), (∀ l, l < m → f l < n) → (∀ l k, l < k → k < m → f l ≠ f k) → m ≤ n := by
  intro n
  induction n with
  | zero =>
    intro m f h _
    rcases Nat.eq_zero_or_pos m with q | q
    · omega
    · have := h 0 q; omega
  | succ n ih =>
    intro m f h hi
    rcases Nat.eq_zero_or_pos m with q | q
    · omega
    · -- put the last value where n stands
      have := ih (m - 1) (fun l => if f l = n then f (m - 1) else f l) (fun l hl => by
        show (if f l = n then f (m - 1) else f l) < n
        have h1 := h l (by omega)
        have h2 := h (m - 1) (by omega)
        have h3 := hi l (m - 1) (by omega) (by omega)
        split <;> omega) (fun l k hlk hk => by
        show (if f l = n then f (m - 1) else f l) ≠ (if f k = n then f (m - 1) else f k)
        have h3 := hi l (m - 1) (by omega) (by omega)
        have h4 := hi k (m - 1) (by omega) (by omega)
        have h5 := hi l k hlk (by omega)
        split <;> split <;> omega)
      omega
theorem Ch.len {ok : Nat → Nat → Bool} {c : Nat → Nat → Nat} {a : Nat → Nat} {n f : Nat} {R : Nat → Int} {β : Nat → Nat} {m : Nat} (hc : Ch ok c a n R β m) (hn : 0 < n) (h0 : ok 0 f = true) (h1 : ∀ b, ok 0 b = true → b = f) (hf : ∀ l, l ≤ m → β l ≠ f) : m + 1 ≤ n := by
  have hex : ∀ l, ∃ i, l < m → i < n ∧ 0 < i ∧ a i = β (l + 1) := fun l => by
    by_cases q : l < m
    · obtain ⟨i, hi, e, ho, -⟩ := hc.1 l q
      refine ⟨i, fun _ => ⟨hi, ?_, e⟩⟩
      rcases Nat.eq_zero_or_pos i with z | z
      · rw [z] at ho
        exact absurd (h1 _ ho) (hf l (by omega))
      · exact z
    · exact ⟨0, fun h => absurd h q⟩
  have := pigeon (n - 1) m (fun l => (hex l).choose - 1) (fun l hl => by
    have := (hex l).choose_spec hl
    show (hex l).choose - 1 < n - 1
    omega) (fun l k hlk hk e => by
    have e : (hex l).choose - 1 = (hex k).choose - 1 := e
    have p1 := (hex l).choose_spec (by omega)
    have p2 := (hex k).choose_spec hk
    have e2 : (hex l).choose = (hex k).choose := by omega
    refine hc.2 (l + 1) (k + 1) (by omega) (by omega) ?_
    rw [← p1.2.2, ← p2.2.2, e2])
  omega
/-- the state of the passing on: behind m moves -/
def PA (ok : Nat → Nat → Bool) (c : Nat → Nat → Nat) (a : Nat → Nat) (n : Nat) (R : Nat → Int) (β : Nat → Nat) (m : Nat) (H : Nat → Option Nat) : Prop :=
  Ch ok c a n R β m ∧ ∃ a', RunP ok c a n R β a m a' ∧ ∀ b i, b ≠ β m → (H b = some i ↔ 0 < i ∧ i < n ∧ a' i = b)
def upH (H : Nat → Option Nat) (b : Nat) (v : Option Nat) : Nat → Option Nat := fun x => if x = b then v else H x
theorem PA.step {ok : Nat → Nat → Bool} {c : Nat → Nat → Nat} {a : Nat → Nat} {n : Nat} {R : Nat → Int} {β : Nat → Nat} {m : Nat} {H : Nat → Option Nat} (h : PA ok c a n R β m H) (hc : Ch ok c a n R β (m + 1)) (hinj : ∀ i j, i < n → j < n → a i = a j → i = j)
    {s : Nat} (hs : s < n) (hs0 : 0 < s) (es : a s = β (m + 1)) (hok : ok s (β m) = true) (hle : R (β (m + 1)) - c s (β (m + 1)) + c s (β m) ≤ R (β m)) : H (β (m + 1)) = some s ∧ PA ok c a n R β (m + 1) (upH H (β m) (some s)) := by
  obtain ⟨-, a', hr, hh⟩ := h
  obtain ⟨e1, hr2⟩ := hr.step hinj hc (fun _ _ _ _ _ => rfl) hs es hok hle
  have hne : β (m + 1) ≠ β m := fun q => hc.2 m (m + 1) (by omega) (Nat.le_refl _) q.symm
  refine ⟨(hh _ s hne).mpr ⟨hs0, hs, e1⟩, hc, _, hr2, fun b i hb => ?_⟩
  unfold upH
  by_cases q : b = β m
  · rw [if_pos q, q]
    constructor
    · intro e
      obtain rfl : s = i := Option.some.inj e
      exact ⟨hs0, hs, upf_at _ _ _⟩
    · rintro ⟨h1, h2, h3⟩
      by_cases p : i = s
      · rw [p]
      · rw [upf_ne p] at h3
        exact absurd h3 (hr.2.1 i h2)
  · rw [if_neg q, hh b i q]
    by_cases p : i = s
    · rw [p, e1, upf_at]
      exact ⟨fun h => absurd h.2.2.symm hb, fun h => absurd h.2.2.symm q⟩
    · rw [upf_ne p]
theorem PA.last {ok : Nat → Nat → Bool} {c : Nat → Nat → Nat} {a : Nat → Nat} {n f : Nat} {R : Nat → Int} {β : Nat → Nat} {m : Nat} {H : Nat → Option Nat} (h : PA ok c a n R β m H) (hA : Va ok n a) (hn : 0 < n) (hok : ok n (β m) = true) (hr : R (β m) = c n (β m)) :
    ∃ a2, Va ok (n + 1) a2 ∧ Hd (n + 1) a2 (upH H (β m) (some n)) ∧ (cs c a2 (n + 1) : Int) ≤ cs c a n + R (β 0) := by
  obtain ⟨-, a', ⟨g1, g2, g3, g4, g5, g6⟩, hh⟩ := h
  refine ⟨upf a' n (β m), ⟨fun i hi => ?_, fun i j hi hj e => ?_⟩, fun b i => ?_, ?_⟩
  · by_cases p : i = n
    · rw [p, upf_at]; exact hok
    · rw [upf_ne p]; exact g3 i (by omega) (hA.1 i (by omega))
  · by_cases p : i = n
    · by_cases q : j = n
      · rw [p, q]
      · rw [p, upf_at, upf_ne q] at e; exact absurd e.symm (g2 j (by omega))
    · by_cases q : j = n
      · rw [q, upf_at, upf_ne p] at e; exact absurd e (g2 i (by omega))
      · rw [upf_ne p, upf_ne q] at e; exact g1 i j (by omega) (by omega) e
  · unfold upH
    by_cases q : b = β m
    · rw [if_pos q, q]
      constructor
      · intro e
        obtain rfl : n = i := Option.some.inj e
        exact ⟨hn, by omega, upf_at _ _ _⟩
      · rintro ⟨h1, h2, h3⟩
        by_cases p : i = n
        · rw [p]
        · rw [upf_ne p] at h3
          exact absurd h3 (g2 i (by omega))
    · rw [if_neg q, hh b i q]
      by_cases p : i = n
      · rw [p, upf_at]
        exact ⟨fun h => absurd h.2.1 (by omega), fun h => absurd h.2.2.symm q⟩
      · rw [upf_ne p]
        constructor
        · rintro ⟨h1, h2, h3⟩; exact ⟨h1, by omega, h3⟩
        · rintro ⟨h1, h2, h3⟩; exact ⟨h1, by omega, h3⟩
  · rw [cs, cs_ge (Nat.le_refl _), upf_at]
    omega
/-- the chain told by the pointers -/
def bet (F : Nat → Option Nat) (e : Nat) : Nat → Nat
  | 0 => e
  | l + 1 => (F (bet F e l)).getD 0
theorem seat_opt {ok : Nat → Nat → Bool} {c : Nat → Nat → Nat} {a a2 : Nat → Nat} {n f e : Nat} {R : Nat → Int} (hA : Opt ok c n a) (hW : WB ok c a n n R) (hn : 0 < n) (h0 : ∀ b, ok 0 b = true → b = f) (he : ∀ x, (∀ i, i < n → a i ≠ x) → R x < NO → R e ≤ R x)
    (h2 : Va ok (n + 1) a2) (hle : (cs c a2 (n + 1) : Int) ≤ cs c a n + R e) : Opt ok c (n + 1) a2 ∧ (cs c a2 (n + 1) : Int) = cs c a n + R e := by
  have key : ∀ B, Va ok (n + 1) B → (cs c a n : Int) + R e ≤ cs c B (n + 1) := fun B hB => by
    obtain ⟨x, h1, h2, h3⟩ := ring_lb1 hA hW hn h0 hB
    have := he x h1 h2
    omega
  refine ⟨⟨h2, fun B hB => ?_⟩, ?_⟩
  · have := key B hB; omega
  · have := key a2 h2; omega
theorem seat_none {ok : Nat → Nat → Bool} {c : Nat → Nat → Nat} {a : Nat → Nat} {n f : Nat} {R : Nat → Int} (hA : Opt ok c n a) (hW : WB ok c a n n R) (hn : 0 < n) (h0 : ∀ b, ok 0 b = true → b = f) (he : ∀ x, (∀ i, i < n → a i ≠ x) → ¬ R x < NO) (B : Nat → Nat) : ¬ Va ok (n + 1) B := fun hB => by
  obtain ⟨x, h1, h2, h3⟩ := ring_lb1 hA hW hn h0 hB
  exact he x h1 h2
/-- the number of a choice: its weight above, its bells below -/
def lo (a : Nat → Nat) : Nat → Nat
  | 0 => 0
  | n + 1 => lo a n + a n * 2 ^ (5 * (7 - n))
def wt (w : Nat → Nat) (a : Nat → Nat) : Nat → Nat
  | 0 => 0
  | n + 1 => wt w a n + w (a n)
def cN (w : Nat → Nat) (i b : Nat) : Nat := w b * 1099511627776 + b * 2 ^ (5 * (7 - i))
theorem cs_split (w : Nat → Nat) (a : Nat → Nat) (n : Nat) : cs (cN w) a n = wt w a n * 1099511627776 + lo a n := by
  induction n with
  | zero => simp only [cs, wt, lo, Nat.zero_mul]
  | succ n ih => rw [cs, ih, wt, lo, cN]; omega
theorem lo_congr {a b : Nat → Nat} {n : Nat} (h : ∀ i, i < n → a i = b i) : lo a n = lo b n := by
  induction n with
  | zero => rfl
  | succ n ih => rw [lo, lo, ih (fun i hi => h i (by omega)), h n (by omega)]
theorem lo_pad {a : Nat → Nat} {n : Nat} : ∀ m, lo (fun i => if i < n then a i else 0) (n + m) = lo a n := by
  intro m
  induction m with
  | zero => exact lo_congr (fun i hi => if_pos hi)
  | succ m ih => rw [← Nat.add_assoc, lo, ih, if_neg (by omega)]; omega
theorem lo_8 (a : Nat → Nat) : lo a 8 = a 0 * 34359738368 + a 1 * 1073741824 + a 2 * 33554432 + a 3 * 1048576 + a 4 * 32768 + a 5 * 1024 + a 6 * 32 + a 7 := by
  simp only [lo, Nat.reduceSub, Nat.reduceMul, Nat.reducePow, Nat.zero_add, Nat.mul_one]
theorem lo8 {a : Nat → Nat} (h : ∀ i, a i < 32) (W : Nat) : lo a 8 < 1099511627776 ∧ ∀ i, i < 8 → (W * 1099511627776 + lo a 8) / 2 ^ (5 * (7 - i)) % 32 = a i := by
  rw [lo_8 a]
  have h0 := h 0; have h1 := h 1; have h2 := h 2; have h3 := h 3; have h4 := h 4; have h5 := h 5; have h6 := h 6; have h7 := h 7
  refine ⟨by omega, fun i hi => ?_⟩
  match i, hi with
  | 0, _ => simp only [Nat.reduceSub, Nat.reduceMul, Nat.reducePow]; omega
  | 1, _ => simp only [Nat.reduceSub, Nat.reduceMul, Nat.reducePow]; omega
  | 2, _ => simp only [Nat.reduceSub, Nat.reduceMul, Nat.reducePow]; omega
  | 3, _ => simp only [Nat.reduceSub, Nat.reduceMul, Nat.reducePow]; omega
  | 4, _ => simp only [Nat.reduceSub, Nat.reduceMul, Nat.reducePow]; omega
  | 5, _ => simp only [Nat.reduceSub, Nat.reduceMul, Nat.reducePow]; omega
  | 6, _ => simp only [Nat.reduceSub, Nat.reduceMul, Nat.reducePow]; omega
  | 7, _ => simp only [Nat.reduceSub, Nat.reduceMul, Nat.reducePow, Nat.div_one]; omega
theorem lo_dig {a : Nat → Nat} {n : Nat} (hn : n ≤ 8) (h : ∀ i, i < n → a i < 32) (W : Nat) : lo a n < 1099511627776 ∧ ∀ i, i < n → (W * 1099511627776 + lo a n) / 2 ^ (5 * (7 - i)) % 32 = a i := by
  have e := lo_pad (a := a) (n := n) (8 - n)
  rw [show n + (8 - n) = 8 by omega] at e
  have := lo8 (a := fun i => if i < n then a i else 0) (fun i => by
    show (if i < n then a i else 0) < 32
    split
    · rename_i q; exact h i q
    · omega) W
  rw [e] at this
  refine ⟨this.1, fun i hi => ?_⟩
  rw [this.2 i (by omega), if_pos hi]
/-- two choices of one number are the same -/
theorem cs_inj {w : Nat → Nat} {a b : Nat → Nat} {n : Nat} (hn : n ≤ 8) (ha : ∀ i, i < n → a i < 32) (hb : ∀ i, i < n → b i < 32) (h : cs (cN w) b n = cs (cN w) a n) : ∀ i, i < n → b i = a i := by
  intro i hi
  rw [cs_split, cs_split] at h
  rw [← (lo_dig hn ha (wt w a n)).2 i hi, ← (lo_dig hn hb (wt w b n)).2 i hi, h]
theorem cs_wt {w : Nat → Nat} {a : Nat → Nat} {n : Nat} (hn : n ≤ 8) (ha : ∀ i, i < n → a i < 32) : cs (cN w) a n / 1099511627776 = wt w a n := by
  rw [cs_split]
  have := (lo_dig hn ha 0).1
  omega
theorem lo_tail {a : Nat → Nat} {k : Nat} : ∀ n, k < n → n ≤ 8 → (∀ i, i < n → a i < 32) → lo a n + 2 ^ (5 * (8 - n)) ≤ lo a (k + 1) + 2 ^ (5 * (7 - k)) := by
  intro n
  induction n with
  | zero => omega
  | succ n ih =>
    intro hk hn ha
    rcases Nat.lt_or_ge k n with q | q
    · have h1 := ih q (by omega) (fun i hi => ha i (by omega))
      have h2 := ha n (by omega)
      rw [lo, show 8 - (n + 1) = 7 - n by omega]
      have e : 2 ^ (5 * (8 - n)) = 32 * 2 ^ (5 * (7 - n)) := by
        rw [show 5 * (8 - n) = 5 + 5 * (7 - n) by omega, Nat.pow_add]
      have : a n * 2 ^ (5 * (7 - n)) ≤ 31 * 2 ^ (5 * (7 - n)) := Nat.mul_le_mul_right _ (by omega)
      omega
    · obtain rfl : k = n := by omega
      rw [show 8 - (k + 1) = 7 - k by omega]
      exact Nat.le_refl _
/-- of two choices the one that has the lower bell at the first note where they differ has the lower code -/
theorem lo_lex {a b : Nat → Nat} {n k : Nat} (hk : k < n) (hn : n ≤ 8) (ha : ∀ i, i < n → a i < 32) (hb : ∀ i, i < n → b i < 32) (he : ∀ i, i < k → a i = b i) (h : a k < b k) : lo a n < lo b n := by
  have h1 := lo_tail n hk hn ha
  have h2 : lo b (k + 1) ≤ lo b n := by
    clear h1
    induction n with
    | zero => omega
    | succ n ih =>
      rcases Nat.lt_or_ge k n with q | q
      · have := ih q (by omega) (fun i hi => ha i (by omega)) (fun i hi => hb i (by omega))
        have e : lo b (n + 1) = lo b n + b n * 2 ^ (5 * (7 - n)) := rfl
        omega
      · rw [show k = n by omega]; exact Nat.le_refl _
  rw [lo] at h1 h2
  rw [← lo_congr he] at h2
  have : a k * 2 ^ (5 * (7 - k)) + 2 ^ (5 * (7 - k)) ≤ b k * 2 ^ (5 * (7 - k)) := by
    rw [← Nat.succ_mul]
    exact Nat.mul_le_mul_right _ h
  have : 0 < 2 ^ (5 * (8 - n)) := Nat.pow_pos (by omega)
  omega
