/-! ===== tuning by search: what is sought from a height on ===== -/
def isum (f : Nat → Int) (c : Nat → Nat) : Nat → Int
  | 0 => 0
  | n + 1 => isum f c n + f n * (c n : Int)
theorem isum_bd {f : Nat → Int} {c : Nat → Nat} {n : Nat} {lo hi : Int} (h : ∀ i, i < n → 0 < c i → lo ≤ f i ∧ f i ≤ hi) : lo * (sm c n : Int) ≤ isum f c n ∧ isum f c n ≤ hi * (sm c n : Int) := by
  induction n with
  | zero => simp [isum, sm]
  | succ n ih =>
    obtain ⟨h1, h2⟩ := ih (fun i hi => h i (by omega))
    rw [isum, sm, Int.natCast_add, Int.mul_add, Int.mul_add]
    rcases Nat.eq_zero_or_pos (c n) with hc | hc
    · rw [hc]
      simp only [Int.natCast_zero, Int.mul_zero, Int.add_zero]
      exact ⟨h1, h2⟩
    · obtain ⟨h3, h4⟩ := h n (by omega) hc
      have a := Int.mul_le_mul_of_nonneg_right h3 (show (0 : Int) ≤ (c n : Int) by omega)
      have b := Int.mul_le_mul_of_nonneg_right h4 (show (0 : Int) ≤ (c n : Int) by omega)
      omega
theorem mul_bd {a : Int} {c : Nat} (h1 : -50 ≤ a) (h2 : a ≤ 50) : -50 * (c : Int) ≤ a * (c : Int) ∧ a * (c : Int) ≤ 50 * (c : Int) :=
  ⟨Int.mul_le_mul_of_nonneg_right h1 (by omega), Int.mul_le_mul_of_nonneg_right h2 (by omega)⟩
theorem dsum_toInt {V : Int32} {f : Nat → Int32} {c : Nat → Nat} {n : Nat} (hf : ∀ i, i < n → -50 ≤ (f i).toInt ∧ (f i).toInt ≤ 50) (hs : sm c n ≤ 12) (hV : -1000000 ≤ V.toInt ∧ V.toInt ≤ 1000000) : (dsum V f (fun i => nI (c i)) n).toInt = V.toInt - isum (fun i => (f i).toInt) c n ∧ -50 * (sm c n : Int) ≤ isum (fun i => (f i).toInt) c n ∧ isum (fun i => (f i).toInt) c n ≤ 50 * (sm c n : Int) := by
  induction n with
  | zero => simp [dsum, isum, sm]
  | succ n ih =>
    rw [sm] at hs
    obtain ⟨h1, h2, h3⟩ := ih (fun i hi => hf i (by omega)) (by omega)
    obtain ⟨h4, h5⟩ := hf n (by omega)
    have hm := mul_bd (c := c n) h4 h5
    have e1 : (f n * nI (c n)).toInt = (f n).toInt * (c n : Int) := by
      rw [Kit.i32_mul, nI_toInt (by omega)]
      · rw [nI_toInt (by omega)]; omega
      · rw [nI_toInt (by omega)]; omega
    have e2 : (dsum V f (fun i => nI (c i)) n - f n * nI (c n)).toInt = (dsum V f (fun i => nI (c i)) n).toInt - (f n * nI (c n)).toInt := by
      rw [Kit.i32_sub]
      · rw [e1, h1]; omega
      · rw [e1, h1]; omega
    rw [dsum, e2, e1, h1, isum, sm]
    omega
theorem dsum_split (V : Int32) (f g : Nat → Int32) (h n : Nat) : dsum V f g (h + n) = dsum (dsum V f g h) (fun k => f (h + k)) (fun k => g (h + k)) n := by
  induction n with
  | zero => rfl
  | succ n ih => rw [show h + (n + 1) = h + n + 1 by omega, dsum, dsum, ih]
theorem dsum_zero (V : Int32) (f : Nat → Int32) (n : Nat) : dsum V f (fun _ => nI 0) n = V := by
  induction n with
  | zero => rfl
  | succ n ih =>
    rw [dsum, ih, nI_0, Int32.mul_zero, Int32.sub_zero]
def okS (r : Nat → Nat) (tb : Nat → Nat → Int32) (V fr to : Nat → Int32) (h left : Nat) (c : Nat → Nat) : Prop :=
  sm c 8 = sm c h + left ∧ (∀ i, h ≤ i → i < 8 → c i ≤ r i) ∧ ∀ q, q < 5 → iw (dsum (V q) (fun k => tb q (h + k)) (fun k => nI (c (h + k))) (8 - h)) (fr q) (to q) = true
def lexF (h : Nat) (c d : Nat → Nat) : Prop := ∃ k, h ≤ k ∧ k < 8 ∧ (∀ i, h ≤ i → i < k → c i = d i) ∧ c k < d k
def FirstS (r : Nat → Nat) (tb : Nat → Nat → Int32) (V fr to : Nat → Int32) (h left : Nat) (c : Nat → Nat) : Prop := okS r tb V fr to h left c ∧ ∀ d, okS r tb V fr to h left d → ¬ lexF h d c
theorem okS_step {r : Nat → Nat} {tb : Nat → Nat → Int32} {V fr to : Nat → Int32} {h left : Nat} {c : Nat → Nat} (hh : h < 8) : okS r tb V fr to h left c ↔ c h ≤ r h ∧ c h ≤ left ∧ okS r tb (fun q => V q - tb q h * nI (c h)) fr to (h + 1) (left - c h) c := by
  have e : ∀ q, dsum (V q) (fun k => tb q (h + k)) (fun k => nI (c (h + k))) (8 - h) = dsum (V q - tb q h * nI (c h)) (fun k => tb q (h + 1 + k)) (fun k => nI (c (h + 1 + k))) (8 - (h + 1)) := by
    intro q
    rw [show 8 - h = 1 + (8 - (h + 1)) by omega, dsum_split]
    simp only [dsum, Nat.add_zero]
    congr 1
    · funext k; rw [show h + (1 + k) = h + 1 + k by omega]
    · funext k; rw [show h + (1 + k) = h + 1 + k by omega]
  have hm := sm_mono (c := c) (show h + 1 ≤ 8 by omega)
  have hs : sm c (h + 1) = sm c h + c h := rfl
  constructor
  · rintro ⟨h1, h2, h3⟩
    refine ⟨h2 h (Nat.le_refl _) hh, by omega, by omega, fun i hi1 hi2 => h2 i (by omega) hi2, fun q hq => ?_⟩
    rw [← e q]
    exact h3 q hq
  · rintro ⟨h1, h2, h3, h4, h5⟩
    refine ⟨by omega, fun i hi1 hi2 => ?_, fun q hq => ?_⟩
    · rcases Nat.lt_or_ge h i with q | q
      · exact h4 i (by omega) hi2
      · rw [show i = h by omega]; exact h1
    · rw [e q]
      exact h5 q hq
theorem okS_congr {r : Nat → Nat} {tb : Nat → Nat → Int32} {V V' fr to : Nat → Int32} {h left : Nat} {c d : Nat → Nat} (hV : ∀ q, q < 5 → V q = V' q) (hcd : ∀ i, h ≤ i → i < 8 → c i = d i) (hk : okS r tb V fr to h left c) (h8 : h ≤ 8) : okS r tb V' fr to h left d := by
  obtain ⟨h1, h2, h3⟩ := hk
  have key : ∀ n, h + n ≤ 8 → sm d (h + n) + sm c h = sm c (h + n) + sm d h := by
    intro n
    induction n with
    | zero => intro _; simp; omega
    | succ n ih =>
      intro hn
      have := ih (by omega)
      have e1 : sm d (h + (n + 1)) = sm d (h + n) + d (h + n) := rfl
      have e2 : sm c (h + (n + 1)) = sm c (h + n) + c (h + n) := rfl
      rw [e1, e2, hcd (h + n) (by omega) (by omega)]
      omega
  have k8 := key (8 - h) (by omega)
  rw [show h + (8 - h) = 8 by omega] at k8
  refine ⟨by omega, fun i hi1 hi2 => by rw [← hcd i hi1 hi2]; exact h2 i hi1 hi2, fun q hq => ?_⟩
  rw [dsum_congr (v' := V q) (f' := fun k => tb q (h + k)) (g' := fun k => nI (c (h + k))) (hV q hq).symm (fun _ _ => rfl) (fun i hi => by rw [hcd (h + i) (by omega) (by omega)])]
  exact h3 q hq
/-- none is sought beyond what can be cut from a height on -/
theorem okS_room {r : Nat → Nat} {tb : Nat → Nat → Int32} {V fr to : Nat → Int32} {h left : Nat} {c : Nat → Nat} (hk : okS r tb V fr to h left c) (h8 : h ≤ 8) : left ≤ sm r 8 - sm r h := by
  obtain ⟨h1, h2, -⟩ := hk
  have key : ∀ n, h + n ≤ 8 → sm c (h + n) + sm r h ≤ sm r (h + n) + sm c h := by
    intro n
    induction n with
    | zero => intro _; simp; omega
    | succ n ih =>
      intro hn
      have := ih (by omega)
      have e1 : sm r (h + (n + 1)) = sm r (h + n) + r (h + n) := rfl
      have e2 : sm c (h + (n + 1)) = sm c (h + n) + c (h + n) := rfl
      have := h2 (h + n) (by omega) (by omega)
      omega
  have k8 := key (8 - h) (by omega)
  rw [show h + (8 - h) = 8 by omega] at k8
  omega
/-- the test that keeps the search from branches -/
def reachB (V fr to lo hi : Nat → Int32) (left : Nat) : Bool := allB (fun q => !decide (V q - nI left * lo q < fr q) && decide (V q - nI left * hi q ≤ to q)) 5
theorem reachB_ok {r : Nat → Nat} {tb : Nat → Nat → Int32} {V fr to lo hi : Nat → Int32} {h left : Nat} {c : Nat → Nat} (h8 : h ≤ 8) (hl : left ≤ 12) (htb : ∀ q i, q < 5 → i < 8 → -50 ≤ (tb q i).toInt ∧ (tb q i).toInt ≤ 50) (hV : ∀ q, q < 5 → -100000 ≤ (V q).toInt ∧ (V q).toInt ≤ 100000)
    (hb : ∀ q, q < 5 → (-50 ≤ (lo q).toInt ∧ (lo q).toInt ≤ 50) ∧ (-50 ≤ (hi q).toInt ∧ (hi q).toInt ≤ 50)) (hcov : ∀ q i, q < 5 → h ≤ i → i < 8 → 0 < r i → (lo q).toInt ≤ (tb q i).toInt ∧ (tb q i).toInt ≤ (hi q).toInt) (hk : okS r tb V fr to h left c) : reachB V fr to lo hi left = true := by
  obtain ⟨h1, h2, h3⟩ := hk
  refine allB_iff.mpr (fun q hq => ?_)
  have hsm : sm (fun k => c (h + k)) (8 - h) = left := by
    have key : ∀ n, h + n ≤ 8 → sm (fun k => c (h + k)) n + sm c h = sm c (h + n) := by
      intro n
      induction n with
      | zero => intro _; simp [sm]
      | succ n ih =>
        intro hn
        have := ih (by omega)
        have e2 : sm c (h + (n + 1)) = sm c (h + n) + c (h + n) := rfl
        rw [sm, e2]
        omega
    have k8 := key (8 - h) (by omega)
    rw [show h + (8 - h) = 8 by omega] at k8
    omega
  obtain ⟨d1, d2, d3⟩ := dsum_toInt (V := V q) (f := fun k => tb q (h + k)) (c := fun k => c (h + k)) (n := 8 - h) (fun i hi => htb q (h + i) hq (by omega)) (by omega) (by have := hV q hq; omega)
  obtain ⟨s1, s2⟩ := isum_bd (f := fun k => (tb q (h + k)).toInt) (c := fun k => c (h + k)) (n := 8 - h) (lo := (lo q).toInt) (hi := (hi q).toInt) (fun i hi hpos => hcov q (h + i) hq (by omega) (by omega) (by
    have := h2 (h + i) (by omega) (by omega)
    omega))
  rw [hsm] at s1 s2
  obtain ⟨f1, f2⟩ := iw_iff.mp (h3 q hq)
  have f1 := Int32.le_iff_toInt_le.mp f1
  have f2 := Int32.le_iff_toInt_le.mp f2
  obtain ⟨⟨b1, b2⟩, b3, b4⟩ := hb q hq
  obtain ⟨v1, v2⟩ := hV q hq
  have ml : (nI left * lo q).toInt = (lo q).toInt * (left : Int) := by
    have := mul_bd (c := left) b1 b2
    rw [Int32.mul_comm, Kit.i32_mul, nI_toInt (by omega)]
    · rw [nI_toInt (by omega)]; omega
    · rw [nI_toInt (by omega)]; omega
  have mh : (nI left * hi q).toInt = (hi q).toInt * (left : Int) := by
    have := mul_bd (c := left) b3 b4
    rw [Int32.mul_comm, Kit.i32_mul, nI_toInt (by omega)]
    · rw [nI_toInt (by omega)]; omega
    · rw [nI_toInt (by omega)]; omega
  have bl := mul_bd (c := left) b1 b2
  have bh := mul_bd (c := left) b3 b4
  simp only [Bool.and_eq_true, Bool.not_eq_true', decide_eq_false_iff_not, decide_eq_true_eq]
  constructor
  · intro hlt
    have hlt := Int32.lt_iff_toInt_lt.mp hlt
    rw [Kit.i32_sub (by omega) (by omega), ml] at hlt
    omega
  · rw [Int32.le_iff_toInt_le, Kit.i32_sub (by omega) (by omega), mh]
    omega
theorem reachB_0 {V fr to lo hi : Nat → Int32} (h : reachB V fr to lo hi 0 = true) : ∀ q, q < 5 → iw (V q) (fr q) (to q) = true := by
  intro q hq
  have := allB_iff.mp h q hq
  simp only [Bool.and_eq_true, Bool.not_eq_true', decide_eq_false_iff_not, decide_eq_true_eq, nI_0, Int32.zero_mul, Int32.sub_zero] at this
  exact iw_in this.1 (Int32.not_lt.mpr this.2)
theorem okS_0 {r : Nat → Nat} {tb : Nat → Nat → Int32} {V fr to : Nat → Int32} {h : Nat} (h8 : h ≤ 8) (hs : ∀ q, q < 5 → iw (V q) (fr q) (to q) = true) : FirstS r tb V fr to h 0 (fun _ => 0) := by
  have z : ∀ n, sm (fun _ => 0) n = 0 := by
    intro n
    induction n with
    | zero => rfl
    | succ n ih => rw [sm, ih]
  refine ⟨⟨by rw [z, z], fun i _ _ => Nat.zero_le _, fun q hq => ?_⟩, ?_⟩
  · rw [dsum_zero]
    exact hs q hq
  · rintro d - ⟨k, -, -, -, h4⟩
    exact absurd h4 (Nat.not_lt_zero _)
theorem okS_8 {r : Nat → Nat} {tb : Nat → Nat → Int32} {V fr to : Nat → Int32} {left : Nat} {c : Nat → Nat} (hk : okS r tb V fr to 8 left c) : left = 0 := by
  have := hk.1
  omega
def setc (c : Nat → Nat) (h x : Nat) : Nat → Nat := fun i => if i = h then x else c i
theorem setc_at (c : Nat → Nat) (h x : Nat) : setc c h x h = x := if_pos rfl
theorem setc_ne {c : Nat → Nat} {h x i : Nat} (hi : i ≠ h) : setc c h x i = c i := if_neg hi
/-- the search's answer at a height, out of the answers at the next -/
theorem FirstS_step {r : Nat → Nat} {tb : Nat → Nat → Int32} {V fr to : Nat → Int32} {h left x : Nat} {c : Nat → Nat} (hh : h < 8) (hx1 : x ≤ r h) (hx2 : x ≤ left) (hno : ∀ d, okS r tb V fr to h left d → ¬ d h < x) (hF : FirstS r tb (fun q => V q - tb q h * nI x) fr to (h + 1) (left - x) c) : FirstS r tb V fr to h left (setc c h x) := by
  refine ⟨(okS_step hh).mpr ⟨by rw [setc_at]; exact hx1, by rw [setc_at]; exact hx2, ?_⟩, fun d hd hl => ?_⟩
  · rw [setc_at]
    exact okS_congr (fun _ _ => rfl) (fun i hi1 _ => (setc_ne (by omega)).symm) hF.1 (by omega)
  · obtain ⟨k, k1, k2, k3, k4⟩ := hl
    have hge : x ≤ d h := Nat.not_lt.mp (hno d hd)
    rcases Nat.lt_or_ge h k with q | q
    · have hdh : d h = x := (k3 h (Nat.le_refl _) q).trans (setc_at _ _ _)
      obtain ⟨-, -, hd2⟩ := (okS_step hh).mp hd
      rw [hdh] at hd2
      refine hF.2 d hd2 ⟨k, by omega, k2, fun i hi1 hi2 => ?_, ?_⟩
      · rw [k3 i (by omega) hi2, setc_ne (by omega)]
      · rw [setc_ne (by omega)] at k4
        exact k4
    · obtain rfl : k = h := by omega
      rw [setc_at] at k4
      omega
