/-! ===== the first memory ===== -/
def ps0 (m : NM) : Nat := if m.1 = 0 then (if m.2.2 = 0 then 0 else if m.2.2 = 1 then 1 else if m.2.2 = 3 then 2 else 18) else if m.1 = 1 then (if m.2.2 = 0 then 10 else if m.2.2 = 1 then 11 else if m.2.2 = 6 then 12 else if m.2.2 = 8 then 13 else if m.2.2 = 9 then 14 else if m.2.2 = 10 then 15 else if m.2.2 = 11 then 16 else 17) else if m.1 = 3 then (if m.2.2 = 0 then 3 else if m.2.2 = 1 then 4 else if m.2.2 = 2 then 5 else if m.2.2 = 4 then 6 else if m.2.2 = 5 then 7 else if m.2.2 = 6 then 8 else 9) else (if m.2.2 = 0 then 19 else if m.2.2 = 2 then 20 else if m.2.2 = 3 then 21 else if m.2.2 = 4 then 22 else if m.2.2 = 5 then 23 else if m.2.2 = 6 then 24 else if m.2.2 = 7 then 25 else if m.2.2 = 9 then 26 else if m.2.2 = 10 then 27 else if m.2.2 = 11 then 28 else if m.2.2 = 12 then 29 else if m.2.2 = 13 then 30 else if m.2.2 = 14 then 31 else if m.2.2 = 15 then 32 else if m.2.2 = 16 then 33 else if m.2.2 = 17 then 34 else if m.2.2 = 18 then 35 else if m.2.2 = 22 then 36 else if m.2.2 = 23 then 37 else if m.2.2 = 25 then 38 else if m.2.2 = 27 then 39 else if m.2.2 = 29 then 40 else if m.2.2 = 30 then 41 else if m.2.2 = 31 then 42 else if m.2.2 = 32 then 43 else 44)
def nl0 : List NM := [(0, 0, 0), (0, 0, 1), (0, 0, 3), (3, 0, 0), (3, 0, 1), (3, 0, 2), (3, 0, 4), (3, 0, 5), (3, 0, 6), (3, 0, 7), (1, 0, 0), (1, 0, 1), (1, 0, 6), (1, 0, 8), (1, 0, 9), (1, 0, 10), (1, 0, 11), (1, 0, 12), (0, 0, 10), (5, 0, 0), (5, 0, 2), (5, 0, 3), (5, 0, 4), (5, 0, 5), (5, 0, 6), (5, 0, 7), (5, 0, 9), (5, 0, 10), (5, 0, 11), (5, 0, 12), (5, 0, 13), (5, 0, 14), (5, 0, 15), (5, 0, 16), (5, 0, 17), (5, 0, 18), (5, 0, 22), (5, 0, 23), (5, 0, 25), (5, 0, 27), (5, 0, 29), (5, 0, 30), (5, 0, 31), (5, 0, 32), (5, 0, 33)]
def Z0 : ZT := fun m => if m = (3, 0, 1) then fun _ => -30000 else if m = (3, 0, 2) then fun _ => 30000 else if m = (5, 0, 22) then fun _ => -30000 else if m = (5, 0, 23) then fun _ => 30000 else fun _ => 0
def L0 : LT := fun m => if m = (1, 0, 0) then fun _ => 4611686018427387904 else fun _ => 0
theorem lv0 {P : NM → Prop} (q0 : P (0, 0, 0)) (q1 : P (0, 0, 1)) (q2 : P (0, 0, 3)) (q3 : P (3, 0, 0)) (q4 : P (3, 0, 1)) (q5 : P (3, 0, 2)) (q6 : P (3, 0, 4)) (q7 : P (3, 0, 5)) (q8 : P (3, 0, 6)) (q9 : P (3, 0, 7)) (q10 : P (1, 0, 0)) (q11 : P (1, 0, 1)) (q12 : P (1, 0, 6)) (q13 : P (1, 0, 8)) (q14 : P (1, 0, 9)) (q15 : P (1, 0, 10)) (q16 : P (1, 0, 11)) (q17 : P (1, 0, 12)) (q18 : P (0, 0, 10)) (q19 : P (5, 0, 0)) (q20 : P (5, 0, 2)) (q21 : P (5, 0, 3)) (q22 : P (5, 0, 4)) (q23 : P (5, 0, 5)) (q24 : P (5, 0, 6)) (q25 : P (5, 0, 7)) (q26 : P (5, 0, 9)) (q27 : P (5, 0, 10)) (q28 : P (5, 0, 11)) (q29 : P (5, 0, 12)) (q30 : P (5, 0, 13)) (q31 : P (5, 0, 14)) (q32 : P (5, 0, 15)) (q33 : P (5, 0, 16)) (q34 : P (5, 0, 17)) (q35 : P (5, 0, 18)) (q36 : P (5, 0, 22)) (q37 : P (5, 0, 23)) (q38 : P (5, 0, 25)) (q39 : P (5, 0, 27)) (q40 : P (5, 0, 29)) (q41 : P (5, 0, 30)) (q42 : P (5, 0, 31)) (q43 : P (5, 0, 32)) (q44 : P (5, 0, 33)) : ∀ m, lvm 0 0 m → P m := by
  rintro ⟨k, i, j⟩ ⟨h1, h2⟩
  have h1 : i < lvc 0 0 k := h1
  have h2 : lvk k j = true := h2
  unfold lvc at h1
  by_cases k2 : k = 2
  · rw [if_pos k2] at h1; omega
  · rw [if_neg k2] at h1
    by_cases k4 : k = 4
    · rw [if_pos k4] at h1; omega
    · rw [if_neg k4] at h1
      by_cases k6 : k = 6
      · rw [if_pos k6] at h1; omega
      · rw [if_neg k6] at h1
        by_cases k5 : k ≤ 5
        · rw [if_pos k5] at h1
          obtain rfl : i = 0 := by omega
          have hk : k = 0 ∨ k = 1 ∨ k = 3 ∨ k = 5 := by omega
          rcases hk with rfl | rfl | rfl | rfl
          · have h2 : [0, 1, 3, 10].contains j = true := h2
            simp only [List.contains_cons, List.contains_nil, Bool.or_false, Bool.or_eq_true, beq_iff_eq] at h2
            rcases h2 with rfl | rfl | rfl | rfl
            · exact q0
            · exact q1
            · exact q2
            · exact q18
          · have h2 : [0, 1, 6, 8, 9, 10, 11, 12].contains j = true := h2
            simp only [List.contains_cons, List.contains_nil, Bool.or_false, Bool.or_eq_true, beq_iff_eq] at h2
            rcases h2 with rfl | rfl | rfl | rfl | rfl | rfl | rfl | rfl
            · exact q10
            · exact q11
            · exact q12
            · exact q13
            · exact q14
            · exact q15
            · exact q16
            · exact q17
          · have h2 : [0, 1, 2, 4, 5, 6, 7].contains j = true := h2
            simp only [List.contains_cons, List.contains_nil, Bool.or_false, Bool.or_eq_true, beq_iff_eq] at h2
            rcases h2 with rfl | rfl | rfl | rfl | rfl | rfl | rfl
            · exact q3
            · exact q4
            · exact q5
            · exact q6
            · exact q7
            · exact q8
            · exact q9
          · have h2 : [0, 2, 3, 4, 5, 6, 7, 9, 10, 11, 12, 13, 14, 15, 16, 17, 18, 22, 23, 25, 27, 29, 30, 31, 32, 33].contains j = true := h2
            simp only [List.contains_cons, List.contains_nil, Bool.or_false, Bool.or_eq_true, beq_iff_eq] at h2
            rcases h2 with rfl | rfl | rfl | rfl | rfl | rfl | rfl | rfl | rfl | rfl | rfl | rfl | rfl | rfl | rfl | rfl | rfl | rfl | rfl | rfl | rfl | rfl | rfl | rfl | rfl | rfl
            · exact q19
            · exact q20
            · exact q21
            · exact q22
            · exact q23
            · exact q24
            · exact q25
            · exact q26
            · exact q27
            · exact q28
            · exact q29
            · exact q30
            · exact q31
            · exact q32
            · exact q33
            · exact q34
            · exact q35
            · exact q36
            · exact q37
            · exact q38
            · exact q39
            · exact q40
            · exact q41
            · exact q42
            · exact q43
            · exact q44
        · rw [if_neg k5] at h1; omega
theorem inc_lt {AL : Nat → Nat} (h : ∀ i, i < 44 → AL i < AL (i + 1)) : ∀ j i, i < j → j < 45 → AL i < AL j := by
  intro j
  induction j with
  | zero => intro i h1; omega
  | succ j ih =>
    intro i h1 h2
    have h3 := h j (by omega)
    rcases Nat.lt_or_ge i j with q | q
    · have := ih i q (by omega); omega
    · rw [show i = j by omega]; exact h3
theorem inc_inj {AL : Nat → Nat} (h : ∀ i, i < 44 → AL i < AL (i + 1)) {i j : Nat} (hi : i < 45) (hj : j < 45) (e : AL i = AL j) : i = j := by
  rcases Nat.lt_trichotomy i j with q | q | q
  · have := inc_lt h j i q hj; omega
  · exact q
  · have := inc_lt h i j q hi; omega
theorem Rm_0 {AL : Nat → Nat} {h : AH} (hinc : ∀ i, i < 44 → AL i < AL (i + 1)) (hc : ∀ i m, nl0[i]? = some m → h (AL i) = some (shp (fun m => AL (ps0 m)) 0 0 m (Z0 m) (L0 m))) : Rm (fun m => AL (ps0 m)) 0 0 Z0 L0 h := by
  have key : ∀ m, lvm 0 0 m → ps0 m < 45 ∧ nl0[ps0 m]? = some m := lv0 (P := fun m => ps0 m < 45 ∧ nl0[ps0 m]? = some m) ⟨by decide, rfl⟩ ⟨by decide, rfl⟩ ⟨by decide, rfl⟩ ⟨by decide, rfl⟩ ⟨by decide, rfl⟩ ⟨by decide, rfl⟩ ⟨by decide, rfl⟩ ⟨by decide, rfl⟩ ⟨by decide, rfl⟩ ⟨by decide, rfl⟩ ⟨by decide, rfl⟩ ⟨by decide, rfl⟩ ⟨by decide, rfl⟩ ⟨by decide, rfl⟩ ⟨by decide, rfl⟩ ⟨by decide, rfl⟩ ⟨by decide, rfl⟩ ⟨by decide, rfl⟩ ⟨by decide, rfl⟩ ⟨by decide, rfl⟩ ⟨by decide, rfl⟩ ⟨by decide, rfl⟩ ⟨by decide, rfl⟩ ⟨by decide, rfl⟩ ⟨by decide, rfl⟩ ⟨by decide, rfl⟩ ⟨by decide, rfl⟩ ⟨by decide, rfl⟩ ⟨by decide, rfl⟩ ⟨by decide, rfl⟩ ⟨by decide, rfl⟩ ⟨by decide, rfl⟩ ⟨by decide, rfl⟩ ⟨by decide, rfl⟩ ⟨by decide, rfl⟩ ⟨by decide, rfl⟩ ⟨by decide, rfl⟩ ⟨by decide, rfl⟩ ⟨by decide, rfl⟩ ⟨by decide, rfl⟩ ⟨by decide, rfl⟩ ⟨by decide, rfl⟩ ⟨by decide, rfl⟩ ⟨by decide, rfl⟩ ⟨by decide, rfl⟩
  refine ⟨fun m hm => hc _ m (key m hm).2, fun m n hm hn e => ?_⟩
  obtain ⟨a1, a2⟩ := key m hm
  obtain ⟨b1, b2⟩ := key n hn
  have := inc_inj hinc a1 b1 e
  rw [this, b2] at a2
  exact (Option.some.inj a2).symm
theorem SS_0 : SS 0 0 0 0 L0 Z0 Z0 := by
  refine ⟨⟨⟨⟨by omega, by omega, by omega, by omega⟩, rfl, rfl, rfl, rfl⟩, fun p hp => absurd hp (by omega), fun b hb => absurd hb (by omega), fun b hb => absurd hb (by omega), ⟨rfl, fun q hq => ?_⟩, XK.no rfl⟩, ⟨fun p _ _ => ⟨fun i _ => ⟨rfl, rfl⟩, fun i _ => rfl, fun i _ => rfl⟩, fun b _ _ => ⟨rfl, rfl⟩⟩, EqV.mk rfl rfl rfl rfl rfl rfl (fun i hi => rfl) rfl rfl (fun i hi => rfl) (fun i hi => rfl) (fun i hi => rfl) (fun b hb => absurd hb (by omega)) (fun b hb => absurd hb (by omega)) (fun b hb => absurd hb (by omega)) (fun b hb => absurd hb (by omega)) (fun b hb => absurd hb (by omega)) (fun b hb => absurd hb (by omega)) (fun b hb => absurd hb (by omega)) (fun b hb => absurd hb (by omega)) (fun b hb => absurd hb (by omega)) (fun b hb => absurd hb (by omega)) (fun b hb => absurd hb (by omega)) (fun b hb => absurd hb (by omega)) (fun b hb => absurd hb (by omega)) (fun b hb => absurd hb (by omega)) (fun b hb => absurd hb (by omega)) (fun b hb => absurd hb (by omega))⟩
  show (-50 ≤ (0 : Int32).toInt ∧ (0 : Int32).toInt ≤ 50) ∧ (-50 ≤ (0 : Int32).toInt ∧ (0 : Int32).toInt ≤ 50)
  decide
