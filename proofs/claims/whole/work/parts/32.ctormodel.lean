/-- cells in the order of their making, each above the one before -/
def Inc (h : AH) (xs : List (Nat × AE)) : Prop := (∀ (i a : Nat) (e : AE), xs[i]? = some (a, e) → h a = some e) ∧ ∀ (i j : Nat) (p q : Nat × AE), i < j → xs[i]? = some p → xs[j]? = some q → p.1 < q.1
theorem Inc.new {h : AH} {xs : List (Nat × AE)} {a : Nat} {e : AE} (hI : Inc h xs) (f : ∀ b, a ≤ b → h b = none) : Inc (upA h a e) (xs ++ [(a, e)]) := by
  have lt : ∀ (i x : Nat) (y : AE), xs[i]? = some (x, y) → x < a := fun i x y hx => by
    rcases Nat.lt_or_ge x a with q | q
    · exact q
    · have h1 := hI.1 i x y hx
      rw [f x q] at h1
      cases h1
  have key : ∀ (i : Nat) (p : Nat × AE), (xs ++ [(a, e)])[i]? = some p → (i < xs.length ∧ xs[i]? = some p) ∨ (i = xs.length ∧ p = (a, e)) := by
    intro i p hp
    by_cases hl : i < xs.length
    · rw [List.getElem?_append_left hl] at hp
      exact Or.inl ⟨hl, hp⟩
    · rw [List.getElem?_append_right (by omega)] at hp
      have hz : i - xs.length < 1 := (List.getElem?_eq_some_iff.mp hp).1
      rw [show i - xs.length = 0 by omega] at hp
      cases hp
      exact Or.inr ⟨by omega, rfl⟩
  refine ⟨fun i x y hx => ?_, fun i j p q hij hp hq => ?_⟩
  · rcases key i _ hx with ⟨-, h1⟩ | ⟨-, h1⟩
    · rw [upA_ne (Nat.ne_of_lt (lt i x y h1))]
      exact hI.1 i x y h1
    · cases h1
      exact upA_self _ _ _
  · rcases key i p hp with ⟨l1, h1⟩ | ⟨l1, h1⟩ <;> rcases key j q hq with ⟨l2, h2⟩ | ⟨l2, h2⟩
    · exact hI.2 i j p q hij h1 h2
    · rw [h2]
      exact lt i p.1 p.2 h1
    · omega
    · omega
theorem Inc.put {h : AH} {xs : List (Nat × AE)} {i a : Nat} {e0 e : AE} (hI : Inc h xs) (hi : xs[i]? = some (a, e0)) : Inc (upA h a e) (xs.set i (a, e)) := by
  have hl : i < xs.length := (List.getElem?_eq_some_iff.mp hi).1
  have key : ∀ (j : Nat) (p : Nat × AE), (xs.set i (a, e))[j]? = some p → ∃ p0 : Nat × AE, xs[j]? = some p0 ∧ p0.1 = p.1 ∧ ((j = i ∧ p = (a, e)) ∨ (j ≠ i ∧ p0 = p)) := by
    intro j p hp
    by_cases hji : j = i
    · subst hji
      rw [List.getElem?_set_self hl] at hp
      cases hp
      exact ⟨_, hi, rfl, Or.inl ⟨rfl, rfl⟩⟩
    · rw [List.getElem?_set_ne (Ne.symm hji)] at hp
      exact ⟨p, hp, rfl, Or.inr ⟨hji, rfl⟩⟩
  refine ⟨fun j x y hx => ?_, fun j k p q hjk hp hq => ?_⟩
  · obtain ⟨p0, h1, h2, h3 | ⟨h3, h4⟩⟩ := key j _ hx
    · obtain ⟨-, h4⟩ := h3
      cases h4
      exact upA_self _ _ _
    · subst h4
      have hne : x ≠ a := by
        rcases Nat.lt_or_ge j i with q | q
        · exact Nat.ne_of_lt (hI.2 j i _ _ q h1 hi)
        · exact Nat.ne_of_gt (hI.2 i j _ _ (by omega) hi h1)
      rw [upA_ne hne]
      exact hI.1 j x y h1
  · obtain ⟨p0, h1, h2, -⟩ := key j p hp
    obtain ⟨q0, h3, h4, -⟩ := key k q hq
    rw [← h2, ← h4]
    exact hI.2 j k p0 q0 hjk h1 h3
theorem i_new {Θ : TH} {cc : ByteArray} {h g : AH} {k : Nat × Nat} {lv : List (Option Value)} {pc a p0 : Nat} {st : List Value} {xs : List (Nat × AE)} {e e0 : AE} (hI : Inc h xs) (hF : ∀ x, x < p0 → h x = g x) (h0 : xs[0]? = some (p0, e0)) (f : ∀ b, a ≤ b → h b = none) (kk : ∀ h', Inc h' (xs ++ [(a, e)]) → (∀ x, x < p0 → h' x = g x) → J Θ cc h' k lv pc st) : J Θ cc (upA h a e) k lv pc st :=
  kk _ (hI.new f) (fun x hx => by
    have : p0 < a := al_lt (hI.1 0 p0 e0 h0) f
    rw [upA_ne (by omega)]
    exact hF x hx)
theorem i_put {Θ : TH} {cc : ByteArray} {h g : AH} {k : Nat × Nat} {lv : List (Option Value)} {pc a p0 : Nat} {st : List Value} {xs : List (Nat × AE)} {e e0 e1 : AE} (hI : Inc h xs) (hF : ∀ x, x < p0 → h x = g x) (h0 : xs[0]? = some (p0, e0)) (i : Nat) (hi : xs[i]? = some (a, e1)) (kk : ∀ h', Inc h' (xs.set i (a, e)) → (∀ x, x < p0 → h' x = g x) → J Θ cc h' k lv pc st) : J Θ cc (upA h a e) k lv pc st :=
  kk _ (hI.put hi) (fun x hx => by
    have : p0 ≤ a := by
      rcases Nat.eq_zero_or_pos i with q | q
      · subst q
        rw [h0] at hi
        cases hi
        exact Nat.le_refl _
      · exact Nat.le_of_lt (hI.2 0 i _ _ q h0 hi)
    rw [upA_ne (by omega)]
    exact hF x hx)
set_option maxRecDepth 100000 in
set_option maxHeartbeats 4000000 in
theorem c_X5_init (l : Launch) (G : GG) {g : AH} {p : Nat} (hp : g p = some (.inr (5, [.int 0, .null, .null, .null, .null, .null, .null, .int 0, .null, .null, .null, .null, .null, .null, .null, .null, .null, .null, .int 0, .int 0, .int 0, .null, .null, .int 0, .null, .int 0, .null, .int 0, .null, .null, .null, .null, .null]))) : Con l G mX5_init 1 25 2399 [.ref p] g (fun r h2 => r = none ∧ ∃ k2 k3 k4 k5 k6 k7 k9 k10 k11 k12 k13 k14 k15 k16 k17 k18 k22 k23 k25 k27 k29 k30 k31 k32 k33 : Nat, p < k2 ∧ k2 < k3 ∧ k3 < k4 ∧ k4 < k5 ∧ k5 < k6 ∧ k6 < k7 ∧ k7 < k9 ∧ k9 < k10 ∧ k10 < k11 ∧ k11 < k12 ∧ k12 < k13 ∧ k13 < k14 ∧ k14 < k15 ∧ k15 < k16 ∧ k16 < k17 ∧ k17 < k18 ∧ k18 < k22 ∧ k22 < k23 ∧ k23 < k25 ∧ k25 < k27 ∧ k27 < k29 ∧ k29 < k30 ∧ k30 < k31 ∧ k31 < k32 ∧ k32 < k33 ∧ h2 p = some (.inr (5, [.int 0, .ref k2, .ref k3, .ref k4, .ref k5, .ref k6, .ref k7, .int 0, .ref k9, .ref k10, .ref k11, .ref k12, .ref k13, .ref k14, .ref k15, .ref k16, .ref k17, .ref k18, .int 0, .int 0, .int 0, .ref k22, .ref k23, .int 0, .ref k25, .int 0, .ref k27, .int 0, .ref k29, .ref k30, .ref k31, .ref k32, .ref k33])) ∧ h2 k2 = some (iA 4 (fun _ => 0)) ∧ h2 k3 = some (iA 32 (fun _ => 0)) ∧ h2 k4 = some (iA 32 (fun _ => 0)) ∧ h2 k5 = some (iA 32 (fun _ => 0)) ∧ h2 k6 = some (iA 20 (fun _ => 0)) ∧ h2 k7 = some (iA 160 (fun _ => 0)) ∧ h2 k9 = some (iA 24 (fun _ => 0)) ∧ h2 k10 = some (iA 24 (fun _ => 0)) ∧ h2 k11 = some (iA 192 (fun _ => 0)) ∧ h2 k12 = some (iA 192 (fun _ => 0)) ∧ h2 k13 = some (iA 192 (fun _ => 0)) ∧ h2 k14 = some (iA 120 (fun _ => 0)) ∧ h2 k15 = some (iA 960 (fun _ => 0)) ∧ h2 k16 = some (zA 24 (fun _ => 0)) ∧ h2 k17 = some (zA 24 (fun _ => 0)) ∧ h2 k18 = some (iA 24 (fun _ => 0)) ∧ h2 k22 = some (iA 5 (fun _ => -30000)) ∧ h2 k23 = some (iA 5 (fun _ => 30000)) ∧ h2 k25 = some (iA 8 (fun _ => 0)) ∧ h2 k27 = some (iA 5 (fun _ => 0)) ∧ h2 k29 = some (iA 8 (fun _ => 0)) ∧ h2 k30 = some (iA 8 (fun _ => 0)) ∧ h2 k31 = some (iA 24 (fun _ => 0)) ∧ h2 k32 = some (iA 24 (fun _ => 0)) ∧ h2 k33 = some (iA 256 (fun _ => 0)) ∧ ∀ x, x < p → h2 x = g x) := by
  refine Con.of 0 rfl (Nat.le_of_ble_eq_true rfl) ?_
  have hI : Inc g [(p, .inr (5, [.int 0, .null, .null, .null, .null, .null, .null, .int 0, .null, .null, .null, .null, .null, .null, .null, .null, .null, .null, .int 0, .int 0, .int 0, .null, .null, .int 0, .null, .int 0, .null, .int 0, .null, .null, .null, .null, .null]))] := ⟨fun i a e hx => by
    match i, hx with
    | 0, hx => cases hx; exact hp
    | i + 1, hx => simp at hx, fun i j x y hij hx hy => by
    have := (List.getElem?_eq_some_iff.mp hx).1
    have := (List.getElem?_eq_some_iff.mp hy).1
    simp at *
    omega⟩
  have hF : ∀ x, x < p → g x = g x := fun _ _ => rfl
  refine j_aload_n dX5_init_0 rfl ?_
  refine j_objInit wl_X5_1 (Nat.le_of_ble_eq_true rfl) (Nat.le_of_ble_eq_true rfl) (Nat.le_of_ble_eq_true rfl) dX5_init_1 ?_
  refine j_aload_n dX5_init_4 rfl ?_
  refine j_iconst (v := 4) dX5_init_5 (by decide) ?_
  refine j_newi 4 (by decide) (by decide) (by decide) (Nat.le_of_ble_eq_true rfl) (Nat.le_of_ble_eq_true rfl) dX5_init_6 (fun k2 f_k2 => ?_)
  refine i_new hI hF rfl f_k2 (fun h hI hF => ?_)
  have hI : Inc h [(p, .inr (5, [.int 0, .null, .null, .null, .null, .null, .null, .int 0, .null, .null, .null, .null, .null, .null, .null, .null, .null, .null, .int 0, .int 0, .int 0, .null, .null, .int 0, .null, .int 0, .null, .int 0, .null, .null, .null, .null, .null])), (k2, iA 4 (fun _ => 0))] := hI
  refine pX5_7 rfl rfl (hI.1 0 _ _ rfl) rfl rfl (Nat.le_of_ble_eq_true rfl) dX5_init_8 ?_
  refine i_put hI hF rfl 0 rfl (fun h hI hF => ?_)
  have hI : Inc h [(p, .inr (5, [.int 0, .ref k2, .null, .null, .null, .null, .null, .int 0, .null, .null, .null, .null, .null, .null, .null, .null, .null, .null, .int 0, .int 0, .int 0, .null, .null, .int 0, .null, .int 0, .null, .int 0, .null, .null, .null, .null, .null])), (k2, iA 4 (fun _ => 0))] := hI
  refine j_aload_n dX5_init_11 rfl ?_
  refine j_bipush (v := 32) dX5_init_12 (by decide) ?_
  refine j_newi 32 (by decide) (by decide) (by decide) (Nat.le_of_ble_eq_true rfl) (Nat.le_of_ble_eq_true rfl) dX5_init_14 (fun k3 f_k3 => ?_)
  refine i_new hI hF rfl f_k3 (fun h hI hF => ?_)
  have hI : Inc h [(p, .inr (5, [.int 0, .ref k2, .null, .null, .null, .null, .null, .int 0, .null, .null, .null, .null, .null, .null, .null, .null, .null, .null, .int 0, .int 0, .int 0, .null, .null, .int 0, .null, .int 0, .null, .int 0, .null, .null, .null, .null, .null])), (k2, iA 4 (fun _ => 0)), (k3, iA 32 (fun _ => 0))] := hI
  refine pX5_13 rfl rfl (hI.1 0 _ _ rfl) rfl rfl (Nat.le_of_ble_eq_true rfl) dX5_init_16 ?_
  refine i_put hI hF rfl 0 rfl (fun h hI hF => ?_)
  have hI : Inc h [(p, .inr (5, [.int 0, .ref k2, .ref k3, .null, .null, .null, .null, .int 0, .null, .null, .null, .null, .null, .null, .null, .null, .null, .null, .int 0, .int 0, .int 0, .null, .null, .int 0, .null, .int 0, .null, .int 0, .null, .null, .null, .null, .null])), (k2, iA 4 (fun _ => 0)), (k3, iA 32 (fun _ => 0))] := hI
  refine j_aload_n dX5_init_19 rfl ?_
  refine j_bipush (v := 32) dX5_init_20 (by decide) ?_
  refine j_newi 32 (by decide) (by decide) (by decide) (Nat.le_of_ble_eq_true rfl) (Nat.le_of_ble_eq_true rfl) dX5_init_22 (fun k4 f_k4 => ?_)
  refine i_new hI hF rfl f_k4 (fun h hI hF => ?_)
  have hI : Inc h [(p, .inr (5, [.int 0, .ref k2, .ref k3, .null, .null, .null, .null, .int 0, .null, .null, .null, .null, .null, .null, .null, .null, .null, .null, .int 0, .int 0, .int 0, .null, .null, .int 0, .null, .int 0, .null, .int 0, .null, .null, .null, .null, .null])), (k2, iA 4 (fun _ => 0)), (k3, iA 32 (fun _ => 0)), (k4, iA 32 (fun _ => 0))] := hI
  refine pX5_16 rfl rfl (hI.1 0 _ _ rfl) rfl rfl (Nat.le_of_ble_eq_true rfl) dX5_init_24 ?_
  refine i_put hI hF rfl 0 rfl (fun h hI hF => ?_)
  have hI : Inc h [(p, .inr (5, [.int 0, .ref k2, .ref k3, .ref k4, .null, .null, .null, .int 0, .null, .null, .null, .null, .null, .null, .null, .null, .null, .null, .int 0, .int 0, .int 0, .null, .null, .int 0, .null, .int 0, .null, .int 0, .null, .null, .null, .null, .null])), (k2, iA 4 (fun _ => 0)), (k3, iA 32 (fun _ => 0)), (k4, iA 32 (fun _ => 0))] := hI
  refine j_aload_n dX5_init_27 rfl ?_
  refine j_bipush (v := 32) dX5_init_28 (by decide) ?_
  refine j_newi 32 (by decide) (by decide) (by decide) (Nat.le_of_ble_eq_true rfl) (Nat.le_of_ble_eq_true rfl) dX5_init_30 (fun k5 f_k5 => ?_)
  refine i_new hI hF rfl f_k5 (fun h hI hF => ?_)
  have hI : Inc h [(p, .inr (5, [.int 0, .ref k2, .ref k3, .ref k4, .null, .null, .null, .int 0, .null, .null, .null, .null, .null, .null, .null, .null, .null, .null, .int 0, .int 0, .int 0, .null, .null, .int 0, .null, .int 0, .null, .int 0, .null, .null, .null, .null, .null])), (k2, iA 4 (fun _ => 0)), (k3, iA 32 (fun _ => 0)), (k4, iA 32 (fun _ => 0)), (k5, iA 32 (fun _ => 0))] := hI
  refine pX5_19 rfl rfl (hI.1 0 _ _ rfl) rfl rfl (Nat.le_of_ble_eq_true rfl) dX5_init_32 ?_
  refine i_put hI hF rfl 0 rfl (fun h hI hF => ?_)
  have hI : Inc h [(p, .inr (5, [.int 0, .ref k2, .ref k3, .ref k4, .ref k5, .null, .null, .int 0, .null, .null, .null, .null, .null, .null, .null, .null, .null, .null, .int 0, .int 0, .int 0, .null, .null, .int 0, .null, .int 0, .null, .int 0, .null, .null, .null, .null, .null])), (k2, iA 4 (fun _ => 0)), (k3, iA 32 (fun _ => 0)), (k4, iA 32 (fun _ => 0)), (k5, iA 32 (fun _ => 0))] := hI
  refine j_aload_n dX5_init_35 rfl ?_
  refine j_bipush (v := 20) dX5_init_36 (by decide) ?_
  refine j_newi 20 (by decide) (by decide) (by decide) (Nat.le_of_ble_eq_true rfl) (Nat.le_of_ble_eq_true rfl) dX5_init_38 (fun k6 f_k6 => ?_)
  refine i_new hI hF rfl f_k6 (fun h hI hF => ?_)
  have hI : Inc h [(p, .inr (5, [.int 0, .ref k2, .ref k3, .ref k4, .ref k5, .null, .null, .int 0, .null, .null, .null, .null, .null, .null, .null, .null, .null, .null, .int 0, .int 0, .int 0, .null, .null, .int 0, .null, .int 0, .null, .int 0, .null, .null, .null, .null, .null])), (k2, iA 4 (fun _ => 0)), (k3, iA 32 (fun _ => 0)), (k4, iA 32 (fun _ => 0)), (k5, iA 32 (fun _ => 0)), (k6, iA 20 (fun _ => 0))] := hI
  refine pX5_22 rfl rfl (hI.1 0 _ _ rfl) rfl rfl (Nat.le_of_ble_eq_true rfl) dX5_init_40 ?_
  refine i_put hI hF rfl 0 rfl (fun h hI hF => ?_)
  have hI : Inc h [(p, .inr (5, [.int 0, .ref k2, .ref k3, .ref k4, .ref k5, .ref k6, .null, .int 0, .null, .null, .null, .null, .null, .null, .null, .null, .null, .null, .int 0, .int 0, .int 0, .null, .null, .int 0, .null, .int 0, .null, .int 0, .null, .null, .null, .null, .null])), (k2, iA 4 (fun _ => 0)), (k3, iA 32 (fun _ => 0)), (k4, iA 32 (fun _ => 0)), (k5, iA 32 (fun _ => 0)), (k6, iA 20 (fun _ => 0))] := hI
  refine j_aload_n dX5_init_43 rfl ?_
  refine j_sipush (v := 160) dX5_init_44 (by decide) ?_
  refine j_newi 160 (by decide) (by decide) (by decide) (Nat.le_of_ble_eq_true rfl) (Nat.le_of_ble_eq_true rfl) dX5_init_47 (fun k7 f_k7 => ?_)
  refine i_new hI hF rfl f_k7 (fun h hI hF => ?_)
  have hI : Inc h [(p, .inr (5, [.int 0, .ref k2, .ref k3, .ref k4, .ref k5, .ref k6, .null, .int 0, .null, .null, .null, .null, .null, .null, .null, .null, .null, .null, .int 0, .int 0, .int 0, .null, .null, .int 0, .null, .int 0, .null, .int 0, .null, .null, .null, .null, .null])), (k2, iA 4 (fun _ => 0)), (k3, iA 32 (fun _ => 0)), (k4, iA 32 (fun _ => 0)), (k5, iA 32 (fun _ => 0)), (k6, iA 20 (fun _ => 0)), (k7, iA 160 (fun _ => 0))] := hI
  refine pX5_25 rfl rfl (hI.1 0 _ _ rfl) rfl rfl (Nat.le_of_ble_eq_true rfl) dX5_init_49 ?_
  refine i_put hI hF rfl 0 rfl (fun h hI hF => ?_)
  have hI : Inc h [(p, .inr (5, [.int 0, .ref k2, .ref k3, .ref k4, .ref k5, .ref k6, .ref k7, .int 0, .null, .null, .null, .null, .null, .null, .null, .null, .null, .null, .int 0, .int 0, .int 0, .null, .null, .int 0, .null, .int 0, .null, .int 0, .null, .null, .null, .null, .null])), (k2, iA 4 (fun _ => 0)), (k3, iA 32 (fun _ => 0)), (k4, iA 32 (fun _ => 0)), (k5, iA 32 (fun _ => 0)), (k6, iA 20 (fun _ => 0)), (k7, iA 160 (fun _ => 0))] := hI
  refine j_aload_n dX5_init_52 rfl ?_
  refine j_bipush (v := 24) dX5_init_53 (by decide) ?_
  refine j_newi 24 (by decide) (by decide) (by decide) (Nat.le_of_ble_eq_true rfl) (Nat.le_of_ble_eq_true rfl) dX5_init_55 (fun k9 f_k9 => ?_)
  refine i_new hI hF rfl f_k9 (fun h hI hF => ?_)
  have hI : Inc h [(p, .inr (5, [.int 0, .ref k2, .ref k3, .ref k4, .ref k5, .ref k6, .ref k7, .int 0, .null, .null, .null, .null, .null, .null, .null, .null, .null, .null, .int 0, .int 0, .int 0, .null, .null, .int 0, .null, .int 0, .null, .int 0, .null, .null, .null, .null, .null])), (k2, iA 4 (fun _ => 0)), (k3, iA 32 (fun _ => 0)), (k4, iA 32 (fun _ => 0)), (k5, iA 32 (fun _ => 0)), (k6, iA 20 (fun _ => 0)), (k7, iA 160 (fun _ => 0)), (k9, iA 24 (fun _ => 0))] := hI
  refine pX5_28 rfl rfl (hI.1 0 _ _ rfl) rfl rfl (Nat.le_of_ble_eq_true rfl) dX5_init_57 ?_
  refine i_put hI hF rfl 0 rfl (fun h hI hF => ?_)
  have hI : Inc h [(p, .inr (5, [.int 0, .ref k2, .ref k3, .ref k4, .ref k5, .ref k6, .ref k7, .int 0, .ref k9, .null, .null, .null, .null, .null, .null, .null, .null, .null, .int 0, .int 0, .int 0, .null, .null, .int 0, .null, .int 0, .null, .int 0, .null, .null, .null, .null, .null])), (k2, iA 4 (fun _ => 0)), (k3, iA 32 (fun _ => 0)), (k4, iA 32 (fun _ => 0)), (k5, iA 32 (fun _ => 0)), (k6, iA 20 (fun _ => 0)), (k7, iA 160 (fun _ => 0)), (k9, iA 24 (fun _ => 0))] := hI
  refine j_aload_n dX5_init_60 rfl ?_
  refine j_bipush (v := 24) dX5_init_61 (by decide) ?_
  refine j_newi 24 (by decide) (by decide) (by decide) (Nat.le_of_ble_eq_true rfl) (Nat.le_of_ble_eq_true rfl) dX5_init_63 (fun k10 f_k10 => ?_)
  refine i_new hI hF rfl f_k10 (fun h hI hF => ?_)
  have hI : Inc h [(p, .inr (5, [.int 0, .ref k2, .ref k3, .ref k4, .ref k5, .ref k6, .ref k7, .int 0, .ref k9, .null, .null, .null, .null, .null, .null, .null, .null, .null, .int 0, .int 0, .int 0, .null, .null, .int 0, .null, .int 0, .null, .int 0, .null, .null, .null, .null, .null])), (k2, iA 4 (fun _ => 0)), (k3, iA 32 (fun _ => 0)), (k4, iA 32 (fun _ => 0)), (k5, iA 32 (fun _ => 0)), (k6, iA 20 (fun _ => 0)), (k7, iA 160 (fun _ => 0)), (k9, iA 24 (fun _ => 0)), (k10, iA 24 (fun _ => 0))] := hI
  refine pX5_31 rfl rfl (hI.1 0 _ _ rfl) rfl rfl (Nat.le_of_ble_eq_true rfl) dX5_init_65 ?_
  refine i_put hI hF rfl 0 rfl (fun h hI hF => ?_)
  have hI : Inc h [(p, .inr (5, [.int 0, .ref k2, .ref k3, .ref k4, .ref k5, .ref k6, .ref k7, .int 0, .ref k9, .ref k10, .null, .null, .null, .null, .null, .null, .null, .null, .int 0, .int 0, .int 0, .null, .null, .int 0, .null, .int 0, .null, .int 0, .null, .null, .null, .null, .null])), (k2, iA 4 (fun _ => 0)), (k3, iA 32 (fun _ => 0)), (k4, iA 32 (fun _ => 0)), (k5, iA 32 (fun _ => 0)), (k6, iA 20 (fun _ => 0)), (k7, iA 160 (fun _ => 0)), (k9, iA 24 (fun _ => 0)), (k10, iA 24 (fun _ => 0))] := hI
  refine j_aload_n dX5_init_68 rfl ?_
  refine j_sipush (v := 192) dX5_init_69 (by decide) ?_
  refine j_newi 192 (by decide) (by decide) (by decide) (Nat.le_of_ble_eq_true rfl) (Nat.le_of_ble_eq_true rfl) dX5_init_72 (fun k11 f_k11 => ?_)
  refine i_new hI hF rfl f_k11 (fun h hI hF => ?_)
  have hI : Inc h [(p, .inr (5, [.int 0, .ref k2, .ref k3, .ref k4, .ref k5, .ref k6, .ref k7, .int 0, .ref k9, .ref k10, .null, .null, .null, .null, .null, .null, .null, .null, .int 0, .int 0, .int 0, .null, .null, .int 0, .null, .int 0, .null, .int 0, .null, .null, .null, .null, .null])), (k2, iA 4 (fun _ => 0)), (k3, iA 32 (fun _ => 0)), (k4, iA 32 (fun _ => 0)), (k5, iA 32 (fun _ => 0)), (k6, iA 20 (fun _ => 0)), (k7, iA 160 (fun _ => 0)), (k9, iA 24 (fun _ => 0)), (k10, iA 24 (fun _ => 0)), (k11, iA 192 (fun _ => 0))] := hI
  refine pX5_34 rfl rfl (hI.1 0 _ _ rfl) rfl rfl (Nat.le_of_ble_eq_true rfl) dX5_init_74 ?_
  refine i_put hI hF rfl 0 rfl (fun h hI hF => ?_)
  have hI : Inc h [(p, .inr (5, [.int 0, .ref k2, .ref k3, .ref k4, .ref k5, .ref k6, .ref k7, .int 0, .ref k9, .ref k10, .ref k11, .null, .null, .null, .null, .null, .null, .null, .int 0, .int 0, .int 0, .null, .null, .int 0, .null, .int 0, .null, .int 0, .null, .null, .null, .null, .null])), (k2, iA 4 (fun _ => 0)), (k3, iA 32 (fun _ => 0)), (k4, iA 32 (fun _ => 0)), (k5, iA 32 (fun _ => 0)), (k6, iA 20 (fun _ => 0)), (k7, iA 160 (fun _ => 0)), (k9, iA 24 (fun _ => 0)), (k10, iA 24 (fun _ => 0)), (k11, iA 192 (fun _ => 0))] := hI
  refine j_aload_n dX5_init_77 rfl ?_
  refine j_sipush (v := 192) dX5_init_78 (by decide) ?_
  refine j_newi 192 (by decide) (by decide) (by decide) (Nat.le_of_ble_eq_true rfl) (Nat.le_of_ble_eq_true rfl) dX5_init_81 (fun k12 f_k12 => ?_)
  refine i_new hI hF rfl f_k12 (fun h hI hF => ?_)
  have hI : Inc h [(p, .inr (5, [.int 0, .ref k2, .ref k3, .ref k4, .ref k5, .ref k6, .ref k7, .int 0, .ref k9, .ref k10, .ref k11, .null, .null, .null, .null, .null, .null, .null, .int 0, .int 0, .int 0, .null, .null, .int 0, .null, .int 0, .null, .int 0, .null, .null, .null, .null, .null])), (k2, iA 4 (fun _ => 0)), (k3, iA 32 (fun _ => 0)), (k4, iA 32 (fun _ => 0)), (k5, iA 32 (fun _ => 0)), (k6, iA 20 (fun _ => 0)), (k7, iA 160 (fun _ => 0)), (k9, iA 24 (fun _ => 0)), (k10, iA 24 (fun _ => 0)), (k11, iA 192 (fun _ => 0)), (k12, iA 192 (fun _ => 0))] := hI
  refine pX5_37 rfl rfl (hI.1 0 _ _ rfl) rfl rfl (Nat.le_of_ble_eq_true rfl) dX5_init_83 ?_
  refine i_put hI hF rfl 0 rfl (fun h hI hF => ?_)
  have hI : Inc h [(p, .inr (5, [.int 0, .ref k2, .ref k3, .ref k4, .ref k5, .ref k6, .ref k7, .int 0, .ref k9, .ref k10, .ref k11, .ref k12, .null, .null, .null, .null, .null, .null, .int 0, .int 0, .int 0, .null, .null, .int 0, .null, .int 0, .null, .int 0, .null, .null, .null, .null, .null])), (k2, iA 4 (fun _ => 0)), (k3, iA 32 (fun _ => 0)), (k4, iA 32 (fun _ => 0)), (k5, iA 32 (fun _ => 0)), (k6, iA 20 (fun _ => 0)), (k7, iA 160 (fun _ => 0)), (k9, iA 24 (fun _ => 0)), (k10, iA 24 (fun _ => 0)), (k11, iA 192 (fun _ => 0)), (k12, iA 192 (fun _ => 0))] := hI
  refine j_aload_n dX5_init_86 rfl ?_
  refine j_sipush (v := 192) dX5_init_87 (by decide) ?_
  refine j_newi 192 (by decide) (by decide) (by decide) (Nat.le_of_ble_eq_true rfl) (Nat.le_of_ble_eq_true rfl) dX5_init_90 (fun k13 f_k13 => ?_)
  refine i_new hI hF rfl f_k13 (fun h hI hF => ?_)
  have hI : Inc h [(p, .inr (5, [.int 0, .ref k2, .ref k3, .ref k4, .ref k5, .ref k6, .ref k7, .int 0, .ref k9, .ref k10, .ref k11, .ref k12, .null, .null, .null, .null, .null, .null, .int 0, .int 0, .int 0, .null, .null, .int 0, .null, .int 0, .null, .int 0, .null, .null, .null, .null, .null])), (k2, iA 4 (fun _ => 0)), (k3, iA 32 (fun _ => 0)), (k4, iA 32 (fun _ => 0)), (k5, iA 32 (fun _ => 0)), (k6, iA 20 (fun _ => 0)), (k7, iA 160 (fun _ => 0)), (k9, iA 24 (fun _ => 0)), (k10, iA 24 (fun _ => 0)), (k11, iA 192 (fun _ => 0)), (k12, iA 192 (fun _ => 0)), (k13, iA 192 (fun _ => 0))] := hI
  refine pX5_40 rfl rfl (hI.1 0 _ _ rfl) rfl rfl (Nat.le_of_ble_eq_true rfl) dX5_init_92 ?_
  refine i_put hI hF rfl 0 rfl (fun h hI hF => ?_)
  have hI : Inc h [(p, .inr (5, [.int 0, .ref k2, .ref k3, .ref k4, .ref k5, .ref k6, .ref k7, .int 0, .ref k9, .ref k10, .ref k11, .ref k12, .ref k13, .null, .null, .null, .null, .null, .int 0, .int 0, .int 0, .null, .null, .int 0, .null, .int 0, .null, .int 0, .null, .null, .null, .null, .null])), (k2, iA 4 (fun _ => 0)), (k3, iA 32 (fun _ => 0)), (k4, iA 32 (fun _ => 0)), (k5, iA 32 (fun _ => 0)), (k6, iA 20 (fun _ => 0)), (k7, iA 160 (fun _ => 0)), (k9, iA 24 (fun _ => 0)), (k10, iA 24 (fun _ => 0)), (k11, iA 192 (fun _ => 0)), (k12, iA 192 (fun _ => 0)), (k13, iA 192 (fun _ => 0))] := hI
  refine j_aload_n dX5_init_95 rfl ?_
  refine j_bipush (v := 120) dX5_init_96 (by decide) ?_
  refine j_newi 120 (by decide) (by decide) (by decide) (Nat.le_of_ble_eq_true rfl) (Nat.le_of_ble_eq_true rfl) dX5_init_98 (fun k14 f_k14 => ?_)
  refine i_new hI hF rfl f_k14 (fun h hI hF => ?_)
  have hI : Inc h [(p, .inr (5, [.int 0, .ref k2, .ref k3, .ref k4, .ref k5, .ref k6, .ref k7, .int 0, .ref k9, .ref k10, .ref k11, .ref k12, .ref k13, .null, .null, .null, .null, .null, .int 0, .int 0, .int 0, .null, .null, .int 0, .null, .int 0, .null, .int 0, .null, .null, .null, .null, .null])), (k2, iA 4 (fun _ => 0)), (k3, iA 32 (fun _ => 0)), (k4, iA 32 (fun _ => 0)), (k5, iA 32 (fun _ => 0)), (k6, iA 20 (fun _ => 0)), (k7, iA 160 (fun _ => 0)), (k9, iA 24 (fun _ => 0)), (k10, iA 24 (fun _ => 0)), (k11, iA 192 (fun _ => 0)), (k12, iA 192 (fun _ => 0)), (k13, iA 192 (fun _ => 0)), (k14, iA 120 (fun _ => 0))] := hI
  refine pX5_43 rfl rfl (hI.1 0 _ _ rfl) rfl rfl (Nat.le_of_ble_eq_true rfl) dX5_init_100 ?_
  refine i_put hI hF rfl 0 rfl (fun h hI hF => ?_)
  have hI : Inc h [(p, .inr (5, [.int 0, .ref k2, .ref k3, .ref k4, .ref k5, .ref k6, .ref k7, .int 0, .ref k9, .ref k10, .ref k11, .ref k12, .ref k13, .ref k14, .null, .null, .null, .null, .int 0, .int 0, .int 0, .null, .null, .int 0, .null, .int 0, .null, .int 0, .null, .null, .null, .null, .null])), (k2, iA 4 (fun _ => 0)), (k3, iA 32 (fun _ => 0)), (k4, iA 32 (fun _ => 0)), (k5, iA 32 (fun _ => 0)), (k6, iA 20 (fun _ => 0)), (k7, iA 160 (fun _ => 0)), (k9, iA 24 (fun _ => 0)), (k10, iA 24 (fun _ => 0)), (k11, iA 192 (fun _ => 0)), (k12, iA 192 (fun _ => 0)), (k13, iA 192 (fun _ => 0)), (k14, iA 120 (fun _ => 0))] := hI
  refine j_aload_n dX5_init_103 rfl ?_
  refine j_sipush (v := 960) dX5_init_104 (by decide) ?_
  refine j_newi 960 (by decide) (by decide) (by decide) (Nat.le_of_ble_eq_true rfl) (Nat.le_of_ble_eq_true rfl) dX5_init_107 (fun k15 f_k15 => ?_)
  refine i_new hI hF rfl f_k15 (fun h hI hF => ?_)
  have hI : Inc h [(p, .inr (5, [.int 0, .ref k2, .ref k3, .ref k4, .ref k5, .ref k6, .ref k7, .int 0, .ref k9, .ref k10, .ref k11, .ref k12, .ref k13, .ref k14, .null, .null, .null, .null, .int 0, .int 0, .int 0, .null, .null, .int 0, .null, .int 0, .null, .int 0, .null, .null, .null, .null, .null])), (k2, iA 4 (fun _ => 0)), (k3, iA 32 (fun _ => 0)), (k4, iA 32 (fun _ => 0)), (k5, iA 32 (fun _ => 0)), (k6, iA 20 (fun _ => 0)), (k7, iA 160 (fun _ => 0)), (k9, iA 24 (fun _ => 0)), (k10, iA 24 (fun _ => 0)), (k11, iA 192 (fun _ => 0)), (k12, iA 192 (fun _ => 0)), (k13, iA 192 (fun _ => 0)), (k14, iA 120 (fun _ => 0)), (k15, iA 960 (fun _ => 0))] := hI
  refine pX5_46 rfl rfl (hI.1 0 _ _ rfl) rfl rfl (Nat.le_of_ble_eq_true rfl) dX5_init_109 ?_
  refine i_put hI hF rfl 0 rfl (fun h hI hF => ?_)
  have hI : Inc h [(p, .inr (5, [.int 0, .ref k2, .ref k3, .ref k4, .ref k5, .ref k6, .ref k7, .int 0, .ref k9, .ref k10, .ref k11, .ref k12, .ref k13, .ref k14, .ref k15, .null, .null, .null, .int 0, .int 0, .int 0, .null, .null, .int 0, .null, .int 0, .null, .int 0, .null, .null, .null, .null, .null])), (k2, iA 4 (fun _ => 0)), (k3, iA 32 (fun _ => 0)), (k4, iA 32 (fun _ => 0)), (k5, iA 32 (fun _ => 0)), (k6, iA 20 (fun _ => 0)), (k7, iA 160 (fun _ => 0)), (k9, iA 24 (fun _ => 0)), (k10, iA 24 (fun _ => 0)), (k11, iA 192 (fun _ => 0)), (k12, iA 192 (fun _ => 0)), (k13, iA 192 (fun _ => 0)), (k14, iA 120 (fun _ => 0)), (k15, iA 960 (fun _ => 0))] := hI
  refine j_aload_n dX5_init_112 rfl ?_
  refine j_bipush (v := 24) dX5_init_113 (by decide) ?_
  refine j_newz 24 (by decide) (by decide) (by decide) (Nat.le_of_ble_eq_true rfl) (Nat.le_of_ble_eq_true rfl) dX5_init_115 (fun k16 f_k16 => ?_)
  refine i_new hI hF rfl f_k16 (fun h hI hF => ?_)
  have hI : Inc h [(p, .inr (5, [.int 0, .ref k2, .ref k3, .ref k4, .ref k5, .ref k6, .ref k7, .int 0, .ref k9, .ref k10, .ref k11, .ref k12, .ref k13, .ref k14, .ref k15, .null, .null, .null, .int 0, .int 0, .int 0, .null, .null, .int 0, .null, .int 0, .null, .int 0, .null, .null, .null, .null, .null])), (k2, iA 4 (fun _ => 0)), (k3, iA 32 (fun _ => 0)), (k4, iA 32 (fun _ => 0)), (k5, iA 32 (fun _ => 0)), (k6, iA 20 (fun _ => 0)), (k7, iA 160 (fun _ => 0)), (k9, iA 24 (fun _ => 0)), (k10, iA 24 (fun _ => 0)), (k11, iA 192 (fun _ => 0)), (k12, iA 192 (fun _ => 0)), (k13, iA 192 (fun _ => 0)), (k14, iA 120 (fun _ => 0)), (k15, iA 960 (fun _ => 0)), (k16, zA 24 (fun _ => 0))] := hI
  refine pX5_49 rfl rfl (hI.1 0 _ _ rfl) rfl rfl (Nat.le_of_ble_eq_true rfl) dX5_init_117 ?_
  refine i_put hI hF rfl 0 rfl (fun h hI hF => ?_)
  have hI : Inc h [(p, .inr (5, [.int 0, .ref k2, .ref k3, .ref k4, .ref k5, .ref k6, .ref k7, .int 0, .ref k9, .ref k10, .ref k11, .ref k12, .ref k13, .ref k14, .ref k15, .ref k16, .null, .null, .int 0, .int 0, .int 0, .null, .null, .int 0, .null, .int 0, .null, .int 0, .null, .null, .null, .null, .null])), (k2, iA 4 (fun _ => 0)), (k3, iA 32 (fun _ => 0)), (k4, iA 32 (fun _ => 0)), (k5, iA 32 (fun _ => 0)), (k6, iA 20 (fun _ => 0)), (k7, iA 160 (fun _ => 0)), (k9, iA 24 (fun _ => 0)), (k10, iA 24 (fun _ => 0)), (k11, iA 192 (fun _ => 0)), (k12, iA 192 (fun _ => 0)), (k13, iA 192 (fun _ => 0)), (k14, iA 120 (fun _ => 0)), (k15, iA 960 (fun _ => 0)), (k16, zA 24 (fun _ => 0))] := hI
  refine j_aload_n dX5_init_120 rfl ?_
  refine j_bipush (v := 24) dX5_init_121 (by decide) ?_
  refine j_newz 24 (by decide) (by decide) (by decide) (Nat.le_of_ble_eq_true rfl) (Nat.le_of_ble_eq_true rfl) dX5_init_123 (fun k17 f_k17 => ?_)
  refine i_new hI hF rfl f_k17 (fun h hI hF => ?_)
  have hI : Inc h [(p, .inr (5, [.int 0, .ref k2, .ref k3, .ref k4, .ref k5, .ref k6, .ref k7, .int 0, .ref k9, .ref k10, .ref k11, .ref k12, .ref k13, .ref k14, .ref k15, .ref k16, .null, .null, .int 0, .int 0, .int 0, .null, .null, .int 0, .null, .int 0, .null, .int 0, .null, .null, .null, .null, .null])), (k2, iA 4 (fun _ => 0)), (k3, iA 32 (fun _ => 0)), (k4, iA 32 (fun _ => 0)), (k5, iA 32 (fun _ => 0)), (k6, iA 20 (fun _ => 0)), (k7, iA 160 (fun _ => 0)), (k9, iA 24 (fun _ => 0)), (k10, iA 24 (fun _ => 0)), (k11, iA 192 (fun _ => 0)), (k12, iA 192 (fun _ => 0)), (k13, iA 192 (fun _ => 0)), (k14, iA 120 (fun _ => 0)), (k15, iA 960 (fun _ => 0)), (k16, zA 24 (fun _ => 0)), (k17, zA 24 (fun _ => 0))] := hI
  refine pX5_53 rfl rfl (hI.1 0 _ _ rfl) rfl rfl (Nat.le_of_ble_eq_true rfl) dX5_init_125 ?_
  refine i_put hI hF rfl 0 rfl (fun h hI hF => ?_)
  have hI : Inc h [(p, .inr (5, [.int 0, .ref k2, .ref k3, .ref k4, .ref k5, .ref k6, .ref k7, .int 0, .ref k9, .ref k10, .ref k11, .ref k12, .ref k13, .ref k14, .ref k15, .ref k16, .ref k17, .null, .int 0, .int 0, .int 0, .null, .null, .int 0, .null, .int 0, .null, .int 0, .null, .null, .null, .null, .null])), (k2, iA 4 (fun _ => 0)), (k3, iA 32 (fun _ => 0)), (k4, iA 32 (fun _ => 0)), (k5, iA 32 (fun _ => 0)), (k6, iA 20 (fun _ => 0)), (k7, iA 160 (fun _ => 0)), (k9, iA 24 (fun _ => 0)), (k10, iA 24 (fun _ => 0)), (k11, iA 192 (fun _ => 0)), (k12, iA 192 (fun _ => 0)), (k13, iA 192 (fun _ => 0)), (k14, iA 120 (fun _ => 0)), (k15, iA 960 (fun _ => 0)), (k16, zA 24 (fun _ => 0)), (k17, zA 24 (fun _ => 0))] := hI
  refine j_aload_n dX5_init_128 rfl ?_
  refine j_bipush (v := 24) dX5_init_129 (by decide) ?_
  refine j_newi 24 (by decide) (by decide) (by decide) (Nat.le_of_ble_eq_true rfl) (Nat.le_of_ble_eq_true rfl) dX5_init_131 (fun k18 f_k18 => ?_)
  refine i_new hI hF rfl f_k18 (fun h hI hF => ?_)
  have hI : Inc h [(p, .inr (5, [.int 0, .ref k2, .ref k3, .ref k4, .ref k5, .ref k6, .ref k7, .int 0, .ref k9, .ref k10, .ref k11, .ref k12, .ref k13, .ref k14, .ref k15, .ref k16, .ref k17, .null, .int 0, .int 0, .int 0, .null, .null, .int 0, .null, .int 0, .null, .int 0, .null, .null, .null, .null, .null])), (k2, iA 4 (fun _ => 0)), (k3, iA 32 (fun _ => 0)), (k4, iA 32 (fun _ => 0)), (k5, iA 32 (fun _ => 0)), (k6, iA 20 (fun _ => 0)), (k7, iA 160 (fun _ => 0)), (k9, iA 24 (fun _ => 0)), (k10, iA 24 (fun _ => 0)), (k11, iA 192 (fun _ => 0)), (k12, iA 192 (fun _ => 0)), (k13, iA 192 (fun _ => 0)), (k14, iA 120 (fun _ => 0)), (k15, iA 960 (fun _ => 0)), (k16, zA 24 (fun _ => 0)), (k17, zA 24 (fun _ => 0)), (k18, iA 24 (fun _ => 0))] := hI
  refine pX5_56 rfl rfl (hI.1 0 _ _ rfl) rfl rfl (Nat.le_of_ble_eq_true rfl) dX5_init_133 ?_
  refine i_put hI hF rfl 0 rfl (fun h hI hF => ?_)
  have hI : Inc h [(p, .inr (5, [.int 0, .ref k2, .ref k3, .ref k4, .ref k5, .ref k6, .ref k7, .int 0, .ref k9, .ref k10, .ref k11, .ref k12, .ref k13, .ref k14, .ref k15, .ref k16, .ref k17, .ref k18, .int 0, .int 0, .int 0, .null, .null, .int 0, .null, .int 0, .null, .int 0, .null, .null, .null, .null, .null])), (k2, iA 4 (fun _ => 0)), (k3, iA 32 (fun _ => 0)), (k4, iA 32 (fun _ => 0)), (k5, iA 32 (fun _ => 0)), (k6, iA 20 (fun _ => 0)), (k7, iA 160 (fun _ => 0)), (k9, iA 24 (fun _ => 0)), (k10, iA 24 (fun _ => 0)), (k11, iA 192 (fun _ => 0)), (k12, iA 192 (fun _ => 0)), (k13, iA 192 (fun _ => 0)), (k14, iA 120 (fun _ => 0)), (k15, iA 960 (fun _ => 0)), (k16, zA 24 (fun _ => 0)), (k17, zA 24 (fun _ => 0)), (k18, iA 24 (fun _ => 0))] := hI
  refine j_aload_n dX5_init_136 rfl ?_
  refine j_iconst (v := 5) dX5_init_137 (by decide) ?_
  refine j_newi 5 (by decide) (by decide) (by decide) (Nat.le_of_ble_eq_true rfl) (Nat.le_of_ble_eq_true rfl) dX5_init_138 (fun k22 f_k22 => ?_)
  refine i_new hI hF rfl f_k22 (fun h hI hF => ?_)
  have hI : Inc h [(p, .inr (5, [.int 0, .ref k2, .ref k3, .ref k4, .ref k5, .ref k6, .ref k7, .int 0, .ref k9, .ref k10, .ref k11, .ref k12, .ref k13, .ref k14, .ref k15, .ref k16, .ref k17, .ref k18, .int 0, .int 0, .int 0, .null, .null, .int 0, .null, .int 0, .null, .int 0, .null, .null, .null, .null, .null])), (k2, iA 4 (fun _ => 0)), (k3, iA 32 (fun _ => 0)), (k4, iA 32 (fun _ => 0)), (k5, iA 32 (fun _ => 0)), (k6, iA 20 (fun _ => 0)), (k7, iA 160 (fun _ => 0)), (k9, iA 24 (fun _ => 0)), (k10, iA 24 (fun _ => 0)), (k11, iA 192 (fun _ => 0)), (k12, iA 192 (fun _ => 0)), (k13, iA 192 (fun _ => 0)), (k14, iA 120 (fun _ => 0)), (k15, iA 960 (fun _ => 0)), (k16, zA 24 (fun _ => 0)), (k17, zA 24 (fun _ => 0)), (k18, iA 24 (fun _ => 0)), (k22, iA 5 (fun _ => 0))] := hI
  refine j_dup dX5_init_140 rfl ?_
  refine j_iconst (v := 0) dX5_init_141 (by decide) ?_
  refine j_sipush (v := (-30000)) dX5_init_142 (by decide) ?_
  refine j_iast (hI.1 17 _ _ rfl) 0 rfl (by decide) (by decide) dX5_init_145 ?_
  refine i_put hI hF rfl 17 rfl (fun h hI hF => ?_)
  have hI : Inc h [(p, .inr (5, [.int 0, .ref k2, .ref k3, .ref k4, .ref k5, .ref k6, .ref k7, .int 0, .ref k9, .ref k10, .ref k11, .ref k12, .ref k13, .ref k14, .ref k15, .ref k16, .ref k17, .ref k18, .int 0, .int 0, .int 0, .null, .null, .int 0, .null, .int 0, .null, .int 0, .null, .null, .null, .null, .null])), (k2, iA 4 (fun _ => 0)), (k3, iA 32 (fun _ => 0)), (k4, iA 32 (fun _ => 0)), (k5, iA 32 (fun _ => 0)), (k6, iA 20 (fun _ => 0)), (k7, iA 160 (fun _ => 0)), (k9, iA 24 (fun _ => 0)), (k10, iA 24 (fun _ => 0)), (k11, iA 192 (fun _ => 0)), (k12, iA 192 (fun _ => 0)), (k13, iA 192 (fun _ => 0)), (k14, iA 120 (fun _ => 0)), (k15, iA 960 (fun _ => 0)), (k16, zA 24 (fun _ => 0)), (k17, zA 24 (fun _ => 0)), (k18, iA 24 (fun _ => 0)), (k22, iA 5 (upd (fun _ => 0) 0 (-30000)))] := hI
  refine j_dup dX5_init_146 rfl ?_
  refine j_iconst (v := 1) dX5_init_147 (by decide) ?_
  refine j_sipush (v := (-30000)) dX5_init_148 (by decide) ?_
  refine j_iast (hI.1 17 _ _ rfl) 1 rfl (by decide) (by decide) dX5_init_151 ?_
  refine i_put hI hF rfl 17 rfl (fun h hI hF => ?_)
  have hI : Inc h [(p, .inr (5, [.int 0, .ref k2, .ref k3, .ref k4, .ref k5, .ref k6, .ref k7, .int 0, .ref k9, .ref k10, .ref k11, .ref k12, .ref k13, .ref k14, .ref k15, .ref k16, .ref k17, .ref k18, .int 0, .int 0, .int 0, .null, .null, .int 0, .null, .int 0, .null, .int 0, .null, .null, .null, .null, .null])), (k2, iA 4 (fun _ => 0)), (k3, iA 32 (fun _ => 0)), (k4, iA 32 (fun _ => 0)), (k5, iA 32 (fun _ => 0)), (k6, iA 20 (fun _ => 0)), (k7, iA 160 (fun _ => 0)), (k9, iA 24 (fun _ => 0)), (k10, iA 24 (fun _ => 0)), (k11, iA 192 (fun _ => 0)), (k12, iA 192 (fun _ => 0)), (k13, iA 192 (fun _ => 0)), (k14, iA 120 (fun _ => 0)), (k15, iA 960 (fun _ => 0)), (k16, zA 24 (fun _ => 0)), (k17, zA 24 (fun _ => 0)), (k18, iA 24 (fun _ => 0)), (k22, iA 5 (upd (upd (fun _ => 0) 0 (-30000)) 1 (-30000)))] := hI
  refine j_dup dX5_init_152 rfl ?_
  refine j_iconst (v := 2) dX5_init_153 (by decide) ?_
  refine j_sipush (v := (-30000)) dX5_init_154 (by decide) ?_
  refine j_iast (hI.1 17 _ _ rfl) 2 rfl (by decide) (by decide) dX5_init_157 ?_
  refine i_put hI hF rfl 17 rfl (fun h hI hF => ?_)
  have hI : Inc h [(p, .inr (5, [.int 0, .ref k2, .ref k3, .ref k4, .ref k5, .ref k6, .ref k7, .int 0, .ref k9, .ref k10, .ref k11, .ref k12, .ref k13, .ref k14, .ref k15, .ref k16, .ref k17, .ref k18, .int 0, .int 0, .int 0, .null, .null, .int 0, .null, .int 0, .null, .int 0, .null, .null, .null, .null, .null])), (k2, iA 4 (fun _ => 0)), (k3, iA 32 (fun _ => 0)), (k4, iA 32 (fun _ => 0)), (k5, iA 32 (fun _ => 0)), (k6, iA 20 (fun _ => 0)), (k7, iA 160 (fun _ => 0)), (k9, iA 24 (fun _ => 0)), (k10, iA 24 (fun _ => 0)), (k11, iA 192 (fun _ => 0)), (k12, iA 192 (fun _ => 0)), (k13, iA 192 (fun _ => 0)), (k14, iA 120 (fun _ => 0)), (k15, iA 960 (fun _ => 0)), (k16, zA 24 (fun _ => 0)), (k17, zA 24 (fun _ => 0)), (k18, iA 24 (fun _ => 0)), (k22, iA 5 (upd (upd (upd (fun _ => 0) 0 (-30000)) 1 (-30000)) 2 (-30000)))] := hI
  refine j_dup dX5_init_158 rfl ?_
  refine j_iconst (v := 3) dX5_init_159 (by decide) ?_
  refine j_sipush (v := (-30000)) dX5_init_160 (by decide) ?_
  refine j_iast (hI.1 17 _ _ rfl) 3 rfl (by decide) (by decide) dX5_init_163 ?_
  refine i_put hI hF rfl 17 rfl (fun h hI hF => ?_)
  have hI : Inc h [(p, .inr (5, [.int 0, .ref k2, .ref k3, .ref k4, .ref k5, .ref k6, .ref k7, .int 0, .ref k9, .ref k10, .ref k11, .ref k12, .ref k13, .ref k14, .ref k15, .ref k16, .ref k17, .ref k18, .int 0, .int 0, .int 0, .null, .null, .int 0, .null, .int 0, .null, .int 0, .null, .null, .null, .null, .null])), (k2, iA 4 (fun _ => 0)), (k3, iA 32 (fun _ => 0)), (k4, iA 32 (fun _ => 0)), (k5, iA 32 (fun _ => 0)), (k6, iA 20 (fun _ => 0)), (k7, iA 160 (fun _ => 0)), (k9, iA 24 (fun _ => 0)), (k10, iA 24 (fun _ => 0)), (k11, iA 192 (fun _ => 0)), (k12, iA 192 (fun _ => 0)), (k13, iA 192 (fun _ => 0)), (k14, iA 120 (fun _ => 0)), (k15, iA 960 (fun _ => 0)), (k16, zA 24 (fun _ => 0)), (k17, zA 24 (fun _ => 0)), (k18, iA 24 (fun _ => 0)), (k22, iA 5 (upd (upd (upd (upd (fun _ => 0) 0 (-30000)) 1 (-30000)) 2 (-30000)) 3 (-30000)))] := hI
  refine j_dup dX5_init_164 rfl ?_
  refine j_iconst (v := 4) dX5_init_165 (by decide) ?_
  refine j_sipush (v := (-30000)) dX5_init_166 (by decide) ?_
  refine j_iast (hI.1 17 _ _ rfl) 4 rfl (by decide) (by decide) dX5_init_169 ?_
  refine i_put hI hF rfl 17 rfl (fun h hI hF => ?_)
  have hI : Inc h [(p, .inr (5, [.int 0, .ref k2, .ref k3, .ref k4, .ref k5, .ref k6, .ref k7, .int 0, .ref k9, .ref k10, .ref k11, .ref k12, .ref k13, .ref k14, .ref k15, .ref k16, .ref k17, .ref k18, .int 0, .int 0, .int 0, .null, .null, .int 0, .null, .int 0, .null, .int 0, .null, .null, .null, .null, .null])), (k2, iA 4 (fun _ => 0)), (k3, iA 32 (fun _ => 0)), (k4, iA 32 (fun _ => 0)), (k5, iA 32 (fun _ => 0)), (k6, iA 20 (fun _ => 0)), (k7, iA 160 (fun _ => 0)), (k9, iA 24 (fun _ => 0)), (k10, iA 24 (fun _ => 0)), (k11, iA 192 (fun _ => 0)), (k12, iA 192 (fun _ => 0)), (k13, iA 192 (fun _ => 0)), (k14, iA 120 (fun _ => 0)), (k15, iA 960 (fun _ => 0)), (k16, zA 24 (fun _ => 0)), (k17, zA 24 (fun _ => 0)), (k18, iA 24 (fun _ => 0)), (k22, iA 5 (upd (upd (upd (upd (upd (fun _ => 0) 0 (-30000)) 1 (-30000)) 2 (-30000)) 3 (-30000)) 4 (-30000)))] := hI
  refine J.fun0 (fun _ => -30000) (hI.1 17 _ _ rfl) (fun j hj => by rcases (show j = 0 ∨ j = 1 ∨ j = 2 ∨ j = 3 ∨ j = 4 by omega) with rfl | rfl | rfl | rfl | rfl <;> rfl) ?_
  refine i_put hI hF rfl 17 rfl (fun h hI hF => ?_)
  have hI : Inc h [(p, .inr (5, [.int 0, .ref k2, .ref k3, .ref k4, .ref k5, .ref k6, .ref k7, .int 0, .ref k9, .ref k10, .ref k11, .ref k12, .ref k13, .ref k14, .ref k15, .ref k16, .ref k17, .ref k18, .int 0, .int 0, .int 0, .null, .null, .int 0, .null, .int 0, .null, .int 0, .null, .null, .null, .null, .null])), (k2, iA 4 (fun _ => 0)), (k3, iA 32 (fun _ => 0)), (k4, iA 32 (fun _ => 0)), (k5, iA 32 (fun _ => 0)), (k6, iA 20 (fun _ => 0)), (k7, iA 160 (fun _ => 0)), (k9, iA 24 (fun _ => 0)), (k10, iA 24 (fun _ => 0)), (k11, iA 192 (fun _ => 0)), (k12, iA 192 (fun _ => 0)), (k13, iA 192 (fun _ => 0)), (k14, iA 120 (fun _ => 0)), (k15, iA 960 (fun _ => 0)), (k16, zA 24 (fun _ => 0)), (k17, zA 24 (fun _ => 0)), (k18, iA 24 (fun _ => 0)), (k22, iA 5 (fun _ => -30000))] := hI
  refine pX5_59 rfl rfl (hI.1 0 _ _ rfl) rfl rfl (Nat.le_of_ble_eq_true rfl) dX5_init_170 ?_
  refine i_put hI hF rfl 0 rfl (fun h hI hF => ?_)
  have hI : Inc h [(p, .inr (5, [.int 0, .ref k2, .ref k3, .ref k4, .ref k5, .ref k6, .ref k7, .int 0, .ref k9, .ref k10, .ref k11, .ref k12, .ref k13, .ref k14, .ref k15, .ref k16, .ref k17, .ref k18, .int 0, .int 0, .int 0, .ref k22, .null, .int 0, .null, .int 0, .null, .int 0, .null, .null, .null, .null, .null])), (k2, iA 4 (fun _ => 0)), (k3, iA 32 (fun _ => 0)), (k4, iA 32 (fun _ => 0)), (k5, iA 32 (fun _ => 0)), (k6, iA 20 (fun _ => 0)), (k7, iA 160 (fun _ => 0)), (k9, iA 24 (fun _ => 0)), (k10, iA 24 (fun _ => 0)), (k11, iA 192 (fun _ => 0)), (k12, iA 192 (fun _ => 0)), (k13, iA 192 (fun _ => 0)), (k14, iA 120 (fun _ => 0)), (k15, iA 960 (fun _ => 0)), (k16, zA 24 (fun _ => 0)), (k17, zA 24 (fun _ => 0)), (k18, iA 24 (fun _ => 0)), (k22, iA 5 (fun _ => -30000))] := hI
  refine j_aload_n dX5_init_173 rfl ?_
  refine j_iconst (v := 5) dX5_init_174 (by decide) ?_
  refine j_newi 5 (by decide) (by decide) (by decide) (Nat.le_of_ble_eq_true rfl) (Nat.le_of_ble_eq_true rfl) dX5_init_175 (fun k23 f_k23 => ?_)
  refine i_new hI hF rfl f_k23 (fun h hI hF => ?_)
  have hI : Inc h [(p, .inr (5, [.int 0, .ref k2, .ref k3, .ref k4, .ref k5, .ref k6, .ref k7, .int 0, .ref k9, .ref k10, .ref k11, .ref k12, .ref k13, .ref k14, .ref k15, .ref k16, .ref k17, .ref k18, .int 0, .int 0, .int 0, .ref k22, .null, .int 0, .null, .int 0, .null, .int 0, .null, .null, .null, .null, .null])), (k2, iA 4 (fun _ => 0)), (k3, iA 32 (fun _ => 0)), (k4, iA 32 (fun _ => 0)), (k5, iA 32 (fun _ => 0)), (k6, iA 20 (fun _ => 0)), (k7, iA 160 (fun _ => 0)), (k9, iA 24 (fun _ => 0)), (k10, iA 24 (fun _ => 0)), (k11, iA 192 (fun _ => 0)), (k12, iA 192 (fun _ => 0)), (k13, iA 192 (fun _ => 0)), (k14, iA 120 (fun _ => 0)), (k15, iA 960 (fun _ => 0)), (k16, zA 24 (fun _ => 0)), (k17, zA 24 (fun _ => 0)), (k18, iA 24 (fun _ => 0)), (k22, iA 5 (fun _ => -30000)), (k23, iA 5 (fun _ => 0))] := hI
  refine j_dup dX5_init_177 rfl ?_
  refine j_iconst (v := 0) dX5_init_178 (by decide) ?_
  refine j_sipush (v := 30000) dX5_init_179 (by decide) ?_
  refine j_iast (hI.1 18 _ _ rfl) 0 rfl (by decide) (by decide) dX5_init_182 ?_
  refine i_put hI hF rfl 18 rfl (fun h hI hF => ?_)
  have hI : Inc h [(p, .inr (5, [.int 0, .ref k2, .ref k3, .ref k4, .ref k5, .ref k6, .ref k7, .int 0, .ref k9, .ref k10, .ref k11, .ref k12, .ref k13, .ref k14, .ref k15, .ref k16, .ref k17, .ref k18, .int 0, .int 0, .int 0, .ref k22, .null, .int 0, .null, .int 0, .null, .int 0, .null, .null, .null, .null, .null])), (k2, iA 4 (fun _ => 0)), (k3, iA 32 (fun _ => 0)), (k4, iA 32 (fun _ => 0)), (k5, iA 32 (fun _ => 0)), (k6, iA 20 (fun _ => 0)), (k7, iA 160 (fun _ => 0)), (k9, iA 24 (fun _ => 0)), (k10, iA 24 (fun _ => 0)), (k11, iA 192 (fun _ => 0)), (k12, iA 192 (fun _ => 0)), (k13, iA 192 (fun _ => 0)), (k14, iA 120 (fun _ => 0)), (k15, iA 960 (fun _ => 0)), (k16, zA 24 (fun _ => 0)), (k17, zA 24 (fun _ => 0)), (k18, iA 24 (fun _ => 0)), (k22, iA 5 (fun _ => -30000)), (k23, iA 5 (upd (fun _ => 0) 0 30000))] := hI
  refine j_dup dX5_init_183 rfl ?_
  refine j_iconst (v := 1) dX5_init_184 (by decide) ?_
  refine j_sipush (v := 30000) dX5_init_185 (by decide) ?_
  refine j_iast (hI.1 18 _ _ rfl) 1 rfl (by decide) (by decide) dX5_init_188 ?_
  refine i_put hI hF rfl 18 rfl (fun h hI hF => ?_)
  have hI : Inc h [(p, .inr (5, [.int 0, .ref k2, .ref k3, .ref k4, .ref k5, .ref k6, .ref k7, .int 0, .ref k9, .ref k10, .ref k11, .ref k12, .ref k13, .ref k14, .ref k15, .ref k16, .ref k17, .ref k18, .int 0, .int 0, .int 0, .ref k22, .null, .int 0, .null, .int 0, .null, .int 0, .null, .null, .null, .null, .null])), (k2, iA 4 (fun _ => 0)), (k3, iA 32 (fun _ => 0)), (k4, iA 32 (fun _ => 0)), (k5, iA 32 (fun _ => 0)), (k6, iA 20 (fun _ => 0)), (k7, iA 160 (fun _ => 0)), (k9, iA 24 (fun _ => 0)), (k10, iA 24 (fun _ => 0)), (k11, iA 192 (fun _ => 0)), (k12, iA 192 (fun _ => 0)), (k13, iA 192 (fun _ => 0)), (k14, iA 120 (fun _ => 0)), (k15, iA 960 (fun _ => 0)), (k16, zA 24 (fun _ => 0)), (k17, zA 24 (fun _ => 0)), (k18, iA 24 (fun _ => 0)), (k22, iA 5 (fun _ => -30000)), (k23, iA 5 (upd (upd (fun _ => 0) 0 30000) 1 30000))] := hI
  refine j_dup dX5_init_189 rfl ?_
  refine j_iconst (v := 2) dX5_init_190 (by decide) ?_
  refine j_sipush (v := 30000) dX5_init_191 (by decide) ?_
  refine j_iast (hI.1 18 _ _ rfl) 2 rfl (by decide) (by decide) dX5_init_194 ?_
  refine i_put hI hF rfl 18 rfl (fun h hI hF => ?_)
  have hI : Inc h [(p, .inr (5, [.int 0, .ref k2, .ref k3, .ref k4, .ref k5, .ref k6, .ref k7, .int 0, .ref k9, .ref k10, .ref k11, .ref k12, .ref k13, .ref k14, .ref k15, .ref k16, .ref k17, .ref k18, .int 0, .int 0, .int 0, .ref k22, .null, .int 0, .null, .int 0, .null, .int 0, .null, .null, .null, .null, .null])), (k2, iA 4 (fun _ => 0)), (k3, iA 32 (fun _ => 0)), (k4, iA 32 (fun _ => 0)), (k5, iA 32 (fun _ => 0)), (k6, iA 20 (fun _ => 0)), (k7, iA 160 (fun _ => 0)), (k9, iA 24 (fun _ => 0)), (k10, iA 24 (fun _ => 0)), (k11, iA 192 (fun _ => 0)), (k12, iA 192 (fun _ => 0)), (k13, iA 192 (fun _ => 0)), (k14, iA 120 (fun _ => 0)), (k15, iA 960 (fun _ => 0)), (k16, zA 24 (fun _ => 0)), (k17, zA 24 (fun _ => 0)), (k18, iA 24 (fun _ => 0)), (k22, iA 5 (fun _ => -30000)), (k23, iA 5 (upd (upd (upd (fun _ => 0) 0 30000) 1 30000) 2 30000))] := hI
  refine j_dup dX5_init_195 rfl ?_
  refine j_iconst (v := 3) dX5_init_196 (by decide) ?_
  refine j_sipush (v := 30000) dX5_init_197 (by decide) ?_
  refine j_iast (hI.1 18 _ _ rfl) 3 rfl (by decide) (by decide) dX5_init_200 ?_
  refine i_put hI hF rfl 18 rfl (fun h hI hF => ?_)
  have hI : Inc h [(p, .inr (5, [.int 0, .ref k2, .ref k3, .ref k4, .ref k5, .ref k6, .ref k7, .int 0, .ref k9, .ref k10, .ref k11, .ref k12, .ref k13, .ref k14, .ref k15, .ref k16, .ref k17, .ref k18, .int 0, .int 0, .int 0, .ref k22, .null, .int 0, .null, .int 0, .null, .int 0, .null, .null, .null, .null, .null])), (k2, iA 4 (fun _ => 0)), (k3, iA 32 (fun _ => 0)), (k4, iA 32 (fun _ => 0)), (k5, iA 32 (fun _ => 0)), (k6, iA 20 (fun _ => 0)), (k7, iA 160 (fun _ => 0)), (k9, iA 24 (fun _ => 0)), (k10, iA 24 (fun _ => 0)), (k11, iA 192 (fun _ => 0)), (k12, iA 192 (fun _ => 0)), (k13, iA 192 (fun _ => 0)), (k14, iA 120 (fun _ => 0)), (k15, iA 960 (fun _ => 0)), (k16, zA 24 (fun _ => 0)), (k17, zA 24 (fun _ => 0)), (k18, iA 24 (fun _ => 0)), (k22, iA 5 (fun _ => -30000)), (k23, iA 5 (upd (upd (upd (upd (fun _ => 0) 0 30000) 1 30000) 2 30000) 3 30000))] := hI
  refine j_dup dX5_init_201 rfl ?_
  refine j_iconst (v := 4) dX5_init_202 (by decide) ?_
  refine j_sipush (v := 30000) dX5_init_203 (by decide) ?_
  refine j_iast (hI.1 18 _ _ rfl) 4 rfl (by decide) (by decide) dX5_init_206 ?_
  refine i_put hI hF rfl 18 rfl (fun h hI hF => ?_)
  have hI : Inc h [(p, .inr (5, [.int 0, .ref k2, .ref k3, .ref k4, .ref k5, .ref k6, .ref k7, .int 0, .ref k9, .ref k10, .ref k11, .ref k12, .ref k13, .ref k14, .ref k15, .ref k16, .ref k17, .ref k18, .int 0, .int 0, .int 0, .ref k22, .null, .int 0, .null, .int 0, .null, .int 0, .null, .null, .null, .null, .null])), (k2, iA 4 (fun _ => 0)), (k3, iA 32 (fun _ => 0)), (k4, iA 32 (fun _ => 0)), (k5, iA 32 (fun _ => 0)), (k6, iA 20 (fun _ => 0)), (k7, iA 160 (fun _ => 0)), (k9, iA 24 (fun _ => 0)), (k10, iA 24 (fun _ => 0)), (k11, iA 192 (fun _ => 0)), (k12, iA 192 (fun _ => 0)), (k13, iA 192 (fun _ => 0)), (k14, iA 120 (fun _ => 0)), (k15, iA 960 (fun _ => 0)), (k16, zA 24 (fun _ => 0)), (k17, zA 24 (fun _ => 0)), (k18, iA 24 (fun _ => 0)), (k22, iA 5 (fun _ => -30000)), (k23, iA 5 (upd (upd (upd (upd (upd (fun _ => 0) 0 30000) 1 30000) 2 30000) 3 30000) 4 30000))] := hI
  refine J.fun0 (fun _ => 30000) (hI.1 18 _ _ rfl) (fun j hj => by rcases (show j = 0 ∨ j = 1 ∨ j = 2 ∨ j = 3 ∨ j = 4 by omega) with rfl | rfl | rfl | rfl | rfl <;> rfl) ?_
  refine i_put hI hF rfl 18 rfl (fun h hI hF => ?_)
  have hI : Inc h [(p, .inr (5, [.int 0, .ref k2, .ref k3, .ref k4, .ref k5, .ref k6, .ref k7, .int 0, .ref k9, .ref k10, .ref k11, .ref k12, .ref k13, .ref k14, .ref k15, .ref k16, .ref k17, .ref k18, .int 0, .int 0, .int 0, .ref k22, .null, .int 0, .null, .int 0, .null, .int 0, .null, .null, .null, .null, .null])), (k2, iA 4 (fun _ => 0)), (k3, iA 32 (fun _ => 0)), (k4, iA 32 (fun _ => 0)), (k5, iA 32 (fun _ => 0)), (k6, iA 20 (fun _ => 0)), (k7, iA 160 (fun _ => 0)), (k9, iA 24 (fun _ => 0)), (k10, iA 24 (fun _ => 0)), (k11, iA 192 (fun _ => 0)), (k12, iA 192 (fun _ => 0)), (k13, iA 192 (fun _ => 0)), (k14, iA 120 (fun _ => 0)), (k15, iA 960 (fun _ => 0)), (k16, zA 24 (fun _ => 0)), (k17, zA 24 (fun _ => 0)), (k18, iA 24 (fun _ => 0)), (k22, iA 5 (fun _ => -30000)), (k23, iA 5 (fun _ => 30000))] := hI
  refine pX5_62 rfl rfl (hI.1 0 _ _ rfl) rfl rfl (Nat.le_of_ble_eq_true rfl) dX5_init_207 ?_
  refine i_put hI hF rfl 0 rfl (fun h hI hF => ?_)
  have hI : Inc h [(p, .inr (5, [.int 0, .ref k2, .ref k3, .ref k4, .ref k5, .ref k6, .ref k7, .int 0, .ref k9, .ref k10, .ref k11, .ref k12, .ref k13, .ref k14, .ref k15, .ref k16, .ref k17, .ref k18, .int 0, .int 0, .int 0, .ref k22, .ref k23, .int 0, .null, .int 0, .null, .int 0, .null, .null, .null, .null, .null])), (k2, iA 4 (fun _ => 0)), (k3, iA 32 (fun _ => 0)), (k4, iA 32 (fun _ => 0)), (k5, iA 32 (fun _ => 0)), (k6, iA 20 (fun _ => 0)), (k7, iA 160 (fun _ => 0)), (k9, iA 24 (fun _ => 0)), (k10, iA 24 (fun _ => 0)), (k11, iA 192 (fun _ => 0)), (k12, iA 192 (fun _ => 0)), (k13, iA 192 (fun _ => 0)), (k14, iA 120 (fun _ => 0)), (k15, iA 960 (fun _ => 0)), (k16, zA 24 (fun _ => 0)), (k17, zA 24 (fun _ => 0)), (k18, iA 24 (fun _ => 0)), (k22, iA 5 (fun _ => -30000)), (k23, iA 5 (fun _ => 30000))] := hI
  refine j_aload_n dX5_init_210 rfl ?_
  refine j_bipush (v := 8) dX5_init_211 (by decide) ?_
  refine j_newi 8 (by decide) (by decide) (by decide) (Nat.le_of_ble_eq_true rfl) (Nat.le_of_ble_eq_true rfl) dX5_init_213 (fun k25 f_k25 => ?_)
  refine i_new hI hF rfl f_k25 (fun h hI hF => ?_)
  have hI : Inc h [(p, .inr (5, [.int 0, .ref k2, .ref k3, .ref k4, .ref k5, .ref k6, .ref k7, .int 0, .ref k9, .ref k10, .ref k11, .ref k12, .ref k13, .ref k14, .ref k15, .ref k16, .ref k17, .ref k18, .int 0, .int 0, .int 0, .ref k22, .ref k23, .int 0, .null, .int 0, .null, .int 0, .null, .null, .null, .null, .null])), (k2, iA 4 (fun _ => 0)), (k3, iA 32 (fun _ => 0)), (k4, iA 32 (fun _ => 0)), (k5, iA 32 (fun _ => 0)), (k6, iA 20 (fun _ => 0)), (k7, iA 160 (fun _ => 0)), (k9, iA 24 (fun _ => 0)), (k10, iA 24 (fun _ => 0)), (k11, iA 192 (fun _ => 0)), (k12, iA 192 (fun _ => 0)), (k13, iA 192 (fun _ => 0)), (k14, iA 120 (fun _ => 0)), (k15, iA 960 (fun _ => 0)), (k16, zA 24 (fun _ => 0)), (k17, zA 24 (fun _ => 0)), (k18, iA 24 (fun _ => 0)), (k22, iA 5 (fun _ => -30000)), (k23, iA 5 (fun _ => 30000)), (k25, iA 8 (fun _ => 0))] := hI
  refine pX5_65 rfl rfl (hI.1 0 _ _ rfl) rfl rfl (Nat.le_of_ble_eq_true rfl) dX5_init_215 ?_
  refine i_put hI hF rfl 0 rfl (fun h hI hF => ?_)
  have hI : Inc h [(p, .inr (5, [.int 0, .ref k2, .ref k3, .ref k4, .ref k5, .ref k6, .ref k7, .int 0, .ref k9, .ref k10, .ref k11, .ref k12, .ref k13, .ref k14, .ref k15, .ref k16, .ref k17, .ref k18, .int 0, .int 0, .int 0, .ref k22, .ref k23, .int 0, .ref k25, .int 0, .null, .int 0, .null, .null, .null, .null, .null])), (k2, iA 4 (fun _ => 0)), (k3, iA 32 (fun _ => 0)), (k4, iA 32 (fun _ => 0)), (k5, iA 32 (fun _ => 0)), (k6, iA 20 (fun _ => 0)), (k7, iA 160 (fun _ => 0)), (k9, iA 24 (fun _ => 0)), (k10, iA 24 (fun _ => 0)), (k11, iA 192 (fun _ => 0)), (k12, iA 192 (fun _ => 0)), (k13, iA 192 (fun _ => 0)), (k14, iA 120 (fun _ => 0)), (k15, iA 960 (fun _ => 0)), (k16, zA 24 (fun _ => 0)), (k17, zA 24 (fun _ => 0)), (k18, iA 24 (fun _ => 0)), (k22, iA 5 (fun _ => -30000)), (k23, iA 5 (fun _ => 30000)), (k25, iA 8 (fun _ => 0))] := hI
  refine j_aload_n dX5_init_218 rfl ?_
  refine j_iconst (v := 5) dX5_init_219 (by decide) ?_
  refine j_newi 5 (by decide) (by decide) (by decide) (Nat.le_of_ble_eq_true rfl) (Nat.le_of_ble_eq_true rfl) dX5_init_220 (fun k27 f_k27 => ?_)
  refine i_new hI hF rfl f_k27 (fun h hI hF => ?_)
  have hI : Inc h [(p, .inr (5, [.int 0, .ref k2, .ref k3, .ref k4, .ref k5, .ref k6, .ref k7, .int 0, .ref k9, .ref k10, .ref k11, .ref k12, .ref k13, .ref k14, .ref k15, .ref k16, .ref k17, .ref k18, .int 0, .int 0, .int 0, .ref k22, .ref k23, .int 0, .ref k25, .int 0, .null, .int 0, .null, .null, .null, .null, .null])), (k2, iA 4 (fun _ => 0)), (k3, iA 32 (fun _ => 0)), (k4, iA 32 (fun _ => 0)), (k5, iA 32 (fun _ => 0)), (k6, iA 20 (fun _ => 0)), (k7, iA 160 (fun _ => 0)), (k9, iA 24 (fun _ => 0)), (k10, iA 24 (fun _ => 0)), (k11, iA 192 (fun _ => 0)), (k12, iA 192 (fun _ => 0)), (k13, iA 192 (fun _ => 0)), (k14, iA 120 (fun _ => 0)), (k15, iA 960 (fun _ => 0)), (k16, zA 24 (fun _ => 0)), (k17, zA 24 (fun _ => 0)), (k18, iA 24 (fun _ => 0)), (k22, iA 5 (fun _ => -30000)), (k23, iA 5 (fun _ => 30000)), (k25, iA 8 (fun _ => 0)), (k27, iA 5 (fun _ => 0))] := hI
  refine pX5_68 rfl rfl (hI.1 0 _ _ rfl) rfl rfl (Nat.le_of_ble_eq_true rfl) dX5_init_222 ?_
  refine i_put hI hF rfl 0 rfl (fun h hI hF => ?_)
  have hI : Inc h [(p, .inr (5, [.int 0, .ref k2, .ref k3, .ref k4, .ref k5, .ref k6, .ref k7, .int 0, .ref k9, .ref k10, .ref k11, .ref k12, .ref k13, .ref k14, .ref k15, .ref k16, .ref k17, .ref k18, .int 0, .int 0, .int 0, .ref k22, .ref k23, .int 0, .ref k25, .int 0, .ref k27, .int 0, .null, .null, .null, .null, .null])), (k2, iA 4 (fun _ => 0)), (k3, iA 32 (fun _ => 0)), (k4, iA 32 (fun _ => 0)), (k5, iA 32 (fun _ => 0)), (k6, iA 20 (fun _ => 0)), (k7, iA 160 (fun _ => 0)), (k9, iA 24 (fun _ => 0)), (k10, iA 24 (fun _ => 0)), (k11, iA 192 (fun _ => 0)), (k12, iA 192 (fun _ => 0)), (k13, iA 192 (fun _ => 0)), (k14, iA 120 (fun _ => 0)), (k15, iA 960 (fun _ => 0)), (k16, zA 24 (fun _ => 0)), (k17, zA 24 (fun _ => 0)), (k18, iA 24 (fun _ => 0)), (k22, iA 5 (fun _ => -30000)), (k23, iA 5 (fun _ => 30000)), (k25, iA 8 (fun _ => 0)), (k27, iA 5 (fun _ => 0))] := hI
  refine j_aload_n dX5_init_225 rfl ?_
  refine j_bipush (v := 8) dX5_init_226 (by decide) ?_
  refine j_newi 8 (by decide) (by decide) (by decide) (Nat.le_of_ble_eq_true rfl) (Nat.le_of_ble_eq_true rfl) dX5_init_228 (fun k29 f_k29 => ?_)
  refine i_new hI hF rfl f_k29 (fun h hI hF => ?_)
  have hI : Inc h [(p, .inr (5, [.int 0, .ref k2, .ref k3, .ref k4, .ref k5, .ref k6, .ref k7, .int 0, .ref k9, .ref k10, .ref k11, .ref k12, .ref k13, .ref k14, .ref k15, .ref k16, .ref k17, .ref k18, .int 0, .int 0, .int 0, .ref k22, .ref k23, .int 0, .ref k25, .int 0, .ref k27, .int 0, .null, .null, .null, .null, .null])), (k2, iA 4 (fun _ => 0)), (k3, iA 32 (fun _ => 0)), (k4, iA 32 (fun _ => 0)), (k5, iA 32 (fun _ => 0)), (k6, iA 20 (fun _ => 0)), (k7, iA 160 (fun _ => 0)), (k9, iA 24 (fun _ => 0)), (k10, iA 24 (fun _ => 0)), (k11, iA 192 (fun _ => 0)), (k12, iA 192 (fun _ => 0)), (k13, iA 192 (fun _ => 0)), (k14, iA 120 (fun _ => 0)), (k15, iA 960 (fun _ => 0)), (k16, zA 24 (fun _ => 0)), (k17, zA 24 (fun _ => 0)), (k18, iA 24 (fun _ => 0)), (k22, iA 5 (fun _ => -30000)), (k23, iA 5 (fun _ => 30000)), (k25, iA 8 (fun _ => 0)), (k27, iA 5 (fun _ => 0)), (k29, iA 8 (fun _ => 0))] := hI
  refine pX5_71 rfl rfl (hI.1 0 _ _ rfl) rfl rfl (Nat.le_of_ble_eq_true rfl) dX5_init_230 ?_
  refine i_put hI hF rfl 0 rfl (fun h hI hF => ?_)
  have hI : Inc h [(p, .inr (5, [.int 0, .ref k2, .ref k3, .ref k4, .ref k5, .ref k6, .ref k7, .int 0, .ref k9, .ref k10, .ref k11, .ref k12, .ref k13, .ref k14, .ref k15, .ref k16, .ref k17, .ref k18, .int 0, .int 0, .int 0, .ref k22, .ref k23, .int 0, .ref k25, .int 0, .ref k27, .int 0, .ref k29, .null, .null, .null, .null])), (k2, iA 4 (fun _ => 0)), (k3, iA 32 (fun _ => 0)), (k4, iA 32 (fun _ => 0)), (k5, iA 32 (fun _ => 0)), (k6, iA 20 (fun _ => 0)), (k7, iA 160 (fun _ => 0)), (k9, iA 24 (fun _ => 0)), (k10, iA 24 (fun _ => 0)), (k11, iA 192 (fun _ => 0)), (k12, iA 192 (fun _ => 0)), (k13, iA 192 (fun _ => 0)), (k14, iA 120 (fun _ => 0)), (k15, iA 960 (fun _ => 0)), (k16, zA 24 (fun _ => 0)), (k17, zA 24 (fun _ => 0)), (k18, iA 24 (fun _ => 0)), (k22, iA 5 (fun _ => -30000)), (k23, iA 5 (fun _ => 30000)), (k25, iA 8 (fun _ => 0)), (k27, iA 5 (fun _ => 0)), (k29, iA 8 (fun _ => 0))] := hI
  refine j_aload_n dX5_init_233 rfl ?_
  refine j_bipush (v := 8) dX5_init_234 (by decide) ?_
  refine j_newi 8 (by decide) (by decide) (by decide) (Nat.le_of_ble_eq_true rfl) (Nat.le_of_ble_eq_true rfl) dX5_init_236 (fun k30 f_k30 => ?_)
  refine i_new hI hF rfl f_k30 (fun h hI hF => ?_)
  have hI : Inc h [(p, .inr (5, [.int 0, .ref k2, .ref k3, .ref k4, .ref k5, .ref k6, .ref k7, .int 0, .ref k9, .ref k10, .ref k11, .ref k12, .ref k13, .ref k14, .ref k15, .ref k16, .ref k17, .ref k18, .int 0, .int 0, .int 0, .ref k22, .ref k23, .int 0, .ref k25, .int 0, .ref k27, .int 0, .ref k29, .null, .null, .null, .null])), (k2, iA 4 (fun _ => 0)), (k3, iA 32 (fun _ => 0)), (k4, iA 32 (fun _ => 0)), (k5, iA 32 (fun _ => 0)), (k6, iA 20 (fun _ => 0)), (k7, iA 160 (fun _ => 0)), (k9, iA 24 (fun _ => 0)), (k10, iA 24 (fun _ => 0)), (k11, iA 192 (fun _ => 0)), (k12, iA 192 (fun _ => 0)), (k13, iA 192 (fun _ => 0)), (k14, iA 120 (fun _ => 0)), (k15, iA 960 (fun _ => 0)), (k16, zA 24 (fun _ => 0)), (k17, zA 24 (fun _ => 0)), (k18, iA 24 (fun _ => 0)), (k22, iA 5 (fun _ => -30000)), (k23, iA 5 (fun _ => 30000)), (k25, iA 8 (fun _ => 0)), (k27, iA 5 (fun _ => 0)), (k29, iA 8 (fun _ => 0)), (k30, iA 8 (fun _ => 0))] := hI
  refine pX5_74 rfl rfl (hI.1 0 _ _ rfl) rfl rfl (Nat.le_of_ble_eq_true rfl) dX5_init_238 ?_
  refine i_put hI hF rfl 0 rfl (fun h hI hF => ?_)
  have hI : Inc h [(p, .inr (5, [.int 0, .ref k2, .ref k3, .ref k4, .ref k5, .ref k6, .ref k7, .int 0, .ref k9, .ref k10, .ref k11, .ref k12, .ref k13, .ref k14, .ref k15, .ref k16, .ref k17, .ref k18, .int 0, .int 0, .int 0, .ref k22, .ref k23, .int 0, .ref k25, .int 0, .ref k27, .int 0, .ref k29, .ref k30, .null, .null, .null])), (k2, iA 4 (fun _ => 0)), (k3, iA 32 (fun _ => 0)), (k4, iA 32 (fun _ => 0)), (k5, iA 32 (fun _ => 0)), (k6, iA 20 (fun _ => 0)), (k7, iA 160 (fun _ => 0)), (k9, iA 24 (fun _ => 0)), (k10, iA 24 (fun _ => 0)), (k11, iA 192 (fun _ => 0)), (k12, iA 192 (fun _ => 0)), (k13, iA 192 (fun _ => 0)), (k14, iA 120 (fun _ => 0)), (k15, iA 960 (fun _ => 0)), (k16, zA 24 (fun _ => 0)), (k17, zA 24 (fun _ => 0)), (k18, iA 24 (fun _ => 0)), (k22, iA 5 (fun _ => -30000)), (k23, iA 5 (fun _ => 30000)), (k25, iA 8 (fun _ => 0)), (k27, iA 5 (fun _ => 0)), (k29, iA 8 (fun _ => 0)), (k30, iA 8 (fun _ => 0))] := hI
  refine j_aload_n dX5_init_241 rfl ?_
  refine j_bipush (v := 24) dX5_init_242 (by decide) ?_
  refine j_newi 24 (by decide) (by decide) (by decide) (Nat.le_of_ble_eq_true rfl) (Nat.le_of_ble_eq_true rfl) dX5_init_244 (fun k31 f_k31 => ?_)
  refine i_new hI hF rfl f_k31 (fun h hI hF => ?_)
  have hI : Inc h [(p, .inr (5, [.int 0, .ref k2, .ref k3, .ref k4, .ref k5, .ref k6, .ref k7, .int 0, .ref k9, .ref k10, .ref k11, .ref k12, .ref k13, .ref k14, .ref k15, .ref k16, .ref k17, .ref k18, .int 0, .int 0, .int 0, .ref k22, .ref k23, .int 0, .ref k25, .int 0, .ref k27, .int 0, .ref k29, .ref k30, .null, .null, .null])), (k2, iA 4 (fun _ => 0)), (k3, iA 32 (fun _ => 0)), (k4, iA 32 (fun _ => 0)), (k5, iA 32 (fun _ => 0)), (k6, iA 20 (fun _ => 0)), (k7, iA 160 (fun _ => 0)), (k9, iA 24 (fun _ => 0)), (k10, iA 24 (fun _ => 0)), (k11, iA 192 (fun _ => 0)), (k12, iA 192 (fun _ => 0)), (k13, iA 192 (fun _ => 0)), (k14, iA 120 (fun _ => 0)), (k15, iA 960 (fun _ => 0)), (k16, zA 24 (fun _ => 0)), (k17, zA 24 (fun _ => 0)), (k18, iA 24 (fun _ => 0)), (k22, iA 5 (fun _ => -30000)), (k23, iA 5 (fun _ => 30000)), (k25, iA 8 (fun _ => 0)), (k27, iA 5 (fun _ => 0)), (k29, iA 8 (fun _ => 0)), (k30, iA 8 (fun _ => 0)), (k31, iA 24 (fun _ => 0))] := hI
  refine pX5_77 rfl rfl (hI.1 0 _ _ rfl) rfl rfl (Nat.le_of_ble_eq_true rfl) dX5_init_246 ?_
  refine i_put hI hF rfl 0 rfl (fun h hI hF => ?_)
  have hI : Inc h [(p, .inr (5, [.int 0, .ref k2, .ref k3, .ref k4, .ref k5, .ref k6, .ref k7, .int 0, .ref k9, .ref k10, .ref k11, .ref k12, .ref k13, .ref k14, .ref k15, .ref k16, .ref k17, .ref k18, .int 0, .int 0, .int 0, .ref k22, .ref k23, .int 0, .ref k25, .int 0, .ref k27, .int 0, .ref k29, .ref k30, .ref k31, .null, .null])), (k2, iA 4 (fun _ => 0)), (k3, iA 32 (fun _ => 0)), (k4, iA 32 (fun _ => 0)), (k5, iA 32 (fun _ => 0)), (k6, iA 20 (fun _ => 0)), (k7, iA 160 (fun _ => 0)), (k9, iA 24 (fun _ => 0)), (k10, iA 24 (fun _ => 0)), (k11, iA 192 (fun _ => 0)), (k12, iA 192 (fun _ => 0)), (k13, iA 192 (fun _ => 0)), (k14, iA 120 (fun _ => 0)), (k15, iA 960 (fun _ => 0)), (k16, zA 24 (fun _ => 0)), (k17, zA 24 (fun _ => 0)), (k18, iA 24 (fun _ => 0)), (k22, iA 5 (fun _ => -30000)), (k23, iA 5 (fun _ => 30000)), (k25, iA 8 (fun _ => 0)), (k27, iA 5 (fun _ => 0)), (k29, iA 8 (fun _ => 0)), (k30, iA 8 (fun _ => 0)), (k31, iA 24 (fun _ => 0))] := hI
  refine j_aload_n dX5_init_249 rfl ?_
  refine j_bipush (v := 24) dX5_init_250 (by decide) ?_
  refine j_newi 24 (by decide) (by decide) (by decide) (Nat.le_of_ble_eq_true rfl) (Nat.le_of_ble_eq_true rfl) dX5_init_252 (fun k32 f_k32 => ?_)
  refine i_new hI hF rfl f_k32 (fun h hI hF => ?_)
  have hI : Inc h [(p, .inr (5, [.int 0, .ref k2, .ref k3, .ref k4, .ref k5, .ref k6, .ref k7, .int 0, .ref k9, .ref k10, .ref k11, .ref k12, .ref k13, .ref k14, .ref k15, .ref k16, .ref k17, .ref k18, .int 0, .int 0, .int 0, .ref k22, .ref k23, .int 0, .ref k25, .int 0, .ref k27, .int 0, .ref k29, .ref k30, .ref k31, .null, .null])), (k2, iA 4 (fun _ => 0)), (k3, iA 32 (fun _ => 0)), (k4, iA 32 (fun _ => 0)), (k5, iA 32 (fun _ => 0)), (k6, iA 20 (fun _ => 0)), (k7, iA 160 (fun _ => 0)), (k9, iA 24 (fun _ => 0)), (k10, iA 24 (fun _ => 0)), (k11, iA 192 (fun _ => 0)), (k12, iA 192 (fun _ => 0)), (k13, iA 192 (fun _ => 0)), (k14, iA 120 (fun _ => 0)), (k15, iA 960 (fun _ => 0)), (k16, zA 24 (fun _ => 0)), (k17, zA 24 (fun _ => 0)), (k18, iA 24 (fun _ => 0)), (k22, iA 5 (fun _ => -30000)), (k23, iA 5 (fun _ => 30000)), (k25, iA 8 (fun _ => 0)), (k27, iA 5 (fun _ => 0)), (k29, iA 8 (fun _ => 0)), (k30, iA 8 (fun _ => 0)), (k31, iA 24 (fun _ => 0)), (k32, iA 24 (fun _ => 0))] := hI
  refine pX5_80 rfl rfl (hI.1 0 _ _ rfl) rfl rfl (Nat.le_of_ble_eq_true rfl) dX5_init_254 ?_
  refine i_put hI hF rfl 0 rfl (fun h hI hF => ?_)
  have hI : Inc h [(p, .inr (5, [.int 0, .ref k2, .ref k3, .ref k4, .ref k5, .ref k6, .ref k7, .int 0, .ref k9, .ref k10, .ref k11, .ref k12, .ref k13, .ref k14, .ref k15, .ref k16, .ref k17, .ref k18, .int 0, .int 0, .int 0, .ref k22, .ref k23, .int 0, .ref k25, .int 0, .ref k27, .int 0, .ref k29, .ref k30, .ref k31, .ref k32, .null])), (k2, iA 4 (fun _ => 0)), (k3, iA 32 (fun _ => 0)), (k4, iA 32 (fun _ => 0)), (k5, iA 32 (fun _ => 0)), (k6, iA 20 (fun _ => 0)), (k7, iA 160 (fun _ => 0)), (k9, iA 24 (fun _ => 0)), (k10, iA 24 (fun _ => 0)), (k11, iA 192 (fun _ => 0)), (k12, iA 192 (fun _ => 0)), (k13, iA 192 (fun _ => 0)), (k14, iA 120 (fun _ => 0)), (k15, iA 960 (fun _ => 0)), (k16, zA 24 (fun _ => 0)), (k17, zA 24 (fun _ => 0)), (k18, iA 24 (fun _ => 0)), (k22, iA 5 (fun _ => -30000)), (k23, iA 5 (fun _ => 30000)), (k25, iA 8 (fun _ => 0)), (k27, iA 5 (fun _ => 0)), (k29, iA 8 (fun _ => 0)), (k30, iA 8 (fun _ => 0)), (k31, iA 24 (fun _ => 0)), (k32, iA 24 (fun _ => 0))] := hI
  refine j_aload_n dX5_init_257 rfl ?_
  refine j_sipush (v := 256) dX5_init_258 (by decide) ?_
  refine j_newi 256 (by decide) (by decide) (by decide) (Nat.le_of_ble_eq_true rfl) (Nat.le_of_ble_eq_true rfl) dX5_init_261 (fun k33 f_k33 => ?_)
  refine i_new hI hF rfl f_k33 (fun h hI hF => ?_)
  have hI : Inc h [(p, .inr (5, [.int 0, .ref k2, .ref k3, .ref k4, .ref k5, .ref k6, .ref k7, .int 0, .ref k9, .ref k10, .ref k11, .ref k12, .ref k13, .ref k14, .ref k15, .ref k16, .ref k17, .ref k18, .int 0, .int 0, .int 0, .ref k22, .ref k23, .int 0, .ref k25, .int 0, .ref k27, .int 0, .ref k29, .ref k30, .ref k31, .ref k32, .null])), (k2, iA 4 (fun _ => 0)), (k3, iA 32 (fun _ => 0)), (k4, iA 32 (fun _ => 0)), (k5, iA 32 (fun _ => 0)), (k6, iA 20 (fun _ => 0)), (k7, iA 160 (fun _ => 0)), (k9, iA 24 (fun _ => 0)), (k10, iA 24 (fun _ => 0)), (k11, iA 192 (fun _ => 0)), (k12, iA 192 (fun _ => 0)), (k13, iA 192 (fun _ => 0)), (k14, iA 120 (fun _ => 0)), (k15, iA 960 (fun _ => 0)), (k16, zA 24 (fun _ => 0)), (k17, zA 24 (fun _ => 0)), (k18, iA 24 (fun _ => 0)), (k22, iA 5 (fun _ => -30000)), (k23, iA 5 (fun _ => 30000)), (k25, iA 8 (fun _ => 0)), (k27, iA 5 (fun _ => 0)), (k29, iA 8 (fun _ => 0)), (k30, iA 8 (fun _ => 0)), (k31, iA 24 (fun _ => 0)), (k32, iA 24 (fun _ => 0)), (k33, iA 256 (fun _ => 0))] := hI
  refine pX5_83 rfl rfl (hI.1 0 _ _ rfl) rfl rfl (Nat.le_of_ble_eq_true rfl) dX5_init_263 ?_
  refine i_put hI hF rfl 0 rfl (fun h hI hF => ?_)
  have hI : Inc h [(p, .inr (5, [.int 0, .ref k2, .ref k3, .ref k4, .ref k5, .ref k6, .ref k7, .int 0, .ref k9, .ref k10, .ref k11, .ref k12, .ref k13, .ref k14, .ref k15, .ref k16, .ref k17, .ref k18, .int 0, .int 0, .int 0, .ref k22, .ref k23, .int 0, .ref k25, .int 0, .ref k27, .int 0, .ref k29, .ref k30, .ref k31, .ref k32, .ref k33])), (k2, iA 4 (fun _ => 0)), (k3, iA 32 (fun _ => 0)), (k4, iA 32 (fun _ => 0)), (k5, iA 32 (fun _ => 0)), (k6, iA 20 (fun _ => 0)), (k7, iA 160 (fun _ => 0)), (k9, iA 24 (fun _ => 0)), (k10, iA 24 (fun _ => 0)), (k11, iA 192 (fun _ => 0)), (k12, iA 192 (fun _ => 0)), (k13, iA 192 (fun _ => 0)), (k14, iA 120 (fun _ => 0)), (k15, iA 960 (fun _ => 0)), (k16, zA 24 (fun _ => 0)), (k17, zA 24 (fun _ => 0)), (k18, iA 24 (fun _ => 0)), (k22, iA 5 (fun _ => -30000)), (k23, iA 5 (fun _ => 30000)), (k25, iA 8 (fun _ => 0)), (k27, iA 5 (fun _ => 0)), (k29, iA 8 (fun _ => 0)), (k30, iA 8 (fun _ => 0)), (k31, iA 24 (fun _ => 0)), (k32, iA 24 (fun _ => 0)), (k33, iA 256 (fun _ => 0))] := hI
  refine j_vret rfl (Nat.le_of_ble_eq_true rfl) (Nat.le_of_ble_eq_true rfl) dX5_init_266 ?_
  exact ⟨rfl, k2, k3, k4, k5, k6, k7, k9, k10, k11, k12, k13, k14, k15, k16, k17, k18, k22, k23, k25, k27, k29, k30, k31, k32, k33, hI.2 0 1 _ _ (by decide) rfl rfl, hI.2 1 2 _ _ (by decide) rfl rfl, hI.2 2 3 _ _ (by decide) rfl rfl, hI.2 3 4 _ _ (by decide) rfl rfl, hI.2 4 5 _ _ (by decide) rfl rfl, hI.2 5 6 _ _ (by decide) rfl rfl, hI.2 6 7 _ _ (by decide) rfl rfl, hI.2 7 8 _ _ (by decide) rfl rfl, hI.2 8 9 _ _ (by decide) rfl rfl, hI.2 9 10 _ _ (by decide) rfl rfl, hI.2 10 11 _ _ (by decide) rfl rfl, hI.2 11 12 _ _ (by decide) rfl rfl, hI.2 12 13 _ _ (by decide) rfl rfl, hI.2 13 14 _ _ (by decide) rfl rfl, hI.2 14 15 _ _ (by decide) rfl rfl, hI.2 15 16 _ _ (by decide) rfl rfl, hI.2 16 17 _ _ (by decide) rfl rfl, hI.2 17 18 _ _ (by decide) rfl rfl, hI.2 18 19 _ _ (by decide) rfl rfl, hI.2 19 20 _ _ (by decide) rfl rfl, hI.2 20 21 _ _ (by decide) rfl rfl, hI.2 21 22 _ _ (by decide) rfl rfl, hI.2 22 23 _ _ (by decide) rfl rfl, hI.2 23 24 _ _ (by decide) rfl rfl, hI.2 24 25 _ _ (by decide) rfl rfl, hI.1 0 _ _ rfl, hI.1 1 _ _ rfl, hI.1 2 _ _ rfl, hI.1 3 _ _ rfl, hI.1 4 _ _ rfl, hI.1 5 _ _ rfl, hI.1 6 _ _ rfl, hI.1 7 _ _ rfl, hI.1 8 _ _ rfl, hI.1 9 _ _ rfl, hI.1 10 _ _ rfl, hI.1 11 _ _ rfl, hI.1 12 _ _ rfl, hI.1 13 _ _ rfl, hI.1 14 _ _ rfl, hI.1 15 _ _ rfl, hI.1 16 _ _ rfl, hI.1 17 _ _ rfl, hI.1 18 _ _ rfl, hI.1 19 _ _ rfl, hI.1 20 _ _ rfl, hI.1 21 _ _ rfl, hI.1 22 _ _ rfl, hI.1 23 _ _ rfl, hI.1 24 _ _ rfl, hI.1 25 _ _ rfl, hF⟩

