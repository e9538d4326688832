set_option maxRecDepth 100000 in
set_option maxHeartbeats 4000000 in
theorem c_X4_within (l : Launch) (G : GG) {h : AH} {v a b : Int32} : Con l G mX4_within 0 0 0 [.int v, .int a, .int b] h (fun r h2 => r = some (.int (bi (iw v a b))) ∧ h2 = h) := by
  refine Con.of 0 rfl (Nat.le_of_ble_eq_true rfl) ?_
  refine j_iload_n dX4_within_0 rfl ?_
  refine j_iload_n dX4_within_1 rfl ?_
  refine j_icmp_lt 14 dX4_within_2 (by decide) (fun c_2 => ?_) (fun c_2 => ?_)
  · first | rw [iw_lo c_2] | rw [iw_hi c_7]
    refine j_iconst (v := 0) dX4_within_14 (by decide) ?_
    refine j_zret rfl rfl (by decide) (by decide) dX4_within_15 ?_
    exact ⟨rfl, rfl⟩
  · refine j_iload_n dX4_within_5 rfl ?_
    refine j_iload_n dX4_within_6 rfl ?_
    refine j_icmp_gt 14 dX4_within_7 (by decide) (fun c_7 => ?_) (fun c_7 => ?_)
    · first | rw [iw_lo c_2] | rw [iw_hi c_7]
      refine j_iconst (v := 0) dX4_within_14 (by decide) ?_
      refine j_zret rfl rfl (by decide) (by decide) dX4_within_15 ?_
      exact ⟨rfl, rfl⟩
    · rw [iw_in c_2 c_7]
      refine j_iconst (v := 1) dX4_within_10 (by decide) ?_
      refine j_goto 15 dX4_within_11 (by decide) ?_
      refine j_zret rfl rfl (by decide) (by decide) dX4_within_15 ?_
      exact ⟨rfl, rfl⟩

set_option maxRecDepth 100000 in
set_option maxHeartbeats 4000000 in
theorem c_X5_in (l : Launch) (G : GG) {h : AH} {v a b : Int32} : Con l G mX5_in 0 0 0 [.int v, .int a, .int b] h (fun r h2 => r = some (.int (bi (iw v a b))) ∧ h2 = h) := by
  refine Con.of 0 rfl (Nat.le_of_ble_eq_true rfl) ?_
  refine j_iload_n dX5_in_0 rfl ?_
  refine j_iload_n dX5_in_1 rfl ?_
  refine j_icmp_lt 14 dX5_in_2 (by decide) (fun c_2 => ?_) (fun c_2 => ?_)
  · first | rw [iw_lo c_2] | rw [iw_hi c_7]
    refine j_iconst (v := 0) dX5_in_14 (by decide) ?_
    refine j_zret rfl rfl (by decide) (by decide) dX5_in_15 ?_
    exact ⟨rfl, rfl⟩
  · refine j_iload_n dX5_in_5 rfl ?_
    refine j_iload_n dX5_in_6 rfl ?_
    refine j_icmp_gt 14 dX5_in_7 (by decide) (fun c_7 => ?_) (fun c_7 => ?_)
    · first | rw [iw_lo c_2] | rw [iw_hi c_7]
      refine j_iconst (v := 0) dX5_in_14 (by decide) ?_
      refine j_zret rfl rfl (by decide) (by decide) dX5_in_15 ?_
      exact ⟨rfl, rfl⟩
    · rw [iw_in c_2 c_7]
      refine j_iconst (v := 1) dX5_in_10 (by decide) ?_
      refine j_goto 15 dX5_in_11 (by decide) ?_
      refine j_zret rfl rfl (by decide) (by decide) dX5_in_15 ?_
      exact ⟨rfl, rfl⟩

