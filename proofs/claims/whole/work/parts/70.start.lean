/-! ===== the relation at the start ===== -/
theorem q_all30 {p : Nat → Bool} (h : (List.range 30).all p = true) {w : Nat} (hw : w < 30) : p w = true := List.all_eq_true.mp h w (List.mem_range.mpr hw)
theorem c_wl : s_wl c_I := by
  have h : (List.range 30).all (fun w => decide (c_I (w + 16) 0 = c_I 70 w ∧ c_I (w + 16) 1 = c_I 71 w ∧ c_I (w + 16) 2 = c_I 72 w ∧ c_I (w + 16) 3 = c_I 73 w)) = true := by decide +kernel
  intro w hw
  exact of_decide_eq_true (List.all_eq_true.mp h w (List.mem_range.mpr hw))
theorem c_un : s_un 0 c_I := by
  have h : (List.range 8).all (fun k => decide (c_I 75 k = 0 ∧ c_I 76 k = 0 ∧ c_I 79 k = 0 ∧ c_I 80 k = 0) && (List.range 30).all (fun w => decide (c_I 81 (30 * k + w) = -4))) = true := by decide +kernel
  intro k _ hk
  have h1 := Bool.and_eq_true_iff.mp (List.all_eq_true.mp h k (List.mem_range.mpr hk))
  have h2 := of_decide_eq_true h1.1
  exact ⟨h2.1, h2.2.1, h2.2.2.1, h2.2.2.2, fun w hw => of_decide_eq_true (List.all_eq_true.mp h1.2 w (List.mem_range.mpr hw))⟩
theorem c_ac : s_ac c_I := by
  have h : decide (c_I 0 7 = nI (q_cnt (r_askP c_I) 240 0)) = true := by decide +kernel
  unfold s_ac
  exact of_decide_eq_true h
theorem c_sc : s_sc c_I := by
  have h : decide (c_I 0 3 = c_I 62 6 ∧ c_I 0 8 = c_I 62 29 ∧ c_I 0 9 = c_I 62 30 ∧ c_I 0 11 = c_I 62 31 ∧ c_I 0 12 = c_I 62 36 ∧ c_I 0 13 = c_I 62 37) = true := by decide +kernel
  unfold s_sc
  exact of_decide_eq_true h
theorem c_sz : s_sz c_I := by
  have h : decide (c_I 47 3 = nI 0 ∧ c_I 62 32 = nI 0) = true := by decide +kernel
  have h2 : (List.range 8).all (fun k => decide (c_I 50 k = c_I 84 k)) = true := by decide +kernel
  have h1 := of_decide_eq_true h
  exact ⟨0, fun _ => 1, fun _ => 1, ⟨h1.1, by decide, fun k hk => absurd hk (Nat.not_lt_zero _)⟩, ⟨h1.2, by decide, fun k hk => absurd hk (Nat.not_lt_zero _)⟩, fun k hk => absurd hk (Nat.not_lt_zero _), fun k hk => of_decide_eq_true (List.all_eq_true.mp h2 k (List.mem_range.mpr hk))⟩
theorem c_sh : s_sh c_I c_J := by
  have h : (List.range 4).all (fun k => decide (c_I (2 * k + 54) 2 = c_I 86 k ∧ c_I (2 * k + 54) 1 = c_I 87 k ∧ c_I 87 k = nI 0) && (List.range 60).all (fun i => decide (c_J (2 * k + 55) i = c_J 88 (60 * k + i)))) = true := by decide +kernel
  intro k hk
  have h1 := Bool.and_eq_true_iff.mp (List.all_eq_true.mp h k (List.mem_range.mpr hk))
  have h2 := of_decide_eq_true h1.1
  exact ⟨h2.1, h2.2.1, ⟨0, by decide, h2.2.2⟩, fun i hi => of_decide_eq_true (List.all_eq_true.mp h1.2 i (List.mem_range.mpr hi))⟩
theorem c_bk : s_bk false c_I := by
  have h : (List.range 4).all (fun k => decide (c_I 64 k = -4 ∧ c_I (4 + 2) k = 0 ∧ c_I (4 + 1) k = [(-4 : Int32), -4, 0, 0].getD k 0)) = true := by decide +kernel
  have h2 : decide (c_I 62 9 = nI 0 ∧ c_I 4 4 = nI 0 ∧ c_I 4 5 = t_tot (c_I 64, 0, c_I 65, c_I 66)) = true := by decide +kernel
  have h3 := of_decide_eq_true h2
  exact ⟨0, h3.1, fun k hk => Or.inl (of_decide_eq_true (List.all_eq_true.mp h k (List.mem_range.mpr hk))), h3.2.1, by decide, fun j hj => absurd hj (Nat.not_lt_zero _), h3.2.2⟩
theorem c_gt : s_tp c_I ∧ s_gg 0 c_I := by
  have h : decide (c_I 2 1 = nI 0 ∧ c_I 62 1 = nI 0 ∧ c_I 0 6 = nI 0 ∧ c_I 62 20 = nI 0) = true := by decide +kernel
  have h1 := of_decide_eq_true h
  exact ⟨⟨0, by decide, h1.1, h1.2.1, fun p hp => absurd hp (Nat.not_lt_zero _)⟩, by decide, h1.2.2.1, h1.2.2.2, fun k hk => absurd hk (Nat.not_lt_zero _)⟩
theorem c_Rel : s_Rel false 0 c_I c_J := ⟨c_gt.1, c_bk, c_wl, c_gt.2, c_un, c_ac, c_sc, c_sz, c_sh⟩
theorem c_mem : (((89, c_R), (c_I, c_J)) : qM) = qS false 0 c_I c_J := by
  unfold qS
  rw [c_R_eq]
