theorem k_coder0 {d : Nat} {M : qM} : GM d 150 [.float 3] (M) (some (.int 0)) (M) := by
  refine GM_of (by decide) (Nat.le_refl _) (Nat.le_of_ble_eq_true rfl) rfl ?_
  refine G_st (L := 0) (k := 0) (0, [some (.float 3)], [], M) (Nat.zero_le _) rfl ?_
  refine G_gets rfl rfl ?_
  refine G_st (L := 0) (k := 0) (3, [some (.float 3)], [.int 1], M) (Nat.zero_le _) rfl ?_
  refine G_if_eq 13 rfl rfl (fun h9 => absurd h9 (by decide)) (fun _ => ?_)
  refine G_st (L := 0) (k := 1) (7, [some (.float 3)], [.float 3], M) (Nat.zero_le _) rfl ?_
  refine G_getC (i := 0) rfl rfl (by decide) rfl ?_
  refine G_st (L := 0) (k := 1) (14, [some (.float 3)], [.int 0], M) (Nat.zero_le _) rfl ?_
  exact G_iret rfl rfl rfl rfl
theorem k_isLatin0 {d : Nat} {M : qM} : GM d 151 [.float 3] (M) (some (.int 1)) (M) := by
  refine GM_of (by decide) (Nat.le_refl _) (Nat.le_of_ble_eq_true rfl) rfl ?_
  refine G_st (L := 0) (k := 0) (0, [some (.float 3)], [], M) (Nat.zero_le _) rfl ?_
  refine G_gets rfl rfl ?_
  refine G_st (L := 0) (k := 0) (3, [some (.float 3)], [.int 1], M) (Nat.zero_le _) rfl ?_
  refine G_if_eq 17 rfl rfl (fun h9 => absurd h9 (by decide)) (fun _ => ?_)
  refine G_st (L := 0) (k := 1) (7, [some (.float 3)], [.float 3], M) (Nat.zero_le _) rfl ?_
  refine G_getC (i := 0) rfl rfl (by decide) rfl ?_
  refine G_st (L := 0) (k := 0) (10, [some (.float 3)], [.int 0], M) (Nat.zero_le _) rfl ?_
  refine G_if_ne 17 rfl rfl (fun h9 => absurd h9 (by decide)) (fun _ => ?_)
  refine G_st (L := 0) (k := 2) (18, [some (.float 3)], [.int 1], M) (Nat.zero_le _) rfl ?_
  exact G_iret rfl rfl rfl rfl
theorem k_len0 {d : Nat} {M : qM} : GM (d + 1) 148 [.float 3] (M) (some (.int 3)) (M) := by
  refine GM_of (by decide) (Nat.le_refl _) (Nat.le_of_ble_eq_true rfl) trivial ?_
  refine G_st (L := 0) (k := 0) (0, [some (.float 3)], [], M) (Nat.zero_le _) rfl ?_
  refine G_st (L := 0) (k := 1) (1, [some (.float 3)], [.float 3], M) (Nat.zero_le _) rfl ?_
  refine G_getV (i := 0) (z := 8) rfl rfl (by decide) rfl rfl ?_
  refine G_st (L := 0) (k := 0) (4, [some (.float 3)], [.float 8], M) (Nat.zero_le _) rfl ?_
  refine G_alenK (i := 0) (n := 3) rfl (by decide) rfl rfl ?_
  refine G_st (L := 0) (k := 1) (6, [some (.float 3)], [.float 3, .int 3], M) (Nat.zero_le _) rfl ?_
  refine G_callK (i := 0) (as := []) (rest := [.int 3]) rfl rfl (by decide) rfl rfl rfl (Nat.le_of_ble_eq_true rfl) k_coder0 (Nat.le_refl _) ?_
  refine G_st (L := 0) (k := 1) (10, [some (.float 3)], [.int 3], M) (Nat.zero_le _) rfl ?_
  exact G_iret rfl rfl rfl rfl
theorem k_coder1 {d : Nat} {M : qM} : GM d 150 [.float 4] (M) (some (.int 0)) (M) := by
  refine GM_of (by decide) (Nat.le_refl _) (Nat.le_of_ble_eq_true rfl) rfl ?_
  refine G_st (L := 0) (k := 0) (0, [some (.float 4)], [], M) (Nat.zero_le _) rfl ?_
  refine G_gets rfl rfl ?_
  refine G_st (L := 0) (k := 0) (3, [some (.float 4)], [.int 1], M) (Nat.zero_le _) rfl ?_
  refine G_if_eq 13 rfl rfl (fun h9 => absurd h9 (by decide)) (fun _ => ?_)
  refine G_st (L := 0) (k := 1) (7, [some (.float 4)], [.float 4], M) (Nat.zero_le _) rfl ?_
  refine G_getC (i := 1) rfl rfl (by decide) rfl ?_
  refine G_st (L := 0) (k := 1) (14, [some (.float 4)], [.int 0], M) (Nat.zero_le _) rfl ?_
  exact G_iret rfl rfl rfl rfl
theorem k_isLatin1 {d : Nat} {M : qM} : GM d 151 [.float 4] (M) (some (.int 1)) (M) := by
  refine GM_of (by decide) (Nat.le_refl _) (Nat.le_of_ble_eq_true rfl) rfl ?_
  refine G_st (L := 0) (k := 0) (0, [some (.float 4)], [], M) (Nat.zero_le _) rfl ?_
  refine G_gets rfl rfl ?_
  refine G_st (L := 0) (k := 0) (3, [some (.float 4)], [.int 1], M) (Nat.zero_le _) rfl ?_
  refine G_if_eq 17 rfl rfl (fun h9 => absurd h9 (by decide)) (fun _ => ?_)
  refine G_st (L := 0) (k := 1) (7, [some (.float 4)], [.float 4], M) (Nat.zero_le _) rfl ?_
  refine G_getC (i := 1) rfl rfl (by decide) rfl ?_
  refine G_st (L := 0) (k := 0) (10, [some (.float 4)], [.int 0], M) (Nat.zero_le _) rfl ?_
  refine G_if_ne 17 rfl rfl (fun h9 => absurd h9 (by decide)) (fun _ => ?_)
  refine G_st (L := 0) (k := 2) (18, [some (.float 4)], [.int 1], M) (Nat.zero_le _) rfl ?_
  exact G_iret rfl rfl rfl rfl
theorem k_len1 {d : Nat} {M : qM} : GM (d + 1) 148 [.float 4] (M) (some (.int 4)) (M) := by
  refine GM_of (by decide) (Nat.le_refl _) (Nat.le_of_ble_eq_true rfl) trivial ?_
  refine G_st (L := 0) (k := 0) (0, [some (.float 4)], [], M) (Nat.zero_le _) rfl ?_
  refine G_st (L := 0) (k := 1) (1, [some (.float 4)], [.float 4], M) (Nat.zero_le _) rfl ?_
  refine G_getV (i := 1) (z := 9) rfl rfl (by decide) rfl rfl ?_
  refine G_st (L := 0) (k := 0) (4, [some (.float 4)], [.float 9], M) (Nat.zero_le _) rfl ?_
  refine G_alenK (i := 1) (n := 4) rfl (by decide) rfl rfl ?_
  refine G_st (L := 0) (k := 1) (6, [some (.float 4)], [.float 4, .int 4], M) (Nat.zero_le _) rfl ?_
  refine G_callK (i := 1) (as := []) (rest := [.int 4]) rfl rfl (by decide) rfl rfl rfl (Nat.le_of_ble_eq_true rfl) k_coder1 (Nat.le_refl _) ?_
  refine G_st (L := 0) (k := 1) (10, [some (.float 4)], [.int 4], M) (Nat.zero_le _) rfl ?_
  exact G_iret rfl rfl rfl rfl
theorem k_coder2 {d : Nat} {M : qM} : GM d 150 [.float 5] (M) (some (.int 0)) (M) := by
  refine GM_of (by decide) (Nat.le_refl _) (Nat.le_of_ble_eq_true rfl) rfl ?_
  refine G_st (L := 0) (k := 0) (0, [some (.float 5)], [], M) (Nat.zero_le _) rfl ?_
  refine G_gets rfl rfl ?_
  refine G_st (L := 0) (k := 0) (3, [some (.float 5)], [.int 1], M) (Nat.zero_le _) rfl ?_
  refine G_if_eq 13 rfl rfl (fun h9 => absurd h9 (by decide)) (fun _ => ?_)
  refine G_st (L := 0) (k := 1) (7, [some (.float 5)], [.float 5], M) (Nat.zero_le _) rfl ?_
  refine G_getC (i := 2) rfl rfl (by decide) rfl ?_
  refine G_st (L := 0) (k := 1) (14, [some (.float 5)], [.int 0], M) (Nat.zero_le _) rfl ?_
  exact G_iret rfl rfl rfl rfl
theorem k_isLatin2 {d : Nat} {M : qM} : GM d 151 [.float 5] (M) (some (.int 1)) (M) := by
  refine GM_of (by decide) (Nat.le_refl _) (Nat.le_of_ble_eq_true rfl) rfl ?_
  refine G_st (L := 0) (k := 0) (0, [some (.float 5)], [], M) (Nat.zero_le _) rfl ?_
  refine G_gets rfl rfl ?_
  refine G_st (L := 0) (k := 0) (3, [some (.float 5)], [.int 1], M) (Nat.zero_le _) rfl ?_
  refine G_if_eq 17 rfl rfl (fun h9 => absurd h9 (by decide)) (fun _ => ?_)
  refine G_st (L := 0) (k := 1) (7, [some (.float 5)], [.float 5], M) (Nat.zero_le _) rfl ?_
  refine G_getC (i := 2) rfl rfl (by decide) rfl ?_
  refine G_st (L := 0) (k := 0) (10, [some (.float 5)], [.int 0], M) (Nat.zero_le _) rfl ?_
  refine G_if_ne 17 rfl rfl (fun h9 => absurd h9 (by decide)) (fun _ => ?_)
  refine G_st (L := 0) (k := 2) (18, [some (.float 5)], [.int 1], M) (Nat.zero_le _) rfl ?_
  exact G_iret rfl rfl rfl rfl
theorem k_len2 {d : Nat} {M : qM} : GM (d + 1) 148 [.float 5] (M) (some (.int 4)) (M) := by
  refine GM_of (by decide) (Nat.le_refl _) (Nat.le_of_ble_eq_true rfl) trivial ?_
  refine G_st (L := 0) (k := 0) (0, [some (.float 5)], [], M) (Nat.zero_le _) rfl ?_
  refine G_st (L := 0) (k := 1) (1, [some (.float 5)], [.float 5], M) (Nat.zero_le _) rfl ?_
  refine G_getV (i := 2) (z := 10) rfl rfl (by decide) rfl rfl ?_
  refine G_st (L := 0) (k := 0) (4, [some (.float 5)], [.float 10], M) (Nat.zero_le _) rfl ?_
  refine G_alenK (i := 2) (n := 4) rfl (by decide) rfl rfl ?_
  refine G_st (L := 0) (k := 1) (6, [some (.float 5)], [.float 5, .int 4], M) (Nat.zero_le _) rfl ?_
  refine G_callK (i := 2) (as := []) (rest := [.int 4]) rfl rfl (by decide) rfl rfl rfl (Nat.le_of_ble_eq_true rfl) k_coder2 (Nat.le_refl _) ?_
  refine G_st (L := 0) (k := 1) (10, [some (.float 5)], [.int 4], M) (Nat.zero_le _) rfl ?_
  exact G_iret rfl rfl rfl rfl
theorem k_coder3 {d : Nat} {M : qM} : GM d 150 [.float 6] (M) (some (.int 0)) (M) := by
  refine GM_of (by decide) (Nat.le_refl _) (Nat.le_of_ble_eq_true rfl) rfl ?_
  refine G_st (L := 0) (k := 0) (0, [some (.float 6)], [], M) (Nat.zero_le _) rfl ?_
  refine G_gets rfl rfl ?_
  refine G_st (L := 0) (k := 0) (3, [some (.float 6)], [.int 1], M) (Nat.zero_le _) rfl ?_
  refine G_if_eq 13 rfl rfl (fun h9 => absurd h9 (by decide)) (fun _ => ?_)
  refine G_st (L := 0) (k := 1) (7, [some (.float 6)], [.float 6], M) (Nat.zero_le _) rfl ?_
  refine G_getC (i := 3) rfl rfl (by decide) rfl ?_
  refine G_st (L := 0) (k := 1) (14, [some (.float 6)], [.int 0], M) (Nat.zero_le _) rfl ?_
  exact G_iret rfl rfl rfl rfl
theorem k_isLatin3 {d : Nat} {M : qM} : GM d 151 [.float 6] (M) (some (.int 1)) (M) := by
  refine GM_of (by decide) (Nat.le_refl _) (Nat.le_of_ble_eq_true rfl) rfl ?_
  refine G_st (L := 0) (k := 0) (0, [some (.float 6)], [], M) (Nat.zero_le _) rfl ?_
  refine G_gets rfl rfl ?_
  refine G_st (L := 0) (k := 0) (3, [some (.float 6)], [.int 1], M) (Nat.zero_le _) rfl ?_
  refine G_if_eq 17 rfl rfl (fun h9 => absurd h9 (by decide)) (fun _ => ?_)
  refine G_st (L := 0) (k := 1) (7, [some (.float 6)], [.float 6], M) (Nat.zero_le _) rfl ?_
  refine G_getC (i := 3) rfl rfl (by decide) rfl ?_
  refine G_st (L := 0) (k := 0) (10, [some (.float 6)], [.int 0], M) (Nat.zero_le _) rfl ?_
  refine G_if_ne 17 rfl rfl (fun h9 => absurd h9 (by decide)) (fun _ => ?_)
  refine G_st (L := 0) (k := 2) (18, [some (.float 6)], [.int 1], M) (Nat.zero_le _) rfl ?_
  exact G_iret rfl rfl rfl rfl
theorem k_len3 {d : Nat} {M : qM} : GM (d + 1) 148 [.float 6] (M) (some (.int 4)) (M) := by
  refine GM_of (by decide) (Nat.le_refl _) (Nat.le_of_ble_eq_true rfl) trivial ?_
  refine G_st (L := 0) (k := 0) (0, [some (.float 6)], [], M) (Nat.zero_le _) rfl ?_
  refine G_st (L := 0) (k := 1) (1, [some (.float 6)], [.float 6], M) (Nat.zero_le _) rfl ?_
  refine G_getV (i := 3) (z := 11) rfl rfl (by decide) rfl rfl ?_
  refine G_st (L := 0) (k := 0) (4, [some (.float 6)], [.float 11], M) (Nat.zero_le _) rfl ?_
  refine G_alenK (i := 3) (n := 4) rfl (by decide) rfl rfl ?_
  refine G_st (L := 0) (k := 1) (6, [some (.float 6)], [.float 6, .int 4], M) (Nat.zero_le _) rfl ?_
  refine G_callK (i := 3) (as := []) (rest := [.int 4]) rfl rfl (by decide) rfl rfl rfl (Nat.le_of_ble_eq_true rfl) k_coder3 (Nat.le_refl _) ?_
  refine G_st (L := 0) (k := 1) (10, [some (.float 6)], [.int 4], M) (Nat.zero_le _) rfl ?_
  exact G_iret rfl rfl rfl rfl
theorem k_coder4 {d : Nat} {M : qM} : GM d 150 [.float 7] (M) (some (.int 0)) (M) := by
  refine GM_of (by decide) (Nat.le_refl _) (Nat.le_of_ble_eq_true rfl) rfl ?_
  refine G_st (L := 0) (k := 0) (0, [some (.float 7)], [], M) (Nat.zero_le _) rfl ?_
  refine G_gets rfl rfl ?_
  refine G_st (L := 0) (k := 0) (3, [some (.float 7)], [.int 1], M) (Nat.zero_le _) rfl ?_
  refine G_if_eq 13 rfl rfl (fun h9 => absurd h9 (by decide)) (fun _ => ?_)
  refine G_st (L := 0) (k := 1) (7, [some (.float 7)], [.float 7], M) (Nat.zero_le _) rfl ?_
  refine G_getC (i := 4) rfl rfl (by decide) rfl ?_
  refine G_st (L := 0) (k := 1) (14, [some (.float 7)], [.int 0], M) (Nat.zero_le _) rfl ?_
  exact G_iret rfl rfl rfl rfl
theorem k_isLatin4 {d : Nat} {M : qM} : GM d 151 [.float 7] (M) (some (.int 1)) (M) := by
  refine GM_of (by decide) (Nat.le_refl _) (Nat.le_of_ble_eq_true rfl) rfl ?_
  refine G_st (L := 0) (k := 0) (0, [some (.float 7)], [], M) (Nat.zero_le _) rfl ?_
  refine G_gets rfl rfl ?_
  refine G_st (L := 0) (k := 0) (3, [some (.float 7)], [.int 1], M) (Nat.zero_le _) rfl ?_
  refine G_if_eq 17 rfl rfl (fun h9 => absurd h9 (by decide)) (fun _ => ?_)
  refine G_st (L := 0) (k := 1) (7, [some (.float 7)], [.float 7], M) (Nat.zero_le _) rfl ?_
  refine G_getC (i := 4) rfl rfl (by decide) rfl ?_
  refine G_st (L := 0) (k := 0) (10, [some (.float 7)], [.int 0], M) (Nat.zero_le _) rfl ?_
  refine G_if_ne 17 rfl rfl (fun h9 => absurd h9 (by decide)) (fun _ => ?_)
  refine G_st (L := 0) (k := 2) (18, [some (.float 7)], [.int 1], M) (Nat.zero_le _) rfl ?_
  exact G_iret rfl rfl rfl rfl
theorem k_len4 {d : Nat} {M : qM} : GM (d + 1) 148 [.float 7] (M) (some (.int 5)) (M) := by
  refine GM_of (by decide) (Nat.le_refl _) (Nat.le_of_ble_eq_true rfl) trivial ?_
  refine G_st (L := 0) (k := 0) (0, [some (.float 7)], [], M) (Nat.zero_le _) rfl ?_
  refine G_st (L := 0) (k := 1) (1, [some (.float 7)], [.float 7], M) (Nat.zero_le _) rfl ?_
  refine G_getV (i := 4) (z := 12) rfl rfl (by decide) rfl rfl ?_
  refine G_st (L := 0) (k := 0) (4, [some (.float 7)], [.float 12], M) (Nat.zero_le _) rfl ?_
  refine G_alenK (i := 4) (n := 5) rfl (by decide) rfl rfl ?_
  refine G_st (L := 0) (k := 1) (6, [some (.float 7)], [.float 7, .int 5], M) (Nat.zero_le _) rfl ?_
  refine G_callK (i := 4) (as := []) (rest := [.int 5]) rfl rfl (by decide) rfl rfl rfl (Nat.le_of_ble_eq_true rfl) k_coder4 (Nat.le_refl _) ?_
  refine G_st (L := 0) (k := 1) (10, [some (.float 7)], [.int 5], M) (Nat.zero_le _) rfl ?_
  exact G_iret rfl rfl rfl rfl
theorem k_c3_3_0 {d : Nat} {M : qM} : GM d 160 [.int 0, .int 3, .float 13] (M) (some (.int 0)) (M) := by
  refine GM_of (by decide) (Nat.le_refl _) (Nat.le_of_ble_eq_true rfl) trivial ?_
  refine G_st (L := 0) (k := 0) (0, [some (.int 0), some (.int 3), some (.float 13)], [], M) (Nat.zero_le _) rfl ?_
  refine G_st (L := 0) (k := 1) (1, [some (.int 0), some (.int 3), some (.float 13)], [.int 0], M) (Nat.zero_le _) rfl ?_
  refine G_if_lt 9 rfl rfl (fun h9 => absurd h9 (by decide)) (fun _ => ?_)
  refine G_st (L := 0) (k := 2) (6, [some (.int 0), some (.int 3), some (.float 13)], [.int 3, .int 0], M) (Nat.zero_le _) rfl ?_
  refine G_icmp_lt 16 rfl rfl (fun _ => ?_) (fun h9 => absurd h9 (by decide))
  refine G_st (L := 0) (k := 1) (17, [some (.int 0), some (.int 3), some (.float 13)], [.int 0], M) (Nat.zero_le _) rfl ?_
  exact G_iret rfl rfl rfl rfl
theorem k_c0_3_0 {d : Nat} {M : qM} : GM (d + 1) 152 [.int 0, .int 3] (M) (none) (M) := by
  refine GM_of (by decide) (Nat.le_refl _) (Nat.le_of_ble_eq_true rfl) trivial ?_
  refine G_st (L := 0) (k := 0) (0, [some (.int 0), some (.int 3)], [], M) (Nat.zero_le _) rfl ?_
  refine G_st (L := 0) (k := 2) (2, [some (.int 0), some (.int 3)], [.int 3, .int 0], M) (Nat.zero_le _) rfl ?_
  refine G_gets rfl rfl ?_
  refine G_st (L := 0) (k := 0) (5, [some (.int 0), some (.int 3)], [.float 13, .int 3, .int 0], M) (Nat.zero_le _) rfl ?_
  refine G_callS (as := [.int 0, .int 3, .float 13]) (rest := []) rfl rfl rfl (Nat.le_of_ble_eq_true rfl) k_c3_3_0 (Nat.le_refl _) ?_
  refine G_st (L := 0) (k := 1) (9, [some (.int 0), some (.int 3)], [], M) (Nat.zero_le _) rfl ?_
  exact G_ret rfl rfl rfl rfl
theorem k_c3_3_1 {d : Nat} {M : qM} : GM d 160 [.int 1, .int 3, .float 13] (M) (some (.int 1)) (M) := by
  refine GM_of (by decide) (Nat.le_refl _) (Nat.le_of_ble_eq_true rfl) trivial ?_
  refine G_st (L := 0) (k := 0) (0, [some (.int 1), some (.int 3), some (.float 13)], [], M) (Nat.zero_le _) rfl ?_
  refine G_st (L := 0) (k := 1) (1, [some (.int 1), some (.int 3), some (.float 13)], [.int 1], M) (Nat.zero_le _) rfl ?_
  refine G_if_lt 9 rfl rfl (fun h9 => absurd h9 (by decide)) (fun _ => ?_)
  refine G_st (L := 0) (k := 2) (6, [some (.int 1), some (.int 3), some (.float 13)], [.int 3, .int 1], M) (Nat.zero_le _) rfl ?_
  refine G_icmp_lt 16 rfl rfl (fun _ => ?_) (fun h9 => absurd h9 (by decide))
  refine G_st (L := 0) (k := 1) (17, [some (.int 1), some (.int 3), some (.float 13)], [.int 1], M) (Nat.zero_le _) rfl ?_
  exact G_iret rfl rfl rfl rfl
theorem k_c0_3_1 {d : Nat} {M : qM} : GM (d + 1) 152 [.int 1, .int 3] (M) (none) (M) := by
  refine GM_of (by decide) (Nat.le_refl _) (Nat.le_of_ble_eq_true rfl) trivial ?_
  refine G_st (L := 0) (k := 0) (0, [some (.int 1), some (.int 3)], [], M) (Nat.zero_le _) rfl ?_
  refine G_st (L := 0) (k := 2) (2, [some (.int 1), some (.int 3)], [.int 3, .int 1], M) (Nat.zero_le _) rfl ?_
  refine G_gets rfl rfl ?_
  refine G_st (L := 0) (k := 0) (5, [some (.int 1), some (.int 3)], [.float 13, .int 3, .int 1], M) (Nat.zero_le _) rfl ?_
  refine G_callS (as := [.int 1, .int 3, .float 13]) (rest := []) rfl rfl rfl (Nat.le_of_ble_eq_true rfl) k_c3_3_1 (Nat.le_refl _) ?_
  refine G_st (L := 0) (k := 1) (9, [some (.int 1), some (.int 3)], [], M) (Nat.zero_le _) rfl ?_
  exact G_ret rfl rfl rfl rfl
theorem k_c3_3_2 {d : Nat} {M : qM} : GM d 160 [.int 2, .int 3, .float 13] (M) (some (.int 2)) (M) := by
  refine GM_of (by decide) (Nat.le_refl _) (Nat.le_of_ble_eq_true rfl) trivial ?_
  refine G_st (L := 0) (k := 0) (0, [some (.int 2), some (.int 3), some (.float 13)], [], M) (Nat.zero_le _) rfl ?_
  refine G_st (L := 0) (k := 1) (1, [some (.int 2), some (.int 3), some (.float 13)], [.int 2], M) (Nat.zero_le _) rfl ?_
  refine G_if_lt 9 rfl rfl (fun h9 => absurd h9 (by decide)) (fun _ => ?_)
  refine G_st (L := 0) (k := 2) (6, [some (.int 2), some (.int 3), some (.float 13)], [.int 3, .int 2], M) (Nat.zero_le _) rfl ?_
  refine G_icmp_lt 16 rfl rfl (fun _ => ?_) (fun h9 => absurd h9 (by decide))
  refine G_st (L := 0) (k := 1) (17, [some (.int 2), some (.int 3), some (.float 13)], [.int 2], M) (Nat.zero_le _) rfl ?_
  exact G_iret rfl rfl rfl rfl
theorem k_c0_3_2 {d : Nat} {M : qM} : GM (d + 1) 152 [.int 2, .int 3] (M) (none) (M) := by
  refine GM_of (by decide) (Nat.le_refl _) (Nat.le_of_ble_eq_true rfl) trivial ?_
  refine G_st (L := 0) (k := 0) (0, [some (.int 2), some (.int 3)], [], M) (Nat.zero_le _) rfl ?_
  refine G_st (L := 0) (k := 2) (2, [some (.int 2), some (.int 3)], [.int 3, .int 2], M) (Nat.zero_le _) rfl ?_
  refine G_gets rfl rfl ?_
  refine G_st (L := 0) (k := 0) (5, [some (.int 2), some (.int 3)], [.float 13, .int 3, .int 2], M) (Nat.zero_le _) rfl ?_
  refine G_callS (as := [.int 2, .int 3, .float 13]) (rest := []) rfl rfl rfl (Nat.le_of_ble_eq_true rfl) k_c3_3_2 (Nat.le_refl _) ?_
  refine G_st (L := 0) (k := 1) (9, [some (.int 2), some (.int 3)], [], M) (Nat.zero_le _) rfl ?_
  exact G_ret rfl rfl rfl rfl
theorem k_c3_4_0 {d : Nat} {M : qM} : GM d 160 [.int 0, .int 4, .float 13] (M) (some (.int 0)) (M) := by
  refine GM_of (by decide) (Nat.le_refl _) (Nat.le_of_ble_eq_true rfl) trivial ?_
  refine G_st (L := 0) (k := 0) (0, [some (.int 0), some (.int 4), some (.float 13)], [], M) (Nat.zero_le _) rfl ?_
  refine G_st (L := 0) (k := 1) (1, [some (.int 0), some (.int 4), some (.float 13)], [.int 0], M) (Nat.zero_le _) rfl ?_
  refine G_if_lt 9 rfl rfl (fun h9 => absurd h9 (by decide)) (fun _ => ?_)
  refine G_st (L := 0) (k := 2) (6, [some (.int 0), some (.int 4), some (.float 13)], [.int 4, .int 0], M) (Nat.zero_le _) rfl ?_
  refine G_icmp_lt 16 rfl rfl (fun _ => ?_) (fun h9 => absurd h9 (by decide))
  refine G_st (L := 0) (k := 1) (17, [some (.int 0), some (.int 4), some (.float 13)], [.int 0], M) (Nat.zero_le _) rfl ?_
  exact G_iret rfl rfl rfl rfl
theorem k_c0_4_0 {d : Nat} {M : qM} : GM (d + 1) 152 [.int 0, .int 4] (M) (none) (M) := by
  refine GM_of (by decide) (Nat.le_refl _) (Nat.le_of_ble_eq_true rfl) trivial ?_
  refine G_st (L := 0) (k := 0) (0, [some (.int 0), some (.int 4)], [], M) (Nat.zero_le _) rfl ?_
  refine G_st (L := 0) (k := 2) (2, [some (.int 0), some (.int 4)], [.int 4, .int 0], M) (Nat.zero_le _) rfl ?_
  refine G_gets rfl rfl ?_
  refine G_st (L := 0) (k := 0) (5, [some (.int 0), some (.int 4)], [.float 13, .int 4, .int 0], M) (Nat.zero_le _) rfl ?_
  refine G_callS (as := [.int 0, .int 4, .float 13]) (rest := []) rfl rfl rfl (Nat.le_of_ble_eq_true rfl) k_c3_4_0 (Nat.le_refl _) ?_
  refine G_st (L := 0) (k := 1) (9, [some (.int 0), some (.int 4)], [], M) (Nat.zero_le _) rfl ?_
  exact G_ret rfl rfl rfl rfl
theorem k_c3_4_1 {d : Nat} {M : qM} : GM d 160 [.int 1, .int 4, .float 13] (M) (some (.int 1)) (M) := by
  refine GM_of (by decide) (Nat.le_refl _) (Nat.le_of_ble_eq_true rfl) trivial ?_
  refine G_st (L := 0) (k := 0) (0, [some (.int 1), some (.int 4), some (.float 13)], [], M) (Nat.zero_le _) rfl ?_
  refine G_st (L := 0) (k := 1) (1, [some (.int 1), some (.int 4), some (.float 13)], [.int 1], M) (Nat.zero_le _) rfl ?_
  refine G_if_lt 9 rfl rfl (fun h9 => absurd h9 (by decide)) (fun _ => ?_)
  refine G_st (L := 0) (k := 2) (6, [some (.int 1), some (.int 4), some (.float 13)], [.int 4, .int 1], M) (Nat.zero_le _) rfl ?_
  refine G_icmp_lt 16 rfl rfl (fun _ => ?_) (fun h9 => absurd h9 (by decide))
  refine G_st (L := 0) (k := 1) (17, [some (.int 1), some (.int 4), some (.float 13)], [.int 1], M) (Nat.zero_le _) rfl ?_
  exact G_iret rfl rfl rfl rfl
theorem k_c0_4_1 {d : Nat} {M : qM} : GM (d + 1) 152 [.int 1, .int 4] (M) (none) (M) := by
  refine GM_of (by decide) (Nat.le_refl _) (Nat.le_of_ble_eq_true rfl) trivial ?_
  refine G_st (L := 0) (k := 0) (0, [some (.int 1), some (.int 4)], [], M) (Nat.zero_le _) rfl ?_
  refine G_st (L := 0) (k := 2) (2, [some (.int 1), some (.int 4)], [.int 4, .int 1], M) (Nat.zero_le _) rfl ?_
  refine G_gets rfl rfl ?_
  refine G_st (L := 0) (k := 0) (5, [some (.int 1), some (.int 4)], [.float 13, .int 4, .int 1], M) (Nat.zero_le _) rfl ?_
  refine G_callS (as := [.int 1, .int 4, .float 13]) (rest := []) rfl rfl rfl (Nat.le_of_ble_eq_true rfl) k_c3_4_1 (Nat.le_refl _) ?_
  refine G_st (L := 0) (k := 1) (9, [some (.int 1), some (.int 4)], [], M) (Nat.zero_le _) rfl ?_
  exact G_ret rfl rfl rfl rfl
theorem k_c3_4_2 {d : Nat} {M : qM} : GM d 160 [.int 2, .int 4, .float 13] (M) (some (.int 2)) (M) := by
  refine GM_of (by decide) (Nat.le_refl _) (Nat.le_of_ble_eq_true rfl) trivial ?_
  refine G_st (L := 0) (k := 0) (0, [some (.int 2), some (.int 4), some (.float 13)], [], M) (Nat.zero_le _) rfl ?_
  refine G_st (L := 0) (k := 1) (1, [some (.int 2), some (.int 4), some (.float 13)], [.int 2], M) (Nat.zero_le _) rfl ?_
  refine G_if_lt 9 rfl rfl (fun h9 => absurd h9 (by decide)) (fun _ => ?_)
  refine G_st (L := 0) (k := 2) (6, [some (.int 2), some (.int 4), some (.float 13)], [.int 4, .int 2], M) (Nat.zero_le _) rfl ?_
  refine G_icmp_lt 16 rfl rfl (fun _ => ?_) (fun h9 => absurd h9 (by decide))
  refine G_st (L := 0) (k := 1) (17, [some (.int 2), some (.int 4), some (.float 13)], [.int 2], M) (Nat.zero_le _) rfl ?_
  exact G_iret rfl rfl rfl rfl
theorem k_c0_4_2 {d : Nat} {M : qM} : GM (d + 1) 152 [.int 2, .int 4] (M) (none) (M) := by
  refine GM_of (by decide) (Nat.le_refl _) (Nat.le_of_ble_eq_true rfl) trivial ?_
  refine G_st (L := 0) (k := 0) (0, [some (.int 2), some (.int 4)], [], M) (Nat.zero_le _) rfl ?_
  refine G_st (L := 0) (k := 2) (2, [some (.int 2), some (.int 4)], [.int 4, .int 2], M) (Nat.zero_le _) rfl ?_
  refine G_gets rfl rfl ?_
  refine G_st (L := 0) (k := 0) (5, [some (.int 2), some (.int 4)], [.float 13, .int 4, .int 2], M) (Nat.zero_le _) rfl ?_
  refine G_callS (as := [.int 2, .int 4, .float 13]) (rest := []) rfl rfl rfl (Nat.le_of_ble_eq_true rfl) k_c3_4_2 (Nat.le_refl _) ?_
  refine G_st (L := 0) (k := 1) (9, [some (.int 2), some (.int 4)], [], M) (Nat.zero_le _) rfl ?_
  exact G_ret rfl rfl rfl rfl
theorem k_c3_4_3 {d : Nat} {M : qM} : GM d 160 [.int 3, .int 4, .float 13] (M) (some (.int 3)) (M) := by
  refine GM_of (by decide) (Nat.le_refl _) (Nat.le_of_ble_eq_true rfl) trivial ?_
  refine G_st (L := 0) (k := 0) (0, [some (.int 3), some (.int 4), some (.float 13)], [], M) (Nat.zero_le _) rfl ?_
  refine G_st (L := 0) (k := 1) (1, [some (.int 3), some (.int 4), some (.float 13)], [.int 3], M) (Nat.zero_le _) rfl ?_
  refine G_if_lt 9 rfl rfl (fun h9 => absurd h9 (by decide)) (fun _ => ?_)
  refine G_st (L := 0) (k := 2) (6, [some (.int 3), some (.int 4), some (.float 13)], [.int 4, .int 3], M) (Nat.zero_le _) rfl ?_
  refine G_icmp_lt 16 rfl rfl (fun _ => ?_) (fun h9 => absurd h9 (by decide))
  refine G_st (L := 0) (k := 1) (17, [some (.int 3), some (.int 4), some (.float 13)], [.int 3], M) (Nat.zero_le _) rfl ?_
  exact G_iret rfl rfl rfl rfl
theorem k_c0_4_3 {d : Nat} {M : qM} : GM (d + 1) 152 [.int 3, .int 4] (M) (none) (M) := by
  refine GM_of (by decide) (Nat.le_refl _) (Nat.le_of_ble_eq_true rfl) trivial ?_
  refine G_st (L := 0) (k := 0) (0, [some (.int 3), some (.int 4)], [], M) (Nat.zero_le _) rfl ?_
  refine G_st (L := 0) (k := 2) (2, [some (.int 3), some (.int 4)], [.int 4, .int 3], M) (Nat.zero_le _) rfl ?_
  refine G_gets rfl rfl ?_
  refine G_st (L := 0) (k := 0) (5, [some (.int 3), some (.int 4)], [.float 13, .int 4, .int 3], M) (Nat.zero_le _) rfl ?_
  refine G_callS (as := [.int 3, .int 4, .float 13]) (rest := []) rfl rfl rfl (Nat.le_of_ble_eq_true rfl) k_c3_4_3 (Nat.le_refl _) ?_
  refine G_st (L := 0) (k := 1) (9, [some (.int 3), some (.int 4)], [], M) (Nat.zero_le _) rfl ?_
  exact G_ret rfl rfl rfl rfl
theorem k_c3_5_0 {d : Nat} {M : qM} : GM d 160 [.int 0, .int 5, .float 13] (M) (some (.int 0)) (M) := by
  refine GM_of (by decide) (Nat.le_refl _) (Nat.le_of_ble_eq_true rfl) trivial ?_
  refine G_st (L := 0) (k := 0) (0, [some (.int 0), some (.int 5), some (.float 13)], [], M) (Nat.zero_le _) rfl ?_
  refine G_st (L := 0) (k := 1) (1, [some (.int 0), some (.int 5), some (.float 13)], [.int 0], M) (Nat.zero_le _) rfl ?_
  refine G_if_lt 9 rfl rfl (fun h9 => absurd h9 (by decide)) (fun _ => ?_)
  refine G_st (L := 0) (k := 2) (6, [some (.int 0), some (.int 5), some (.float 13)], [.int 5, .int 0], M) (Nat.zero_le _) rfl ?_
  refine G_icmp_lt 16 rfl rfl (fun _ => ?_) (fun h9 => absurd h9 (by decide))
  refine G_st (L := 0) (k := 1) (17, [some (.int 0), some (.int 5), some (.float 13)], [.int 0], M) (Nat.zero_le _) rfl ?_
  exact G_iret rfl rfl rfl rfl
theorem k_c0_5_0 {d : Nat} {M : qM} : GM (d + 1) 152 [.int 0, .int 5] (M) (none) (M) := by
  refine GM_of (by decide) (Nat.le_refl _) (Nat.le_of_ble_eq_true rfl) trivial ?_
  refine G_st (L := 0) (k := 0) (0, [some (.int 0), some (.int 5)], [], M) (Nat.zero_le _) rfl ?_
  refine G_st (L := 0) (k := 2) (2, [some (.int 0), some (.int 5)], [.int 5, .int 0], M) (Nat.zero_le _) rfl ?_
  refine G_gets rfl rfl ?_
  refine G_st (L := 0) (k := 0) (5, [some (.int 0), some (.int 5)], [.float 13, .int 5, .int 0], M) (Nat.zero_le _) rfl ?_
  refine G_callS (as := [.int 0, .int 5, .float 13]) (rest := []) rfl rfl rfl (Nat.le_of_ble_eq_true rfl) k_c3_5_0 (Nat.le_refl _) ?_
  refine G_st (L := 0) (k := 1) (9, [some (.int 0), some (.int 5)], [], M) (Nat.zero_le _) rfl ?_
  exact G_ret rfl rfl rfl rfl
theorem k_c3_5_1 {d : Nat} {M : qM} : GM d 160 [.int 1, .int 5, .float 13] (M) (some (.int 1)) (M) := by
  refine GM_of (by decide) (Nat.le_refl _) (Nat.le_of_ble_eq_true rfl) trivial ?_
  refine G_st (L := 0) (k := 0) (0, [some (.int 1), some (.int 5), some (.float 13)], [], M) (Nat.zero_le _) rfl ?_
  refine G_st (L := 0) (k := 1) (1, [some (.int 1), some (.int 5), some (.float 13)], [.int 1], M) (Nat.zero_le _) rfl ?_
  refine G_if_lt 9 rfl rfl (fun h9 => absurd h9 (by decide)) (fun _ => ?_)
  refine G_st (L := 0) (k := 2) (6, [some (.int 1), some (.int 5), some (.float 13)], [.int 5, .int 1], M) (Nat.zero_le _) rfl ?_
  refine G_icmp_lt 16 rfl rfl (fun _ => ?_) (fun h9 => absurd h9 (by decide))
  refine G_st (L := 0) (k := 1) (17, [some (.int 1), some (.int 5), some (.float 13)], [.int 1], M) (Nat.zero_le _) rfl ?_
  exact G_iret rfl rfl rfl rfl
theorem k_c0_5_1 {d : Nat} {M : qM} : GM (d + 1) 152 [.int 1, .int 5] (M) (none) (M) := by
  refine GM_of (by decide) (Nat.le_refl _) (Nat.le_of_ble_eq_true rfl) trivial ?_
  refine G_st (L := 0) (k := 0) (0, [some (.int 1), some (.int 5)], [], M) (Nat.zero_le _) rfl ?_
  refine G_st (L := 0) (k := 2) (2, [some (.int 1), some (.int 5)], [.int 5, .int 1], M) (Nat.zero_le _) rfl ?_
  refine G_gets rfl rfl ?_
  refine G_st (L := 0) (k := 0) (5, [some (.int 1), some (.int 5)], [.float 13, .int 5, .int 1], M) (Nat.zero_le _) rfl ?_
  refine G_callS (as := [.int 1, .int 5, .float 13]) (rest := []) rfl rfl rfl (Nat.le_of_ble_eq_true rfl) k_c3_5_1 (Nat.le_refl _) ?_
  refine G_st (L := 0) (k := 1) (9, [some (.int 1), some (.int 5)], [], M) (Nat.zero_le _) rfl ?_
  exact G_ret rfl rfl rfl rfl
theorem k_c3_5_2 {d : Nat} {M : qM} : GM d 160 [.int 2, .int 5, .float 13] (M) (some (.int 2)) (M) := by
  refine GM_of (by decide) (Nat.le_refl _) (Nat.le_of_ble_eq_true rfl) trivial ?_
  refine G_st (L := 0) (k := 0) (0, [some (.int 2), some (.int 5), some (.float 13)], [], M) (Nat.zero_le _) rfl ?_
  refine G_st (L := 0) (k := 1) (1, [some (.int 2), some (.int 5), some (.float 13)], [.int 2], M) (Nat.zero_le _) rfl ?_
  refine G_if_lt 9 rfl rfl (fun h9 => absurd h9 (by decide)) (fun _ => ?_)
  refine G_st (L := 0) (k := 2) (6, [some (.int 2), some (.int 5), some (.float 13)], [.int 5, .int 2], M) (Nat.zero_le _) rfl ?_
  refine G_icmp_lt 16 rfl rfl (fun _ => ?_) (fun h9 => absurd h9 (by decide))
  refine G_st (L := 0) (k := 1) (17, [some (.int 2), some (.int 5), some (.float 13)], [.int 2], M) (Nat.zero_le _) rfl ?_
  exact G_iret rfl rfl rfl rfl
theorem k_c0_5_2 {d : Nat} {M : qM} : GM (d + 1) 152 [.int 2, .int 5] (M) (none) (M) := by
  refine GM_of (by decide) (Nat.le_refl _) (Nat.le_of_ble_eq_true rfl) trivial ?_
  refine G_st (L := 0) (k := 0) (0, [some (.int 2), some (.int 5)], [], M) (Nat.zero_le _) rfl ?_
  refine G_st (L := 0) (k := 2) (2, [some (.int 2), some (.int 5)], [.int 5, .int 2], M) (Nat.zero_le _) rfl ?_
  refine G_gets rfl rfl ?_
  refine G_st (L := 0) (k := 0) (5, [some (.int 2), some (.int 5)], [.float 13, .int 5, .int 2], M) (Nat.zero_le _) rfl ?_
  refine G_callS (as := [.int 2, .int 5, .float 13]) (rest := []) rfl rfl rfl (Nat.le_of_ble_eq_true rfl) k_c3_5_2 (Nat.le_refl _) ?_
  refine G_st (L := 0) (k := 1) (9, [some (.int 2), some (.int 5)], [], M) (Nat.zero_le _) rfl ?_
  exact G_ret rfl rfl rfl rfl
theorem k_c3_5_3 {d : Nat} {M : qM} : GM d 160 [.int 3, .int 5, .float 13] (M) (some (.int 3)) (M) := by
  refine GM_of (by decide) (Nat.le_refl _) (Nat.le_of_ble_eq_true rfl) trivial ?_
  refine G_st (L := 0) (k := 0) (0, [some (.int 3), some (.int 5), some (.float 13)], [], M) (Nat.zero_le _) rfl ?_
  refine G_st (L := 0) (k := 1) (1, [some (.int 3), some (.int 5), some (.float 13)], [.int 3], M) (Nat.zero_le _) rfl ?_
  refine G_if_lt 9 rfl rfl (fun h9 => absurd h9 (by decide)) (fun _ => ?_)
  refine G_st (L := 0) (k := 2) (6, [some (.int 3), some (.int 5), some (.float 13)], [.int 5, .int 3], M) (Nat.zero_le _) rfl ?_
  refine G_icmp_lt 16 rfl rfl (fun _ => ?_) (fun h9 => absurd h9 (by decide))
  refine G_st (L := 0) (k := 1) (17, [some (.int 3), some (.int 5), some (.float 13)], [.int 3], M) (Nat.zero_le _) rfl ?_
  exact G_iret rfl rfl rfl rfl
theorem k_c0_5_3 {d : Nat} {M : qM} : GM (d + 1) 152 [.int 3, .int 5] (M) (none) (M) := by
  refine GM_of (by decide) (Nat.le_refl _) (Nat.le_of_ble_eq_true rfl) trivial ?_
  refine G_st (L := 0) (k := 0) (0, [some (.int 3), some (.int 5)], [], M) (Nat.zero_le _) rfl ?_
  refine G_st (L := 0) (k := 2) (2, [some (.int 3), some (.int 5)], [.int 5, .int 3], M) (Nat.zero_le _) rfl ?_
  refine G_gets rfl rfl ?_
  refine G_st (L := 0) (k := 0) (5, [some (.int 3), some (.int 5)], [.float 13, .int 5, .int 3], M) (Nat.zero_le _) rfl ?_
  refine G_callS (as := [.int 3, .int 5, .float 13]) (rest := []) rfl rfl rfl (Nat.le_of_ble_eq_true rfl) k_c3_5_3 (Nat.le_refl _) ?_
  refine G_st (L := 0) (k := 1) (9, [some (.int 3), some (.int 5)], [], M) (Nat.zero_le _) rfl ?_
  exact G_ret rfl rfl rfl rfl
theorem k_c3_5_4 {d : Nat} {M : qM} : GM d 160 [.int 4, .int 5, .float 13] (M) (some (.int 4)) (M) := by
  refine GM_of (by decide) (Nat.le_refl _) (Nat.le_of_ble_eq_true rfl) trivial ?_
  refine G_st (L := 0) (k := 0) (0, [some (.int 4), some (.int 5), some (.float 13)], [], M) (Nat.zero_le _) rfl ?_
  refine G_st (L := 0) (k := 1) (1, [some (.int 4), some (.int 5), some (.float 13)], [.int 4], M) (Nat.zero_le _) rfl ?_
  refine G_if_lt 9 rfl rfl (fun h9 => absurd h9 (by decide)) (fun _ => ?_)
  refine G_st (L := 0) (k := 2) (6, [some (.int 4), some (.int 5), some (.float 13)], [.int 5, .int 4], M) (Nat.zero_le _) rfl ?_
  refine G_icmp_lt 16 rfl rfl (fun _ => ?_) (fun h9 => absurd h9 (by decide))
  refine G_st (L := 0) (k := 1) (17, [some (.int 4), some (.int 5), some (.float 13)], [.int 4], M) (Nat.zero_le _) rfl ?_
  exact G_iret rfl rfl rfl rfl
theorem k_c0_5_4 {d : Nat} {M : qM} : GM (d + 1) 152 [.int 4, .int 5] (M) (none) (M) := by
  refine GM_of (by decide) (Nat.le_refl _) (Nat.le_of_ble_eq_true rfl) trivial ?_
  refine G_st (L := 0) (k := 0) (0, [some (.int 4), some (.int 5)], [], M) (Nat.zero_le _) rfl ?_
  refine G_st (L := 0) (k := 2) (2, [some (.int 4), some (.int 5)], [.int 5, .int 4], M) (Nat.zero_le _) rfl ?_
  refine G_gets rfl rfl ?_
  refine G_st (L := 0) (k := 0) (5, [some (.int 4), some (.int 5)], [.float 13, .int 5, .int 4], M) (Nat.zero_le _) rfl ?_
  refine G_callS (as := [.int 4, .int 5, .float 13]) (rest := []) rfl rfl rfl (Nat.le_of_ble_eq_true rfl) k_c3_5_4 (Nat.le_refl _) ?_
  refine G_st (L := 0) (k := 1) (9, [some (.int 4), some (.int 5)], [], M) (Nat.zero_le _) rfl ?_
  exact G_ret rfl rfl rfl rfl
theorem k_c1_0_0 {d : Nat} {M : qM} : GM (d + 2) 153 [.float 8, .int 0] (M) (some (.int 116)) (M) := by
  refine GM_of (by decide) (Nat.le_refl _) (Nat.le_of_ble_eq_true rfl) rfl ?_
  refine G_st (L := 0) (k := 0) (0, [some (.float 8), some (.int 0)], [], M) (Nat.zero_le _) rfl ?_
  refine G_st (L := 0) (k := 2) (2, [some (.float 8), some (.int 0)], [.float 8, .int 0], M) (Nat.zero_le _) rfl ?_
  refine G_alenK (i := 0) (n := 3) rfl (by decide) rfl rfl ?_
  refine G_st (L := 0) (k := 0) (3, [some (.float 8), some (.int 0)], [.int 3, .int 0], M) (Nat.zero_le _) rfl ?_
  refine G_callS (as := [.int 0, .int 3]) (rest := []) rfl rfl rfl (Nat.le_of_ble_eq_true rfl) k_c0_3_0 (Nat.le_refl _) ?_
  refine G_st (L := 0) (k := 2) (8, [some (.float 8), some (.int 0)], [.int 0, .float 8], M) (Nat.zero_le _) rfl ?_
  refine G_baldK (i := 0) (n := 116) rfl (by decide) rfl (by unfold vp_in; decide) rfl ?_
  refine G_st (L := 0) (k := 3) (14, [some (.float 8), some (.int 0)], [.int 116], M) (Nat.zero_le _) rfl ?_
  exact G_iret rfl rfl rfl rfl
theorem k_ch_0_0 {d : Nat} {M : qM} : GM (d + 3) 149 [.float 3, .int 0] (M) (some (.int 116)) (M) := by
  refine GM_of (by decide) (Nat.le_refl _) (Nat.le_of_ble_eq_true rfl) rfl ?_
  refine G_st (L := 0) (k := 0) (0, [some (.float 3), some (.int 0)], [], M) (Nat.zero_le _) rfl ?_
  refine G_st (L := 0) (k := 1) (1, [some (.float 3), some (.int 0)], [.float 3], M) (Nat.zero_le _) rfl ?_
  refine G_callK (i := 0) (as := []) (rest := []) rfl rfl (by decide) rfl rfl rfl (Nat.le_of_ble_eq_true rfl) k_isLatin0 (Nat.le_refl _) ?_
  refine G_st (L := 0) (k := 0) (4, [some (.float 3), some (.int 0)], [.int 1], M) (Nat.zero_le _) rfl ?_
  refine G_if_eq 16 rfl rfl (fun h9 => absurd h9 (by decide)) (fun _ => ?_)
  refine G_st (L := 0) (k := 1) (8, [some (.float 3), some (.int 0)], [.float 3], M) (Nat.zero_le _) rfl ?_
  refine G_getV (i := 0) (z := 8) rfl rfl (by decide) rfl rfl ?_
  refine G_st (L := 0) (k := 1) (12, [some (.float 3), some (.int 0)], [.int 0, .float 8], M) (Nat.zero_le _) rfl ?_
  refine G_callS (as := [.float 8, .int 0]) (rest := []) rfl rfl rfl (Nat.le_of_ble_eq_true rfl) k_c1_0_0 (Nat.le_refl _) ?_
  refine G_st (L := 0) (k := 0) (15, [some (.float 3), some (.int 0)], [.int 116], M) (Nat.zero_le _) rfl ?_
  exact G_iret rfl rfl rfl rfl
theorem k_c1_0_1 {d : Nat} {M : qM} : GM (d + 2) 153 [.float 8, .int 1] (M) (some (.int 111)) (M) := by
  refine GM_of (by decide) (Nat.le_refl _) (Nat.le_of_ble_eq_true rfl) rfl ?_
  refine G_st (L := 0) (k := 0) (0, [some (.float 8), some (.int 1)], [], M) (Nat.zero_le _) rfl ?_
  refine G_st (L := 0) (k := 2) (2, [some (.float 8), some (.int 1)], [.float 8, .int 1], M) (Nat.zero_le _) rfl ?_
  refine G_alenK (i := 0) (n := 3) rfl (by decide) rfl rfl ?_
  refine G_st (L := 0) (k := 0) (3, [some (.float 8), some (.int 1)], [.int 3, .int 1], M) (Nat.zero_le _) rfl ?_
  refine G_callS (as := [.int 1, .int 3]) (rest := []) rfl rfl rfl (Nat.le_of_ble_eq_true rfl) k_c0_3_1 (Nat.le_refl _) ?_
  refine G_st (L := 0) (k := 2) (8, [some (.float 8), some (.int 1)], [.int 1, .float 8], M) (Nat.zero_le _) rfl ?_
  refine G_baldK (i := 0) (n := 111) rfl (by decide) rfl (by unfold vp_in; decide) rfl ?_
  refine G_st (L := 0) (k := 3) (14, [some (.float 8), some (.int 1)], [.int 111], M) (Nat.zero_le _) rfl ?_
  exact G_iret rfl rfl rfl rfl
theorem k_ch_0_1 {d : Nat} {M : qM} : GM (d + 3) 149 [.float 3, .int 1] (M) (some (.int 111)) (M) := by
  refine GM_of (by decide) (Nat.le_refl _) (Nat.le_of_ble_eq_true rfl) rfl ?_
  refine G_st (L := 0) (k := 0) (0, [some (.float 3), some (.int 1)], [], M) (Nat.zero_le _) rfl ?_
  refine G_st (L := 0) (k := 1) (1, [some (.float 3), some (.int 1)], [.float 3], M) (Nat.zero_le _) rfl ?_
  refine G_callK (i := 0) (as := []) (rest := []) rfl rfl (by decide) rfl rfl rfl (Nat.le_of_ble_eq_true rfl) k_isLatin0 (Nat.le_refl _) ?_
  refine G_st (L := 0) (k := 0) (4, [some (.float 3), some (.int 1)], [.int 1], M) (Nat.zero_le _) rfl ?_
  refine G_if_eq 16 rfl rfl (fun h9 => absurd h9 (by decide)) (fun _ => ?_)
  refine G_st (L := 0) (k := 1) (8, [some (.float 3), some (.int 1)], [.float 3], M) (Nat.zero_le _) rfl ?_
  refine G_getV (i := 0) (z := 8) rfl rfl (by decide) rfl rfl ?_
  refine G_st (L := 0) (k := 1) (12, [some (.float 3), some (.int 1)], [.int 1, .float 8], M) (Nat.zero_le _) rfl ?_
  refine G_callS (as := [.float 8, .int 1]) (rest := []) rfl rfl rfl (Nat.le_of_ble_eq_true rfl) k_c1_0_1 (Nat.le_refl _) ?_
  refine G_st (L := 0) (k := 0) (15, [some (.float 3), some (.int 1)], [.int 111], M) (Nat.zero_le _) rfl ?_
  exact G_iret rfl rfl rfl rfl
theorem k_c1_0_2 {d : Nat} {M : qM} : GM (d + 2) 153 [.float 8, .int 2] (M) (some (.int 112)) (M) := by
  refine GM_of (by decide) (Nat.le_refl _) (Nat.le_of_ble_eq_true rfl) rfl ?_
  refine G_st (L := 0) (k := 0) (0, [some (.float 8), some (.int 2)], [], M) (Nat.zero_le _) rfl ?_
  refine G_st (L := 0) (k := 2) (2, [some (.float 8), some (.int 2)], [.float 8, .int 2], M) (Nat.zero_le _) rfl ?_
  refine G_alenK (i := 0) (n := 3) rfl (by decide) rfl rfl ?_
  refine G_st (L := 0) (k := 0) (3, [some (.float 8), some (.int 2)], [.int 3, .int 2], M) (Nat.zero_le _) rfl ?_
  refine G_callS (as := [.int 2, .int 3]) (rest := []) rfl rfl rfl (Nat.le_of_ble_eq_true rfl) k_c0_3_2 (Nat.le_refl _) ?_
  refine G_st (L := 0) (k := 2) (8, [some (.float 8), some (.int 2)], [.int 2, .float 8], M) (Nat.zero_le _) rfl ?_
  refine G_baldK (i := 0) (n := 112) rfl (by decide) rfl (by unfold vp_in; decide) rfl ?_
  refine G_st (L := 0) (k := 3) (14, [some (.float 8), some (.int 2)], [.int 112], M) (Nat.zero_le _) rfl ?_
  exact G_iret rfl rfl rfl rfl
theorem k_ch_0_2 {d : Nat} {M : qM} : GM (d + 3) 149 [.float 3, .int 2] (M) (some (.int 112)) (M) := by
  refine GM_of (by decide) (Nat.le_refl _) (Nat.le_of_ble_eq_true rfl) rfl ?_
  refine G_st (L := 0) (k := 0) (0, [some (.float 3), some (.int 2)], [], M) (Nat.zero_le _) rfl ?_
  refine G_st (L := 0) (k := 1) (1, [some (.float 3), some (.int 2)], [.float 3], M) (Nat.zero_le _) rfl ?_
  refine G_callK (i := 0) (as := []) (rest := []) rfl rfl (by decide) rfl rfl rfl (Nat.le_of_ble_eq_true rfl) k_isLatin0 (Nat.le_refl _) ?_
  refine G_st (L := 0) (k := 0) (4, [some (.float 3), some (.int 2)], [.int 1], M) (Nat.zero_le _) rfl ?_
  refine G_if_eq 16 rfl rfl (fun h9 => absurd h9 (by decide)) (fun _ => ?_)
  refine G_st (L := 0) (k := 1) (8, [some (.float 3), some (.int 2)], [.float 3], M) (Nat.zero_le _) rfl ?_
  refine G_getV (i := 0) (z := 8) rfl rfl (by decide) rfl rfl ?_
  refine G_st (L := 0) (k := 1) (12, [some (.float 3), some (.int 2)], [.int 2, .float 8], M) (Nat.zero_le _) rfl ?_
  refine G_callS (as := [.float 8, .int 2]) (rest := []) rfl rfl rfl (Nat.le_of_ble_eq_true rfl) k_c1_0_2 (Nat.le_refl _) ?_
  refine G_st (L := 0) (k := 0) (15, [some (.float 3), some (.int 2)], [.int 112], M) (Nat.zero_le _) rfl ?_
  exact G_iret rfl rfl rfl rfl
theorem k_c1_1_0 {d : Nat} {M : qM} : GM (d + 2) 153 [.float 9, .int 0] (M) (some (.int 104)) (M) := by
  refine GM_of (by decide) (Nat.le_refl _) (Nat.le_of_ble_eq_true rfl) rfl ?_
  refine G_st (L := 0) (k := 0) (0, [some (.float 9), some (.int 0)], [], M) (Nat.zero_le _) rfl ?_
  refine G_st (L := 0) (k := 2) (2, [some (.float 9), some (.int 0)], [.float 9, .int 0], M) (Nat.zero_le _) rfl ?_
  refine G_alenK (i := 1) (n := 4) rfl (by decide) rfl rfl ?_
  refine G_st (L := 0) (k := 0) (3, [some (.float 9), some (.int 0)], [.int 4, .int 0], M) (Nat.zero_le _) rfl ?_
  refine G_callS (as := [.int 0, .int 4]) (rest := []) rfl rfl rfl (Nat.le_of_ble_eq_true rfl) k_c0_4_0 (Nat.le_refl _) ?_
  refine G_st (L := 0) (k := 2) (8, [some (.float 9), some (.int 0)], [.int 0, .float 9], M) (Nat.zero_le _) rfl ?_
  refine G_baldK (i := 1) (n := 104) rfl (by decide) rfl (by unfold vp_in; decide) rfl ?_
  refine G_st (L := 0) (k := 3) (14, [some (.float 9), some (.int 0)], [.int 104], M) (Nat.zero_le _) rfl ?_
  exact G_iret rfl rfl rfl rfl
theorem k_ch_1_0 {d : Nat} {M : qM} : GM (d + 3) 149 [.float 4, .int 0] (M) (some (.int 104)) (M) := by
  refine GM_of (by decide) (Nat.le_refl _) (Nat.le_of_ble_eq_true rfl) rfl ?_
  refine G_st (L := 0) (k := 0) (0, [some (.float 4), some (.int 0)], [], M) (Nat.zero_le _) rfl ?_
  refine G_st (L := 0) (k := 1) (1, [some (.float 4), some (.int 0)], [.float 4], M) (Nat.zero_le _) rfl ?_
  refine G_callK (i := 1) (as := []) (rest := []) rfl rfl (by decide) rfl rfl rfl (Nat.le_of_ble_eq_true rfl) k_isLatin1 (Nat.le_refl _) ?_
  refine G_st (L := 0) (k := 0) (4, [some (.float 4), some (.int 0)], [.int 1], M) (Nat.zero_le _) rfl ?_
  refine G_if_eq 16 rfl rfl (fun h9 => absurd h9 (by decide)) (fun _ => ?_)
  refine G_st (L := 0) (k := 1) (8, [some (.float 4), some (.int 0)], [.float 4], M) (Nat.zero_le _) rfl ?_
  refine G_getV (i := 1) (z := 9) rfl rfl (by decide) rfl rfl ?_
  refine G_st (L := 0) (k := 1) (12, [some (.float 4), some (.int 0)], [.int 0, .float 9], M) (Nat.zero_le _) rfl ?_
  refine G_callS (as := [.float 9, .int 0]) (rest := []) rfl rfl rfl (Nat.le_of_ble_eq_true rfl) k_c1_1_0 (Nat.le_refl _) ?_
  refine G_st (L := 0) (k := 0) (15, [some (.float 4), some (.int 0)], [.int 104], M) (Nat.zero_le _) rfl ?_
  exact G_iret rfl rfl rfl rfl
theorem k_c1_1_1 {d : Nat} {M : qM} : GM (d + 2) 153 [.float 9, .int 1] (M) (some (.int 97)) (M) := by
  refine GM_of (by decide) (Nat.le_refl _) (Nat.le_of_ble_eq_true rfl) rfl ?_
  refine G_st (L := 0) (k := 0) (0, [some (.float 9), some (.int 1)], [], M) (Nat.zero_le _) rfl ?_
  refine G_st (L := 0) (k := 2) (2, [some (.float 9), some (.int 1)], [.float 9, .int 1], M) (Nat.zero_le _) rfl ?_
  refine G_alenK (i := 1) (n := 4) rfl (by decide) rfl rfl ?_
  refine G_st (L := 0) (k := 0) (3, [some (.float 9), some (.int 1)], [.int 4, .int 1], M) (Nat.zero_le _) rfl ?_
  refine G_callS (as := [.int 1, .int 4]) (rest := []) rfl rfl rfl (Nat.le_of_ble_eq_true rfl) k_c0_4_1 (Nat.le_refl _) ?_
  refine G_st (L := 0) (k := 2) (8, [some (.float 9), some (.int 1)], [.int 1, .float 9], M) (Nat.zero_le _) rfl ?_
  refine G_baldK (i := 1) (n := 97) rfl (by decide) rfl (by unfold vp_in; decide) rfl ?_
  refine G_st (L := 0) (k := 3) (14, [some (.float 9), some (.int 1)], [.int 97], M) (Nat.zero_le _) rfl ?_
  exact G_iret rfl rfl rfl rfl
theorem k_ch_1_1 {d : Nat} {M : qM} : GM (d + 3) 149 [.float 4, .int 1] (M) (some (.int 97)) (M) := by
  refine GM_of (by decide) (Nat.le_refl _) (Nat.le_of_ble_eq_true rfl) rfl ?_
  refine G_st (L := 0) (k := 0) (0, [some (.float 4), some (.int 1)], [], M) (Nat.zero_le _) rfl ?_
  refine G_st (L := 0) (k := 1) (1, [some (.float 4), some (.int 1)], [.float 4], M) (Nat.zero_le _) rfl ?_
  refine G_callK (i := 1) (as := []) (rest := []) rfl rfl (by decide) rfl rfl rfl (Nat.le_of_ble_eq_true rfl) k_isLatin1 (Nat.le_refl _) ?_
  refine G_st (L := 0) (k := 0) (4, [some (.float 4), some (.int 1)], [.int 1], M) (Nat.zero_le _) rfl ?_
  refine G_if_eq 16 rfl rfl (fun h9 => absurd h9 (by decide)) (fun _ => ?_)
  refine G_st (L := 0) (k := 1) (8, [some (.float 4), some (.int 1)], [.float 4], M) (Nat.zero_le _) rfl ?_
  refine G_getV (i := 1) (z := 9) rfl rfl (by decide) rfl rfl ?_
  refine G_st (L := 0) (k := 1) (12, [some (.float 4), some (.int 1)], [.int 1, .float 9], M) (Nat.zero_le _) rfl ?_
  refine G_callS (as := [.float 9, .int 1]) (rest := []) rfl rfl rfl (Nat.le_of_ble_eq_true rfl) k_c1_1_1 (Nat.le_refl _) ?_
  refine G_st (L := 0) (k := 0) (15, [some (.float 4), some (.int 1)], [.int 97], M) (Nat.zero_le _) rfl ?_
  exact G_iret rfl rfl rfl rfl
theorem k_c1_1_2 {d : Nat} {M : qM} : GM (d + 2) 153 [.float 9, .int 2] (M) (some (.int 110)) (M) := by
  refine GM_of (by decide) (Nat.le_refl _) (Nat.le_of_ble_eq_true rfl) rfl ?_
  refine G_st (L := 0) (k := 0) (0, [some (.float 9), some (.int 2)], [], M) (Nat.zero_le _) rfl ?_
  refine G_st (L := 0) (k := 2) (2, [some (.float 9), some (.int 2)], [.float 9, .int 2], M) (Nat.zero_le _) rfl ?_
  refine G_alenK (i := 1) (n := 4) rfl (by decide) rfl rfl ?_
  refine G_st (L := 0) (k := 0) (3, [some (.float 9), some (.int 2)], [.int 4, .int 2], M) (Nat.zero_le _) rfl ?_
  refine G_callS (as := [.int 2, .int 4]) (rest := []) rfl rfl rfl (Nat.le_of_ble_eq_true rfl) k_c0_4_2 (Nat.le_refl _) ?_
  refine G_st (L := 0) (k := 2) (8, [some (.float 9), some (.int 2)], [.int 2, .float 9], M) (Nat.zero_le _) rfl ?_
  refine G_baldK (i := 1) (n := 110) rfl (by decide) rfl (by unfold vp_in; decide) rfl ?_
  refine G_st (L := 0) (k := 3) (14, [some (.float 9), some (.int 2)], [.int 110], M) (Nat.zero_le _) rfl ?_
  exact G_iret rfl rfl rfl rfl
theorem k_ch_1_2 {d : Nat} {M : qM} : GM (d + 3) 149 [.float 4, .int 2] (M) (some (.int 110)) (M) := by
  refine GM_of (by decide) (Nat.le_refl _) (Nat.le_of_ble_eq_true rfl) rfl ?_
  refine G_st (L := 0) (k := 0) (0, [some (.float 4), some (.int 2)], [], M) (Nat.zero_le _) rfl ?_
  refine G_st (L := 0) (k := 1) (1, [some (.float 4), some (.int 2)], [.float 4], M) (Nat.zero_le _) rfl ?_
  refine G_callK (i := 1) (as := []) (rest := []) rfl rfl (by decide) rfl rfl rfl (Nat.le_of_ble_eq_true rfl) k_isLatin1 (Nat.le_refl _) ?_
  refine G_st (L := 0) (k := 0) (4, [some (.float 4), some (.int 2)], [.int 1], M) (Nat.zero_le _) rfl ?_
  refine G_if_eq 16 rfl rfl (fun h9 => absurd h9 (by decide)) (fun _ => ?_)
  refine G_st (L := 0) (k := 1) (8, [some (.float 4), some (.int 2)], [.float 4], M) (Nat.zero_le _) rfl ?_
  refine G_getV (i := 1) (z := 9) rfl rfl (by decide) rfl rfl ?_
  refine G_st (L := 0) (k := 1) (12, [some (.float 4), some (.int 2)], [.int 2, .float 9], M) (Nat.zero_le _) rfl ?_
  refine G_callS (as := [.float 9, .int 2]) (rest := []) rfl rfl rfl (Nat.le_of_ble_eq_true rfl) k_c1_1_2 (Nat.le_refl _) ?_
  refine G_st (L := 0) (k := 0) (15, [some (.float 4), some (.int 2)], [.int 110], M) (Nat.zero_le _) rfl ?_
  exact G_iret rfl rfl rfl rfl
theorem k_c1_1_3 {d : Nat} {M : qM} : GM (d + 2) 153 [.float 9, .int 3] (M) (some (.int 103)) (M) := by
  refine GM_of (by decide) (Nat.le_refl _) (Nat.le_of_ble_eq_true rfl) rfl ?_
  refine G_st (L := 0) (k := 0) (0, [some (.float 9), some (.int 3)], [], M) (Nat.zero_le _) rfl ?_
  refine G_st (L := 0) (k := 2) (2, [some (.float 9), some (.int 3)], [.float 9, .int 3], M) (Nat.zero_le _) rfl ?_
  refine G_alenK (i := 1) (n := 4) rfl (by decide) rfl rfl ?_
  refine G_st (L := 0) (k := 0) (3, [some (.float 9), some (.int 3)], [.int 4, .int 3], M) (Nat.zero_le _) rfl ?_
  refine G_callS (as := [.int 3, .int 4]) (rest := []) rfl rfl rfl (Nat.le_of_ble_eq_true rfl) k_c0_4_3 (Nat.le_refl _) ?_
  refine G_st (L := 0) (k := 2) (8, [some (.float 9), some (.int 3)], [.int 3, .float 9], M) (Nat.zero_le _) rfl ?_
  refine G_baldK (i := 1) (n := 103) rfl (by decide) rfl (by unfold vp_in; decide) rfl ?_
  refine G_st (L := 0) (k := 3) (14, [some (.float 9), some (.int 3)], [.int 103], M) (Nat.zero_le _) rfl ?_
  exact G_iret rfl rfl rfl rfl
theorem k_ch_1_3 {d : Nat} {M : qM} : GM (d + 3) 149 [.float 4, .int 3] (M) (some (.int 103)) (M) := by
  refine GM_of (by decide) (Nat.le_refl _) (Nat.le_of_ble_eq_true rfl) rfl ?_
  refine G_st (L := 0) (k := 0) (0, [some (.float 4), some (.int 3)], [], M) (Nat.zero_le _) rfl ?_
  refine G_st (L := 0) (k := 1) (1, [some (.float 4), some (.int 3)], [.float 4], M) (Nat.zero_le _) rfl ?_
  refine G_callK (i := 1) (as := []) (rest := []) rfl rfl (by decide) rfl rfl rfl (Nat.le_of_ble_eq_true rfl) k_isLatin1 (Nat.le_refl _) ?_
  refine G_st (L := 0) (k := 0) (4, [some (.float 4), some (.int 3)], [.int 1], M) (Nat.zero_le _) rfl ?_
  refine G_if_eq 16 rfl rfl (fun h9 => absurd h9 (by decide)) (fun _ => ?_)
  refine G_st (L := 0) (k := 1) (8, [some (.float 4), some (.int 3)], [.float 4], M) (Nat.zero_le _) rfl ?_
  refine G_getV (i := 1) (z := 9) rfl rfl (by decide) rfl rfl ?_
  refine G_st (L := 0) (k := 1) (12, [some (.float 4), some (.int 3)], [.int 3, .float 9], M) (Nat.zero_le _) rfl ?_
  refine G_callS (as := [.float 9, .int 3]) (rest := []) rfl rfl rfl (Nat.le_of_ble_eq_true rfl) k_c1_1_3 (Nat.le_refl _) ?_
  refine G_st (L := 0) (k := 0) (15, [some (.float 4), some (.int 3)], [.int 103], M) (Nat.zero_le _) rfl ?_
  exact G_iret rfl rfl rfl rfl
theorem k_c1_2_0 {d : Nat} {M : qM} : GM (d + 2) 153 [.float 10, .int 0] (M) (some (.int 116)) (M) := by
  refine GM_of (by decide) (Nat.le_refl _) (Nat.le_of_ble_eq_true rfl) rfl ?_
  refine G_st (L := 0) (k := 0) (0, [some (.float 10), some (.int 0)], [], M) (Nat.zero_le _) rfl ?_
  refine G_st (L := 0) (k := 2) (2, [some (.float 10), some (.int 0)], [.float 10, .int 0], M) (Nat.zero_le _) rfl ?_
  refine G_alenK (i := 2) (n := 4) rfl (by decide) rfl rfl ?_
  refine G_st (L := 0) (k := 0) (3, [some (.float 10), some (.int 0)], [.int 4, .int 0], M) (Nat.zero_le _) rfl ?_
  refine G_callS (as := [.int 0, .int 4]) (rest := []) rfl rfl rfl (Nat.le_of_ble_eq_true rfl) k_c0_4_0 (Nat.le_refl _) ?_
  refine G_st (L := 0) (k := 2) (8, [some (.float 10), some (.int 0)], [.int 0, .float 10], M) (Nat.zero_le _) rfl ?_
  refine G_baldK (i := 2) (n := 116) rfl (by decide) rfl (by unfold vp_in; decide) rfl ?_
  refine G_st (L := 0) (k := 3) (14, [some (.float 10), some (.int 0)], [.int 116], M) (Nat.zero_le _) rfl ?_
  exact G_iret rfl rfl rfl rfl
theorem k_ch_2_0 {d : Nat} {M : qM} : GM (d + 3) 149 [.float 5, .int 0] (M) (some (.int 116)) (M) := by
  refine GM_of (by decide) (Nat.le_refl _) (Nat.le_of_ble_eq_true rfl) rfl ?_
  refine G_st (L := 0) (k := 0) (0, [some (.float 5), some (.int 0)], [], M) (Nat.zero_le _) rfl ?_
  refine G_st (L := 0) (k := 1) (1, [some (.float 5), some (.int 0)], [.float 5], M) (Nat.zero_le _) rfl ?_
  refine G_callK (i := 2) (as := []) (rest := []) rfl rfl (by decide) rfl rfl rfl (Nat.le_of_ble_eq_true rfl) k_isLatin2 (Nat.le_refl _) ?_
  refine G_st (L := 0) (k := 0) (4, [some (.float 5), some (.int 0)], [.int 1], M) (Nat.zero_le _) rfl ?_
  refine G_if_eq 16 rfl rfl (fun h9 => absurd h9 (by decide)) (fun _ => ?_)
  refine G_st (L := 0) (k := 1) (8, [some (.float 5), some (.int 0)], [.float 5], M) (Nat.zero_le _) rfl ?_
  refine G_getV (i := 2) (z := 10) rfl rfl (by decide) rfl rfl ?_
  refine G_st (L := 0) (k := 1) (12, [some (.float 5), some (.int 0)], [.int 0, .float 10], M) (Nat.zero_le _) rfl ?_
  refine G_callS (as := [.float 10, .int 0]) (rest := []) rfl rfl rfl (Nat.le_of_ble_eq_true rfl) k_c1_2_0 (Nat.le_refl _) ?_
  refine G_st (L := 0) (k := 0) (15, [some (.float 5), some (.int 0)], [.int 116], M) (Nat.zero_le _) rfl ?_
  exact G_iret rfl rfl rfl rfl
theorem k_c1_2_1 {d : Nat} {M : qM} : GM (d + 2) 153 [.float 10, .int 1] (M) (some (.int 111)) (M) := by
  refine GM_of (by decide) (Nat.le_refl _) (Nat.le_of_ble_eq_true rfl) rfl ?_
  refine G_st (L := 0) (k := 0) (0, [some (.float 10), some (.int 1)], [], M) (Nat.zero_le _) rfl ?_
  refine G_st (L := 0) (k := 2) (2, [some (.float 10), some (.int 1)], [.float 10, .int 1], M) (Nat.zero_le _) rfl ?_
  refine G_alenK (i := 2) (n := 4) rfl (by decide) rfl rfl ?_
  refine G_st (L := 0) (k := 0) (3, [some (.float 10), some (.int 1)], [.int 4, .int 1], M) (Nat.zero_le _) rfl ?_
  refine G_callS (as := [.int 1, .int 4]) (rest := []) rfl rfl rfl (Nat.le_of_ble_eq_true rfl) k_c0_4_1 (Nat.le_refl _) ?_
  refine G_st (L := 0) (k := 2) (8, [some (.float 10), some (.int 1)], [.int 1, .float 10], M) (Nat.zero_le _) rfl ?_
  refine G_baldK (i := 2) (n := 111) rfl (by decide) rfl (by unfold vp_in; decide) rfl ?_
  refine G_st (L := 0) (k := 3) (14, [some (.float 10), some (.int 1)], [.int 111], M) (Nat.zero_le _) rfl ?_
  exact G_iret rfl rfl rfl rfl
theorem k_ch_2_1 {d : Nat} {M : qM} : GM (d + 3) 149 [.float 5, .int 1] (M) (some (.int 111)) (M) := by
  refine GM_of (by decide) (Nat.le_refl _) (Nat.le_of_ble_eq_true rfl) rfl ?_
  refine G_st (L := 0) (k := 0) (0, [some (.float 5), some (.int 1)], [], M) (Nat.zero_le _) rfl ?_
  refine G_st (L := 0) (k := 1) (1, [some (.float 5), some (.int 1)], [.float 5], M) (Nat.zero_le _) rfl ?_
  refine G_callK (i := 2) (as := []) (rest := []) rfl rfl (by decide) rfl rfl rfl (Nat.le_of_ble_eq_true rfl) k_isLatin2 (Nat.le_refl _) ?_
  refine G_st (L := 0) (k := 0) (4, [some (.float 5), some (.int 1)], [.int 1], M) (Nat.zero_le _) rfl ?_
  refine G_if_eq 16 rfl rfl (fun h9 => absurd h9 (by decide)) (fun _ => ?_)
  refine G_st (L := 0) (k := 1) (8, [some (.float 5), some (.int 1)], [.float 5], M) (Nat.zero_le _) rfl ?_
  refine G_getV (i := 2) (z := 10) rfl rfl (by decide) rfl rfl ?_
  refine G_st (L := 0) (k := 1) (12, [some (.float 5), some (.int 1)], [.int 1, .float 10], M) (Nat.zero_le _) rfl ?_
  refine G_callS (as := [.float 10, .int 1]) (rest := []) rfl rfl rfl (Nat.le_of_ble_eq_true rfl) k_c1_2_1 (Nat.le_refl _) ?_
  refine G_st (L := 0) (k := 0) (15, [some (.float 5), some (.int 1)], [.int 111], M) (Nat.zero_le _) rfl ?_
  exact G_iret rfl rfl rfl rfl
theorem k_c1_2_2 {d : Nat} {M : qM} : GM (d + 2) 153 [.float 10, .int 2] (M) (some (.int 111)) (M) := by
  refine GM_of (by decide) (Nat.le_refl _) (Nat.le_of_ble_eq_true rfl) rfl ?_
  refine G_st (L := 0) (k := 0) (0, [some (.float 10), some (.int 2)], [], M) (Nat.zero_le _) rfl ?_
  refine G_st (L := 0) (k := 2) (2, [some (.float 10), some (.int 2)], [.float 10, .int 2], M) (Nat.zero_le _) rfl ?_
  refine G_alenK (i := 2) (n := 4) rfl (by decide) rfl rfl ?_
  refine G_st (L := 0) (k := 0) (3, [some (.float 10), some (.int 2)], [.int 4, .int 2], M) (Nat.zero_le _) rfl ?_
  refine G_callS (as := [.int 2, .int 4]) (rest := []) rfl rfl rfl (Nat.le_of_ble_eq_true rfl) k_c0_4_2 (Nat.le_refl _) ?_
  refine G_st (L := 0) (k := 2) (8, [some (.float 10), some (.int 2)], [.int 2, .float 10], M) (Nat.zero_le _) rfl ?_
  refine G_baldK (i := 2) (n := 111) rfl (by decide) rfl (by unfold vp_in; decide) rfl ?_
  refine G_st (L := 0) (k := 3) (14, [some (.float 10), some (.int 2)], [.int 111], M) (Nat.zero_le _) rfl ?_
  exact G_iret rfl rfl rfl rfl
theorem k_ch_2_2 {d : Nat} {M : qM} : GM (d + 3) 149 [.float 5, .int 2] (M) (some (.int 111)) (M) := by
  refine GM_of (by decide) (Nat.le_refl _) (Nat.le_of_ble_eq_true rfl) rfl ?_
  refine G_st (L := 0) (k := 0) (0, [some (.float 5), some (.int 2)], [], M) (Nat.zero_le _) rfl ?_
  refine G_st (L := 0) (k := 1) (1, [some (.float 5), some (.int 2)], [.float 5], M) (Nat.zero_le _) rfl ?_
  refine G_callK (i := 2) (as := []) (rest := []) rfl rfl (by decide) rfl rfl rfl (Nat.le_of_ble_eq_true rfl) k_isLatin2 (Nat.le_refl _) ?_
  refine G_st (L := 0) (k := 0) (4, [some (.float 5), some (.int 2)], [.int 1], M) (Nat.zero_le _) rfl ?_
  refine G_if_eq 16 rfl rfl (fun h9 => absurd h9 (by decide)) (fun _ => ?_)
  refine G_st (L := 0) (k := 1) (8, [some (.float 5), some (.int 2)], [.float 5], M) (Nat.zero_le _) rfl ?_
  refine G_getV (i := 2) (z := 10) rfl rfl (by decide) rfl rfl ?_
  refine G_st (L := 0) (k := 1) (12, [some (.float 5), some (.int 2)], [.int 2, .float 10], M) (Nat.zero_le _) rfl ?_
  refine G_callS (as := [.float 10, .int 2]) (rest := []) rfl rfl rfl (Nat.le_of_ble_eq_true rfl) k_c1_2_2 (Nat.le_refl _) ?_
  refine G_st (L := 0) (k := 0) (15, [some (.float 5), some (.int 2)], [.int 111], M) (Nat.zero_le _) rfl ?_
  exact G_iret rfl rfl rfl rfl
theorem k_c1_2_3 {d : Nat} {M : qM} : GM (d + 2) 153 [.float 10, .int 3] (M) (some (.int 108)) (M) := by
  refine GM_of (by decide) (Nat.le_refl _) (Nat.le_of_ble_eq_true rfl) rfl ?_
  refine G_st (L := 0) (k := 0) (0, [some (.float 10), some (.int 3)], [], M) (Nat.zero_le _) rfl ?_
  refine G_st (L := 0) (k := 2) (2, [some (.float 10), some (.int 3)], [.float 10, .int 3], M) (Nat.zero_le _) rfl ?_
  refine G_alenK (i := 2) (n := 4) rfl (by decide) rfl rfl ?_
  refine G_st (L := 0) (k := 0) (3, [some (.float 10), some (.int 3)], [.int 4, .int 3], M) (Nat.zero_le _) rfl ?_
  refine G_callS (as := [.int 3, .int 4]) (rest := []) rfl rfl rfl (Nat.le_of_ble_eq_true rfl) k_c0_4_3 (Nat.le_refl _) ?_
  refine G_st (L := 0) (k := 2) (8, [some (.float 10), some (.int 3)], [.int 3, .float 10], M) (Nat.zero_le _) rfl ?_
  refine G_baldK (i := 2) (n := 108) rfl (by decide) rfl (by unfold vp_in; decide) rfl ?_
  refine G_st (L := 0) (k := 3) (14, [some (.float 10), some (.int 3)], [.int 108], M) (Nat.zero_le _) rfl ?_
  exact G_iret rfl rfl rfl rfl
theorem k_ch_2_3 {d : Nat} {M : qM} : GM (d + 3) 149 [.float 5, .int 3] (M) (some (.int 108)) (M) := by
  refine GM_of (by decide) (Nat.le_refl _) (Nat.le_of_ble_eq_true rfl) rfl ?_
  refine G_st (L := 0) (k := 0) (0, [some (.float 5), some (.int 3)], [], M) (Nat.zero_le _) rfl ?_
  refine G_st (L := 0) (k := 1) (1, [some (.float 5), some (.int 3)], [.float 5], M) (Nat.zero_le _) rfl ?_
  refine G_callK (i := 2) (as := []) (rest := []) rfl rfl (by decide) rfl rfl rfl (Nat.le_of_ble_eq_true rfl) k_isLatin2 (Nat.le_refl _) ?_
  refine G_st (L := 0) (k := 0) (4, [some (.float 5), some (.int 3)], [.int 1], M) (Nat.zero_le _) rfl ?_
  refine G_if_eq 16 rfl rfl (fun h9 => absurd h9 (by decide)) (fun _ => ?_)
  refine G_st (L := 0) (k := 1) (8, [some (.float 5), some (.int 3)], [.float 5], M) (Nat.zero_le _) rfl ?_
  refine G_getV (i := 2) (z := 10) rfl rfl (by decide) rfl rfl ?_
  refine G_st (L := 0) (k := 1) (12, [some (.float 5), some (.int 3)], [.int 3, .float 10], M) (Nat.zero_le _) rfl ?_
  refine G_callS (as := [.float 10, .int 3]) (rest := []) rfl rfl rfl (Nat.le_of_ble_eq_true rfl) k_c1_2_3 (Nat.le_refl _) ?_
  refine G_st (L := 0) (k := 0) (15, [some (.float 5), some (.int 3)], [.int 108], M) (Nat.zero_le _) rfl ?_
  exact G_iret rfl rfl rfl rfl
theorem k_c1_3_0 {d : Nat} {M : qM} : GM (d + 2) 153 [.float 11, .int 0] (M) (some (.int 99)) (M) := by
  refine GM_of (by decide) (Nat.le_refl _) (Nat.le_of_ble_eq_true rfl) rfl ?_
  refine G_st (L := 0) (k := 0) (0, [some (.float 11), some (.int 0)], [], M) (Nat.zero_le _) rfl ?_
  refine G_st (L := 0) (k := 2) (2, [some (.float 11), some (.int 0)], [.float 11, .int 0], M) (Nat.zero_le _) rfl ?_
  refine G_alenK (i := 3) (n := 4) rfl (by decide) rfl rfl ?_
  refine G_st (L := 0) (k := 0) (3, [some (.float 11), some (.int 0)], [.int 4, .int 0], M) (Nat.zero_le _) rfl ?_
  refine G_callS (as := [.int 0, .int 4]) (rest := []) rfl rfl rfl (Nat.le_of_ble_eq_true rfl) k_c0_4_0 (Nat.le_refl _) ?_
  refine G_st (L := 0) (k := 2) (8, [some (.float 11), some (.int 0)], [.int 0, .float 11], M) (Nat.zero_le _) rfl ?_
  refine G_baldK (i := 3) (n := 99) rfl (by decide) rfl (by unfold vp_in; decide) rfl ?_
  refine G_st (L := 0) (k := 3) (14, [some (.float 11), some (.int 0)], [.int 99], M) (Nat.zero_le _) rfl ?_
  exact G_iret rfl rfl rfl rfl
theorem k_ch_3_0 {d : Nat} {M : qM} : GM (d + 3) 149 [.float 6, .int 0] (M) (some (.int 99)) (M) := by
  refine GM_of (by decide) (Nat.le_refl _) (Nat.le_of_ble_eq_true rfl) rfl ?_
  refine G_st (L := 0) (k := 0) (0, [some (.float 6), some (.int 0)], [], M) (Nat.zero_le _) rfl ?_
  refine G_st (L := 0) (k := 1) (1, [some (.float 6), some (.int 0)], [.float 6], M) (Nat.zero_le _) rfl ?_
  refine G_callK (i := 3) (as := []) (rest := []) rfl rfl (by decide) rfl rfl rfl (Nat.le_of_ble_eq_true rfl) k_isLatin3 (Nat.le_refl _) ?_
  refine G_st (L := 0) (k := 0) (4, [some (.float 6), some (.int 0)], [.int 1], M) (Nat.zero_le _) rfl ?_
  refine G_if_eq 16 rfl rfl (fun h9 => absurd h9 (by decide)) (fun _ => ?_)
  refine G_st (L := 0) (k := 1) (8, [some (.float 6), some (.int 0)], [.float 6], M) (Nat.zero_le _) rfl ?_
  refine G_getV (i := 3) (z := 11) rfl rfl (by decide) rfl rfl ?_
  refine G_st (L := 0) (k := 1) (12, [some (.float 6), some (.int 0)], [.int 0, .float 11], M) (Nat.zero_le _) rfl ?_
  refine G_callS (as := [.float 11, .int 0]) (rest := []) rfl rfl rfl (Nat.le_of_ble_eq_true rfl) k_c1_3_0 (Nat.le_refl _) ?_
  refine G_st (L := 0) (k := 0) (15, [some (.float 6), some (.int 0)], [.int 99], M) (Nat.zero_le _) rfl ?_
  exact G_iret rfl rfl rfl rfl
theorem k_c1_3_1 {d : Nat} {M : qM} : GM (d + 2) 153 [.float 11, .int 1] (M) (some (.int 108)) (M) := by
  refine GM_of (by decide) (Nat.le_refl _) (Nat.le_of_ble_eq_true rfl) rfl ?_
  refine G_st (L := 0) (k := 0) (0, [some (.float 11), some (.int 1)], [], M) (Nat.zero_le _) rfl ?_
  refine G_st (L := 0) (k := 2) (2, [some (.float 11), some (.int 1)], [.float 11, .int 1], M) (Nat.zero_le _) rfl ?_
  refine G_alenK (i := 3) (n := 4) rfl (by decide) rfl rfl ?_
  refine G_st (L := 0) (k := 0) (3, [some (.float 11), some (.int 1)], [.int 4, .int 1], M) (Nat.zero_le _) rfl ?_
  refine G_callS (as := [.int 1, .int 4]) (rest := []) rfl rfl rfl (Nat.le_of_ble_eq_true rfl) k_c0_4_1 (Nat.le_refl _) ?_
  refine G_st (L := 0) (k := 2) (8, [some (.float 11), some (.int 1)], [.int 1, .float 11], M) (Nat.zero_le _) rfl ?_
  refine G_baldK (i := 3) (n := 108) rfl (by decide) rfl (by unfold vp_in; decide) rfl ?_
  refine G_st (L := 0) (k := 3) (14, [some (.float 11), some (.int 1)], [.int 108], M) (Nat.zero_le _) rfl ?_
  exact G_iret rfl rfl rfl rfl
theorem k_ch_3_1 {d : Nat} {M : qM} : GM (d + 3) 149 [.float 6, .int 1] (M) (some (.int 108)) (M) := by
  refine GM_of (by decide) (Nat.le_refl _) (Nat.le_of_ble_eq_true rfl) rfl ?_
  refine G_st (L := 0) (k := 0) (0, [some (.float 6), some (.int 1)], [], M) (Nat.zero_le _) rfl ?_
  refine G_st (L := 0) (k := 1) (1, [some (.float 6), some (.int 1)], [.float 6], M) (Nat.zero_le _) rfl ?_
  refine G_callK (i := 3) (as := []) (rest := []) rfl rfl (by decide) rfl rfl rfl (Nat.le_of_ble_eq_true rfl) k_isLatin3 (Nat.le_refl _) ?_
  refine G_st (L := 0) (k := 0) (4, [some (.float 6), some (.int 1)], [.int 1], M) (Nat.zero_le _) rfl ?_
  refine G_if_eq 16 rfl rfl (fun h9 => absurd h9 (by decide)) (fun _ => ?_)
  refine G_st (L := 0) (k := 1) (8, [some (.float 6), some (.int 1)], [.float 6], M) (Nat.zero_le _) rfl ?_
  refine G_getV (i := 3) (z := 11) rfl rfl (by decide) rfl rfl ?_
  refine G_st (L := 0) (k := 1) (12, [some (.float 6), some (.int 1)], [.int 1, .float 11], M) (Nat.zero_le _) rfl ?_
  refine G_callS (as := [.float 11, .int 1]) (rest := []) rfl rfl rfl (Nat.le_of_ble_eq_true rfl) k_c1_3_1 (Nat.le_refl _) ?_
  refine G_st (L := 0) (k := 0) (15, [some (.float 6), some (.int 1)], [.int 108], M) (Nat.zero_le _) rfl ?_
  exact G_iret rfl rfl rfl rfl
theorem k_c1_3_2 {d : Nat} {M : qM} : GM (d + 2) 153 [.float 11, .int 2] (M) (some (.int 117)) (M) := by
  refine GM_of (by decide) (Nat.le_refl _) (Nat.le_of_ble_eq_true rfl) rfl ?_
  refine G_st (L := 0) (k := 0) (0, [some (.float 11), some (.int 2)], [], M) (Nat.zero_le _) rfl ?_
  refine G_st (L := 0) (k := 2) (2, [some (.float 11), some (.int 2)], [.float 11, .int 2], M) (Nat.zero_le _) rfl ?_
  refine G_alenK (i := 3) (n := 4) rfl (by decide) rfl rfl ?_
  refine G_st (L := 0) (k := 0) (3, [some (.float 11), some (.int 2)], [.int 4, .int 2], M) (Nat.zero_le _) rfl ?_
  refine G_callS (as := [.int 2, .int 4]) (rest := []) rfl rfl rfl (Nat.le_of_ble_eq_true rfl) k_c0_4_2 (Nat.le_refl _) ?_
  refine G_st (L := 0) (k := 2) (8, [some (.float 11), some (.int 2)], [.int 2, .float 11], M) (Nat.zero_le _) rfl ?_
  refine G_baldK (i := 3) (n := 117) rfl (by decide) rfl (by unfold vp_in; decide) rfl ?_
  refine G_st (L := 0) (k := 3) (14, [some (.float 11), some (.int 2)], [.int 117], M) (Nat.zero_le _) rfl ?_
  exact G_iret rfl rfl rfl rfl
theorem k_ch_3_2 {d : Nat} {M : qM} : GM (d + 3) 149 [.float 6, .int 2] (M) (some (.int 117)) (M) := by
  refine GM_of (by decide) (Nat.le_refl _) (Nat.le_of_ble_eq_true rfl) rfl ?_
  refine G_st (L := 0) (k := 0) (0, [some (.float 6), some (.int 2)], [], M) (Nat.zero_le _) rfl ?_
  refine G_st (L := 0) (k := 1) (1, [some (.float 6), some (.int 2)], [.float 6], M) (Nat.zero_le _) rfl ?_
  refine G_callK (i := 3) (as := []) (rest := []) rfl rfl (by decide) rfl rfl rfl (Nat.le_of_ble_eq_true rfl) k_isLatin3 (Nat.le_refl _) ?_
  refine G_st (L := 0) (k := 0) (4, [some (.float 6), some (.int 2)], [.int 1], M) (Nat.zero_le _) rfl ?_
  refine G_if_eq 16 rfl rfl (fun h9 => absurd h9 (by decide)) (fun _ => ?_)
  refine G_st (L := 0) (k := 1) (8, [some (.float 6), some (.int 2)], [.float 6], M) (Nat.zero_le _) rfl ?_
  refine G_getV (i := 3) (z := 11) rfl rfl (by decide) rfl rfl ?_
  refine G_st (L := 0) (k := 1) (12, [some (.float 6), some (.int 2)], [.int 2, .float 11], M) (Nat.zero_le _) rfl ?_
  refine G_callS (as := [.float 11, .int 2]) (rest := []) rfl rfl rfl (Nat.le_of_ble_eq_true rfl) k_c1_3_2 (Nat.le_refl _) ?_
  refine G_st (L := 0) (k := 0) (15, [some (.float 6), some (.int 2)], [.int 117], M) (Nat.zero_le _) rfl ?_
  exact G_iret rfl rfl rfl rfl
theorem k_c1_3_3 {d : Nat} {M : qM} : GM (d + 2) 153 [.float 11, .int 3] (M) (some (.int 98)) (M) := by
  refine GM_of (by decide) (Nat.le_refl _) (Nat.le_of_ble_eq_true rfl) rfl ?_
  refine G_st (L := 0) (k := 0) (0, [some (.float 11), some (.int 3)], [], M) (Nat.zero_le _) rfl ?_
  refine G_st (L := 0) (k := 2) (2, [some (.float 11), some (.int 3)], [.float 11, .int 3], M) (Nat.zero_le _) rfl ?_
  refine G_alenK (i := 3) (n := 4) rfl (by decide) rfl rfl ?_
  refine G_st (L := 0) (k := 0) (3, [some (.float 11), some (.int 3)], [.int 4, .int 3], M) (Nat.zero_le _) rfl ?_
  refine G_callS (as := [.int 3, .int 4]) (rest := []) rfl rfl rfl (Nat.le_of_ble_eq_true rfl) k_c0_4_3 (Nat.le_refl _) ?_
  refine G_st (L := 0) (k := 2) (8, [some (.float 11), some (.int 3)], [.int 3, .float 11], M) (Nat.zero_le _) rfl ?_
  refine G_baldK (i := 3) (n := 98) rfl (by decide) rfl (by unfold vp_in; decide) rfl ?_
  refine G_st (L := 0) (k := 3) (14, [some (.float 11), some (.int 3)], [.int 98], M) (Nat.zero_le _) rfl ?_
  exact G_iret rfl rfl rfl rfl
theorem k_ch_3_3 {d : Nat} {M : qM} : GM (d + 3) 149 [.float 6, .int 3] (M) (some (.int 98)) (M) := by
  refine GM_of (by decide) (Nat.le_refl _) (Nat.le_of_ble_eq_true rfl) rfl ?_
  refine G_st (L := 0) (k := 0) (0, [some (.float 6), some (.int 3)], [], M) (Nat.zero_le _) rfl ?_
  refine G_st (L := 0) (k := 1) (1, [some (.float 6), some (.int 3)], [.float 6], M) (Nat.zero_le _) rfl ?_
  refine G_callK (i := 3) (as := []) (rest := []) rfl rfl (by decide) rfl rfl rfl (Nat.le_of_ble_eq_true rfl) k_isLatin3 (Nat.le_refl _) ?_
  refine G_st (L := 0) (k := 0) (4, [some (.float 6), some (.int 3)], [.int 1], M) (Nat.zero_le _) rfl ?_
  refine G_if_eq 16 rfl rfl (fun h9 => absurd h9 (by decide)) (fun _ => ?_)
  refine G_st (L := 0) (k := 1) (8, [some (.float 6), some (.int 3)], [.float 6], M) (Nat.zero_le _) rfl ?_
  refine G_getV (i := 3) (z := 11) rfl rfl (by decide) rfl rfl ?_
  refine G_st (L := 0) (k := 1) (12, [some (.float 6), some (.int 3)], [.int 3, .float 11], M) (Nat.zero_le _) rfl ?_
  refine G_callS (as := [.float 11, .int 3]) (rest := []) rfl rfl rfl (Nat.le_of_ble_eq_true rfl) k_c1_3_3 (Nat.le_refl _) ?_
  refine G_st (L := 0) (k := 0) (15, [some (.float 6), some (.int 3)], [.int 98], M) (Nat.zero_le _) rfl ?_
  exact G_iret rfl rfl rfl rfl
theorem k_c1_4_0 {d : Nat} {M : qM} : GM (d + 2) 153 [.float 12, .int 0] (M) (some (.int 112)) (M) := by
  refine GM_of (by decide) (Nat.le_refl _) (Nat.le_of_ble_eq_true rfl) rfl ?_
  refine G_st (L := 0) (k := 0) (0, [some (.float 12), some (.int 0)], [], M) (Nat.zero_le _) rfl ?_
  refine G_st (L := 0) (k := 2) (2, [some (.float 12), some (.int 0)], [.float 12, .int 0], M) (Nat.zero_le _) rfl ?_
  refine G_alenK (i := 4) (n := 5) rfl (by decide) rfl rfl ?_
  refine G_st (L := 0) (k := 0) (3, [some (.float 12), some (.int 0)], [.int 5, .int 0], M) (Nat.zero_le _) rfl ?_
  refine G_callS (as := [.int 0, .int 5]) (rest := []) rfl rfl rfl (Nat.le_of_ble_eq_true rfl) k_c0_5_0 (Nat.le_refl _) ?_
  refine G_st (L := 0) (k := 2) (8, [some (.float 12), some (.int 0)], [.int 0, .float 12], M) (Nat.zero_le _) rfl ?_
  refine G_baldK (i := 4) (n := 112) rfl (by decide) rfl (by unfold vp_in; decide) rfl ?_
  refine G_st (L := 0) (k := 3) (14, [some (.float 12), some (.int 0)], [.int 112], M) (Nat.zero_le _) rfl ?_
  exact G_iret rfl rfl rfl rfl
theorem k_ch_4_0 {d : Nat} {M : qM} : GM (d + 3) 149 [.float 7, .int 0] (M) (some (.int 112)) (M) := by
  refine GM_of (by decide) (Nat.le_refl _) (Nat.le_of_ble_eq_true rfl) rfl ?_
  refine G_st (L := 0) (k := 0) (0, [some (.float 7), some (.int 0)], [], M) (Nat.zero_le _) rfl ?_
  refine G_st (L := 0) (k := 1) (1, [some (.float 7), some (.int 0)], [.float 7], M) (Nat.zero_le _) rfl ?_
  refine G_callK (i := 4) (as := []) (rest := []) rfl rfl (by decide) rfl rfl rfl (Nat.le_of_ble_eq_true rfl) k_isLatin4 (Nat.le_refl _) ?_
  refine G_st (L := 0) (k := 0) (4, [some (.float 7), some (.int 0)], [.int 1], M) (Nat.zero_le _) rfl ?_
  refine G_if_eq 16 rfl rfl (fun h9 => absurd h9 (by decide)) (fun _ => ?_)
  refine G_st (L := 0) (k := 1) (8, [some (.float 7), some (.int 0)], [.float 7], M) (Nat.zero_le _) rfl ?_
  refine G_getV (i := 4) (z := 12) rfl rfl (by decide) rfl rfl ?_
  refine G_st (L := 0) (k := 1) (12, [some (.float 7), some (.int 0)], [.int 0, .float 12], M) (Nat.zero_le _) rfl ?_
  refine G_callS (as := [.float 12, .int 0]) (rest := []) rfl rfl rfl (Nat.le_of_ble_eq_true rfl) k_c1_4_0 (Nat.le_refl _) ?_
  refine G_st (L := 0) (k := 0) (15, [some (.float 7), some (.int 0)], [.int 112], M) (Nat.zero_le _) rfl ?_
  exact G_iret rfl rfl rfl rfl
theorem k_c1_4_1 {d : Nat} {M : qM} : GM (d + 2) 153 [.float 12, .int 1] (M) (some (.int 111)) (M) := by
  refine GM_of (by decide) (Nat.le_refl _) (Nat.le_of_ble_eq_true rfl) rfl ?_
  refine G_st (L := 0) (k := 0) (0, [some (.float 12), some (.int 1)], [], M) (Nat.zero_le _) rfl ?_
  refine G_st (L := 0) (k := 2) (2, [some (.float 12), some (.int 1)], [.float 12, .int 1], M) (Nat.zero_le _) rfl ?_
  refine G_alenK (i := 4) (n := 5) rfl (by decide) rfl rfl ?_
  refine G_st (L := 0) (k := 0) (3, [some (.float 12), some (.int 1)], [.int 5, .int 1], M) (Nat.zero_le _) rfl ?_
  refine G_callS (as := [.int 1, .int 5]) (rest := []) rfl rfl rfl (Nat.le_of_ble_eq_true rfl) k_c0_5_1 (Nat.le_refl _) ?_
  refine G_st (L := 0) (k := 2) (8, [some (.float 12), some (.int 1)], [.int 1, .float 12], M) (Nat.zero_le _) rfl ?_
  refine G_baldK (i := 4) (n := 111) rfl (by decide) rfl (by unfold vp_in; decide) rfl ?_
  refine G_st (L := 0) (k := 3) (14, [some (.float 12), some (.int 1)], [.int 111], M) (Nat.zero_le _) rfl ?_
  exact G_iret rfl rfl rfl rfl
theorem k_ch_4_1 {d : Nat} {M : qM} : GM (d + 3) 149 [.float 7, .int 1] (M) (some (.int 111)) (M) := by
  refine GM_of (by decide) (Nat.le_refl _) (Nat.le_of_ble_eq_true rfl) rfl ?_
  refine G_st (L := 0) (k := 0) (0, [some (.float 7), some (.int 1)], [], M) (Nat.zero_le _) rfl ?_
  refine G_st (L := 0) (k := 1) (1, [some (.float 7), some (.int 1)], [.float 7], M) (Nat.zero_le _) rfl ?_
  refine G_callK (i := 4) (as := []) (rest := []) rfl rfl (by decide) rfl rfl rfl (Nat.le_of_ble_eq_true rfl) k_isLatin4 (Nat.le_refl _) ?_
  refine G_st (L := 0) (k := 0) (4, [some (.float 7), some (.int 1)], [.int 1], M) (Nat.zero_le _) rfl ?_
  refine G_if_eq 16 rfl rfl (fun h9 => absurd h9 (by decide)) (fun _ => ?_)
  refine G_st (L := 0) (k := 1) (8, [some (.float 7), some (.int 1)], [.float 7], M) (Nat.zero_le _) rfl ?_
  refine G_getV (i := 4) (z := 12) rfl rfl (by decide) rfl rfl ?_
  refine G_st (L := 0) (k := 1) (12, [some (.float 7), some (.int 1)], [.int 1, .float 12], M) (Nat.zero_le _) rfl ?_
  refine G_callS (as := [.float 12, .int 1]) (rest := []) rfl rfl rfl (Nat.le_of_ble_eq_true rfl) k_c1_4_1 (Nat.le_refl _) ?_
  refine G_st (L := 0) (k := 0) (15, [some (.float 7), some (.int 1)], [.int 111], M) (Nat.zero_le _) rfl ?_
  exact G_iret rfl rfl rfl rfl
theorem k_c1_4_2 {d : Nat} {M : qM} : GM (d + 2) 153 [.float 12, .int 2] (M) (some (.int 117)) (M) := by
  refine GM_of (by decide) (Nat.le_refl _) (Nat.le_of_ble_eq_true rfl) rfl ?_
  refine G_st (L := 0) (k := 0) (0, [some (.float 12), some (.int 2)], [], M) (Nat.zero_le _) rfl ?_
  refine G_st (L := 0) (k := 2) (2, [some (.float 12), some (.int 2)], [.float 12, .int 2], M) (Nat.zero_le _) rfl ?_
  refine G_alenK (i := 4) (n := 5) rfl (by decide) rfl rfl ?_
  refine G_st (L := 0) (k := 0) (3, [some (.float 12), some (.int 2)], [.int 5, .int 2], M) (Nat.zero_le _) rfl ?_
  refine G_callS (as := [.int 2, .int 5]) (rest := []) rfl rfl rfl (Nat.le_of_ble_eq_true rfl) k_c0_5_2 (Nat.le_refl _) ?_
  refine G_st (L := 0) (k := 2) (8, [some (.float 12), some (.int 2)], [.int 2, .float 12], M) (Nat.zero_le _) rfl ?_
  refine G_baldK (i := 4) (n := 117) rfl (by decide) rfl (by unfold vp_in; decide) rfl ?_
  refine G_st (L := 0) (k := 3) (14, [some (.float 12), some (.int 2)], [.int 117], M) (Nat.zero_le _) rfl ?_
  exact G_iret rfl rfl rfl rfl
theorem k_ch_4_2 {d : Nat} {M : qM} : GM (d + 3) 149 [.float 7, .int 2] (M) (some (.int 117)) (M) := by
  refine GM_of (by decide) (Nat.le_refl _) (Nat.le_of_ble_eq_true rfl) rfl ?_
  refine G_st (L := 0) (k := 0) (0, [some (.float 7), some (.int 2)], [], M) (Nat.zero_le _) rfl ?_
  refine G_st (L := 0) (k := 1) (1, [some (.float 7), some (.int 2)], [.float 7], M) (Nat.zero_le _) rfl ?_
  refine G_callK (i := 4) (as := []) (rest := []) rfl rfl (by decide) rfl rfl rfl (Nat.le_of_ble_eq_true rfl) k_isLatin4 (Nat.le_refl _) ?_
  refine G_st (L := 0) (k := 0) (4, [some (.float 7), some (.int 2)], [.int 1], M) (Nat.zero_le _) rfl ?_
  refine G_if_eq 16 rfl rfl (fun h9 => absurd h9 (by decide)) (fun _ => ?_)
  refine G_st (L := 0) (k := 1) (8, [some (.float 7), some (.int 2)], [.float 7], M) (Nat.zero_le _) rfl ?_
  refine G_getV (i := 4) (z := 12) rfl rfl (by decide) rfl rfl ?_
  refine G_st (L := 0) (k := 1) (12, [some (.float 7), some (.int 2)], [.int 2, .float 12], M) (Nat.zero_le _) rfl ?_
  refine G_callS (as := [.float 12, .int 2]) (rest := []) rfl rfl rfl (Nat.le_of_ble_eq_true rfl) k_c1_4_2 (Nat.le_refl _) ?_
  refine G_st (L := 0) (k := 0) (15, [some (.float 7), some (.int 2)], [.int 117], M) (Nat.zero_le _) rfl ?_
  exact G_iret rfl rfl rfl rfl
theorem k_c1_4_3 {d : Nat} {M : qM} : GM (d + 2) 153 [.float 12, .int 3] (M) (some (.int 110)) (M) := by
  refine GM_of (by decide) (Nat.le_refl _) (Nat.le_of_ble_eq_true rfl) rfl ?_
  refine G_st (L := 0) (k := 0) (0, [some (.float 12), some (.int 3)], [], M) (Nat.zero_le _) rfl ?_
  refine G_st (L := 0) (k := 2) (2, [some (.float 12), some (.int 3)], [.float 12, .int 3], M) (Nat.zero_le _) rfl ?_
  refine G_alenK (i := 4) (n := 5) rfl (by decide) rfl rfl ?_
  refine G_st (L := 0) (k := 0) (3, [some (.float 12), some (.int 3)], [.int 5, .int 3], M) (Nat.zero_le _) rfl ?_
  refine G_callS (as := [.int 3, .int 5]) (rest := []) rfl rfl rfl (Nat.le_of_ble_eq_true rfl) k_c0_5_3 (Nat.le_refl _) ?_
  refine G_st (L := 0) (k := 2) (8, [some (.float 12), some (.int 3)], [.int 3, .float 12], M) (Nat.zero_le _) rfl ?_
  refine G_baldK (i := 4) (n := 110) rfl (by decide) rfl (by unfold vp_in; decide) rfl ?_
  refine G_st (L := 0) (k := 3) (14, [some (.float 12), some (.int 3)], [.int 110], M) (Nat.zero_le _) rfl ?_
  exact G_iret rfl rfl rfl rfl
theorem k_ch_4_3 {d : Nat} {M : qM} : GM (d + 3) 149 [.float 7, .int 3] (M) (some (.int 110)) (M) := by
  refine GM_of (by decide) (Nat.le_refl _) (Nat.le_of_ble_eq_true rfl) rfl ?_
  refine G_st (L := 0) (k := 0) (0, [some (.float 7), some (.int 3)], [], M) (Nat.zero_le _) rfl ?_
  refine G_st (L := 0) (k := 1) (1, [some (.float 7), some (.int 3)], [.float 7], M) (Nat.zero_le _) rfl ?_
  refine G_callK (i := 4) (as := []) (rest := []) rfl rfl (by decide) rfl rfl rfl (Nat.le_of_ble_eq_true rfl) k_isLatin4 (Nat.le_refl _) ?_
  refine G_st (L := 0) (k := 0) (4, [some (.float 7), some (.int 3)], [.int 1], M) (Nat.zero_le _) rfl ?_
  refine G_if_eq 16 rfl rfl (fun h9 => absurd h9 (by decide)) (fun _ => ?_)
  refine G_st (L := 0) (k := 1) (8, [some (.float 7), some (.int 3)], [.float 7], M) (Nat.zero_le _) rfl ?_
  refine G_getV (i := 4) (z := 12) rfl rfl (by decide) rfl rfl ?_
  refine G_st (L := 0) (k := 1) (12, [some (.float 7), some (.int 3)], [.int 3, .float 12], M) (Nat.zero_le _) rfl ?_
  refine G_callS (as := [.float 12, .int 3]) (rest := []) rfl rfl rfl (Nat.le_of_ble_eq_true rfl) k_c1_4_3 (Nat.le_refl _) ?_
  refine G_st (L := 0) (k := 0) (15, [some (.float 7), some (.int 3)], [.int 110], M) (Nat.zero_le _) rfl ?_
  exact G_iret rfl rfl rfl rfl
theorem k_c1_4_4 {d : Nat} {M : qM} : GM (d + 2) 153 [.float 12, .int 4] (M) (some (.int 100)) (M) := by
  refine GM_of (by decide) (Nat.le_refl _) (Nat.le_of_ble_eq_true rfl) rfl ?_
  refine G_st (L := 0) (k := 0) (0, [some (.float 12), some (.int 4)], [], M) (Nat.zero_le _) rfl ?_
  refine G_st (L := 0) (k := 2) (2, [some (.float 12), some (.int 4)], [.float 12, .int 4], M) (Nat.zero_le _) rfl ?_
  refine G_alenK (i := 4) (n := 5) rfl (by decide) rfl rfl ?_
  refine G_st (L := 0) (k := 0) (3, [some (.float 12), some (.int 4)], [.int 5, .int 4], M) (Nat.zero_le _) rfl ?_
  refine G_callS (as := [.int 4, .int 5]) (rest := []) rfl rfl rfl (Nat.le_of_ble_eq_true rfl) k_c0_5_4 (Nat.le_refl _) ?_
  refine G_st (L := 0) (k := 2) (8, [some (.float 12), some (.int 4)], [.int 4, .float 12], M) (Nat.zero_le _) rfl ?_
  refine G_baldK (i := 4) (n := 100) rfl (by decide) rfl (by unfold vp_in; decide) rfl ?_
  refine G_st (L := 0) (k := 3) (14, [some (.float 12), some (.int 4)], [.int 100], M) (Nat.zero_le _) rfl ?_
  exact G_iret rfl rfl rfl rfl
theorem k_ch_4_4 {d : Nat} {M : qM} : GM (d + 3) 149 [.float 7, .int 4] (M) (some (.int 100)) (M) := by
  refine GM_of (by decide) (Nat.le_refl _) (Nat.le_of_ble_eq_true rfl) rfl ?_
  refine G_st (L := 0) (k := 0) (0, [some (.float 7), some (.int 4)], [], M) (Nat.zero_le _) rfl ?_
  refine G_st (L := 0) (k := 1) (1, [some (.float 7), some (.int 4)], [.float 7], M) (Nat.zero_le _) rfl ?_
  refine G_callK (i := 4) (as := []) (rest := []) rfl rfl (by decide) rfl rfl rfl (Nat.le_of_ble_eq_true rfl) k_isLatin4 (Nat.le_refl _) ?_
  refine G_st (L := 0) (k := 0) (4, [some (.float 7), some (.int 4)], [.int 1], M) (Nat.zero_le _) rfl ?_
  refine G_if_eq 16 rfl rfl (fun h9 => absurd h9 (by decide)) (fun _ => ?_)
  refine G_st (L := 0) (k := 1) (8, [some (.float 7), some (.int 4)], [.float 7], M) (Nat.zero_le _) rfl ?_
  refine G_getV (i := 4) (z := 12) rfl rfl (by decide) rfl rfl ?_
  refine G_st (L := 0) (k := 1) (12, [some (.float 7), some (.int 4)], [.int 4, .float 12], M) (Nat.zero_le _) rfl ?_
  refine G_callS (as := [.float 12, .int 4]) (rest := []) rfl rfl rfl (Nat.le_of_ble_eq_true rfl) k_c1_4_4 (Nat.le_refl _) ?_
  refine G_st (L := 0) (k := 0) (15, [some (.float 7), some (.int 4)], [.int 100], M) (Nat.zero_le _) rfl ?_
  exact G_iret rfl rfl rfl rfl
