def x_cn (sw : Bool) (I : Nat → Nat → Int32) (q : Int32) : Int32 := if q = 0 then I 0 6 else if q = 1 then I 47 3 else if q = 2 then I 0 9 else if q = 3 then I 0 7 else if q = 4 then nI (q_cnt (x_heldP I) 30 0) else if q = 5 then nI (q_cnt (x_lo I) 30 0) else if q = 6 then I 0 11 else if q = 7 then I 0 12 else if q = 8 then I 0 13 else if q = 9 then x_tot sw I else -1
theorem x_count_false {d : Nat} {gc : Nat} {I : Nat → Nat → Int32} {J : Nat → Nat → Int64} {q : Int32} : GM (d + 3) 90 [.ref 0, .int q] (qS false gc I J) (some (.int (x_cn false I q))) (qS false gc I J) := by
  refine GM_of (by decide) (Nat.le_refl _) (Nat.le_of_ble_eq_true rfl) trivial ?_
  refine G_st (L := 89) (k := 0) (0, [some (.ref 0), some (.int q)], [], qS false gc I J) (q_hn _ _ _ _) rfl ?_
  refine G_st (L := 89) (k := 1) (1, [some (.ref 0), some (.int q)], [.int q], qS false gc I J) (q_hn _ _ _ _) rfl ?_
  by_cases hs0 : q = 0
  · refine G_tsIn 56 rfl (off := 55) (by rw [hs0]; decide) (by rw [hs0]; decide) (by rw [hs0]; rfl) rfl ?_
    refine G_st (L := 89) (k := 2) (60, [some (.ref 0), some (.int q)], [.int (I 0 6)], qS false gc I J) (q_hn _ _ _ _) rfl ?_
    exact G_iret rfl rfl (by rw [x_cn, if_pos hs0]) rfl
  by_cases hs1 : q = 1
  · refine G_tsIn 61 rfl (off := 60) (by rw [hs1]; decide) (by rw [hs1]; decide) (by rw [hs1]; rfl) rfl ?_
    refine G_st (L := 89) (k := 3) (68, [some (.ref 0), some (.int q)], [.int (I 47 3)], qS false gc I J) (q_hn _ _ _ _) rfl ?_
    exact G_iret rfl rfl (by rw [x_cn, if_neg hs0, if_pos hs1]) rfl
  by_cases hs2 : q = 2
  · refine G_tsIn 69 rfl (off := 68) (by rw [hs2]; decide) (by rw [hs2]; decide) (by rw [hs2]; rfl) rfl ?_
    refine G_st (L := 89) (k := 2) (73, [some (.ref 0), some (.int q)], [.int (I 0 9)], qS false gc I J) (q_hn _ _ _ _) rfl ?_
    exact G_iret rfl rfl (by rw [x_cn, if_neg hs0, if_neg hs1, if_pos hs2]) rfl
  by_cases hs3 : q = 3
  · refine G_tsIn 74 rfl (off := 73) (by rw [hs3]; decide) (by rw [hs3]; decide) (by rw [hs3]; rfl) rfl ?_
    refine G_st (L := 89) (k := 2) (78, [some (.ref 0), some (.int q)], [.int (I 0 7)], qS false gc I J) (q_hn _ _ _ _) rfl ?_
    exact G_iret rfl rfl (by rw [x_cn, if_neg hs0, if_neg hs1, if_neg hs2, if_pos hs3]) rfl
  by_cases hs4 : q = 4
  · refine G_tsIn 79 rfl (off := 78) (by rw [hs4]; decide) (by rw [hs4]; decide) (by rw [hs4]; rfl) rfl ?_
    refine G_st (L := 89) (k := 2) (83, [some (.ref 0), some (.int q)], [.ref 14], qS false gc I J) (q_hn _ _ _ _) rfl ?_
    refine G_callV (b := 14) (ci := 0) (as := []) (rest := []) rfl rfl rfl (q_lt (by decide)) (by decide) rfl rfl (Nat.le_of_ble_eq_true rfl) x_heldWalls (Nat.le_refl _) ?_
    refine G_st (L := 89) (k := 0) (86, [some (.ref 0), some (.int q)], [.int (nI (q_cnt (x_heldP I) 30 0))], qS false gc I J) (q_hn _ _ _ _) rfl ?_
    exact G_iret rfl rfl (by rw [x_cn, if_neg hs0, if_neg hs1, if_neg hs2, if_neg hs3, if_pos hs4]) rfl
  by_cases hs5 : q = 5
  · refine G_tsIn 87 rfl (off := 86) (by rw [hs5]; decide) (by rw [hs5]; decide) (by rw [hs5]; rfl) rfl ?_
    refine G_st (L := 89) (k := 2) (91, [some (.ref 0), some (.int q)], [.ref 14], qS false gc I J) (q_hn _ _ _ _) rfl ?_
    refine G_callV (b := 14) (ci := 0) (as := []) (rest := []) rfl rfl rfl (q_lt (by decide)) (by decide) rfl rfl (Nat.le_of_ble_eq_true rfl) x_looseWalls (Nat.le_refl _) ?_
    refine G_st (L := 89) (k := 0) (94, [some (.ref 0), some (.int q)], [.int (nI (q_cnt (x_lo I) 30 0))], qS false gc I J) (q_hn _ _ _ _) rfl ?_
    exact G_iret rfl rfl (by rw [x_cn, if_neg hs0, if_neg hs1, if_neg hs2, if_neg hs3, if_neg hs4, if_pos hs5]) rfl
  by_cases hs6 : q = 6
  · refine G_tsIn 95 rfl (off := 94) (by rw [hs6]; decide) (by rw [hs6]; decide) (by rw [hs6]; rfl) rfl ?_
    refine G_st (L := 89) (k := 2) (99, [some (.ref 0), some (.int q)], [.int (I 0 11)], qS false gc I J) (q_hn _ _ _ _) rfl ?_
    exact G_iret rfl rfl (by rw [x_cn, if_neg hs0, if_neg hs1, if_neg hs2, if_neg hs3, if_neg hs4, if_neg hs5, if_pos hs6]) rfl
  by_cases hs7 : q = 7
  · refine G_tsIn 100 rfl (off := 99) (by rw [hs7]; decide) (by rw [hs7]; decide) (by rw [hs7]; rfl) rfl ?_
    refine G_st (L := 89) (k := 2) (104, [some (.ref 0), some (.int q)], [.int (I 0 12)], qS false gc I J) (q_hn _ _ _ _) rfl ?_
    exact G_iret rfl rfl (by rw [x_cn, if_neg hs0, if_neg hs1, if_neg hs2, if_neg hs3, if_neg hs4, if_neg hs5, if_neg hs6, if_pos hs7]) rfl
  by_cases hs8 : q = 8
  · refine G_tsIn 105 rfl (off := 104) (by rw [hs8]; decide) (by rw [hs8]; decide) (by rw [hs8]; rfl) rfl ?_
    refine G_st (L := 89) (k := 2) (109, [some (.ref 0), some (.int q)], [.int (I 0 13)], qS false gc I J) (q_hn _ _ _ _) rfl ?_
    exact G_iret rfl rfl (by rw [x_cn, if_neg hs0, if_neg hs1, if_neg hs2, if_neg hs3, if_neg hs4, if_neg hs5, if_neg hs6, if_neg hs7, if_pos hs8]) rfl
  by_cases hs9 : q = 9
  · refine G_tsIn 110 rfl (off := 109) (by rw [hs9]; decide) (by rw [hs9]; decide) (by rw [hs9]; rfl) rfl ?_
    refine G_st (L := 89) (k := 3) (117, [some (.ref 0), some (.int q)], [.int (I 4 5)], qS false gc I J) (q_hn _ _ _ _) rfl ?_
    exact G_iret rfl rfl (by rw [x_cn, if_neg hs0, if_neg hs1, if_neg hs2, if_neg hs3, if_neg hs4, if_neg hs5, if_neg hs6, if_neg hs7, if_neg hs8, if_pos hs9]; rfl) rfl
  refine G_tsOut 118 rfl (q_out10 hs0 hs1 hs2 hs3 hs4 hs5 hs6 hs7 hs8 hs9) rfl ?_
  refine G_st (L := 89) (k := 1) (119, [some (.ref 0), some (.int q)], [.int (-1)], qS false gc I J) (q_hn _ _ _ _) rfl ?_
  exact G_iret rfl rfl (by rw [x_cn, if_neg hs0, if_neg hs1, if_neg hs2, if_neg hs3, if_neg hs4, if_neg hs5, if_neg hs6, if_neg hs7, if_neg hs8, if_neg hs9]) rfl
theorem x_count_true {d : Nat} {gc : Nat} {I : Nat → Nat → Int32} {J : Nat → Nat → Int64} {q : Int32} : GM (d + 3) 90 [.ref 0, .int q] (qS true gc I J) (some (.int (x_cn true I q))) (qS true gc I J) := by
  refine GM_of (by decide) (Nat.le_refl _) (Nat.le_of_ble_eq_true rfl) trivial ?_
  refine G_st (L := 89) (k := 0) (0, [some (.ref 0), some (.int q)], [], qS true gc I J) (q_hn _ _ _ _) rfl ?_
  refine G_st (L := 89) (k := 1) (1, [some (.ref 0), some (.int q)], [.int q], qS true gc I J) (q_hn _ _ _ _) rfl ?_
  by_cases hs0 : q = 0
  · refine G_tsIn 56 rfl (off := 55) (by rw [hs0]; decide) (by rw [hs0]; decide) (by rw [hs0]; rfl) rfl ?_
    refine G_st (L := 89) (k := 2) (60, [some (.ref 0), some (.int q)], [.int (I 0 6)], qS true gc I J) (q_hn _ _ _ _) rfl ?_
    exact G_iret rfl rfl (by rw [x_cn, if_pos hs0]) rfl
  by_cases hs1 : q = 1
  · refine G_tsIn 61 rfl (off := 60) (by rw [hs1]; decide) (by rw [hs1]; decide) (by rw [hs1]; rfl) rfl ?_
    refine G_st (L := 89) (k := 3) (68, [some (.ref 0), some (.int q)], [.int (I 47 3)], qS true gc I J) (q_hn _ _ _ _) rfl ?_
    exact G_iret rfl rfl (by rw [x_cn, if_neg hs0, if_pos hs1]) rfl
  by_cases hs2 : q = 2
  · refine G_tsIn 69 rfl (off := 68) (by rw [hs2]; decide) (by rw [hs2]; decide) (by rw [hs2]; rfl) rfl ?_
    refine G_st (L := 89) (k := 2) (73, [some (.ref 0), some (.int q)], [.int (I 0 9)], qS true gc I J) (q_hn _ _ _ _) rfl ?_
    exact G_iret rfl rfl (by rw [x_cn, if_neg hs0, if_neg hs1, if_pos hs2]) rfl
  by_cases hs3 : q = 3
  · refine G_tsIn 74 rfl (off := 73) (by rw [hs3]; decide) (by rw [hs3]; decide) (by rw [hs3]; rfl) rfl ?_
    refine G_st (L := 89) (k := 2) (78, [some (.ref 0), some (.int q)], [.int (I 0 7)], qS true gc I J) (q_hn _ _ _ _) rfl ?_
    exact G_iret rfl rfl (by rw [x_cn, if_neg hs0, if_neg hs1, if_neg hs2, if_pos hs3]) rfl
  by_cases hs4 : q = 4
  · refine G_tsIn 79 rfl (off := 78) (by rw [hs4]; decide) (by rw [hs4]; decide) (by rw [hs4]; rfl) rfl ?_
    refine G_st (L := 89) (k := 2) (83, [some (.ref 0), some (.int q)], [.ref 14], qS true gc I J) (q_hn _ _ _ _) rfl ?_
    refine G_callV (b := 14) (ci := 0) (as := []) (rest := []) rfl rfl rfl (q_lt (by decide)) (by decide) rfl rfl (Nat.le_of_ble_eq_true rfl) x_heldWalls (Nat.le_refl _) ?_
    refine G_st (L := 89) (k := 0) (86, [some (.ref 0), some (.int q)], [.int (nI (q_cnt (x_heldP I) 30 0))], qS true gc I J) (q_hn _ _ _ _) rfl ?_
    exact G_iret rfl rfl (by rw [x_cn, if_neg hs0, if_neg hs1, if_neg hs2, if_neg hs3, if_pos hs4]) rfl
  by_cases hs5 : q = 5
  · refine G_tsIn 87 rfl (off := 86) (by rw [hs5]; decide) (by rw [hs5]; decide) (by rw [hs5]; rfl) rfl ?_
    refine G_st (L := 89) (k := 2) (91, [some (.ref 0), some (.int q)], [.ref 14], qS true gc I J) (q_hn _ _ _ _) rfl ?_
    refine G_callV (b := 14) (ci := 0) (as := []) (rest := []) rfl rfl rfl (q_lt (by decide)) (by decide) rfl rfl (Nat.le_of_ble_eq_true rfl) x_looseWalls (Nat.le_refl _) ?_
    refine G_st (L := 89) (k := 0) (94, [some (.ref 0), some (.int q)], [.int (nI (q_cnt (x_lo I) 30 0))], qS true gc I J) (q_hn _ _ _ _) rfl ?_
    exact G_iret rfl rfl (by rw [x_cn, if_neg hs0, if_neg hs1, if_neg hs2, if_neg hs3, if_neg hs4, if_pos hs5]) rfl
  by_cases hs6 : q = 6
  · refine G_tsIn 95 rfl (off := 94) (by rw [hs6]; decide) (by rw [hs6]; decide) (by rw [hs6]; rfl) rfl ?_
    refine G_st (L := 89) (k := 2) (99, [some (.ref 0), some (.int q)], [.int (I 0 11)], qS true gc I J) (q_hn _ _ _ _) rfl ?_
    exact G_iret rfl rfl (by rw [x_cn, if_neg hs0, if_neg hs1, if_neg hs2, if_neg hs3, if_neg hs4, if_neg hs5, if_pos hs6]) rfl
  by_cases hs7 : q = 7
  · refine G_tsIn 100 rfl (off := 99) (by rw [hs7]; decide) (by rw [hs7]; decide) (by rw [hs7]; rfl) rfl ?_
    refine G_st (L := 89) (k := 2) (104, [some (.ref 0), some (.int q)], [.int (I 0 12)], qS true gc I J) (q_hn _ _ _ _) rfl ?_
    exact G_iret rfl rfl (by rw [x_cn, if_neg hs0, if_neg hs1, if_neg hs2, if_neg hs3, if_neg hs4, if_neg hs5, if_neg hs6, if_pos hs7]) rfl
  by_cases hs8 : q = 8
  · refine G_tsIn 105 rfl (off := 104) (by rw [hs8]; decide) (by rw [hs8]; decide) (by rw [hs8]; rfl) rfl ?_
    refine G_st (L := 89) (k := 2) (109, [some (.ref 0), some (.int q)], [.int (I 0 13)], qS true gc I J) (q_hn _ _ _ _) rfl ?_
    exact G_iret rfl rfl (by rw [x_cn, if_neg hs0, if_neg hs1, if_neg hs2, if_neg hs3, if_neg hs4, if_neg hs5, if_neg hs6, if_neg hs7, if_pos hs8]) rfl
  by_cases hs9 : q = 9
  · refine G_tsIn 110 rfl (off := 109) (by rw [hs9]; decide) (by rw [hs9]; decide) (by rw [hs9]; rfl) rfl ?_
    refine G_st (L := 89) (k := 3) (117, [some (.ref 0), some (.int q)], [.int (I 9 5)], qS true gc I J) (q_hn _ _ _ _) rfl ?_
    exact G_iret rfl rfl (by rw [x_cn, if_neg hs0, if_neg hs1, if_neg hs2, if_neg hs3, if_neg hs4, if_neg hs5, if_neg hs6, if_neg hs7, if_neg hs8, if_pos hs9]; rfl) rfl
  refine G_tsOut 118 rfl (q_out10 hs0 hs1 hs2 hs3 hs4 hs5 hs6 hs7 hs8 hs9) rfl ?_
  refine G_st (L := 89) (k := 1) (119, [some (.ref 0), some (.int q)], [.int (-1)], qS true gc I J) (q_hn _ _ _ _) rfl ?_
  exact G_iret rfl rfl (by rw [x_cn, if_neg hs0, if_neg hs1, if_neg hs2, if_neg hs3, if_neg hs4, if_neg hs5, if_neg hs6, if_neg hs7, if_neg hs8, if_neg hs9]) rfl
theorem x_count {d : Nat} {sw : Bool} {gc : Nat} {I : Nat → Nat → Int32} {J : Nat → Nat → Int64} {q : Int32} : GM (d + 3) 90 [.ref 0, .int q] (qS sw gc I J) (some (.int (x_cn sw I q))) (qS sw gc I J) := by
  cases sw with
  | false => exact x_count_false 
  | true => exact x_count_true 
theorem x_law1_false {d : Nat} {gc : Nat} {I : Nat → Nat → Int32} {J : Nat → Nat → Int64} {k : Nat} (hk : k < 4) : GM (d + 2) 72 [.ref 0, .int (nI k)] (qS false gc I J) (some (.int (x_num false I k))) (qS false gc I J) := by
  refine GM_of (by decide) (Nat.le_refl _) (Nat.le_of_ble_eq_true rfl) trivial ?_
  refine G_st (L := 89) (k := 0) (0, [some (.ref 0), some (.int (nI k)), none], [], qS false gc I J) (q_hn _ _ _ _) rfl ?_
  refine G_st (L := 89) (k := 1) (1, [some (.ref 0), some (.int (nI k)), none], [.int (nI k)], qS false gc I J) (q_hn _ _ _ _) rfl ?_
  refine G_if_lt 18 rfl rfl (fun h9 => absurd h9 (nI_nlt (b := 0) (by omega) (by omega))) (fun _ => ?_)
  refine G_st (L := 89) (k := 2) (6, [some (.ref 0), some (.int (nI k)), none], [.int 4, .int (nI k)], qS false gc I J) (q_hn _ _ _ _) rfl ?_
  refine G_icmp_ge 18 rfl rfl (fun h9 => absurd h9 (nI_ge (b := 4) (by omega) (by decide))) (fun _ => ?_)
  refine G_st (L := 89) (k := 3) (14, [some (.ref 0), some (.int (nI k)), none], [.int (nI k), .ref 4], qS false gc I J) (q_hn _ _ _ _) rfl ?_
  refine G_callV (b := 4) (ci := 2) (as := [.int (nI k)]) (rest := []) rfl rfl rfl (q_lt (by decide)) (by decide) rfl rfl (Nat.le_of_ble_eq_true rfl) (x_numberOf4 hk) (Nat.le_refl _) ?_
  refine G_st (L := 89) (k := 0) (17, [some (.ref 0), some (.int (nI k)), none], [.int (I 5 k)], qS false gc I J) (q_hn _ _ _ _) rfl ?_
  exact G_iret rfl rfl rfl rfl
theorem x_law1_true {d : Nat} {gc : Nat} {I : Nat → Nat → Int32} {J : Nat → Nat → Int64} {k : Nat} (hk : k < 4) : GM (d + 2) 72 [.ref 0, .int (nI k)] (qS true gc I J) (some (.int (x_num true I k))) (qS true gc I J) := by
  refine GM_of (by decide) (Nat.le_refl _) (Nat.le_of_ble_eq_true rfl) trivial ?_
  refine G_st (L := 89) (k := 0) (0, [some (.ref 0), some (.int (nI k)), none], [], qS true gc I J) (q_hn _ _ _ _) rfl ?_
  refine G_st (L := 89) (k := 1) (1, [some (.ref 0), some (.int (nI k)), none], [.int (nI k)], qS true gc I J) (q_hn _ _ _ _) rfl ?_
  refine G_if_lt 18 rfl rfl (fun h9 => absurd h9 (nI_nlt (b := 0) (by omega) (by omega))) (fun _ => ?_)
  refine G_st (L := 89) (k := 2) (6, [some (.ref 0), some (.int (nI k)), none], [.int 4, .int (nI k)], qS true gc I J) (q_hn _ _ _ _) rfl ?_
  refine G_icmp_ge 18 rfl rfl (fun h9 => absurd h9 (nI_ge (b := 4) (by omega) (by decide))) (fun _ => ?_)
  refine G_st (L := 89) (k := 3) (14, [some (.ref 0), some (.int (nI k)), none], [.int (nI k), .ref 9], qS true gc I J) (q_hn _ _ _ _) rfl ?_
  refine G_callV (b := 9) (ci := 2) (as := [.int (nI k)]) (rest := []) rfl rfl rfl (q_lt (by decide)) (by decide) rfl rfl (Nat.le_of_ble_eq_true rfl) (x_numberOf9 hk) (Nat.le_refl _) ?_
  refine G_st (L := 89) (k := 0) (17, [some (.ref 0), some (.int (nI k)), none], [.int (I 10 k)], qS true gc I J) (q_hn _ _ _ _) rfl ?_
  exact G_iret rfl rfl rfl rfl
theorem x_law1 {d : Nat} {sw : Bool} {gc : Nat} {I : Nat → Nat → Int32} {J : Nat → Nat → Int64} {k : Nat} (hk : k < 4) : GM (d + 2) 72 [.ref 0, .int (nI k)] (qS sw gc I J) (some (.int (x_num sw I k))) (qS sw gc I J) := by
  cases sw with
  | false => exact x_law1_false hk
  | true => exact x_law1_true hk
theorem x_law2_false {d : Nat} {gc : Nat} {I : Nat → Nat → Int32} {J : Nat → Nat → Int64} {v : Int32} {c : Nat} (hv : v < 0 ∨ nI 4 ≤ v) (hgd : f_isGoodness (v - 10) = 1) (hc : x_pds false I = nI c) (hc4 : c ≤ 4) : GM (d + 2) 72 [.ref 0, .int v] (qS false gc I J) (some (.int (x_pnd false I (v - 10) c))) (qS false gc I J) := by
  refine GM_of (by decide) (Nat.le_refl _) (Nat.le_of_ble_eq_true rfl) trivial ?_
  refine G_st (L := 89) (k := 0) (0, [some (.ref 0), some (.int v), none], [], qS false gc I J) (q_hn _ _ _ _) rfl ?_
  refine G_st (L := 89) (k := 1) (1, [some (.ref 0), some (.int v), none], [.int v], qS false gc I J) (q_hn _ _ _ _) rfl ?_
  refine G_if_lt 18 rfl rfl (fun h1 => ?_) (fun h1 => ?_)
  · skip
    refine G_st (L := 89) (k := 5) (24, [some (.ref 0), some (.int v), some (.int (v - 10))], [.int (v - 10)], qS false gc I J) (q_hn _ _ _ _) rfl ?_
    refine G_callS (as := [.int (v - 10)]) (rest := []) rfl rfl rfl (Nat.le_of_ble_eq_true rfl) (GM_r (m_isGoodness _) hgd) (Nat.le_refl _) ?_
    refine G_st (L := 89) (k := 0) (27, [some (.ref 0), some (.int v), some (.int (v - 10))], [.int 1], qS false gc I J) (q_hn _ _ _ _) rfl ?_
    refine G_if_eq 41 rfl rfl (fun h9 => absurd h9 (by decide)) (fun _ => ?_)
    refine G_st (L := 89) (k := 3) (35, [some (.ref 0), some (.int v), some (.int (v - 10))], [.int (v - 10), .ref 4], qS false gc I J) (q_hn _ _ _ _) rfl ?_
    refine G_callV (b := 4) (ci := 2) (as := [.int (v - 10)]) (rest := []) rfl rfl rfl (q_lt (by decide)) (by decide) rfl rfl (Nat.le_of_ble_eq_true rfl) (x_poundageOf4 hc hc4) (Nat.le_refl _) ?_
    refine G_st (L := 89) (k := 1) (42, [some (.ref 0), some (.int v), some (.int (v - 10))], [.int (x_pd4 I (v - 10) c 0)], qS false gc I J) (q_hn _ _ _ _) rfl ?_
    exact G_iret rfl rfl rfl rfl
  · skip
    refine G_st (L := 89) (k := 2) (6, [some (.ref 0), some (.int v), none], [.int 4, .int v], qS false gc I J) (q_hn _ _ _ _) rfl ?_
    refine G_icmp_ge 18 rfl rfl (fun _ => ?_) (fun h9 => absurd (hv.resolve_left h1) h9)
    refine G_st (L := 89) (k := 5) (24, [some (.ref 0), some (.int v), some (.int (v - 10))], [.int (v - 10)], qS false gc I J) (q_hn _ _ _ _) rfl ?_
    refine G_callS (as := [.int (v - 10)]) (rest := []) rfl rfl rfl (Nat.le_of_ble_eq_true rfl) (GM_r (m_isGoodness _) hgd) (Nat.le_refl _) ?_
    refine G_st (L := 89) (k := 0) (27, [some (.ref 0), some (.int v), some (.int (v - 10))], [.int 1], qS false gc I J) (q_hn _ _ _ _) rfl ?_
    refine G_if_eq 41 rfl rfl (fun h9 => absurd h9 (by decide)) (fun _ => ?_)
    refine G_st (L := 89) (k := 3) (35, [some (.ref 0), some (.int v), some (.int (v - 10))], [.int (v - 10), .ref 4], qS false gc I J) (q_hn _ _ _ _) rfl ?_
    refine G_callV (b := 4) (ci := 2) (as := [.int (v - 10)]) (rest := []) rfl rfl rfl (q_lt (by decide)) (by decide) rfl rfl (Nat.le_of_ble_eq_true rfl) (x_poundageOf4 hc hc4) (Nat.le_refl _) ?_
    refine G_st (L := 89) (k := 1) (42, [some (.ref 0), some (.int v), some (.int (v - 10))], [.int (x_pd4 I (v - 10) c 0)], qS false gc I J) (q_hn _ _ _ _) rfl ?_
    exact G_iret rfl rfl rfl rfl
theorem x_law2_true {d : Nat} {gc : Nat} {I : Nat → Nat → Int32} {J : Nat → Nat → Int64} {v : Int32} {c : Nat} (hv : v < 0 ∨ nI 4 ≤ v) (hgd : f_isGoodness (v - 10) = 1) (hc : x_pds true I = nI c) (hc4 : c ≤ 4) : GM (d + 2) 72 [.ref 0, .int v] (qS true gc I J) (some (.int (x_pnd true I (v - 10) c))) (qS true gc I J) := by
  refine GM_of (by decide) (Nat.le_refl _) (Nat.le_of_ble_eq_true rfl) trivial ?_
  refine G_st (L := 89) (k := 0) (0, [some (.ref 0), some (.int v), none], [], qS true gc I J) (q_hn _ _ _ _) rfl ?_
  refine G_st (L := 89) (k := 1) (1, [some (.ref 0), some (.int v), none], [.int v], qS true gc I J) (q_hn _ _ _ _) rfl ?_
  refine G_if_lt 18 rfl rfl (fun h1 => ?_) (fun h1 => ?_)
  · skip
    refine G_st (L := 89) (k := 5) (24, [some (.ref 0), some (.int v), some (.int (v - 10))], [.int (v - 10)], qS true gc I J) (q_hn _ _ _ _) rfl ?_
    refine G_callS (as := [.int (v - 10)]) (rest := []) rfl rfl rfl (Nat.le_of_ble_eq_true rfl) (GM_r (m_isGoodness _) hgd) (Nat.le_refl _) ?_
    refine G_st (L := 89) (k := 0) (27, [some (.ref 0), some (.int v), some (.int (v - 10))], [.int 1], qS true gc I J) (q_hn _ _ _ _) rfl ?_
    refine G_if_eq 41 rfl rfl (fun h9 => absurd h9 (by decide)) (fun _ => ?_)
    refine G_st (L := 89) (k := 3) (35, [some (.ref 0), some (.int v), some (.int (v - 10))], [.int (v - 10), .ref 9], qS true gc I J) (q_hn _ _ _ _) rfl ?_
    refine G_callV (b := 9) (ci := 2) (as := [.int (v - 10)]) (rest := []) rfl rfl rfl (q_lt (by decide)) (by decide) rfl rfl (Nat.le_of_ble_eq_true rfl) (x_poundageOf9 hc hc4) (Nat.le_refl _) ?_
    refine G_st (L := 89) (k := 1) (42, [some (.ref 0), some (.int v), some (.int (v - 10))], [.int (x_pd9 I (v - 10) c 0)], qS true gc I J) (q_hn _ _ _ _) rfl ?_
    exact G_iret rfl rfl rfl rfl
  · skip
    refine G_st (L := 89) (k := 2) (6, [some (.ref 0), some (.int v), none], [.int 4, .int v], qS true gc I J) (q_hn _ _ _ _) rfl ?_
    refine G_icmp_ge 18 rfl rfl (fun _ => ?_) (fun h9 => absurd (hv.resolve_left h1) h9)
    refine G_st (L := 89) (k := 5) (24, [some (.ref 0), some (.int v), some (.int (v - 10))], [.int (v - 10)], qS true gc I J) (q_hn _ _ _ _) rfl ?_
    refine G_callS (as := [.int (v - 10)]) (rest := []) rfl rfl rfl (Nat.le_of_ble_eq_true rfl) (GM_r (m_isGoodness _) hgd) (Nat.le_refl _) ?_
    refine G_st (L := 89) (k := 0) (27, [some (.ref 0), some (.int v), some (.int (v - 10))], [.int 1], qS true gc I J) (q_hn _ _ _ _) rfl ?_
    refine G_if_eq 41 rfl rfl (fun h9 => absurd h9 (by decide)) (fun _ => ?_)
    refine G_st (L := 89) (k := 3) (35, [some (.ref 0), some (.int v), some (.int (v - 10))], [.int (v - 10), .ref 9], qS true gc I J) (q_hn _ _ _ _) rfl ?_
    refine G_callV (b := 9) (ci := 2) (as := [.int (v - 10)]) (rest := []) rfl rfl rfl (q_lt (by decide)) (by decide) rfl rfl (Nat.le_of_ble_eq_true rfl) (x_poundageOf9 hc hc4) (Nat.le_refl _) ?_
    refine G_st (L := 89) (k := 1) (42, [some (.ref 0), some (.int v), some (.int (v - 10))], [.int (x_pd9 I (v - 10) c 0)], qS true gc I J) (q_hn _ _ _ _) rfl ?_
    exact G_iret rfl rfl rfl rfl
theorem x_law2 {d : Nat} {sw : Bool} {gc : Nat} {I : Nat → Nat → Int32} {J : Nat → Nat → Int64} {v : Int32} {c : Nat} (hv : v < 0 ∨ nI 4 ≤ v) (hgd : f_isGoodness (v - 10) = 1) (hc : x_pds sw I = nI c) (hc4 : c ≤ 4) : GM (d + 2) 72 [.ref 0, .int v] (qS sw gc I J) (some (.int (x_pnd sw I (v - 10) c))) (qS sw gc I J) := by
  cases sw with
  | false => exact x_law2_false hv hgd hc hc4
  | true => exact x_law2_true hv hgd hc hc4
theorem x_law3_false {d : Nat} {gc : Nat} {I : Nat → Nat → Int32} {J : Nat → Nat → Int64} {v : Int32} (hv : v < 0 ∨ nI 4 ≤ v) (hgd : f_isGoodness (v - 10) = 0) : GM (d + 2) 72 [.ref 0, .int v] (qS false gc I J) (some (.int (-1))) (qS false gc I J) := by
  refine GM_of (by decide) (Nat.le_refl _) (Nat.le_of_ble_eq_true rfl) trivial ?_
  refine G_st (L := 89) (k := 0) (0, [some (.ref 0), some (.int v), none], [], qS false gc I J) (q_hn _ _ _ _) rfl ?_
  refine G_st (L := 89) (k := 1) (1, [some (.ref 0), some (.int v), none], [.int v], qS false gc I J) (q_hn _ _ _ _) rfl ?_
  refine G_if_lt 18 rfl rfl (fun h1 => ?_) (fun h1 => ?_)
  · skip
    refine G_st (L := 89) (k := 5) (24, [some (.ref 0), some (.int v), some (.int (v - 10))], [.int (v - 10)], qS false gc I J) (q_hn _ _ _ _) rfl ?_
    refine G_callS (as := [.int (v - 10)]) (rest := []) rfl rfl rfl (Nat.le_of_ble_eq_true rfl) (GM_r (m_isGoodness _) hgd) (Nat.le_refl _) ?_
    refine G_st (L := 89) (k := 0) (27, [some (.ref 0), some (.int v), some (.int (v - 10))], [.int 0], qS false gc I J) (q_hn _ _ _ _) rfl ?_
    refine G_if_eq 41 rfl rfl (fun _ => ?_) (fun h9 => absurd h9 (by decide))
    refine G_st (L := 89) (k := 1) (42, [some (.ref 0), some (.int v), some (.int (v - 10))], [.int (-1)], qS false gc I J) (q_hn _ _ _ _) rfl ?_
    exact G_iret rfl rfl rfl rfl
  · skip
    refine G_st (L := 89) (k := 2) (6, [some (.ref 0), some (.int v), none], [.int 4, .int v], qS false gc I J) (q_hn _ _ _ _) rfl ?_
    refine G_icmp_ge 18 rfl rfl (fun _ => ?_) (fun h9 => absurd (hv.resolve_left h1) h9)
    refine G_st (L := 89) (k := 5) (24, [some (.ref 0), some (.int v), some (.int (v - 10))], [.int (v - 10)], qS false gc I J) (q_hn _ _ _ _) rfl ?_
    refine G_callS (as := [.int (v - 10)]) (rest := []) rfl rfl rfl (Nat.le_of_ble_eq_true rfl) (GM_r (m_isGoodness _) hgd) (Nat.le_refl _) ?_
    refine G_st (L := 89) (k := 0) (27, [some (.ref 0), some (.int v), some (.int (v - 10))], [.int 0], qS false gc I J) (q_hn _ _ _ _) rfl ?_
    refine G_if_eq 41 rfl rfl (fun _ => ?_) (fun h9 => absurd h9 (by decide))
    refine G_st (L := 89) (k := 1) (42, [some (.ref 0), some (.int v), some (.int (v - 10))], [.int (-1)], qS false gc I J) (q_hn _ _ _ _) rfl ?_
    exact G_iret rfl rfl rfl rfl
theorem x_law3_true {d : Nat} {gc : Nat} {I : Nat → Nat → Int32} {J : Nat → Nat → Int64} {v : Int32} (hv : v < 0 ∨ nI 4 ≤ v) (hgd : f_isGoodness (v - 10) = 0) : GM (d + 2) 72 [.ref 0, .int v] (qS true gc I J) (some (.int (-1))) (qS true gc I J) := by
  refine GM_of (by decide) (Nat.le_refl _) (Nat.le_of_ble_eq_true rfl) trivial ?_
  refine G_st (L := 89) (k := 0) (0, [some (.ref 0), some (.int v), none], [], qS true gc I J) (q_hn _ _ _ _) rfl ?_
  refine G_st (L := 89) (k := 1) (1, [some (.ref 0), some (.int v), none], [.int v], qS true gc I J) (q_hn _ _ _ _) rfl ?_
  refine G_if_lt 18 rfl rfl (fun h1 => ?_) (fun h1 => ?_)
  · skip
    refine G_st (L := 89) (k := 5) (24, [some (.ref 0), some (.int v), some (.int (v - 10))], [.int (v - 10)], qS true gc I J) (q_hn _ _ _ _) rfl ?_
    refine G_callS (as := [.int (v - 10)]) (rest := []) rfl rfl rfl (Nat.le_of_ble_eq_true rfl) (GM_r (m_isGoodness _) hgd) (Nat.le_refl _) ?_
    refine G_st (L := 89) (k := 0) (27, [some (.ref 0), some (.int v), some (.int (v - 10))], [.int 0], qS true gc I J) (q_hn _ _ _ _) rfl ?_
    refine G_if_eq 41 rfl rfl (fun _ => ?_) (fun h9 => absurd h9 (by decide))
    refine G_st (L := 89) (k := 1) (42, [some (.ref 0), some (.int v), some (.int (v - 10))], [.int (-1)], qS true gc I J) (q_hn _ _ _ _) rfl ?_
    exact G_iret rfl rfl rfl rfl
  · skip
    refine G_st (L := 89) (k := 2) (6, [some (.ref 0), some (.int v), none], [.int 4, .int v], qS true gc I J) (q_hn _ _ _ _) rfl ?_
    refine G_icmp_ge 18 rfl rfl (fun _ => ?_) (fun h9 => absurd (hv.resolve_left h1) h9)
    refine G_st (L := 89) (k := 5) (24, [some (.ref 0), some (.int v), some (.int (v - 10))], [.int (v - 10)], qS true gc I J) (q_hn _ _ _ _) rfl ?_
    refine G_callS (as := [.int (v - 10)]) (rest := []) rfl rfl rfl (Nat.le_of_ble_eq_true rfl) (GM_r (m_isGoodness _) hgd) (Nat.le_refl _) ?_
    refine G_st (L := 89) (k := 0) (27, [some (.ref 0), some (.int v), some (.int (v - 10))], [.int 0], qS true gc I J) (q_hn _ _ _ _) rfl ?_
    refine G_if_eq 41 rfl rfl (fun _ => ?_) (fun h9 => absurd h9 (by decide))
    refine G_st (L := 89) (k := 1) (42, [some (.ref 0), some (.int v), some (.int (v - 10))], [.int (-1)], qS true gc I J) (q_hn _ _ _ _) rfl ?_
    exact G_iret rfl rfl rfl rfl
theorem x_law3 {d : Nat} {sw : Bool} {gc : Nat} {I : Nat → Nat → Int32} {J : Nat → Nat → Int64} {v : Int32} (hv : v < 0 ∨ nI 4 ≤ v) (hgd : f_isGoodness (v - 10) = 0) : GM (d + 2) 72 [.ref 0, .int v] (qS sw gc I J) (some (.int (-1))) (qS sw gc I J) := by
  cases sw with
  | false => exact x_law3_false hv hgd
  | true => exact x_law3_true hv hgd
theorem x_byteAt {d : Nat} {sw : Bool} {gc : Nat} {I : Nat → Nat → Int32} {J : Nat → Nat → Int64} {l p : Nat} (hl : I 2 1 = nI l) (hl2 : l ≤ 200) (hp : p < l) : GM d 65 [.ref 2, .int (nI p)] (qS sw gc I J) (some (.int (I 3 p &&& 255))) (qS sw gc I J) := by
  refine GM_of (by decide) (Nat.le_refl _) (Nat.le_of_ble_eq_true rfl) trivial ?_
  refine G_st (L := 89) (k := 0) (0, [some (.ref 2), some (.int (nI p))], [], qS sw gc I J) (q_hn _ _ _ _) rfl ?_
  refine G_st (L := 89) (k := 1) (1, [some (.ref 2), some (.int (nI p))], [.int (nI p)], qS sw gc I J) (q_hn _ _ _ _) rfl ?_
  refine G_if_lt 19 rfl rfl (fun h9 => absurd h9 (nI_nlt (b := 0) (by omega) (by omega))) (fun _ => ?_)
  refine G_st (L := 89) (k := 3) (9, [some (.ref 2), some (.int (nI p))], [.int (I 2 1), .int (nI p)], qS sw gc I J) (q_hn _ _ _ _) rfl ?_
  rw [show I 2 1 = nI l from hl]
  refine G_icmp_ge 19 rfl rfl (fun h9 => absurd h9 (nI_ge (by omega) (by omega))) (fun _ => ?_)
  refine G_st (L := 89) (k := 2) (16, [some (.ref 2), some (.int (nI p))], [.int 200, .int (nI p)], qS sw gc I J) (q_hn _ _ _ _) rfl ?_
  refine G_icmp_lt 23 rfl rfl (fun _ => ?_) (fun h9 => absurd (nI_lt (b := 200) (by omega) (by decide)) h9)
  refine G_st (L := 89) (k := 3) (28, [some (.ref 2), some (.int (nI p))], [.int (nI p), .ref 3], qS sw gc I J) (q_hn _ _ _ _) rfl ?_
  refine G_bald (i := 3) (n := 200) rfl rfl (q_lt (by decide)) (vp_in_nI (by omega) (by decide)) ?_
  rw [q_clamp (n := p) (by omega)]
  refine G_st (L := 89) (k := 2) (33, [some (.ref 2), some (.int (nI p))], [.int ((I 3 p) &&& 255)], qS sw gc I J) (q_hn _ _ _ _) rfl ?_
  exact G_iret rfl rfl rfl rfl
theorem x_byteAtN {d : Nat} {sw : Bool} {gc : Nat} {I : Nat → Nat → Int32} {J : Nat → Nat → Int64} {l p : Nat} (hl : I 2 1 = nI l) (hp : l ≤ p) (hp2 : p < 2 ^ 31) : GM d 65 [.ref 2, .int (nI p)] (qS sw gc I J) (some (.int (-1))) (qS sw gc I J) := by
  refine GM_of (by decide) (Nat.le_refl _) (Nat.le_of_ble_eq_true rfl) trivial ?_
  refine G_st (L := 89) (k := 0) (0, [some (.ref 2), some (.int (nI p))], [], qS sw gc I J) (q_hn _ _ _ _) rfl ?_
  refine G_st (L := 89) (k := 1) (1, [some (.ref 2), some (.int (nI p))], [.int (nI p)], qS sw gc I J) (q_hn _ _ _ _) rfl ?_
  refine G_if_lt 19 rfl rfl (fun h9 => absurd h9 (nI_pos (by omega))) (fun _ => ?_)
  refine G_st (L := 89) (k := 3) (9, [some (.ref 2), some (.int (nI p))], [.int (I 2 1), .int (nI p)], qS sw gc I J) (q_hn _ _ _ _) rfl ?_
  rw [show I 2 1 = nI l from hl]
  refine G_icmp_ge 19 rfl rfl (fun _ => ?_) (fun h9 => absurd (nI_le (by omega) (by omega)) h9)
  refine G_st (L := 89) (k := 2) (33, [some (.ref 2), some (.int (nI p))], [.int (-1)], qS sw gc I J) (q_hn _ _ _ _) rfl ?_
  exact G_iret rfl rfl rfl rfl
theorem x_empty {d : Nat} {sw : Bool} {gc : Nat} {I : Nat → Nat → Int32} {J : Nat → Nat → Int64} : GM d 64 [.ref 2] (qS sw gc I J) (none) (qS sw gc (q_u I 2 1 0) J) := by
  refine GM_of (by decide) (Nat.le_refl _) (Nat.le_of_ble_eq_true rfl) trivial ?_
  refine G_st (L := 89) (k := 0) (0, [some (.ref 2)], [], qS sw gc I J) (q_hn _ _ _ _) rfl ?_
  refine G_st (L := 89) (k := 3) (5, [some (.ref 2)], [], qS sw gc (q_u I 2 1 0) J) (q_hn _ _ _ _) rfl ?_
  exact G_ret rfl rfl rfl rfl
theorem x_keepFirst {d : Nat} {sw : Bool} {gc : Nat} {I : Nat → Nat → Int32} {J : Nat → Nat → Int64} {x : Int32} (h0 : ¬ x < 0) (h1 : x ≤ I 2 1) : GM d 63 [.ref 2, .int x] (qS sw gc I J) (some (.int 1)) (qS sw gc (q_u I 2 1 x) J) := by
  refine GM_of (by decide) (Nat.le_refl _) (Nat.le_of_ble_eq_true rfl) rfl ?_
  refine G_st (L := 89) (k := 0) (0, [some (.ref 2), some (.int x)], [], qS sw gc I J) (q_hn _ _ _ _) rfl ?_
  refine G_st (L := 89) (k := 1) (1, [some (.ref 2), some (.int x)], [.int x], qS sw gc I J) (q_hn _ _ _ _) rfl ?_
  refine G_if_lt 12 rfl rfl (fun h9 => absurd h9 h0) (fun _ => ?_)
  refine G_st (L := 89) (k := 3) (9, [some (.ref 2), some (.int x)], [.int (I 2 1), .int x], qS sw gc I J) (q_hn _ _ _ _) rfl ?_
  refine G_icmp_le 14 rfl rfl (fun _ => ?_) (fun h9 => absurd h1 h9)
  refine G_st (L := 89) (k := 4) (20, [some (.ref 2), some (.int x)], [.int 1], qS sw gc (q_u I 2 1 x) J) (q_hn _ _ _ _) rfl ?_
  exact G_iret rfl rfl rfl rfl
theorem x_keepFirstN {d : Nat} {sw : Bool} {gc : Nat} {I : Nat → Nat → Int32} {J : Nat → Nat → Int64} {x : Int32} (h0 : x < 0 ∨ ¬ x ≤ I 2 1) : GM d 63 [.ref 2, .int x] (qS sw gc I J) (some (.int 0)) (qS sw gc I J) := by
  refine GM_of (by decide) (Nat.le_refl _) (Nat.le_of_ble_eq_true rfl) rfl ?_
  refine G_st (L := 89) (k := 0) (0, [some (.ref 2), some (.int x)], [], qS sw gc I J) (q_hn _ _ _ _) rfl ?_
  refine G_st (L := 89) (k := 1) (1, [some (.ref 2), some (.int x)], [.int x], qS sw gc I J) (q_hn _ _ _ _) rfl ?_
  refine G_if_lt 12 rfl rfl (fun h1 => ?_) (fun h1 => ?_)
  · skip
    refine G_st (L := 89) (k := 1) (13, [some (.ref 2), some (.int x)], [.int 0], qS sw gc I J) (q_hn _ _ _ _) rfl ?_
    exact G_iret rfl rfl rfl rfl
  · skip
    refine G_st (L := 89) (k := 3) (9, [some (.ref 2), some (.int x)], [.int (I 2 1), .int x], qS sw gc I J) (q_hn _ _ _ _) rfl ?_
    refine G_icmp_le 14 rfl rfl (fun h9 => absurd h9 (h0.resolve_left h1)) (fun _ => ?_)
    refine G_st (L := 89) (k := 1) (13, [some (.ref 2), some (.int x)], [.int 0], qS sw gc I J) (q_hn _ _ _ _) rfl ?_
    exact G_iret rfl rfl rfl rfl
theorem x_end {d : Nat} {sw : Bool} {gc : Nat} {I : Nat → Nat → Int32} {J : Nat → Nat → Int64} {x : Int32} (h0 : ¬ x < 0) (h1 : x ≤ I 2 1) : GM (d + 1) 69 [.ref 0, .int x] (qS sw gc I J) (some (.int (I 2 1))) (qS sw gc (q_u I 2 1 x) J) := by
  refine GM_of (by decide) (Nat.le_refl _) (Nat.le_of_ble_eq_true rfl) trivial ?_
  refine G_st (L := 89) (k := 0) (0, [some (.ref 0), some (.int x), none], [], qS sw gc I J) (q_hn _ _ _ _) rfl ?_
  refine G_st (L := 89) (k := 9) (19, [some (.ref 0), some (.int x), some (.int (I 2 1))], [.int x, .ref 2], qS sw gc I J) (q_hn _ _ _ _) rfl ?_
  refine G_callV (b := 2) (ci := 6) (as := [.int x]) (rest := []) rfl rfl rfl (q_lt (by decide)) (by decide) rfl rfl (Nat.le_of_ble_eq_true rfl) (x_keepFirst h0 h1) (Nat.le_refl _) ?_
  refine G_st (L := 89) (k := 0) (22, [some (.ref 0), some (.int x), some (.int (I 2 1))], [.int 1], qS sw gc (q_u I 2 1 x) J) (q_hn _ _ _ _) rfl ?_
  refine G_if_eq 29 rfl rfl (fun h9 => absurd h9 (by decide)) (fun _ => ?_)
  refine G_st (L := 89) (k := 2) (30, [some (.ref 0), some (.int x), some (.int (I 2 1))], [.int (I 2 1)], qS sw gc (q_u I 2 1 x) J) (q_hn _ _ _ _) rfl ?_
  exact G_iret rfl rfl rfl rfl
theorem x_endB {d : Nat} {sw : Bool} {gc : Nat} {I : Nat → Nat → Int32} {J : Nat → Nat → Int64} {x : Int32} (h0 : x < 0 ∨ ¬ x ≤ I 2 1) : GM (d + 1) 69 [.ref 0, .int x] (qS sw gc I J) (some (.int (-1))) (qS sw gc I J) := by
  refine GM_of (by decide) (Nat.le_refl _) (Nat.le_of_ble_eq_true rfl) trivial ?_
  refine G_st (L := 89) (k := 0) (0, [some (.ref 0), some (.int x), none], [], qS sw gc I J) (q_hn _ _ _ _) rfl ?_
  refine G_st (L := 89) (k := 9) (19, [some (.ref 0), some (.int x), some (.int (I 2 1))], [.int x, .ref 2], qS sw gc I J) (q_hn _ _ _ _) rfl ?_
  refine G_callV (b := 2) (ci := 6) (as := [.int x]) (rest := []) rfl rfl rfl (q_lt (by decide)) (by decide) rfl rfl (Nat.le_of_ble_eq_true rfl) (x_keepFirstN h0) (Nat.le_refl _) ?_
  refine G_st (L := 89) (k := 0) (22, [some (.ref 0), some (.int x), some (.int (I 2 1))], [.int 0], qS sw gc I J) (q_hn _ _ _ _) rfl ?_
  refine G_if_eq 29 rfl rfl (fun _ => ?_) (fun h9 => absurd h9 (by decide))
  refine G_st (L := 89) (k := 1) (30, [some (.ref 0), some (.int x), some (.int (I 2 1))], [.int (-1)], qS sw gc I J) (q_hn _ _ _ _) rfl ?_
  exact G_iret rfl rfl rfl rfl
def x_by (v : Int64) (s : Int32) : Int32 := vp_nar .byte (Int8.toInt32 (Int32.toInt8 (Int64.toInt32 ((Int64.toUInt64 v >>> ((Int32.toInt64 s).toUInt64 &&& Int64.toUInt64 63)).toInt64))))
def x_ap (v : Int64) (l : Nat) : Nat → Nat → (Nat → Nat → Int32) → (Nat → Nat → Int32)
  | 0, _, I => I
  | m + 1, j, I => x_ap v l m (j + 1) (q_u (q_u I 3 (l + j) (x_by v (nI (8 * m)))) 2 1 (nI (l + j + 1)))
theorem x_ap_loop {d : Nat} {sw : Bool} {gc : Nat} {J : Nat → Nat → Int64} {v : Int64} {l : Nat} (hl2 : l ≤ 192) : ∀ (m j : Nat) (I : Nat → Nat → Int32) (s : Int32), j + m = 8 → I 2 1 = nI (l + j) → s + 8 = nI (8 * m) → G d 62 (15, [some (.ref 2), some (.long v), none, some (.int s)], [], qS sw gc I J) (some (.int 1)) (qS sw gc (x_ap v l m j I) J) := by
  intro m
  induction m with
  | zero =>
    intro j I s h hl hs
    obtain rfl : s = -8 := by
      have e : s + 8 = (-8 : Int32) + 8 := hs.trans (by decide)
      exact (Int32.add_left_inj 8).mp e
    refine G_st (L := 89) (k := 1) (16, [some (.ref 2), some (.long v), none, some (.int (-8))], [.int (-8)], qS sw gc I J) (q_hn _ _ _ _) rfl ?_
    refine G_if_lt 49 rfl rfl (fun _ => ?_) (fun h9 => absurd h9 (by decide))
    refine G_st (L := 89) (k := 1) (50, [some (.ref 2), some (.long v), none, some (.int (-8))], [.int 1], qS sw gc I J) (q_hn _ _ _ _) rfl ?_
    exact G_iret rfl rfl rfl rfl
  | succ m ih =>
    intro j I s h hl hs
    obtain rfl : s = nI (8 * m) := by
      have e : s + 8 = nI (8 * m) + 8 := hs.trans (by rw [show (8 : Int32) = nI 8 from rfl, nI_add]; rfl)
      exact (Int32.add_left_inj 8).mp e
    refine G_st (L := 89) (k := 1) (16, [some (.ref 2), some (.long v), none, some (.int (nI (8 * m)))], [.int (nI (8 * m))], qS sw gc I J) (q_hn _ _ _ _) rfl ?_
    refine G_if_lt 49 rfl rfl (fun h9 => absurd h9 (nI_pos (by omega))) (fun _ => ?_)
    refine G_st (L := 89) (k := 9) (32, [some (.ref 2), some (.long v), none, some (.int (nI (8 * m)))], [.int (Int8.toInt32 (Int32.toInt8 (Int64.toInt32 ((Int64.toUInt64 v >>> ((Int32.toInt64 (nI (8 * m))).toUInt64 &&& Int64.toUInt64 63)).toInt64)))), .int (I 2 1), .ref 3], qS sw gc I J) (q_hn _ _ _ _) rfl ?_
    rw [show I 2 1 = nI (l + j) from hl]
    refine G_bast (i := 3) (n := 200) rfl rfl (q_lt (by decide)) (vp_in_nI (by omega) (by decide)) ?_
    rw [q_clamp (n := l + j) (by omega)]
    refine G_st (L := 89) (k := 2) (35, [some (.ref 2), some (.long v), none, some (.int (nI (8 * m)))], [.ref 2, .ref 2], qS sw gc (q_u I 3 (l + j) (vp_nar .byte (Int8.toInt32 (Int32.toInt8 (Int64.toInt32 ((Int64.toUInt64 v >>> ((Int32.toInt64 (nI (8 * m))).toUInt64 &&& Int64.toUInt64 63)).toInt64)))))) J) (q_hn _ _ _ _) rfl ?_
    refine G_get (ci := 6) (k := 1) (i := 2) rfl rfl rfl (q_lt (by decide)) ?_
    rw [show q_av (qS sw gc (q_u I 3 (l + j) (vp_nar .byte (Int8.toInt32 (Int32.toInt8 (Int64.toInt32 ((Int64.toUInt64 v >>> ((Int32.toInt64 (nI (8 * m))).toUInt64 &&& Int64.toUInt64 63)).toInt64)))))) J) 2 (q_fty 6 1) 1 = .int (I 2 1) from congrArg Value.int (show (q_u I 3 (l + j) (vp_nar .byte (Int8.toInt32 (Int32.toInt8 (Int64.toInt32 ((Int64.toUInt64 v >>> ((Int32.toInt64 (nI (8 * m))).toUInt64 &&& Int64.toUInt64 63)).toInt64)))))) 2 1 = I 2 1 from q_un _ _ (by omega))]
    refine G_st (L := 89) (k := 5) (15, [some (.ref 2), some (.long v), none, some (.int ((nI (8 * m)) + (-8)))], [], qS sw gc (q_u (q_u I 3 (l + j) (vp_nar .byte (Int8.toInt32 (Int32.toInt8 (Int64.toInt32 ((Int64.toUInt64 v >>> ((Int32.toInt64 (nI (8 * m))).toUInt64 &&& Int64.toUInt64 63)).toInt64)))))) 2 1 ((I 2 1) + 1)) J) (q_hn _ _ _ _) rfl ?_
    rw [hl, nI_1]
    refine ih (j + 1) _ _ (by omega) ?_ ?_
    · rw [q_us]; rfl
    · rw [show (-8 : Int32) = -8 from rfl, Int32.add_assoc, show ((-8 : Int32) + 8) = 0 from rfl, Int32.add_zero]
theorem x_append {d : Nat} {sw : Bool} {gc : Nat} {I : Nat → Nat → Int32} {J : Nat → Nat → Int64} {v : Int64} {l : Nat} (hl : I 2 1 = nI l) (hl2 : l ≤ 192) : GM d 62 [.ref 2, .long v] (qS sw gc I J) (some (.int 1)) (qS sw gc (x_ap v l 8 0 I) J) := by
  refine GM_of (by decide) (Nat.le_refl _) (Nat.le_of_ble_eq_true rfl) rfl ?_
  refine G_st (L := 89) (k := 0) (0, [some (.ref 2), some (.long v), none, none], [], qS sw gc I J) (q_hn _ _ _ _) rfl ?_
  refine G_st (L := 89) (k := 3) (7, [some (.ref 2), some (.long v), none, none], [.int 192, .int (I 2 1)], qS sw gc I J) (q_hn _ _ _ _) rfl ?_
  rw [show I 2 1 = nI l from hl]
  refine G_icmp_le 12 rfl rfl (fun _ => ?_) (fun h9 => absurd (nI_le (b := 192) (by omega) (by decide)) h9)
  refine G_st (L := 89) (k := 2) (15, [some (.ref 2), some (.long v), none, some (.int 56)], [], qS sw gc I J) (q_hn _ _ _ _) rfl ?_
  exact x_ap_loop hl2 8 0 I 56 rfl hl (by decide)
theorem x_appendF {d : Nat} {sw : Bool} {gc : Nat} {I : Nat → Nat → Int32} {J : Nat → Nat → Int64} {v : Int64} {l : Nat} (hl : I 2 1 = nI l) (hl2 : 192 < l) (hl3 : l ≤ 200) : GM d 62 [.ref 2, .long v] (qS sw gc I J) (some (.int 0)) (qS sw gc I J) := by
  refine GM_of (by decide) (Nat.le_refl _) (Nat.le_of_ble_eq_true rfl) rfl ?_
  refine G_st (L := 89) (k := 0) (0, [some (.ref 2), some (.long v), none, none], [], qS sw gc I J) (q_hn _ _ _ _) rfl ?_
  refine G_st (L := 89) (k := 3) (7, [some (.ref 2), some (.long v), none, none], [.int 192, .int (I 2 1)], qS sw gc I J) (q_hn _ _ _ _) rfl ?_
  rw [show I 2 1 = nI l from hl]
  refine G_icmp_le 12 rfl rfl (fun h9 => absurd h9 (nI_ge (a := 192) (by omega) (by omega))) (fun _ => ?_)
  refine G_st (L := 89) (k := 1) (11, [some (.ref 2), some (.long v), none, none], [.int 0], qS sw gc I J) (q_hn _ _ _ _) rfl ?_
  exact G_iret rfl rfl rfl rfl
theorem x_feed {d : Nat} {sw : Bool} {gc : Nat} {I : Nat → Nat → Int32} {J : Nat → Nat → Int64} {v : Int64} {l : Nat} (hl : I 2 1 = nI l) (hl2 : l ≤ 192) : GM (d + 1) 68 [.ref 0, .long v] (qS sw gc I J) (some (.int (x_ap v l 8 0 I 2 1))) (qS sw gc (x_ap v l 8 0 I) J) := by
  refine GM_of (by decide) (Nat.le_refl _) (Nat.le_of_ble_eq_true rfl) trivial ?_
  refine G_st (L := 89) (k := 0) (0, [some (.ref 0), some (.long v), none], [], qS sw gc I J) (q_hn _ _ _ _) rfl ?_
  refine G_st (L := 89) (k := 4) (8, [some (.ref 0), some (.long v), none], [.long v, .ref 2], qS sw gc I J) (q_hn _ _ _ _) rfl ?_
  refine G_callV (b := 2) (ci := 6) (as := [.long v]) (rest := []) rfl rfl rfl (q_lt (by decide)) (by decide) rfl rfl (Nat.le_of_ble_eq_true rfl) (x_append hl hl2) (Nat.le_refl _) ?_
  refine G_st (L := 89) (k := 0) (11, [some (.ref 0), some (.long v), none], [.int 1], qS sw gc (x_ap v l 8 0 I) J) (q_hn _ _ _ _) rfl ?_
  refine G_if_eq 27 rfl rfl (fun h9 => absurd h9 (by decide)) (fun _ => ?_)
  refine G_st (L := 89) (k := 5) (29, [some (.ref 0), some (.long v), none], [.int ((x_ap v l 8 0 I) 2 1)], qS sw gc (x_ap v l 8 0 I) J) (q_hn _ _ _ _) rfl ?_
  exact G_iret rfl rfl rfl rfl
theorem x_feedF {d : Nat} {sw : Bool} {gc : Nat} {I : Nat → Nat → Int32} {J : Nat → Nat → Int64} {v : Int64} {l : Nat} (hl : I 2 1 = nI l) (hl2 : 192 < l) (hl3 : l ≤ 200) : GM (d + 1) 68 [.ref 0, .long v] (qS sw gc I J) (some (.int (-3))) (qS sw gc I J) := by
  refine GM_of (by decide) (Nat.le_refl _) (Nat.le_of_ble_eq_true rfl) trivial ?_
  refine G_st (L := 89) (k := 0) (0, [some (.ref 0), some (.long v), none], [], qS sw gc I J) (q_hn _ _ _ _) rfl ?_
  refine G_st (L := 89) (k := 4) (8, [some (.ref 0), some (.long v), none], [.long v, .ref 2], qS sw gc I J) (q_hn _ _ _ _) rfl ?_
  refine G_callV (b := 2) (ci := 6) (as := [.long v]) (rest := []) rfl rfl rfl (q_lt (by decide)) (by decide) rfl rfl (Nat.le_of_ble_eq_true rfl) (x_appendF hl hl2 hl3) (Nat.le_refl _) ?_
  refine G_st (L := 89) (k := 0) (11, [some (.ref 0), some (.long v), none], [.int 0], qS sw gc I J) (q_hn _ _ _ _) rfl ?_
  refine G_if_eq 27 rfl rfl (fun _ => ?_) (fun h9 => absurd h9 (by decide))
  refine G_st (L := 89) (k := 1) (29, [some (.ref 0), some (.long v), none], [.int (-3)], qS sw gc I J) (q_hn _ _ _ _) rfl ?_
  exact G_iret rfl rfl rfl rfl
