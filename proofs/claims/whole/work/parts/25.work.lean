def x_ear (sw : Bool) (I : Nat → Nat → Int32) (w k c : Nat) : Int32 := ((I 47 8) + (((I 47 8) * (x_pnd sw I (I (w + 16) 0) c)) / 100)) + (I (2 * k + 89) 5)
def x_clb (sw : Bool) (I : Nat → Nat → Int32) (w k c : Nat) : Int32 := ((x_ear sw I w k c) * (x_num sw I 3)) / 100
def x_wC (sw : Bool) (I : Nat → Nat → Int32) (w k c : Nat) : Nat → Nat → Int32 := x_tp (q_u I 0 11 ((I 0 11) + (x_clb sw I w k c))) k ((x_ear sw I w k c) - (x_clb sw I w k c)) (x_num sw I 2)
theorem x_numberOf4_1 {d : Nat} {sw : Bool} {gc : Nat} {I : Nat → Nat → Int32} {J : Nat → Nat → Int64} : GM (d + 1) 27 [.ref 4, .int 1] (qS sw gc I J) (some (.int (I 5 1))) (qS sw gc I J) := by
  have h := x_numberOf4 (d := d) (sw := sw) (gc := gc) (I := I) (J := J) (k := 1) (by decide)
  rw [show nI 1 = 1 from rfl] at h
  exact h
theorem x_numberOf4_2 {d : Nat} {sw : Bool} {gc : Nat} {I : Nat → Nat → Int32} {J : Nat → Nat → Int64} : GM (d + 1) 27 [.ref 4, .int 2] (qS sw gc I J) (some (.int (I 5 2))) (qS sw gc I J) := by
  have h := x_numberOf4 (d := d) (sw := sw) (gc := gc) (I := I) (J := J) (k := 2) (by decide)
  rw [show nI 2 = 2 from rfl] at h
  exact h
theorem x_numberOf4_3 {d : Nat} {sw : Bool} {gc : Nat} {I : Nat → Nat → Int32} {J : Nat → Nat → Int64} : GM (d + 1) 27 [.ref 4, .int 3] (qS sw gc I J) (some (.int (I 5 3))) (qS sw gc I J) := by
  have h := x_numberOf4 (d := d) (sw := sw) (gc := gc) (I := I) (J := J) (k := 3) (by decide)
  rw [show nI 3 = 3 from rfl] at h
  exact h
theorem x_numberOf9_1 {d : Nat} {sw : Bool} {gc : Nat} {I : Nat → Nat → Int32} {J : Nat → Nat → Int64} : GM (d + 1) 27 [.ref 9, .int 1] (qS sw gc I J) (some (.int (I 10 1))) (qS sw gc I J) := by
  have h := x_numberOf9 (d := d) (sw := sw) (gc := gc) (I := I) (J := J) (k := 1) (by decide)
  rw [show nI 1 = 1 from rfl] at h
  exact h
theorem x_numberOf9_2 {d : Nat} {sw : Bool} {gc : Nat} {I : Nat → Nat → Int32} {J : Nat → Nat → Int64} : GM (d + 1) 27 [.ref 9, .int 2] (qS sw gc I J) (some (.int (I 10 2))) (qS sw gc I J) := by
  have h := x_numberOf9 (d := d) (sw := sw) (gc := gc) (I := I) (J := J) (k := 2) (by decide)
  rw [show nI 2 = 2 from rfl] at h
  exact h
theorem x_numberOf9_3 {d : Nat} {sw : Bool} {gc : Nat} {I : Nat → Nat → Int32} {J : Nat → Nat → Int64} : GM (d + 1) 27 [.ref 9, .int 3] (qS sw gc I J) (some (.int (I 10 3))) (qS sw gc I J) := by
  have h := x_numberOf9 (d := d) (sw := sw) (gc := gc) (I := I) (J := J) (k := 3) (by decide)
  rw [show nI 3 = 3 from rfl] at h
  exact h
theorem x_wbC_false {d : Nat} {gc : Nat} {I : Nat → Nat → Int32} {J : Nat → Nat → Int64} {k w c len : Nat} {F : Int64} (hk : k < gc) (hg : gc ≤ 8) (hw : w < 30) (hc : x_pds false I = nI c) (hc4 : c ≤ 4) : G (d + 2) 96 (93, [some (.ref 0), some (.ref (2 * k + 89)), some (.int (nI len)), some (.long F), none, some (.ref (w + 16)), none, none, none], [], qS false gc I J) (some (.int ((x_ear false I w k c) - (x_clb false I w k c)))) (qS false gc (x_wC false I w k c) J) := by
  refine G_st (L := 89) (k := 9) (112, [some (.ref 0), some (.ref (2 * k + 89)), some (.int (nI len)), some (.long F), none, some (.ref (w + 16)), some (.int (I 47 8)), none, none], [.ref (w + 16), .ref 4, .int (I 47 8), .int (I 47 8)], qS false gc I J) (q_hn _ _ _ _) rfl ?_
  refine G_get (ci := 7) (k := 0) (i := w + 16) rfl rfl (q_shW (by omega)) (q_ltW (by omega)) ?_
  refine G_st (L := 89) (k := 0) (115, [some (.ref 0), some (.ref (2 * k + 89)), some (.int (nI len)), some (.long F), none, some (.ref (w + 16)), some (.int (I 47 8)), none, none], [.int (I (w + 16) 0), .ref 4, .int (I 47 8), .int (I 47 8)], qS false gc I J) (q_hn _ _ _ _) rfl ?_
  refine G_callV (b := 4) (ci := 2) (as := [.int (I (w + 16) 0)]) (rest := [.int (I 47 8), .int (I 47 8)]) rfl rfl rfl (q_lt (by decide)) (by decide) rfl rfl (Nat.le_of_ble_eq_true rfl) (x_poundageOf4 hc hc4) x_out_n ?_
  refine G_st (L := 89) (k := 2) (121, [some (.ref 0), some (.ref (2 * k + 89)), some (.int (nI len)), some (.long F), none, some (.ref (w + 16)), some (.int (I 47 8)), none, none], [.int 100, .int ((I 47 8) * (x_pd4 I (I (w + 16) 0) c 0)), .int (I 47 8)], qS false gc I J) (q_hn _ _ _ _) rfl ?_
  refine G_idiv rfl (by decide) ?_
  refine G_st (L := 89) (k := 2) (124, [some (.ref 0), some (.ref (2 * k + 89)), some (.int (nI len)), some (.long F), none, some (.ref (w + 16)), some (.int (I 47 8)), none, none], [.ref (2 * k + 89), .int ((I 47 8) + (((I 47 8) * (x_pd4 I (I (w + 16) 0) c 0)) / 100))], qS false gc I J) (q_hn _ _ _ _) rfl ?_
  refine G_get (ci := 1) (k := 5) (i := 2 * k + 89) rfl rfl (q_shG (by omega)).1 (q_ltG (by omega)).1 ?_
  refine G_st (L := 89) (k := 6) (137, [some (.ref 0), some (.ref (2 * k + 89)), some (.int (nI len)), some (.long F), none, some (.ref (w + 16)), some (.int (I 47 8)), some (.int (((I 47 8) + (((I 47 8) * (x_pd4 I (I (w + 16) 0) c 0)) / 100)) + (I (2 * k + 89) 5))), none], [.int 3, .ref 4, .int (((I 47 8) + (((I 47 8) * (x_pd4 I (I (w + 16) 0) c 0)) / 100)) + (I (2 * k + 89) 5))], qS false gc I J) (q_hn _ _ _ _) rfl ?_
  refine G_callV (b := 4) (ci := 2) (as := [.int 3]) (rest := [.int (((I 47 8) + (((I 47 8) * (x_pd4 I (I (w + 16) 0) c 0)) / 100)) + (I (2 * k + 89) 5))]) rfl rfl rfl (q_lt (by decide)) (by decide) rfl rfl (Nat.le_of_ble_eq_true rfl) x_numberOf4_3 x_out_n ?_
  refine G_st (L := 89) (k := 2) (143, [some (.ref 0), some (.ref (2 * k + 89)), some (.int (nI len)), some (.long F), none, some (.ref (w + 16)), some (.int (I 47 8)), some (.int (((I 47 8) + (((I 47 8) * (x_pd4 I (I (w + 16) 0) c 0)) / 100)) + (I (2 * k + 89) 5))), none], [.int 100, .int ((((I 47 8) + (((I 47 8) * (x_pd4 I (I (w + 16) 0) c 0)) / 100)) + (I (2 * k + 89) 5)) * (I 5 3))], qS false gc I J) (q_hn _ _ _ _) rfl ?_
  refine G_idiv rfl (by decide) ?_
  refine G_st (L := 89) (k := 14) (168, [some (.ref 0), some (.ref (2 * k + 89)), some (.int (nI len)), some (.long F), none, some (.ref (w + 16)), some (.int (I 47 8)), some (.int (((I 47 8) + (((I 47 8) * (x_pd4 I (I (w + 16) 0) c 0)) / 100)) + (I (2 * k + 89) 5))), some (.int (((((I 47 8) + (((I 47 8) * (x_pd4 I (I (w + 16) 0) c 0)) / 100)) + (I (2 * k + 89) 5)) * (I 5 3)) / 100))], [.int 2, .ref 4, .int ((((I 47 8) + (((I 47 8) * (x_pd4 I (I (w + 16) 0) c 0)) / 100)) + (I (2 * k + 89) 5)) - (((((I 47 8) + (((I 47 8) * (x_pd4 I (I (w + 16) 0) c 0)) / 100)) + (I (2 * k + 89) 5)) * (I 5 3)) / 100)), .ref (2 * k + 89)], qS false gc (q_u I 0 11 ((I 0 11) + (((((I 47 8) + (((I 47 8) * (x_pd4 I (I (w + 16) 0) c 0)) / 100)) + (I (2 * k + 89) 5)) * (I 5 3)) / 100))) J) (q_hn _ _ _ _) rfl ?_
  refine G_callV (b := 4) (ci := 2) (as := [.int 2]) (rest := [.int ((((I 47 8) + (((I 47 8) * (x_pd4 I (I (w + 16) 0) c 0)) / 100)) + (I (2 * k + 89) 5)) - (((((I 47 8) + (((I 47 8) * (x_pd4 I (I (w + 16) 0) c 0)) / 100)) + (I (2 * k + 89) 5)) * (I 5 3)) / 100)), .ref (2 * k + 89)]) rfl rfl rfl (q_lt (by decide)) (by decide) rfl rfl (Nat.le_of_ble_eq_true rfl) x_numberOf4_2 x_out_n ?_
  refine G_st (L := 89) (k := 0) (171, [some (.ref 0), some (.ref (2 * k + 89)), some (.int (nI len)), some (.long F), none, some (.ref (w + 16)), some (.int (I 47 8)), some (.int (((I 47 8) + (((I 47 8) * (x_pd4 I (I (w + 16) 0) c 0)) / 100)) + (I (2 * k + 89) 5))), some (.int (((((I 47 8) + (((I 47 8) * (x_pd4 I (I (w + 16) 0) c 0)) / 100)) + (I (2 * k + 89) 5)) * (I 5 3)) / 100))], [.int (I 5 2), .int ((((I 47 8) + (((I 47 8) * (x_pd4 I (I (w + 16) 0) c 0)) / 100)) + (I (2 * k + 89) 5)) - (((((I 47 8) + (((I 47 8) * (x_pd4 I (I (w + 16) 0) c 0)) / 100)) + (I (2 * k + 89) 5)) * (I 5 3)) / 100)), .ref (2 * k + 89)], qS false gc (q_u I 0 11 ((I 0 11) + (((((I 47 8) + (((I 47 8) * (x_pd4 I (I (w + 16) 0) c 0)) / 100)) + (I (2 * k + 89) 5)) * (I 5 3)) / 100))) J) (q_hn _ _ _ _) rfl ?_
  refine G_callV (b := 2 * k + 89) (ci := 1) (as := [.int ((((I 47 8) + (((I 47 8) * (x_pd4 I (I (w + 16) 0) c 0)) / 100)) + (I (2 * k + 89) 5)) - (((((I 47 8) + (((I 47 8) * (x_pd4 I (I (w + 16) 0) c 0)) / 100)) + (I (2 * k + 89) 5)) * (I 5 3)) / 100)), .int (I 5 2)]) (rest := []) rfl rfl (q_shG (by omega)).1 (q_ltG (by omega)).1 (by decide) rfl rfl (Nat.le_of_ble_eq_true rfl) (x_takePay hk hg) x_out_n ?_
  refine G_st (L := 89) (k := 3) (179, [some (.ref 0), some (.ref (2 * k + 89)), some (.int (nI len)), some (.long F), none, some (.ref (w + 16)), some (.int (I 47 8)), some (.int (((I 47 8) + (((I 47 8) * (x_pd4 I (I (w + 16) 0) c 0)) / 100)) + (I (2 * k + 89) 5))), some (.int (((((I 47 8) + (((I 47 8) * (x_pd4 I (I (w + 16) 0) c 0)) / 100)) + (I (2 * k + 89) 5)) * (I 5 3)) / 100))], [.int ((((I 47 8) + (((I 47 8) * (x_pd4 I (I (w + 16) 0) c 0)) / 100)) + (I (2 * k + 89) 5)) - (((((I 47 8) + (((I 47 8) * (x_pd4 I (I (w + 16) 0) c 0)) / 100)) + (I (2 * k + 89) 5)) * (I 5 3)) / 100))], qS false gc (x_tp (q_u I 0 11 ((I 0 11) + (((((I 47 8) + (((I 47 8) * (x_pd4 I (I (w + 16) 0) c 0)) / 100)) + (I (2 * k + 89) 5)) * (I 5 3)) / 100))) k ((((I 47 8) + (((I 47 8) * (x_pd4 I (I (w + 16) 0) c 0)) / 100)) + (I (2 * k + 89) 5)) - (((((I 47 8) + (((I 47 8) * (x_pd4 I (I (w + 16) 0) c 0)) / 100)) + (I (2 * k + 89) 5)) * (I 5 3)) / 100)) (I 5 2)) J) (q_hn _ _ _ _) rfl ?_
  exact G_iret rfl rfl rfl rfl
theorem x_wbC_true {d : Nat} {gc : Nat} {I : Nat → Nat → Int32} {J : Nat → Nat → Int64} {k w c len : Nat} {F : Int64} (hk : k < gc) (hg : gc ≤ 8) (hw : w < 30) (hc : x_pds true I = nI c) (hc4 : c ≤ 4) : G (d + 2) 96 (93, [some (.ref 0), some (.ref (2 * k + 89)), some (.int (nI len)), some (.long F), none, some (.ref (w + 16)), none, none, none], [], qS true gc I J) (some (.int ((x_ear true I w k c) - (x_clb true I w k c)))) (qS true gc (x_wC true I w k c) J) := by
  refine G_st (L := 89) (k := 9) (112, [some (.ref 0), some (.ref (2 * k + 89)), some (.int (nI len)), some (.long F), none, some (.ref (w + 16)), some (.int (I 47 8)), none, none], [.ref (w + 16), .ref 9, .int (I 47 8), .int (I 47 8)], qS true gc I J) (q_hn _ _ _ _) rfl ?_
  refine G_get (ci := 7) (k := 0) (i := w + 16) rfl rfl (q_shW (by omega)) (q_ltW (by omega)) ?_
  refine G_st (L := 89) (k := 0) (115, [some (.ref 0), some (.ref (2 * k + 89)), some (.int (nI len)), some (.long F), none, some (.ref (w + 16)), some (.int (I 47 8)), none, none], [.int (I (w + 16) 0), .ref 9, .int (I 47 8), .int (I 47 8)], qS true gc I J) (q_hn _ _ _ _) rfl ?_
  refine G_callV (b := 9) (ci := 2) (as := [.int (I (w + 16) 0)]) (rest := [.int (I 47 8), .int (I 47 8)]) rfl rfl rfl (q_lt (by decide)) (by decide) rfl rfl (Nat.le_of_ble_eq_true rfl) (x_poundageOf9 hc hc4) x_out_n ?_
  refine G_st (L := 89) (k := 2) (121, [some (.ref 0), some (.ref (2 * k + 89)), some (.int (nI len)), some (.long F), none, some (.ref (w + 16)), some (.int (I 47 8)), none, none], [.int 100, .int ((I 47 8) * (x_pd9 I (I (w + 16) 0) c 0)), .int (I 47 8)], qS true gc I J) (q_hn _ _ _ _) rfl ?_
  refine G_idiv rfl (by decide) ?_
  refine G_st (L := 89) (k := 2) (124, [some (.ref 0), some (.ref (2 * k + 89)), some (.int (nI len)), some (.long F), none, some (.ref (w + 16)), some (.int (I 47 8)), none, none], [.ref (2 * k + 89), .int ((I 47 8) + (((I 47 8) * (x_pd9 I (I (w + 16) 0) c 0)) / 100))], qS true gc I J) (q_hn _ _ _ _) rfl ?_
  refine G_get (ci := 1) (k := 5) (i := 2 * k + 89) rfl rfl (q_shG (by omega)).1 (q_ltG (by omega)).1 ?_
  refine G_st (L := 89) (k := 6) (137, [some (.ref 0), some (.ref (2 * k + 89)), some (.int (nI len)), some (.long F), none, some (.ref (w + 16)), some (.int (I 47 8)), some (.int (((I 47 8) + (((I 47 8) * (x_pd9 I (I (w + 16) 0) c 0)) / 100)) + (I (2 * k + 89) 5))), none], [.int 3, .ref 9, .int (((I 47 8) + (((I 47 8) * (x_pd9 I (I (w + 16) 0) c 0)) / 100)) + (I (2 * k + 89) 5))], qS true gc I J) (q_hn _ _ _ _) rfl ?_
  refine G_callV (b := 9) (ci := 2) (as := [.int 3]) (rest := [.int (((I 47 8) + (((I 47 8) * (x_pd9 I (I (w + 16) 0) c 0)) / 100)) + (I (2 * k + 89) 5))]) rfl rfl rfl (q_lt (by decide)) (by decide) rfl rfl (Nat.le_of_ble_eq_true rfl) x_numberOf9_3 x_out_n ?_
  refine G_st (L := 89) (k := 2) (143, [some (.ref 0), some (.ref (2 * k + 89)), some (.int (nI len)), some (.long F), none, some (.ref (w + 16)), some (.int (I 47 8)), some (.int (((I 47 8) + (((I 47 8) * (x_pd9 I (I (w + 16) 0) c 0)) / 100)) + (I (2 * k + 89) 5))), none], [.int 100, .int ((((I 47 8) + (((I 47 8) * (x_pd9 I (I (w + 16) 0) c 0)) / 100)) + (I (2 * k + 89) 5)) * (I 10 3))], qS true gc I J) (q_hn _ _ _ _) rfl ?_
  refine G_idiv rfl (by decide) ?_
  refine G_st (L := 89) (k := 14) (168, [some (.ref 0), some (.ref (2 * k + 89)), some (.int (nI len)), some (.long F), none, some (.ref (w + 16)), some (.int (I 47 8)), some (.int (((I 47 8) + (((I 47 8) * (x_pd9 I (I (w + 16) 0) c 0)) / 100)) + (I (2 * k + 89) 5))), some (.int (((((I 47 8) + (((I 47 8) * (x_pd9 I (I (w + 16) 0) c 0)) / 100)) + (I (2 * k + 89) 5)) * (I 10 3)) / 100))], [.int 2, .ref 9, .int ((((I 47 8) + (((I 47 8) * (x_pd9 I (I (w + 16) 0) c 0)) / 100)) + (I (2 * k + 89) 5)) - (((((I 47 8) + (((I 47 8) * (x_pd9 I (I (w + 16) 0) c 0)) / 100)) + (I (2 * k + 89) 5)) * (I 10 3)) / 100)), .ref (2 * k + 89)], qS true gc (q_u I 0 11 ((I 0 11) + (((((I 47 8) + (((I 47 8) * (x_pd9 I (I (w + 16) 0) c 0)) / 100)) + (I (2 * k + 89) 5)) * (I 10 3)) / 100))) J) (q_hn _ _ _ _) rfl ?_
  refine G_callV (b := 9) (ci := 2) (as := [.int 2]) (rest := [.int ((((I 47 8) + (((I 47 8) * (x_pd9 I (I (w + 16) 0) c 0)) / 100)) + (I (2 * k + 89) 5)) - (((((I 47 8) + (((I 47 8) * (x_pd9 I (I (w + 16) 0) c 0)) / 100)) + (I (2 * k + 89) 5)) * (I 10 3)) / 100)), .ref (2 * k + 89)]) rfl rfl rfl (q_lt (by decide)) (by decide) rfl rfl (Nat.le_of_ble_eq_true rfl) x_numberOf9_2 x_out_n ?_
  refine G_st (L := 89) (k := 0) (171, [some (.ref 0), some (.ref (2 * k + 89)), some (.int (nI len)), some (.long F), none, some (.ref (w + 16)), some (.int (I 47 8)), some (.int (((I 47 8) + (((I 47 8) * (x_pd9 I (I (w + 16) 0) c 0)) / 100)) + (I (2 * k + 89) 5))), some (.int (((((I 47 8) + (((I 47 8) * (x_pd9 I (I (w + 16) 0) c 0)) / 100)) + (I (2 * k + 89) 5)) * (I 10 3)) / 100))], [.int (I 10 2), .int ((((I 47 8) + (((I 47 8) * (x_pd9 I (I (w + 16) 0) c 0)) / 100)) + (I (2 * k + 89) 5)) - (((((I 47 8) + (((I 47 8) * (x_pd9 I (I (w + 16) 0) c 0)) / 100)) + (I (2 * k + 89) 5)) * (I 10 3)) / 100)), .ref (2 * k + 89)], qS true gc (q_u I 0 11 ((I 0 11) + (((((I 47 8) + (((I 47 8) * (x_pd9 I (I (w + 16) 0) c 0)) / 100)) + (I (2 * k + 89) 5)) * (I 10 3)) / 100))) J) (q_hn _ _ _ _) rfl ?_
  refine G_callV (b := 2 * k + 89) (ci := 1) (as := [.int ((((I 47 8) + (((I 47 8) * (x_pd9 I (I (w + 16) 0) c 0)) / 100)) + (I (2 * k + 89) 5)) - (((((I 47 8) + (((I 47 8) * (x_pd9 I (I (w + 16) 0) c 0)) / 100)) + (I (2 * k + 89) 5)) * (I 10 3)) / 100)), .int (I 10 2)]) (rest := []) rfl rfl (q_shG (by omega)).1 (q_ltG (by omega)).1 (by decide) rfl rfl (Nat.le_of_ble_eq_true rfl) (x_takePay hk hg) x_out_n ?_
  refine G_st (L := 89) (k := 3) (179, [some (.ref 0), some (.ref (2 * k + 89)), some (.int (nI len)), some (.long F), none, some (.ref (w + 16)), some (.int (I 47 8)), some (.int (((I 47 8) + (((I 47 8) * (x_pd9 I (I (w + 16) 0) c 0)) / 100)) + (I (2 * k + 89) 5))), some (.int (((((I 47 8) + (((I 47 8) * (x_pd9 I (I (w + 16) 0) c 0)) / 100)) + (I (2 * k + 89) 5)) * (I 10 3)) / 100))], [.int ((((I 47 8) + (((I 47 8) * (x_pd9 I (I (w + 16) 0) c 0)) / 100)) + (I (2 * k + 89) 5)) - (((((I 47 8) + (((I 47 8) * (x_pd9 I (I (w + 16) 0) c 0)) / 100)) + (I (2 * k + 89) 5)) * (I 10 3)) / 100))], qS true gc (x_tp (q_u I 0 11 ((I 0 11) + (((((I 47 8) + (((I 47 8) * (x_pd9 I (I (w + 16) 0) c 0)) / 100)) + (I (2 * k + 89) 5)) * (I 10 3)) / 100))) k ((((I 47 8) + (((I 47 8) * (x_pd9 I (I (w + 16) 0) c 0)) / 100)) + (I (2 * k + 89) 5)) - (((((I 47 8) + (((I 47 8) * (x_pd9 I (I (w + 16) 0) c 0)) / 100)) + (I (2 * k + 89) 5)) * (I 10 3)) / 100)) (I 10 2)) J) (q_hn _ _ _ _) rfl ?_
  exact G_iret rfl rfl rfl rfl
theorem x_wbC {d : Nat} {sw : Bool} {gc : Nat} {I : Nat → Nat → Int32} {J : Nat → Nat → Int64} {k w c len : Nat} {F : Int64} (hk : k < gc) (hg : gc ≤ 8) (hw : w < 30) (hc : x_pds sw I = nI c) (hc4 : c ≤ 4) : G (d + 2) 96 (93, [some (.ref 0), some (.ref (2 * k + 89)), some (.int (nI len)), some (.long F), none, some (.ref (w + 16)), none, none, none], [], qS sw gc I J) (some (.int ((x_ear sw I w k c) - (x_clb sw I w k c)))) (qS sw gc (x_wC sw I w k c) J) := by
  cases sw with
  | false => exact x_wbC_false hk hg hw hc hc4
  | true => exact x_wbC_true hk hg hw hc hc4
def x_loB (I : Nat → Nat → Int32) (w : Nat) (h : Int32) : Nat → Nat → Int32 := if w < 24 then x_loA I w h else I
theorem x_loosen {d : Nat} {sw : Bool} {gc : Nat} {I : Nat → Nat → Int32} {J : Nat → Nat → Int64} {w : Nat} {h : Int32} (hw : w < 30) : GM (d + 1) 6 [.ref 14, .int (nI w), .int h] (qS sw gc I J) none (qS sw gc (x_loB I w h) J) := by
  by_cases h24 : w < 24
  · rw [x_loB, if_pos h24]; exact x_loosenAbove h24
  · rw [x_loB, if_neg h24]; exact x_loosenAboveH hw (by omega)
theorem x_loB_un (I : Nat → Nat → Int32) (w : Nat) (h : Int32) {a b : Nat} (hne : ¬ (a = w + 6 + 16 ∧ b = 2)) : x_loB I w h a b = I a b := by
  unfold x_loB x_loA
  split
  · split
    · rfl
    · split
      · rfl
      · exact q_un _ _ hne
  · rfl
def x_wB (sw : Bool) (I : Nat → Nat → Int32) (w : Nat) : Nat → Nat → Int32 := x_loB (q_u (q_u (q_u I 0 13 ((I 0 13) + (I 47 7))) 0 12 ((I 0 12) + 1)) (w + 16) 1 ((I (w + 16) 1) + 1)) w (x_num sw I 1)
theorem x_wB_un (sw : Bool) (I : Nat → Nat → Int32) (w : Nat) {a b : Nat} (h : ¬ (a = 0 ∧ (b = 12 ∨ b = 13)) ∧ ¬ (a = w + 16 ∧ b = 1) ∧ ¬ (a = w + 6 + 16 ∧ b = 2)) : x_wB sw I w a b = I a b := by
  unfold x_wB
  rw [x_loB_un _ _ _ (by omega), q_un _ _ (by omega), q_un _ _ (by omega), q_un _ _ (by omega)]
theorem x_pd4_congr {I I2 : Nat → Nat → Int32} {g : Int32} (h : ∀ b, I2 7 b = I 7 b) (h2 : ∀ b, I2 8 b = I 8 b) : ∀ (m i : Nat), x_pd4 I2 g m i = x_pd4 I g m i
  | 0, i => rfl
  | m + 1, i => by unfold x_pd4; rw [h, h2, x_pd4_congr h h2 m (i + 1)]
theorem x_pd9_congr {I I2 : Nat → Nat → Int32} {g : Int32} (h : ∀ b, I2 12 b = I 12 b) (h2 : ∀ b, I2 13 b = I 13 b) : ∀ (m i : Nat), x_pd9 I2 g m i = x_pd9 I g m i
  | 0, i => rfl
  | m + 1, i => by unfold x_pd9; rw [h, h2, x_pd9_congr h h2 m (i + 1)]
theorem x_wbB_false {d : Nat} {gc : Nat} {I : Nat → Nat → Int32} {J : Nat → Nat → Int64} {k w c len : Nat} {F : Int64} (hk : k < gc) (hg : gc ≤ 8) (hw : w < 30) (hc : x_pds false I = nI c) (hc4 : c ≤ 4) (hwk : I (2 * k + 89) 4 = nI w) : G (d + 2) 96 (37, [some (.ref 0), some (.ref (2 * k + 89)), some (.int (nI len)), some (.long F), none, some (.ref (w + 16)), none, none, none], [], qS false gc I J) (some (.int ((x_ear false (x_wB false I w) w k c) - (x_clb false (x_wB false I w) w k c)))) (qS false gc (x_wC false (x_wB false I w) w k c) J) := by
  refine G_st (L := 89) (k := 16) (66, [some (.ref 0), some (.ref (2 * k + 89)), some (.int (nI len)), some (.long F), none, some (.ref (w + 16)), none, none, none], [.ref (w + 16), .ref (w + 16)], qS false gc (q_u (q_u I 0 13 ((I 0 13) + (I 47 7))) 0 12 ((I 0 12) + 1)) J) (q_hn _ _ _ _) rfl ?_
  refine G_get (ci := 7) (k := 1) (i := w + 16) rfl rfl (q_shW (by omega)) (q_ltW (by omega)) ?_
  rw [show q_av (qS false gc (q_u (q_u I 0 13 ((I 0 13) + (I 47 7))) 0 12 ((I 0 12) + 1)) J) (w + 16) (q_fty 7 1) 1 = .int (I (w + 16) 1) from congrArg Value.int (show (q_u (q_u I 0 13 ((I 0 13) + (I 47 7))) 0 12 ((I 0 12) + 1)) (w + 16) 1 = I (w + 16) 1 from (q_un _ _ (by omega)).trans (q_un _ _ (by omega)))]
  refine G_st (L := 89) (k := 2) (71, [some (.ref 0), some (.ref (2 * k + 89)), some (.int (nI len)), some (.long F), none, some (.ref (w + 16)), none, none, none], [.int ((I (w + 16) 1) + 1), .ref (w + 16)], qS false gc (q_u (q_u I 0 13 ((I 0 13) + (I 47 7))) 0 12 ((I 0 12) + 1)) J) (q_hn _ _ _ _) rfl ?_
  refine G_put (ci := 7) (k := 1) (i := w + 16) (M1 := qS false gc (q_u (q_u (q_u I 0 13 ((I 0 13) + (I 47 7))) 0 12 ((I 0 12) + 1)) (w + 16) 1 ((I (w + 16) 1) + 1)) J) rfl rfl (q_shW (by omega)) (q_ltW (by omega)) rfl rfl rfl ?_
  refine G_st (L := 89) (k := 3) (79, [some (.ref 0), some (.ref (2 * k + 89)), some (.int (nI len)), some (.long F), none, some (.ref (w + 16)), none, none, none], [.ref (2 * k + 89), .ref 14], qS false gc (q_u (q_u (q_u I 0 13 ((I 0 13) + (I 47 7))) 0 12 ((I 0 12) + 1)) (w + 16) 1 ((I (w + 16) 1) + 1)) J) (q_hn _ _ _ _) rfl ?_
  refine G_get (ci := 1) (k := 4) (i := 2 * k + 89) rfl rfl (q_shG (by omega)).1 (q_ltG (by omega)).1 ?_
  rw [show q_av (qS false gc (q_u (q_u (q_u I 0 13 ((I 0 13) + (I 47 7))) 0 12 ((I 0 12) + 1)) (w + 16) 1 ((I (w + 16) 1) + 1)) J) (2 * k + 89) (q_fty 1 4) 4 = .int (I (2 * k + 89) 4) from congrArg Value.int (show (q_u (q_u (q_u I 0 13 ((I 0 13) + (I 47 7))) 0 12 ((I 0 12) + 1)) (w + 16) 1 ((I (w + 16) 1) + 1)) (2 * k + 89) 4 = I (2 * k + 89) 4 from (q_un _ _ (by omega)).trans ((q_un _ _ (by omega)).trans (q_un _ _ (by omega))))]
  refine G_st (L := 89) (k := 3) (87, [some (.ref 0), some (.ref (2 * k + 89)), some (.int (nI len)), some (.long F), none, some (.ref (w + 16)), none, none, none], [.int 1, .ref 4, .int (I (2 * k + 89) 4), .ref 14], qS false gc (q_u (q_u (q_u I 0 13 ((I 0 13) + (I 47 7))) 0 12 ((I 0 12) + 1)) (w + 16) 1 ((I (w + 16) 1) + 1)) J) (q_hn _ _ _ _) rfl ?_
  rw [show I (2 * k + 89) 4 = nI w from hwk]
  refine G_callV (b := 4) (ci := 2) (as := [.int 1]) (rest := [.int (nI w), .ref 14]) rfl rfl rfl (q_lt (by decide)) (by decide) rfl rfl (Nat.le_of_ble_eq_true rfl) (GM_r x_numberOf4_1 (show (q_u (q_u (q_u I 0 13 ((I 0 13) + (I 47 7))) 0 12 ((I 0 12) + 1)) (w + 16) 1 ((I (w + 16) 1) + 1)) 5 1 = I 5 1 from (q_un _ _ (by omega)).trans ((q_un _ _ (by omega)).trans (q_un _ _ (by omega))))) x_out_n ?_
  refine G_st (L := 89) (k := 0) (90, [some (.ref 0), some (.ref (2 * k + 89)), some (.int (nI len)), some (.long F), none, some (.ref (w + 16)), none, none, none], [.int (I 5 1), .int (nI w), .ref 14], qS false gc (q_u (q_u (q_u I 0 13 ((I 0 13) + (I 47 7))) 0 12 ((I 0 12) + 1)) (w + 16) 1 ((I (w + 16) 1) + 1)) J) (q_hn _ _ _ _) rfl ?_
  refine G_callV (b := 14) (ci := 0) (as := [.int (nI w), .int (I 5 1)]) (rest := []) rfl rfl rfl (q_lt (by decide)) (by decide) rfl rfl (Nat.le_of_ble_eq_true rfl) (x_loosen hw) x_out_n ?_
  refine G_st (L := 89) (k := 0) (93, [some (.ref 0), some (.ref (2 * k + 89)), some (.int (nI len)), some (.long F), none, some (.ref (w + 16)), none, none, none], [], qS false gc (x_wB false I w) J) (q_hn _ _ _ _) rfl ?_
  exact x_wbC_false hk hg hw (by rw [← hc]; exact x_wB_un false I w (by omega)) hc4
theorem x_wbB_true {d : Nat} {gc : Nat} {I : Nat → Nat → Int32} {J : Nat → Nat → Int64} {k w c len : Nat} {F : Int64} (hk : k < gc) (hg : gc ≤ 8) (hw : w < 30) (hc : x_pds true I = nI c) (hc4 : c ≤ 4) (hwk : I (2 * k + 89) 4 = nI w) : G (d + 2) 96 (37, [some (.ref 0), some (.ref (2 * k + 89)), some (.int (nI len)), some (.long F), none, some (.ref (w + 16)), none, none, none], [], qS true gc I J) (some (.int ((x_ear true (x_wB true I w) w k c) - (x_clb true (x_wB true I w) w k c)))) (qS true gc (x_wC true (x_wB true I w) w k c) J) := by
  refine G_st (L := 89) (k := 16) (66, [some (.ref 0), some (.ref (2 * k + 89)), some (.int (nI len)), some (.long F), none, some (.ref (w + 16)), none, none, none], [.ref (w + 16), .ref (w + 16)], qS true gc (q_u (q_u I 0 13 ((I 0 13) + (I 47 7))) 0 12 ((I 0 12) + 1)) J) (q_hn _ _ _ _) rfl ?_
  refine G_get (ci := 7) (k := 1) (i := w + 16) rfl rfl (q_shW (by omega)) (q_ltW (by omega)) ?_
  rw [show q_av (qS true gc (q_u (q_u I 0 13 ((I 0 13) + (I 47 7))) 0 12 ((I 0 12) + 1)) J) (w + 16) (q_fty 7 1) 1 = .int (I (w + 16) 1) from congrArg Value.int (show (q_u (q_u I 0 13 ((I 0 13) + (I 47 7))) 0 12 ((I 0 12) + 1)) (w + 16) 1 = I (w + 16) 1 from (q_un _ _ (by omega)).trans (q_un _ _ (by omega)))]
  refine G_st (L := 89) (k := 2) (71, [some (.ref 0), some (.ref (2 * k + 89)), some (.int (nI len)), some (.long F), none, some (.ref (w + 16)), none, none, none], [.int ((I (w + 16) 1) + 1), .ref (w + 16)], qS true gc (q_u (q_u I 0 13 ((I 0 13) + (I 47 7))) 0 12 ((I 0 12) + 1)) J) (q_hn _ _ _ _) rfl ?_
  refine G_put (ci := 7) (k := 1) (i := w + 16) (M1 := qS true gc (q_u (q_u (q_u I 0 13 ((I 0 13) + (I 47 7))) 0 12 ((I 0 12) + 1)) (w + 16) 1 ((I (w + 16) 1) + 1)) J) rfl rfl (q_shW (by omega)) (q_ltW (by omega)) rfl rfl rfl ?_
  refine G_st (L := 89) (k := 3) (79, [some (.ref 0), some (.ref (2 * k + 89)), some (.int (nI len)), some (.long F), none, some (.ref (w + 16)), none, none, none], [.ref (2 * k + 89), .ref 14], qS true gc (q_u (q_u (q_u I 0 13 ((I 0 13) + (I 47 7))) 0 12 ((I 0 12) + 1)) (w + 16) 1 ((I (w + 16) 1) + 1)) J) (q_hn _ _ _ _) rfl ?_
  refine G_get (ci := 1) (k := 4) (i := 2 * k + 89) rfl rfl (q_shG (by omega)).1 (q_ltG (by omega)).1 ?_
  rw [show q_av (qS true gc (q_u (q_u (q_u I 0 13 ((I 0 13) + (I 47 7))) 0 12 ((I 0 12) + 1)) (w + 16) 1 ((I (w + 16) 1) + 1)) J) (2 * k + 89) (q_fty 1 4) 4 = .int (I (2 * k + 89) 4) from congrArg Value.int (show (q_u (q_u (q_u I 0 13 ((I 0 13) + (I 47 7))) 0 12 ((I 0 12) + 1)) (w + 16) 1 ((I (w + 16) 1) + 1)) (2 * k + 89) 4 = I (2 * k + 89) 4 from (q_un _ _ (by omega)).trans ((q_un _ _ (by omega)).trans (q_un _ _ (by omega))))]
  refine G_st (L := 89) (k := 3) (87, [some (.ref 0), some (.ref (2 * k + 89)), some (.int (nI len)), some (.long F), none, some (.ref (w + 16)), none, none, none], [.int 1, .ref 9, .int (I (2 * k + 89) 4), .ref 14], qS true gc (q_u (q_u (q_u I 0 13 ((I 0 13) + (I 47 7))) 0 12 ((I 0 12) + 1)) (w + 16) 1 ((I (w + 16) 1) + 1)) J) (q_hn _ _ _ _) rfl ?_
  rw [show I (2 * k + 89) 4 = nI w from hwk]
  refine G_callV (b := 9) (ci := 2) (as := [.int 1]) (rest := [.int (nI w), .ref 14]) rfl rfl rfl (q_lt (by decide)) (by decide) rfl rfl (Nat.le_of_ble_eq_true rfl) (GM_r x_numberOf9_1 (show (q_u (q_u (q_u I 0 13 ((I 0 13) + (I 47 7))) 0 12 ((I 0 12) + 1)) (w + 16) 1 ((I (w + 16) 1) + 1)) 10 1 = I 10 1 from (q_un _ _ (by omega)).trans ((q_un _ _ (by omega)).trans (q_un _ _ (by omega))))) x_out_n ?_
  refine G_st (L := 89) (k := 0) (90, [some (.ref 0), some (.ref (2 * k + 89)), some (.int (nI len)), some (.long F), none, some (.ref (w + 16)), none, none, none], [.int (I 10 1), .int (nI w), .ref 14], qS true gc (q_u (q_u (q_u I 0 13 ((I 0 13) + (I 47 7))) 0 12 ((I 0 12) + 1)) (w + 16) 1 ((I (w + 16) 1) + 1)) J) (q_hn _ _ _ _) rfl ?_
  refine G_callV (b := 14) (ci := 0) (as := [.int (nI w), .int (I 10 1)]) (rest := []) rfl rfl rfl (q_lt (by decide)) (by decide) rfl rfl (Nat.le_of_ble_eq_true rfl) (x_loosen hw) x_out_n ?_
  refine G_st (L := 89) (k := 0) (93, [some (.ref 0), some (.ref (2 * k + 89)), some (.int (nI len)), some (.long F), none, some (.ref (w + 16)), none, none, none], [], qS true gc (x_wB true I w) J) (q_hn _ _ _ _) rfl ?_
  exact x_wbC_true hk hg hw (by rw [← hc]; exact x_wB_un true I w (by omega)) hc4
theorem x_wbB {d : Nat} {sw : Bool} {gc : Nat} {I : Nat → Nat → Int32} {J : Nat → Nat → Int64} {k w c len : Nat} {F : Int64} (hk : k < gc) (hg : gc ≤ 8) (hw : w < 30) (hc : x_pds sw I = nI c) (hc4 : c ≤ 4) (hwk : I (2 * k + 89) 4 = nI w) : G (d + 2) 96 (37, [some (.ref 0), some (.ref (2 * k + 89)), some (.int (nI len)), some (.long F), none, some (.ref (w + 16)), none, none, none], [], qS sw gc I J) (some (.int ((x_ear sw (x_wB sw I w) w k c) - (x_clb sw (x_wB sw I w) w k c)))) (qS sw gc (x_wC sw (x_wB sw I w) w k c) J) := by
  cases sw with
  | false => exact x_wbB_false hk hg hw hc hc4 hwk
  | true => exact x_wbB_true hk hg hw hc hc4 hwk
theorem x_putP_un : ∀ (l : List (Option Nat)) (i : Nat) (I : Nat → Nat → Int32) (a b : Nat), a ≠ 52 → ¬ (a = 47 ∧ (b = 6 ∨ b = 7)) → x_putP l i I a b = I a b
  | [], i, I, a, b, _, _ => rfl
  | none :: t, i, I, a, b, h1, h2 => by
    unfold x_putP
    rw [x_putP_un t (i + 1) _ a b h1 h2, q_un _ _ (by omega), q_un _ _ (by omega), q_un _ _ (by omega)]
  | some k :: t, i, I, a, b, h1, h2 => by
    unfold x_putP
    rw [x_putP_un t (i + 1) _ a b h1 h2, q_un _ _ (by omega), q_un _ _ (by omega)]
theorem x_putP_52 : ∀ (l : List (Option Nat)) (i : Nat) (I : Nat → Nat → Int32) (b : Nat), b < i → x_putP l i I 52 b = I 52 b
  | [], i, I, b, _ => rfl
  | none :: t, i, I, b, h => by
    unfold x_putP
    rw [x_putP_52 t (i + 1) _ b (by omega), q_un _ _ (by omega), q_un _ _ (by omega), q_un _ _ (by omega)]
  | some k :: t, i, I, b, h => by
    unfold x_putP
    rw [x_putP_52 t (i + 1) _ b (by omega), q_un _ _ (by omega), q_un _ _ (by omega)]
theorem x_putP_at : ∀ (l : List (Option Nat)) (i : Nat) (I : Nat → Nat → Int32) (j : Nat) (o : Option Nat), l[j]? = some o → x_putP l i I 52 (i + j) = x_pv o
  | [], i, I, j, o, h => by simp at h
  | none :: t, i, I, 0, o, h => by
    simp at h; subst h
    unfold x_putP
    change x_putP t (i + 1) _ 52 i = _
    rw [x_putP_52 t (i + 1) _ i (by omega), q_un _ _ (by omega), q_un _ _ (by omega), q_us]; rfl
  | some k :: t, i, I, 0, o, h => by
    simp at h; subst h
    unfold x_putP
    change x_putP t (i + 1) _ 52 i = _
    rw [x_putP_52 t (i + 1) _ i (by omega), q_un _ _ (by omega), q_us]; rfl
  | none :: t, i, I, j + 1, o, h => by
    rw [List.getElem?_cons_succ] at h
    unfold x_putP
    rw [show i + (j + 1) = i + 1 + j by omega]
    exact x_putP_at t (i + 1) _ j o h
  | some k :: t, i, I, j + 1, o, h => by
    rw [List.getElem?_cons_succ] at h
    unfold x_putP
    rw [show i + (j + 1) = i + 1 + j by omega]
    exact x_putP_at t (i + 1) _ j o h
def q_cn0 : List (Option Nat) → Nat
  | [] => 0
  | none :: t => q_cn0 t + 1
  | some _ :: t => q_cn0 t
theorem x_putP_6 : ∀ (l : List (Option Nat)) (i c : Nat) (I : Nat → Nat → Int32), I 47 6 = nI c → x_putP l i I 47 6 = nI (c + l.length)
  | [], i, c, I, h => h
  | none :: t, i, c, I, h => by
    unfold x_putP
    rw [x_putP_6 t (i + 1) (c + 1) _ (by rw [q_un _ _ (by omega), q_us, h, nI_1]), List.length_cons, show c + 1 + t.length = c + (t.length + 1) by omega]
  | some k :: t, i, c, I, h => by
    unfold x_putP
    rw [x_putP_6 t (i + 1) (c + 1) _ (by rw [q_us, h, nI_1]), List.length_cons, show c + 1 + t.length = c + (t.length + 1) by omega]
theorem x_putP_7 : ∀ (l : List (Option Nat)) (i c : Nat) (I : Nat → Nat → Int32), I 47 7 = nI c → x_putP l i I 47 7 = nI (c + q_cn0 l)
  | [], i, c, I, h => h
  | none :: t, i, c, I, h => by
    unfold x_putP
    rw [x_putP_7 t (i + 1) (c + 1) _ (by rw [q_us, h, nI_1]), q_cn0, show c + 1 + q_cn0 t = c + (q_cn0 t + 1) by omega]
  | some k :: t, i, c, I, h => by
    unfold x_putP
    rw [x_putP_7 t (i + 1) c _ (by rw [q_un _ _ (by omega), q_un _ _ (by omega)]; exact h), q_cn0]
theorem q_psl_len (f : Nat → Option Nat) (L : Nat → Nat) (len : Nat) : ∀ (m p : Nat), (q_psl f L len m p).length ≤ m
  | 0, p => Nat.le_refl _
  | m + 1, p => by
    unfold q_psl
    split
    · rw [List.length_cons]; exact Nat.succ_le_succ (q_psl_len f L len m _)
    · exact Nat.zero_le _
theorem q_psl_lt {f : Nat → Option Nat} {n : Nat} (hf : ∀ p k, f p = some k → k < n) (L : Nat → Nat) (len : Nat) : ∀ (m p j : Nat) (k : Nat), (q_psl f L len m p)[j]? = some (some k) → k < n
  | 0, p, j, k, h => by simp [q_psl] at h
  | m + 1, p, j, k, h => by
    unfold q_psl at h
    split at h
    · cases j with
      | zero => simp at h; exact hf p k h
      | succ j => rw [List.getElem?_cons_succ] at h; exact q_psl_lt hf L len m _ j k h
    · simp at h
/-- the pieces of a block -/
def x_pcs (I : Nat → Nat → Int32) (L : Nat → Nat) (n len : Nat) (F : Int64) : List (Option Nat) := q_psl (fun q => x_pk (x_mo I L n len F) L n len F q) L len len 0
def x_wA (I : Nat → Nat → Int32) (L : Nat → Nat) (n len : Nat) (F : Int64) : Nat → Nat → Int32 := x_csl (x_pcs I L n len F) (x_ctI I L n len F)
theorem x_csl_un : ∀ (l : List (Option Nat)) (I : Nat → Nat → Int32) (a b : Nat), a ≠ 50 → x_csl l I a b = I a b
  | [], I, a, b, _ => rfl
  | none :: t, I, a, b, h => by unfold x_csl; exact x_csl_un t I a b h
  | some k :: t, I, a, b, h => by unfold x_csl; rw [x_csl_un t _ a b h, q_un _ _ (by omega)]
theorem x_out_un {L : Nat → Nat} {n len : Nat} {F : Int64} : ∀ (p : Nat) (I : Nat → Nat → Int32) (a b : Nat), a ≠ 51 → x_out L n len F p I a b = I a b
  | 0, I, a, b, _ => rfl
  | p + 1, I, a, b, h => by unfold x_out; rw [x_out_un p _ a b h, q_un _ _ (by omega)]
theorem x_mo_un {I : Nat → Nat → Int32} {L : Nat → Nat} {n len : Nat} {F : Int64} {a b : Nat} (h : a ≠ 51) : x_mo I L n len F a b = I a b := by
  unfold x_mo; rw [x_out_un _ _ a b h, q_un _ _ (by omega)]
theorem x_ctI_un {I : Nat → Nat → Int32} {L : Nat → Nat} {n len : Nat} {F : Int64} {a b : Nat} (h : a ≠ 51 ∧ a ≠ 52 ∧ ¬ (a = 47 ∧ (b = 6 ∨ b = 7 ∨ b = 8))) : x_ctI I L n len F a b = I a b := by
  unfold x_ctI
  rw [x_putP_un _ _ _ a b (by omega) (by omega)]
  unfold x_ct0
  rw [q_un _ _ (by omega), q_un _ _ (by omega), q_un _ _ (by omega), x_mo_un (by omega)]
theorem x_ctI_8 {I : Nat → Nat → Int32} {L : Nat → Nat} {n len : Nat} {F : Int64} : x_ctI I L n len F 47 8 = x_mo I L n len F 51 0 := by
  unfold x_ctI
  rw [x_putP_un _ _ _ _ _ (by omega) (by omega)]
  unfold x_ct0
  rw [q_un _ _ (by omega), q_un _ _ (by omega), q_us]
theorem x_ctI_6 {I : Nat → Nat → Int32} {L : Nat → Nat} {n len : Nat} {F : Int64} : x_ctI I L n len F 47 6 = nI (x_pcs I L n len F).length := by
  unfold x_ctI
  rw [x_putP_6 _ 0 0 _ (by unfold x_ct0; rw [q_un _ _ (by omega), q_us]; rfl), Nat.zero_add]; rfl
theorem x_ctI_7 {I : Nat → Nat → Int32} {L : Nat → Nat} {n len : Nat} {F : Int64} : x_ctI I L n len F 47 7 = nI (q_cn0 (x_pcs I L n len F)) := by
  unfold x_ctI
  rw [x_putP_7 _ 0 0 _ (by unfold x_ct0; rw [q_us]; rfl), Nat.zero_add]; rfl
theorem x_ctI_52 {I : Nat → Nat → Int32} {L : Nat → Nat} {n len : Nat} {F : Int64} {j : Nat} {o : Option Nat} (h : (x_pcs I L n len F)[j]? = some o) : x_ctI I L n len F 52 j = x_pv o := by
  have := x_putP_at (x_pcs I L n len F) 0 (x_ct0 I L n len F) j o h
  rw [Nat.zero_add] at this
  exact this
theorem x_pcs_len {I : Nat → Nat → Int32} {L : Nat → Nat} {n len : Nat} {F : Int64} : (x_pcs I L n len F).length ≤ len := q_psl_len _ _ _ _ _
theorem x_pcs_lt {I : Nat → Nat → Int32} {L : Nat → Nat} {n len : Nat} {F : Int64} {j k : Nat} (h : (x_pcs I L n len F)[j]? = some (some k)) : k < n := q_psl_lt (fun p k h => x_pk_lt h) _ _ _ _ j k h
theorem x_Sz.eqv {I I2 : Nat → Nat → Int32} {n : Nat} {L : Nat → Nat} (h : x_Sz I n L) (h1 : I2 47 3 = I 47 3) (h2 : ∀ k, I2 48 k = I 48 k) : x_Sz I2 n L := ⟨by rw [h1]; exact h.1, h.2.1, fun k hk => by rw [h2]; exact h.2.2 k hk⟩
theorem x_ctI_Sz {I : Nat → Nat → Int32} {L : Nat → Nat} {n len : Nat} {F : Int64} (h : x_Sz I n L) : x_Sz (x_ctI I L n len F) n L := h.eqv (x_ctI_un (by omega)) (fun k => x_ctI_un (by omega))
theorem x_wA_un {I : Nat → Nat → Int32} {L : Nat → Nat} {n len : Nat} {F : Int64} {a b : Nat} (h : a ≠ 50 ∧ a ≠ 51 ∧ a ≠ 52 ∧ ¬ (a = 47 ∧ (b = 6 ∨ b = 7 ∨ b = 8))) : x_wA I L n len F a b = I a b := by
  unfold x_wA; rw [x_csl_un _ _ _ _ (by omega), x_ctI_un (by omega)]
def x_wb (sw : Bool) (I : Nat → Nat → Int32) (L : Nat → Nat) (n len : Nat) (F : Int64) (w k c : Nat) : Nat → Nat → Int32 := x_wC sw (x_wB sw (x_wA I L n len F) w) w k c
def x_wbr (sw : Bool) (I : Nat → Nat → Int32) (L : Nat → Nat) (n len : Nat) (F : Int64) (w k c : Nat) : Int32 := (x_ear sw (x_wB sw (x_wA I L n len F) w) w k c) - (x_clb sw (x_wB sw (x_wA I L n len F) w) w k c)
theorem x_pds_eqv {sw : Bool} {I I2 : Nat → Nat → Int32} (h4 : I2 4 4 = I 4 4) (h9 : I2 9 4 = I 9 4) : x_pds sw I2 = x_pds sw I := by cases sw; exact h4; exact h9
theorem x_workBlock {d : Nat} {sw : Bool} {gc : Nat} {I : Nat → Nat → Int32} {J : Nat → Nat → Int64} {n : Nat} {L : Nat → Nat} (hz : x_Sz I n L) {len : Nat} {F : Int64} (hl : len ≤ 40) (hl1 : 1 ≤ len) (hb : f_isBlock (lN len) F = 1) {k w c : Nat} (hk : k < gc) (hg : gc ≤ 8) (hw : w < 30) (hwk : I (2 * k + 89) 4 = nI w) (hc : x_pds sw I = nI c) (hc4 : c ≤ 4) : GM (d + 4) 96 [.ref 0, .ref (2 * k + 89), .int (nI len), .long F] (qS sw gc I J) (some (.int (x_wbr sw I L n len F w k c))) (qS sw gc (x_wb sw I L n len F w k c) J) := by
  refine GM_of (by decide) (Nat.le_refl _) (Nat.le_of_ble_eq_true rfl) trivial ?_
  refine G_st (L := 89) (k := 0) (0, [some (.ref 0), some (.ref (2 * k + 89)), some (.int (nI len)), some (.long F), none, none, none, none, none], [], qS sw gc I J) (q_hn _ _ _ _) rfl ?_
  refine G_st (L := 89) (k := 3) (5, [some (.ref 0), some (.ref (2 * k + 89)), some (.int (nI len)), some (.long F), none, none, none, none, none], [.ref (2 * k + 89), .ref 14], qS sw gc I J) (q_hn _ _ _ _) rfl ?_
  refine G_get (ci := 1) (k := 4) (i := 2 * k + 89) rfl rfl (q_shG (by omega)).1 (q_ltG (by omega)).1 ?_
  refine G_st (L := 89) (k := 0) (8, [some (.ref 0), some (.ref (2 * k + 89)), some (.int (nI len)), some (.long F), none, none, none, none, none], [.int (I (2 * k + 89) 4), .ref 14], qS sw gc I J) (q_hn _ _ _ _) rfl ?_
  rw [show I (2 * k + 89) 4 = nI w from hwk]
  refine G_callV (b := 14) (ci := 0) (as := [.int (nI w)]) (rest := []) rfl rfl rfl (q_lt (by decide)) (by decide) rfl rfl (Nat.le_of_ble_eq_true rfl) (x_wallAt hw) x_out_n ?_
  refine G_st (L := 89) (k := 7) (27, [some (.ref 0), some (.ref (2 * k + 89)), some (.int (nI len)), some (.long F), none, some (.ref (w + 16)), none, none, none], [.long F, .int (nI len), .ref 47], qS sw gc I J) (q_hn _ _ _ _) rfl ?_
  refine G_callV (b := 47) (ci := 4) (as := [.int (nI len), .long F]) (rest := []) rfl rfl rfl (q_lt (by decide)) (by decide) rfl rfl (Nat.le_of_ble_eq_true rfl) (x_cut_ hz hl hl1 hb) x_out_n ?_
  refine G_st (L := 89) (k := 2) (34, [some (.ref 0), some (.ref (2 * k + 89)), some (.int (nI len)), some (.long F), none, some (.ref (w + 16)), none, none, none], [.ref 47], qS sw gc (x_ctI I L n len F) J) (q_hn _ _ _ _) rfl ?_
  refine G_callV (b := 47) (ci := 4) (as := []) (rest := []) rfl rfl rfl (q_lt (by decide)) (by decide) rfl rfl (Nat.le_of_ble_eq_true rfl) (x_countSlates (x_ctI_Sz hz) (c := (x_pcs I L n len F).length) (l := x_pcs I L n len F) (Nat.le_trans x_pcs_len hl) x_ctI_6 rfl (fun j o hj => ⟨x_ctI_52 hj, fun k hk => x_pcs_lt (by rw [← hk]; exact hj)⟩)) x_out_n ?_
  refine G_st (L := 89) (k := 0) (37, [some (.ref 0), some (.ref (2 * k + 89)), some (.int (nI len)), some (.long F), none, some (.ref (w + 16)), none, none, none], [], qS sw gc (x_wA I L n len F) J) (q_hn _ _ _ _) rfl ?_
  exact x_wbB hk hg hw (by rw [← hc]; exact x_pds_eqv (x_wA_un (by omega)) (x_wA_un (by omega))) hc4 (by rw [← hwk]; exact x_wA_un (by omega))
theorem x_work {d : Nat} {sw : Bool} {gc : Nat} {I : Nat → Nat → Int32} {J : Nat → Nat → Int64} {n : Nat} {L : Nat → Nat} (hz : x_Sz I n L) {len : Nat} {F : Int64} (hl : len ≤ 40) (hl1 : 1 ≤ len) (hb : f_isBlock (lN len) F = 1) {k w c : Nat} (hk : k < gc) (hg : gc ≤ 8) (hgc : I 0 6 = nI gc) (hw : w < 30) (hwk : I (2 * k + 89) 4 = nI w) (hc : x_pds sw I = nI c) (hc4 : c ≤ 4) (hmay : x_may I w = true) : GM (d + 5) 85 [.ref 0, .int (nI k), .int (nI len), .long F] (qS sw gc I J) (some (.int (x_wbr sw I L n len F w k c))) (qS sw gc (x_wb sw I L n len F w k c) J) := by
  refine GM_of (by decide) (Nat.le_refl _) (Nat.le_of_ble_eq_true rfl) trivial ?_
  refine G_st (L := 89) (k := 0) (0, [some (.ref 0), some (.int (nI k)), some (.int (nI len)), some (.long F), none, none], [], qS sw gc I J) (q_hn _ _ _ _) rfl ?_
  refine G_st (L := 89) (k := 3) (3, [some (.ref 0), some (.int (nI k)), some (.int (nI len)), some (.long F), none, none], [.long (Int32.toInt64 (nI k)), .ref 0], qS sw gc I J) (q_hn _ _ _ _) rfl ?_
  rw [show Int32.toInt64 (nI k) = lN k from (q_i2lP rfl (by omega))]
  refine G_callV (b := 0) (ci := 8) (as := [.long (lN k)]) (rest := []) rfl rfl rfl (q_lt (by decide)) (by decide) rfl rfl (Nat.le_of_ble_eq_true rfl) (x_gangAt hgc hg hk) x_out_n ?_
  refine G_st (L := 89) (k := 6) (16, [some (.ref 0), some (.int (nI k)), some (.int (nI len)), some (.long F), none, some (.ref (2 * k + 89))], [.long F, .long (Int32.toInt64 (nI len))], qS sw gc I J) (q_hn _ _ _ _) rfl ?_
  rw [show Int32.toInt64 (nI len) = lN len from (q_i2lP rfl (by omega))]
  refine G_callS (as := [.long (lN len), .long F]) (rest := []) rfl rfl rfl (Nat.le_of_ble_eq_true rfl) (GM_r (m_isBlock _ _) hb) x_out_n ?_
  refine G_st (L := 89) (k := 0) (19, [some (.ref 0), some (.int (nI k)), some (.int (nI len)), some (.long F), none, some (.ref (2 * k + 89))], [.int 1], qS sw gc I J) (q_hn _ _ _ _) rfl ?_
  refine G_if_ne 25 rfl rfl (fun _ => ?_) (fun h9 => absurd h9 (by decide))
  refine G_st (L := 89) (k := 3) (31, [some (.ref 0), some (.int (nI k)), some (.int (nI len)), some (.long F), none, some (.ref (2 * k + 89))], [.ref (2 * k + 89), .ref 14], qS sw gc I J) (q_hn _ _ _ _) rfl ?_
  refine G_get (ci := 1) (k := 4) (i := 2 * k + 89) rfl rfl (q_shG (by omega)).1 (q_ltG (by omega)).1 ?_
  refine G_st (L := 89) (k := 0) (34, [some (.ref 0), some (.int (nI k)), some (.int (nI len)), some (.long F), none, some (.ref (2 * k + 89))], [.int (I (2 * k + 89) 4), .ref 14], qS sw gc I J) (q_hn _ _ _ _) rfl ?_
  rw [show I (2 * k + 89) 4 = nI w from hwk]
  refine G_callV (b := 14) (ci := 0) (as := [.int (nI w)]) (rest := []) rfl rfl rfl (q_lt (by decide)) (by decide) rfl rfl (Nat.le_of_ble_eq_true rfl) (GM_r (x_mayBeWorked hw) (congrArg q_b hmay)) x_out_n ?_
  refine G_st (L := 89) (k := 0) (37, [some (.ref 0), some (.int (nI k)), some (.int (nI len)), some (.long F), none, some (.ref (2 * k + 89))], [.int 1], qS sw gc I J) (q_hn _ _ _ _) rfl ?_
  refine G_if_ne 43 rfl rfl (fun _ => ?_) (fun h9 => absurd h9 (by decide))
  refine G_st (L := 89) (k := 4) (48, [some (.ref 0), some (.int (nI k)), some (.int (nI len)), some (.long F), none, some (.ref (2 * k + 89))], [.long F, .int (nI len), .ref (2 * k + 89), .ref 0], qS sw gc I J) (q_hn _ _ _ _) rfl ?_
  refine G_callV (b := 0) (ci := 8) (as := [.ref (2 * k + 89), .int (nI len), .long F]) (rest := []) rfl rfl rfl (q_lt (by decide)) (by decide) rfl rfl (Nat.le_of_ble_eq_true rfl) (x_workBlock hz hl hl1 hb hk hg hw hwk hc hc4) x_out_n ?_
  refine G_st (L := 89) (k := 0) (51, [some (.ref 0), some (.int (nI k)), some (.int (nI len)), some (.long F), none, some (.ref (2 * k + 89))], [.int (x_wbr sw I L n len F w k c)], qS sw gc (x_wb sw I L n len F w k c) J) (q_hn _ _ _ _) rfl ?_
  exact G_iret rfl rfl rfl rfl
theorem x_workM {d : Nat} {sw : Bool} {gc : Nat} {I : Nat → Nat → Int32} {J : Nat → Nat → Int64} {k : Nat} (hgc : I 0 6 = nI gc) (hg : gc ≤ 8) (hk : k < gc) {w len : Nat} {F : Int64} (hb : f_isBlock (lN len) F = 1) (hl : len ≤ 40) (hw : w < 30) (hwk : I (2 * k + 89) 4 = nI w) (hmay : x_may I w = false) : GM (d + 5) 85 [.ref 0, .int (nI k), .int (nI len), .long F] (qS sw gc I J) (some (.int (-1000002))) (qS sw gc I J) := by
  refine GM_of (by decide) (Nat.le_refl _) (Nat.le_of_ble_eq_true rfl) trivial ?_
  refine G_st (L := 89) (k := 0) (0, [some (.ref 0), some (.int (nI k)), some (.int (nI len)), some (.long F), none, none], [], qS sw gc I J) (q_hn _ _ _ _) rfl ?_
  refine G_st (L := 89) (k := 3) (3, [some (.ref 0), some (.int (nI k)), some (.int (nI len)), some (.long F), none, none], [.long (Int32.toInt64 (nI k)), .ref 0], qS sw gc I J) (q_hn _ _ _ _) rfl ?_
  rw [show Int32.toInt64 (nI k) = lN k from (q_i2lP rfl (by omega))]
  refine G_callV (b := 0) (ci := 8) (as := [.long (lN k)]) (rest := []) rfl rfl rfl (q_lt (by decide)) (by decide) rfl rfl (Nat.le_of_ble_eq_true rfl) (x_gangAt hgc hg hk) x_out_n ?_
  refine G_st (L := 89) (k := 6) (16, [some (.ref 0), some (.int (nI k)), some (.int (nI len)), some (.long F), none, some (.ref (2 * k + 89))], [.long F, .long (Int32.toInt64 (nI len))], qS sw gc I J) (q_hn _ _ _ _) rfl ?_
  rw [show Int32.toInt64 (nI len) = lN len from (q_i2lP rfl (by omega))]
  refine G_callS (as := [.long (lN len), .long F]) (rest := []) rfl rfl rfl (Nat.le_of_ble_eq_true rfl) (GM_r (m_isBlock _ _) hb) x_out_n ?_
  refine G_st (L := 89) (k := 0) (19, [some (.ref 0), some (.int (nI k)), some (.int (nI len)), some (.long F), none, some (.ref (2 * k + 89))], [.int 1], qS sw gc I J) (q_hn _ _ _ _) rfl ?_
  refine G_if_ne 25 rfl rfl (fun _ => ?_) (fun h9 => absurd h9 (by decide))
  refine G_st (L := 89) (k := 3) (31, [some (.ref 0), some (.int (nI k)), some (.int (nI len)), some (.long F), none, some (.ref (2 * k + 89))], [.ref (2 * k + 89), .ref 14], qS sw gc I J) (q_hn _ _ _ _) rfl ?_
  refine G_get (ci := 1) (k := 4) (i := 2 * k + 89) rfl rfl (q_shG (by omega)).1 (q_ltG (by omega)).1 ?_
  refine G_st (L := 89) (k := 0) (34, [some (.ref 0), some (.int (nI k)), some (.int (nI len)), some (.long F), none, some (.ref (2 * k + 89))], [.int (I (2 * k + 89) 4), .ref 14], qS sw gc I J) (q_hn _ _ _ _) rfl ?_
  rw [show I (2 * k + 89) 4 = nI w from hwk]
  refine G_callV (b := 14) (ci := 0) (as := [.int (nI w)]) (rest := []) rfl rfl rfl (q_lt (by decide)) (by decide) rfl rfl (Nat.le_of_ble_eq_true rfl) (GM_r (x_mayBeWorked hw) (congrArg q_b hmay)) x_out_n ?_
  refine G_st (L := 89) (k := 0) (37, [some (.ref 0), some (.int (nI k)), some (.int (nI len)), some (.long F), none, some (.ref (2 * k + 89))], [.int 0], qS sw gc I J) (q_hn _ _ _ _) rfl ?_
  refine G_if_ne 43 rfl rfl (fun h9 => absurd h9 (by decide)) (fun _ => ?_)
  refine G_st (L := 89) (k := 1) (42, [some (.ref 0), some (.int (nI k)), some (.int (nI len)), some (.long F), none, some (.ref (2 * k + 89))], [.int (-1000002)], qS sw gc I J) (q_hn _ _ _ _) rfl ?_
  exact G_iret rfl rfl rfl rfl
theorem x_workN {d : Nat} {sw : Bool} {gc : Nat} {I : Nat → Nat → Int32} {J : Nat → Nat → Int64} {k : Nat} (hgc : I 0 6 = nI gc) (hg : gc ≤ 8) (hk : k < gc) {len : Nat} {F : Int64} (hb : f_isBlock (lN len) F = 1) (hl : len ≤ 40) (hwk : I (2 * k + 89) 4 = -4) : GM (d + 5) 85 [.ref 0, .int (nI k), .int (nI len), .long F] (qS sw gc I J) (some (.int (-1000002))) (qS sw gc I J) := by
  refine GM_of (by decide) (Nat.le_refl _) (Nat.le_of_ble_eq_true rfl) trivial ?_
  refine G_st (L := 89) (k := 0) (0, [some (.ref 0), some (.int (nI k)), some (.int (nI len)), some (.long F), none, none], [], qS sw gc I J) (q_hn _ _ _ _) rfl ?_
  refine G_st (L := 89) (k := 3) (3, [some (.ref 0), some (.int (nI k)), some (.int (nI len)), some (.long F), none, none], [.long (Int32.toInt64 (nI k)), .ref 0], qS sw gc I J) (q_hn _ _ _ _) rfl ?_
  rw [show Int32.toInt64 (nI k) = lN k from (q_i2lP rfl (by omega))]
  refine G_callV (b := 0) (ci := 8) (as := [.long (lN k)]) (rest := []) rfl rfl rfl (q_lt (by decide)) (by decide) rfl rfl (Nat.le_of_ble_eq_true rfl) (x_gangAt hgc hg hk) x_out_n ?_
  refine G_st (L := 89) (k := 6) (16, [some (.ref 0), some (.int (nI k)), some (.int (nI len)), some (.long F), none, some (.ref (2 * k + 89))], [.long F, .long (Int32.toInt64 (nI len))], qS sw gc I J) (q_hn _ _ _ _) rfl ?_
  rw [show Int32.toInt64 (nI len) = lN len from (q_i2lP rfl (by omega))]
  refine G_callS (as := [.long (lN len), .long F]) (rest := []) rfl rfl rfl (Nat.le_of_ble_eq_true rfl) (GM_r (m_isBlock _ _) hb) x_out_n ?_
  refine G_st (L := 89) (k := 0) (19, [some (.ref 0), some (.int (nI k)), some (.int (nI len)), some (.long F), none, some (.ref (2 * k + 89))], [.int 1], qS sw gc I J) (q_hn _ _ _ _) rfl ?_
  refine G_if_ne 25 rfl rfl (fun _ => ?_) (fun h9 => absurd h9 (by decide))
  refine G_st (L := 89) (k := 3) (31, [some (.ref 0), some (.int (nI k)), some (.int (nI len)), some (.long F), none, some (.ref (2 * k + 89))], [.ref (2 * k + 89), .ref 14], qS sw gc I J) (q_hn _ _ _ _) rfl ?_
  refine G_get (ci := 1) (k := 4) (i := 2 * k + 89) rfl rfl (q_shG (by omega)).1 (q_ltG (by omega)).1 ?_
  refine G_st (L := 89) (k := 0) (34, [some (.ref 0), some (.int (nI k)), some (.int (nI len)), some (.long F), none, some (.ref (2 * k + 89))], [.int (I (2 * k + 89) 4), .ref 14], qS sw gc I J) (q_hn _ _ _ _) rfl ?_
  refine G_callV (b := 14) (ci := 0) (as := [.int (I (2 * k + 89) 4)]) (rest := []) rfl rfl rfl (q_lt (by decide)) (by decide) rfl rfl (Nat.le_of_ble_eq_true rfl) (x_mayBeWorkedN (Or.inl (by rw [hwk]; decide))) x_out_n ?_
  refine G_st (L := 89) (k := 0) (37, [some (.ref 0), some (.int (nI k)), some (.int (nI len)), some (.long F), none, some (.ref (2 * k + 89))], [.int 0], qS sw gc I J) (q_hn _ _ _ _) rfl ?_
  refine G_if_ne 43 rfl rfl (fun h9 => absurd h9 (by decide)) (fun _ => ?_)
  refine G_st (L := 89) (k := 1) (42, [some (.ref 0), some (.int (nI k)), some (.int (nI len)), some (.long F), none, some (.ref (2 * k + 89))], [.int (-1000002)], qS sw gc I J) (q_hn _ _ _ _) rfl ?_
  exact G_iret rfl rfl rfl rfl
theorem x_workB {d : Nat} {sw : Bool} {gc : Nat} {I : Nat → Nat → Int32} {J : Nat → Nat → Int64} {k : Nat} (hgc : I 0 6 = nI gc) (hg : gc ≤ 8) (hk : k < gc) {x : Int32} {F : Int64} (hb : f_isBlock (Int32.toInt64 x) F = 0) : GM (d + 5) 85 [.ref 0, .int (nI k), .int x, .long F] (qS sw gc I J) (some (.int (-1000000))) (qS sw gc I J) := by
  refine GM_of (by decide) (Nat.le_refl _) (Nat.le_of_ble_eq_true rfl) trivial ?_
  refine G_st (L := 89) (k := 0) (0, [some (.ref 0), some (.int (nI k)), some (.int x), some (.long F), none, none], [], qS sw gc I J) (q_hn _ _ _ _) rfl ?_
  refine G_st (L := 89) (k := 3) (3, [some (.ref 0), some (.int (nI k)), some (.int x), some (.long F), none, none], [.long (Int32.toInt64 (nI k)), .ref 0], qS sw gc I J) (q_hn _ _ _ _) rfl ?_
  rw [show Int32.toInt64 (nI k) = lN k from (q_i2lP rfl (by omega))]
  refine G_callV (b := 0) (ci := 8) (as := [.long (lN k)]) (rest := []) rfl rfl rfl (q_lt (by decide)) (by decide) rfl rfl (Nat.le_of_ble_eq_true rfl) (x_gangAt hgc hg hk) x_out_n ?_
  refine G_st (L := 89) (k := 6) (16, [some (.ref 0), some (.int (nI k)), some (.int x), some (.long F), none, some (.ref (2 * k + 89))], [.long F, .long (Int32.toInt64 x)], qS sw gc I J) (q_hn _ _ _ _) rfl ?_
  refine G_callS (as := [.long (Int32.toInt64 x), .long F]) (rest := []) rfl rfl rfl (Nat.le_of_ble_eq_true rfl) (GM_r (m_isBlock _ _) hb) x_out_n ?_
  refine G_st (L := 89) (k := 0) (19, [some (.ref 0), some (.int (nI k)), some (.int x), some (.long F), none, some (.ref (2 * k + 89))], [.int 0], qS sw gc I J) (q_hn _ _ _ _) rfl ?_
  refine G_if_ne 25 rfl rfl (fun h9 => absurd h9 (by decide)) (fun _ => ?_)
  refine G_st (L := 89) (k := 1) (24, [some (.ref 0), some (.int (nI k)), some (.int x), some (.long F), none, some (.ref (2 * k + 89))], [.int (-1000000)], qS sw gc I J) (q_hn _ _ _ _) rfl ?_
  exact G_iret rfl rfl rfl rfl
theorem x_workG {d : Nat} {sw : Bool} {gc : Nat} {I : Nat → Nat → Int32} {J : Nat → Nat → Int64} {x y : Int32} {F : Int64} (hgc : I 0 6 = nI gc) (hg : gc ≤ 8) (hx : Int32.toInt64 x < 0 ∨ lN gc ≤ Int32.toInt64 x) : GM (d + 5) 85 [.ref 0, .int x, .int y, .long F] (qS sw gc I J) (some (.int (-1000000))) (qS sw gc I J) := by
  refine GM_of (by decide) (Nat.le_refl _) (Nat.le_of_ble_eq_true rfl) trivial ?_
  refine G_st (L := 89) (k := 0) (0, [some (.ref 0), some (.int x), some (.int y), some (.long F), none, none], [], qS sw gc I J) (q_hn _ _ _ _) rfl ?_
  refine G_st (L := 89) (k := 3) (3, [some (.ref 0), some (.int x), some (.int y), some (.long F), none, none], [.long (Int32.toInt64 x), .ref 0], qS sw gc I J) (q_hn _ _ _ _) rfl ?_
  refine G_callV (b := 0) (ci := 8) (as := [.long (Int32.toInt64 x)]) (rest := []) rfl rfl rfl (q_lt (by decide)) (by decide) rfl rfl (Nat.le_of_ble_eq_true rfl) (x_gangAtN hgc hg hx) x_out_n ?_
  refine G_st (L := 89) (k := 4) (24, [some (.ref 0), some (.int x), some (.int y), some (.long F), none, some (.null)], [.int (-1000000)], qS sw gc I J) (q_hn _ _ _ _) rfl ?_
  exact G_iret rfl rfl rfl rfl
