def r_cp (K : Nat → Nat → Int32) : Nat → Nat → Int32 := q_u (q_u (q_u (q_u (q_u (q_u (q_u (q_u (q_u (q_u (q_u (q_u (q_u (q_u K 62 1 0) 62 9 (K 62 13)) 64 0 (K 67 0)) 65 0 (K 68 0)) 66 0 (K 69 0)) 64 1 (K 67 1)) 65 1 (K 68 1)) 66 1 (K 69 1)) 64 2 (K 67 2)) 65 2 (K 68 2)) 66 2 (K 69 2)) 64 3 (K 67 3)) 65 3 (K 68 3)) 66 3 (K 69 3)
theorem r_wTF {d : Nat} {sw : Bool} {gc : Nat} {K : Nat → Nat → Int32} {J : Nat → Nat → Int64} (hf : ¬ K 62 6 ≤ 0) : G (d + 6) 111 (61, [some (.ref 62), none], [], qS sw gc K J) (some (.int ((-10) - K 62 7))) (qS sw gc (q_u K 62 1 0) J) := by
  refine G_st (L := 89) (k := 5) (70, [some (.ref 62), none], [.int (K 62 6)], qS sw gc (q_u K 62 1 0) J) (q_hn _ _ _ _) rfl ?_
  refine G_if_le 81 rfl rfl (fun h9 => absurd h9 hf) (fun _ => ?_)
  refine G_st (L := 89) (k := 4) (80, [some (.ref 62), none], [.int ((-10) - (K 62 7))], qS sw gc (q_u K 62 1 0) J) (q_hn _ _ _ _) rfl ?_
  exact G_iret rfl rfl rfl rfl
theorem r_wT0 {d : Nat} {sw : Bool} {gc : Nat} {K : Nat → Nat → Int32} {J : Nat → Nat → Int64} (hf : K 62 6 = 0) : G (d + 6) 111 (61, [some (.ref 62), none], [], qS sw gc K J) (some (.int (r_lm (r_cp K)))) (qS sw gc (r_cp K) J) := by
  refine G_st (L := 89) (k := 5) (70, [some (.ref 62), none], [.int (K 62 6)], qS sw gc (q_u K 62 1 0) J) (q_hn _ _ _ _) rfl ?_
  refine G_if_le 81 rfl rfl (fun _ => ?_) (fun h9 => absurd (by rw [hf]; decide) h9)
  refine G_st (L := 89) (k := 8) (93, [some (.ref 62), some (.int 0)], [.int 4, .int 0], qS sw gc (q_u (q_u K 62 1 0) 62 9 (K 62 13)) J) (q_hn _ _ _ _) rfl ?_
  refine G_icmp_ge 138 rfl rfl (fun h9 => absurd h9 (by decide)) (fun _ => ?_)
  refine G_st (L := 89) (k := 6) (106, [some (.ref 62), some (.int 0)], [.int 0, .ref 67, .int 0, .ref 64], qS sw gc (q_u (q_u K 62 1 0) 62 9 (K 62 13)) J) (q_hn _ _ _ _) rfl ?_
  refine G_iald (i := 67) (n := 4) rfl rfl (q_lt (by decide)) (by unfold vp_in; decide) ?_
  refine G_st (L := 89) (k := 0) (107, [some (.ref 62), some (.int 0)], [.int (K 67 0), .int 0, .ref 64], qS sw gc (q_u (q_u K 62 1 0) 62 9 (K 62 13)) J) (q_hn _ _ _ _) rfl ?_
  refine G_iast (i := 64) (n := 4) rfl rfl (q_lt (by decide)) (by unfold vp_in; decide) ?_
  refine G_st (L := 89) (k := 6) (118, [some (.ref 62), some (.int 0)], [.int 0, .ref 68, .int 0, .ref 65], qS sw gc (q_u (q_u (q_u K 62 1 0) 62 9 (K 62 13)) 64 0 (K 67 0)) J) (q_hn _ _ _ _) rfl ?_
  refine G_iald (i := 68) (n := 4) rfl rfl (q_lt (by decide)) (by unfold vp_in; decide) ?_
  refine G_st (L := 89) (k := 0) (119, [some (.ref 62), some (.int 0)], [.int (K 68 0), .int 0, .ref 65], qS sw gc (q_u (q_u (q_u K 62 1 0) 62 9 (K 62 13)) 64 0 (K 67 0)) J) (q_hn _ _ _ _) rfl ?_
  refine G_iast (i := 65) (n := 4) rfl rfl (q_lt (by decide)) (by unfold vp_in; decide) ?_
  refine G_st (L := 89) (k := 6) (130, [some (.ref 62), some (.int 0)], [.int 0, .ref 69, .int 0, .ref 66], qS sw gc (q_u (q_u (q_u (q_u K 62 1 0) 62 9 (K 62 13)) 64 0 (K 67 0)) 65 0 (K 68 0)) J) (q_hn _ _ _ _) rfl ?_
  refine G_iald (i := 69) (n := 4) rfl rfl (q_lt (by decide)) (by unfold vp_in; decide) ?_
  refine G_st (L := 89) (k := 0) (131, [some (.ref 62), some (.int 0)], [.int (K 69 0), .int 0, .ref 66], qS sw gc (q_u (q_u (q_u (q_u K 62 1 0) 62 9 (K 62 13)) 64 0 (K 67 0)) 65 0 (K 68 0)) J) (q_hn _ _ _ _) rfl ?_
  refine G_iast (i := 66) (n := 4) rfl rfl (q_lt (by decide)) (by unfold vp_in; decide) ?_
  refine G_st (L := 89) (k := 4) (93, [some (.ref 62), some (.int 1)], [.int 4, .int 1], qS sw gc (q_u (q_u (q_u (q_u (q_u K 62 1 0) 62 9 (K 62 13)) 64 0 (K 67 0)) 65 0 (K 68 0)) 66 0 (K 69 0)) J) (q_hn _ _ _ _) rfl ?_
  refine G_icmp_ge 138 rfl rfl (fun h9 => absurd h9 (by decide)) (fun _ => ?_)
  refine G_st (L := 89) (k := 6) (106, [some (.ref 62), some (.int 1)], [.int 1, .ref 67, .int 1, .ref 64], qS sw gc (q_u (q_u (q_u (q_u (q_u K 62 1 0) 62 9 (K 62 13)) 64 0 (K 67 0)) 65 0 (K 68 0)) 66 0 (K 69 0)) J) (q_hn _ _ _ _) rfl ?_
  refine G_iald (i := 67) (n := 4) rfl rfl (q_lt (by decide)) (by unfold vp_in; decide) ?_
  refine G_st (L := 89) (k := 0) (107, [some (.ref 62), some (.int 1)], [.int (K 67 1), .int 1, .ref 64], qS sw gc (q_u (q_u (q_u (q_u (q_u K 62 1 0) 62 9 (K 62 13)) 64 0 (K 67 0)) 65 0 (K 68 0)) 66 0 (K 69 0)) J) (q_hn _ _ _ _) rfl ?_
  refine G_iast (i := 64) (n := 4) rfl rfl (q_lt (by decide)) (by unfold vp_in; decide) ?_
  refine G_st (L := 89) (k := 6) (118, [some (.ref 62), some (.int 1)], [.int 1, .ref 68, .int 1, .ref 65], qS sw gc (q_u (q_u (q_u (q_u (q_u (q_u K 62 1 0) 62 9 (K 62 13)) 64 0 (K 67 0)) 65 0 (K 68 0)) 66 0 (K 69 0)) 64 1 (K 67 1)) J) (q_hn _ _ _ _) rfl ?_
  refine G_iald (i := 68) (n := 4) rfl rfl (q_lt (by decide)) (by unfold vp_in; decide) ?_
  refine G_st (L := 89) (k := 0) (119, [some (.ref 62), some (.int 1)], [.int (K 68 1), .int 1, .ref 65], qS sw gc (q_u (q_u (q_u (q_u (q_u (q_u K 62 1 0) 62 9 (K 62 13)) 64 0 (K 67 0)) 65 0 (K 68 0)) 66 0 (K 69 0)) 64 1 (K 67 1)) J) (q_hn _ _ _ _) rfl ?_
  refine G_iast (i := 65) (n := 4) rfl rfl (q_lt (by decide)) (by unfold vp_in; decide) ?_
  refine G_st (L := 89) (k := 6) (130, [some (.ref 62), some (.int 1)], [.int 1, .ref 69, .int 1, .ref 66], qS sw gc (q_u (q_u (q_u (q_u (q_u (q_u (q_u K 62 1 0) 62 9 (K 62 13)) 64 0 (K 67 0)) 65 0 (K 68 0)) 66 0 (K 69 0)) 64 1 (K 67 1)) 65 1 (K 68 1)) J) (q_hn _ _ _ _) rfl ?_
  refine G_iald (i := 69) (n := 4) rfl rfl (q_lt (by decide)) (by unfold vp_in; decide) ?_
  refine G_st (L := 89) (k := 0) (131, [some (.ref 62), some (.int 1)], [.int (K 69 1), .int 1, .ref 66], qS sw gc (q_u (q_u (q_u (q_u (q_u (q_u (q_u K 62 1 0) 62 9 (K 62 13)) 64 0 (K 67 0)) 65 0 (K 68 0)) 66 0 (K 69 0)) 64 1 (K 67 1)) 65 1 (K 68 1)) J) (q_hn _ _ _ _) rfl ?_
  refine G_iast (i := 66) (n := 4) rfl rfl (q_lt (by decide)) (by unfold vp_in; decide) ?_
  refine G_st (L := 89) (k := 4) (93, [some (.ref 62), some (.int 2)], [.int 4, .int 2], qS sw gc (q_u (q_u (q_u (q_u (q_u (q_u (q_u (q_u K 62 1 0) 62 9 (K 62 13)) 64 0 (K 67 0)) 65 0 (K 68 0)) 66 0 (K 69 0)) 64 1 (K 67 1)) 65 1 (K 68 1)) 66 1 (K 69 1)) J) (q_hn _ _ _ _) rfl ?_
  refine G_icmp_ge 138 rfl rfl (fun h9 => absurd h9 (by decide)) (fun _ => ?_)
  refine G_st (L := 89) (k := 6) (106, [some (.ref 62), some (.int 2)], [.int 2, .ref 67, .int 2, .ref 64], qS sw gc (q_u (q_u (q_u (q_u (q_u (q_u (q_u (q_u K 62 1 0) 62 9 (K 62 13)) 64 0 (K 67 0)) 65 0 (K 68 0)) 66 0 (K 69 0)) 64 1 (K 67 1)) 65 1 (K 68 1)) 66 1 (K 69 1)) J) (q_hn _ _ _ _) rfl ?_
  refine G_iald (i := 67) (n := 4) rfl rfl (q_lt (by decide)) (by unfold vp_in; decide) ?_
  refine G_st (L := 89) (k := 0) (107, [some (.ref 62), some (.int 2)], [.int (K 67 2), .int 2, .ref 64], qS sw gc (q_u (q_u (q_u (q_u (q_u (q_u (q_u (q_u K 62 1 0) 62 9 (K 62 13)) 64 0 (K 67 0)) 65 0 (K 68 0)) 66 0 (K 69 0)) 64 1 (K 67 1)) 65 1 (K 68 1)) 66 1 (K 69 1)) J) (q_hn _ _ _ _) rfl ?_
  refine G_iast (i := 64) (n := 4) rfl rfl (q_lt (by decide)) (by unfold vp_in; decide) ?_
  refine G_st (L := 89) (k := 6) (118, [some (.ref 62), some (.int 2)], [.int 2, .ref 68, .int 2, .ref 65], qS sw gc (q_u (q_u (q_u (q_u (q_u (q_u (q_u (q_u (q_u K 62 1 0) 62 9 (K 62 13)) 64 0 (K 67 0)) 65 0 (K 68 0)) 66 0 (K 69 0)) 64 1 (K 67 1)) 65 1 (K 68 1)) 66 1 (K 69 1)) 64 2 (K 67 2)) J) (q_hn _ _ _ _) rfl ?_
  refine G_iald (i := 68) (n := 4) rfl rfl (q_lt (by decide)) (by unfold vp_in; decide) ?_
  refine G_st (L := 89) (k := 0) (119, [some (.ref 62), some (.int 2)], [.int (K 68 2), .int 2, .ref 65], qS sw gc (q_u (q_u (q_u (q_u (q_u (q_u (q_u (q_u (q_u K 62 1 0) 62 9 (K 62 13)) 64 0 (K 67 0)) 65 0 (K 68 0)) 66 0 (K 69 0)) 64 1 (K 67 1)) 65 1 (K 68 1)) 66 1 (K 69 1)) 64 2 (K 67 2)) J) (q_hn _ _ _ _) rfl ?_
  refine G_iast (i := 65) (n := 4) rfl rfl (q_lt (by decide)) (by unfold vp_in; decide) ?_
  refine G_st (L := 89) (k := 6) (130, [some (.ref 62), some (.int 2)], [.int 2, .ref 69, .int 2, .ref 66], qS sw gc (q_u (q_u (q_u (q_u (q_u (q_u (q_u (q_u (q_u (q_u K 62 1 0) 62 9 (K 62 13)) 64 0 (K 67 0)) 65 0 (K 68 0)) 66 0 (K 69 0)) 64 1 (K 67 1)) 65 1 (K 68 1)) 66 1 (K 69 1)) 64 2 (K 67 2)) 65 2 (K 68 2)) J) (q_hn _ _ _ _) rfl ?_
  refine G_iald (i := 69) (n := 4) rfl rfl (q_lt (by decide)) (by unfold vp_in; decide) ?_
  refine G_st (L := 89) (k := 0) (131, [some (.ref 62), some (.int 2)], [.int (K 69 2), .int 2, .ref 66], qS sw gc (q_u (q_u (q_u (q_u (q_u (q_u (q_u (q_u (q_u (q_u K 62 1 0) 62 9 (K 62 13)) 64 0 (K 67 0)) 65 0 (K 68 0)) 66 0 (K 69 0)) 64 1 (K 67 1)) 65 1 (K 68 1)) 66 1 (K 69 1)) 64 2 (K 67 2)) 65 2 (K 68 2)) J) (q_hn _ _ _ _) rfl ?_
  refine G_iast (i := 66) (n := 4) rfl rfl (q_lt (by decide)) (by unfold vp_in; decide) ?_
  refine G_st (L := 89) (k := 4) (93, [some (.ref 62), some (.int 3)], [.int 4, .int 3], qS sw gc (q_u (q_u (q_u (q_u (q_u (q_u (q_u (q_u (q_u (q_u (q_u K 62 1 0) 62 9 (K 62 13)) 64 0 (K 67 0)) 65 0 (K 68 0)) 66 0 (K 69 0)) 64 1 (K 67 1)) 65 1 (K 68 1)) 66 1 (K 69 1)) 64 2 (K 67 2)) 65 2 (K 68 2)) 66 2 (K 69 2)) J) (q_hn _ _ _ _) rfl ?_
  refine G_icmp_ge 138 rfl rfl (fun h9 => absurd h9 (by decide)) (fun _ => ?_)
  refine G_st (L := 89) (k := 6) (106, [some (.ref 62), some (.int 3)], [.int 3, .ref 67, .int 3, .ref 64], qS sw gc (q_u (q_u (q_u (q_u (q_u (q_u (q_u (q_u (q_u (q_u (q_u K 62 1 0) 62 9 (K 62 13)) 64 0 (K 67 0)) 65 0 (K 68 0)) 66 0 (K 69 0)) 64 1 (K 67 1)) 65 1 (K 68 1)) 66 1 (K 69 1)) 64 2 (K 67 2)) 65 2 (K 68 2)) 66 2 (K 69 2)) J) (q_hn _ _ _ _) rfl ?_
  refine G_iald (i := 67) (n := 4) rfl rfl (q_lt (by decide)) (by unfold vp_in; decide) ?_
  refine G_st (L := 89) (k := 0) (107, [some (.ref 62), some (.int 3)], [.int (K 67 3), .int 3, .ref 64], qS sw gc (q_u (q_u (q_u (q_u (q_u (q_u (q_u (q_u (q_u (q_u (q_u K 62 1 0) 62 9 (K 62 13)) 64 0 (K 67 0)) 65 0 (K 68 0)) 66 0 (K 69 0)) 64 1 (K 67 1)) 65 1 (K 68 1)) 66 1 (K 69 1)) 64 2 (K 67 2)) 65 2 (K 68 2)) 66 2 (K 69 2)) J) (q_hn _ _ _ _) rfl ?_
  refine G_iast (i := 64) (n := 4) rfl rfl (q_lt (by decide)) (by unfold vp_in; decide) ?_
  refine G_st (L := 89) (k := 6) (118, [some (.ref 62), some (.int 3)], [.int 3, .ref 68, .int 3, .ref 65], qS sw gc (q_u (q_u (q_u (q_u (q_u (q_u (q_u (q_u (q_u (q_u (q_u (q_u K 62 1 0) 62 9 (K 62 13)) 64 0 (K 67 0)) 65 0 (K 68 0)) 66 0 (K 69 0)) 64 1 (K 67 1)) 65 1 (K 68 1)) 66 1 (K 69 1)) 64 2 (K 67 2)) 65 2 (K 68 2)) 66 2 (K 69 2)) 64 3 (K 67 3)) J) (q_hn _ _ _ _) rfl ?_
  refine G_iald (i := 68) (n := 4) rfl rfl (q_lt (by decide)) (by unfold vp_in; decide) ?_
  refine G_st (L := 89) (k := 0) (119, [some (.ref 62), some (.int 3)], [.int (K 68 3), .int 3, .ref 65], qS sw gc (q_u (q_u (q_u (q_u (q_u (q_u (q_u (q_u (q_u (q_u (q_u (q_u K 62 1 0) 62 9 (K 62 13)) 64 0 (K 67 0)) 65 0 (K 68 0)) 66 0 (K 69 0)) 64 1 (K 67 1)) 65 1 (K 68 1)) 66 1 (K 69 1)) 64 2 (K 67 2)) 65 2 (K 68 2)) 66 2 (K 69 2)) 64 3 (K 67 3)) J) (q_hn _ _ _ _) rfl ?_
  refine G_iast (i := 65) (n := 4) rfl rfl (q_lt (by decide)) (by unfold vp_in; decide) ?_
  refine G_st (L := 89) (k := 6) (130, [some (.ref 62), some (.int 3)], [.int 3, .ref 69, .int 3, .ref 66], qS sw gc (q_u (q_u (q_u (q_u (q_u (q_u (q_u (q_u (q_u (q_u (q_u (q_u (q_u K 62 1 0) 62 9 (K 62 13)) 64 0 (K 67 0)) 65 0 (K 68 0)) 66 0 (K 69 0)) 64 1 (K 67 1)) 65 1 (K 68 1)) 66 1 (K 69 1)) 64 2 (K 67 2)) 65 2 (K 68 2)) 66 2 (K 69 2)) 64 3 (K 67 3)) 65 3 (K 68 3)) J) (q_hn _ _ _ _) rfl ?_
  refine G_iald (i := 69) (n := 4) rfl rfl (q_lt (by decide)) (by unfold vp_in; decide) ?_
  refine G_st (L := 89) (k := 0) (131, [some (.ref 62), some (.int 3)], [.int (K 69 3), .int 3, .ref 66], qS sw gc (q_u (q_u (q_u (q_u (q_u (q_u (q_u (q_u (q_u (q_u (q_u (q_u (q_u K 62 1 0) 62 9 (K 62 13)) 64 0 (K 67 0)) 65 0 (K 68 0)) 66 0 (K 69 0)) 64 1 (K 67 1)) 65 1 (K 68 1)) 66 1 (K 69 1)) 64 2 (K 67 2)) 65 2 (K 68 2)) 66 2 (K 69 2)) 64 3 (K 67 3)) 65 3 (K 68 3)) J) (q_hn _ _ _ _) rfl ?_
  refine G_iast (i := 66) (n := 4) rfl rfl (q_lt (by decide)) (by unfold vp_in; decide) ?_
  refine G_st (L := 89) (k := 4) (93, [some (.ref 62), some (.int 4)], [.int 4, .int 4], qS sw gc (q_u (q_u (q_u (q_u (q_u (q_u (q_u (q_u (q_u (q_u (q_u (q_u (q_u (q_u K 62 1 0) 62 9 (K 62 13)) 64 0 (K 67 0)) 65 0 (K 68 0)) 66 0 (K 69 0)) 64 1 (K 67 1)) 65 1 (K 68 1)) 66 1 (K 69 1)) 64 2 (K 67 2)) 65 2 (K 68 2)) 66 2 (K 69 2)) 64 3 (K 67 3)) 65 3 (K 68 3)) 66 3 (K 69 3)) J) (q_hn _ _ _ _) rfl ?_
  refine G_icmp_ge 138 rfl rfl (fun _ => ?_) (fun h9 => absurd h9 (by decide))
  refine G_st (L := 89) (k := 1) (139, [some (.ref 62), some (.int 4)], [.ref 62], qS sw gc (q_u (q_u (q_u (q_u (q_u (q_u (q_u (q_u (q_u (q_u (q_u (q_u (q_u (q_u K 62 1 0) 62 9 (K 62 13)) 64 0 (K 67 0)) 65 0 (K 68 0)) 66 0 (K 69 0)) 64 1 (K 67 1)) 65 1 (K 68 1)) 66 1 (K 69 1)) 64 2 (K 67 2)) 65 2 (K 68 2)) 66 2 (K 69 2)) 64 3 (K 67 3)) 65 3 (K 68 3)) 66 3 (K 69 3)) J) (q_hn _ _ _ _) rfl ?_
  refine G_callV (b := 62) (ci := 9) (as := []) (rest := []) rfl rfl rfl (q_lt (by decide)) (by decide) rfl rfl (Nat.le_of_ble_eq_true rfl) (r_lawMany (I := r_cp K)) x_out_n ?_
  refine G_st (L := 89) (k := 0) (142, [some (.ref 62), some (.int 4)], [.int (r_lm (r_cp K))], qS sw gc (r_cp K) J) (q_hn _ _ _ _) rfl ?_
  exact G_iret rfl rfl rfl rfl
def r_b0 (I : Nat → Nat → Int32) : Nat → Nat → Int32 := q_u (q_u (q_u (q_u (q_u I 62 13 0) 67 0 (-4)) 67 1 (-4)) 67 2 (-4)) 67 3 (-4)
theorem r_wS {d : Nat} {sw : Bool} {gc : Nat} {I : Nat → Nat → Int32} {J : Nat → Nat → Int64} {I1 Iz : Nat → Nat → Int32} {r : Int32} {a b s v f e : Int32} (h : GM (d + 5) 106 [.ref 62] (qS sw gc (r_R (r_b0 I) 0 b s v 0 e) J) none (qS sw gc I1 J)) (g : G (d + 6) 111 (40, [some (.ref 62), none], [], qS sw gc I1 J) (some (.int r)) (qS sw gc Iz J)) : GM (d + 6) 111 [.ref 62] (qS sw gc (r_R I a b s v f e) J) (some (.int r)) (qS sw gc Iz J) := by
  refine GM_of (by decide) x_out_n (Nat.le_of_ble_eq_true rfl) trivial ?_
  refine G_st (L := 89) (k := 13) (19, [some (.ref 62), some (.int 0)], [.int 4, .int 0], qS sw gc (q_u (q_u (q_u (r_R I a b s v f e) 62 6 0) 62 2 0) 62 13 0) J) (q_hn _ _ _ _) rfl ?_
  rw [r_R6]
  rw [r_R2]
  rw [r_R_cm (by omega)]
  refine G_icmp_ge 36 rfl rfl (fun h9 => absurd h9 (by decide)) (fun _ => ?_)
  refine G_st (L := 89) (k := 4) (29, [some (.ref 62), some (.int 0)], [.int (-4), .int 0, .ref 67], qS sw gc (r_R (q_u I 62 13 0) 0 b s v 0 e) J) (q_hn _ _ _ _) rfl ?_
  refine G_iast (i := 67) (n := 4) rfl rfl (q_lt (by decide)) (by unfold vp_in; decide) ?_
  refine G_st (L := 89) (k := 4) (19, [some (.ref 62), some (.int 1)], [.int 4, .int 1], qS sw gc (q_u (r_R (q_u I 62 13 0) 0 b s v 0 e) 67 0 (-4)) J) (q_hn _ _ _ _) rfl ?_
  rw [r_R_cm (by omega)]
  refine G_icmp_ge 36 rfl rfl (fun h9 => absurd h9 (by decide)) (fun _ => ?_)
  refine G_st (L := 89) (k := 4) (29, [some (.ref 62), some (.int 1)], [.int (-4), .int 1, .ref 67], qS sw gc (r_R (q_u (q_u I 62 13 0) 67 0 (-4)) 0 b s v 0 e) J) (q_hn _ _ _ _) rfl ?_
  refine G_iast (i := 67) (n := 4) rfl rfl (q_lt (by decide)) (by unfold vp_in; decide) ?_
  refine G_st (L := 89) (k := 4) (19, [some (.ref 62), some (.int 2)], [.int 4, .int 2], qS sw gc (q_u (r_R (q_u (q_u I 62 13 0) 67 0 (-4)) 0 b s v 0 e) 67 1 (-4)) J) (q_hn _ _ _ _) rfl ?_
  rw [r_R_cm (by omega)]
  refine G_icmp_ge 36 rfl rfl (fun h9 => absurd h9 (by decide)) (fun _ => ?_)
  refine G_st (L := 89) (k := 4) (29, [some (.ref 62), some (.int 2)], [.int (-4), .int 2, .ref 67], qS sw gc (r_R (q_u (q_u (q_u I 62 13 0) 67 0 (-4)) 67 1 (-4)) 0 b s v 0 e) J) (q_hn _ _ _ _) rfl ?_
  refine G_iast (i := 67) (n := 4) rfl rfl (q_lt (by decide)) (by unfold vp_in; decide) ?_
  refine G_st (L := 89) (k := 4) (19, [some (.ref 62), some (.int 3)], [.int 4, .int 3], qS sw gc (q_u (r_R (q_u (q_u (q_u I 62 13 0) 67 0 (-4)) 67 1 (-4)) 0 b s v 0 e) 67 2 (-4)) J) (q_hn _ _ _ _) rfl ?_
  rw [r_R_cm (by omega)]
  refine G_icmp_ge 36 rfl rfl (fun h9 => absurd h9 (by decide)) (fun _ => ?_)
  refine G_st (L := 89) (k := 4) (29, [some (.ref 62), some (.int 3)], [.int (-4), .int 3, .ref 67], qS sw gc (r_R (q_u (q_u (q_u (q_u I 62 13 0) 67 0 (-4)) 67 1 (-4)) 67 2 (-4)) 0 b s v 0 e) J) (q_hn _ _ _ _) rfl ?_
  refine G_iast (i := 67) (n := 4) rfl rfl (q_lt (by decide)) (by unfold vp_in; decide) ?_
  refine G_st (L := 89) (k := 4) (19, [some (.ref 62), some (.int 4)], [.int 4, .int 4], qS sw gc (q_u (r_R (q_u (q_u (q_u (q_u I 62 13 0) 67 0 (-4)) 67 1 (-4)) 67 2 (-4)) 0 b s v 0 e) 67 3 (-4)) J) (q_hn _ _ _ _) rfl ?_
  rw [r_R_cm (by omega)]
  refine G_icmp_ge 36 rfl rfl (fun _ => ?_) (fun h9 => absurd h9 (by decide))
  refine G_st (L := 89) (k := 1) (37, [some (.ref 62), some (.int 4)], [.ref 62], qS sw gc (r_R (q_u (q_u (q_u (q_u (q_u I 62 13 0) 67 0 (-4)) 67 1 (-4)) 67 2 (-4)) 67 3 (-4)) 0 b s v 0 e) J) (q_hn _ _ _ _) rfl ?_
  refine G_callV (b := 62) (ci := 9) (as := []) (rest := []) rfl rfl rfl (q_lt (by decide)) (by decide) rfl rfl (Nat.le_of_ble_eq_true rfl) h x_out_n ?_
  refine G_st (L := 89) (k := 0) (40, [some (.ref 62), some (.int 4)], [], qS sw gc I1 J) (q_hn _ _ _ _) rfl ?_
  refine G_fg [some (.ref 62), none] (by repeat (first | exact trivial | refine ⟨rfl, ?_⟩)) ?_
  exact g
theorem r_b0_fr {I : Nat → Nat → Int32} : r_fr I (r_b0 I) := by
  intro i j h1 h2
  unfold r_b0
  rw [q_un _ _ (by omega), q_un _ _ (by omega), q_un _ _ (by omega), q_un _ _ (by omega), q_un _ _ (by omega)]
theorem r_b0_Dr {I : Nat → Nat → Int32} {D : t_D} : r_Dr (r_b0 I) ((fun _ => -4), 0, D.2.2) := by
  refine ⟨?_, rfl, Nat.zero_le _, fun j hj => absurd hj (Nat.not_lt_zero _)⟩
  intro k hk
  rcases (show k = 0 ∨ k = 1 ∨ k = 2 ∨ k = 3 by omega) with rfl | rfl | rfl | rfl <;> rfl
theorem r_cp_un {K : Nat → Nat → Int32} {i j : Nat} (h1 : ¬ (64 ≤ i ∧ i ≤ 66)) (h2 : ¬ (i = 62 ∧ (j = 1 ∨ j = 9))) : r_cp K i j = K i j := by
  unfold r_cp
  rw [q_un _ _ (by omega), q_un _ _ (by omega), q_un _ _ (by omega), q_un _ _ (by omega), q_un _ _ (by omega), q_un _ _ (by omega), q_un _ _ (by omega), q_un _ _ (by omega), q_un _ _ (by omega), q_un _ _ (by omega), q_un _ _ (by omega), q_un _ _ (by omega), q_un _ _ (by omega), q_un _ _ (by omega)]
theorem r_cp_at {K : Nat → Nat → Int32} {k : Nat} (hk : k < 4) : r_cp K 64 k = K 67 k ∧ r_cp K 65 k = K 68 k ∧ r_cp K 66 k = K 69 k := by
  rcases (show k = 0 ∨ k = 1 ∨ k = 2 ∨ k = 3 by omega) with rfl | rfl | rfl | rfl <;> exact ⟨rfl, rfl, rfl⟩
def r_lwP (I I2 : Nat → Nat → Int32) (R : Int32 × t_S × t_D) : Prop :=
  (R.1 = 0 → I2 62 9 = nI R.2.2.2.1 ∧ (∀ k, k < 4 → I2 64 k = R.2.2.1 k) ∧ ∀ j, j < R.2.2.2.1 → I2 65 j = R.2.2.2.2.1 j ∧ I2 66 j = R.2.2.2.2.2 j) ∧
  (¬ R.1 = 0 → I2 62 9 = I 62 9 ∧ ∀ k, I2 64 k = I 64 k ∧ I2 65 k = I 65 k ∧ I2 66 k = I 66 k) ∧
  I2 62 6 = R.1 ∧ I2 62 1 = 0 ∧
  (∀ i j, ¬ (64 ≤ i ∧ i ≤ 69) → ¬ (i = 62 ∧ (j ≤ 7 ∨ j = 9 ∨ j = 13)) → I2 i j = I i j)
theorem r_laws {d : Nat} {sw : Bool} {gc : Nat} {I : Nat → Nat → Int32} {J : Nat → Nat → Int64} {t : Nat → Int32} {l : Nat} (hT : r_Tp I t l) {D : t_D} {R : Int32 × t_S × t_D} (hR : t_read t 200 (t_er t (t_S0 (I 62 5)), t_tok t (t_S0 (I 62 5)), ((fun _ => -4), 0, D.2.2)) = R) : ∃ I2, GM (d + 6) 111 [.ref 62] (qS sw gc I J) (some (.int (if R.1 = 0 then t_tot R.2.2 else (-10) - nI R.2.1.2.2.2))) (qS sw gc I2 J) ∧ r_lwP I I2 R := by
  have hTb : r_Tp (r_b0 I) t l := by
    refine ⟨(r_b0_fr 62 1 (by omega) (by omega)).trans hT.1, hT.2.1, fun p hp => ?_, hT.2.2.2⟩
    rw [r_b0_fr 63 p (by omega) (by omega)]
    exact hT.2.2.1 p hp
  have hl2 := hT.2.1
  have hs0 : (t_S0 (I 62 5)).1 ≤ l := Nat.zero_le _
  obtain ⟨A, S, V, W, g1, hN⟩ := r_nexts (d := d + 2) (sw := sw) (gc := gc) (J := J) (I := r_b0 I) hTb hs0 (b := I 62 3) (c := I 62 4) (v := I 62 5) (e := I 62 7) rfl
  obtain ⟨I2, A2, B2, S2, V2, f2, W2, g2, hP⟩ := r_w_loop (d := d) (sw := sw) (gc := gc) (J := J) 200 (t_er t (t_S0 (I 62 5)), t_tok t (t_S0 (I 62 5)), ((fun _ => -4), 0, D.2.2)) (r_b0 I) A _ S V _ W hTb ⟨t_tok_l hT.2.2.2 hs0, t_tok_k _ _, fun e k => t_tok_name e k⟩ (t_pg_tok hT.2.2.2) ⟨rfl, fun h => ⟨(hN.1 h).1, rfl, (hN.1 h).2.1, (hN.1 h).2.2, r_b0_Dr⟩, hN.2, r_fr_id⟩ (fun _ => by omega)
  rw [hR] at hP
  have G1 : ∀ {r : Int32} {Iz : Nat → Nat → Int32}, G (d + 6) 111 (61, [some (.ref 62), none], [], qS sw gc (r_R I2 A2 B2 S2 V2 f2 W2) J) (some (.int r)) (qS sw gc Iz J) → GM (d + 6) 111 [.ref 62] (qS sw gc I J) (some (.int r)) (qS sw gc Iz J) := by
    intro r Iz g
    have g3 := r_wS (I := I) (a := I 62 2) (f := I 62 6) g1 (g2 _ _ g)
    rw [r_R_id] at g3
    exact g3
  have efr : ∀ i j, ¬ (67 ≤ i ∧ i ≤ 69) → ¬ (i = 62 ∧ ((2 ≤ j ∧ j ≤ 7) ∨ j = 13)) → r_R I2 A2 B2 S2 V2 f2 W2 i j = I i j := by
    intro i j h1 h2
    rw [r_R_un (by omega), hP.2.2.2 i j h1 (by omega), r_b0_fr i j h1 (by omega)]
  have e6 : r_R I2 A2 B2 S2 V2 f2 W2 62 6 = R.1 := by rw [← hP.1]; rfl
  have e7 : r_R I2 A2 B2 S2 V2 f2 W2 62 7 = W2 := rfl
  by_cases h : R.1 = 0
  · obtain ⟨_, _, _, _, hD⟩ := hP.2.1 h
    have e67 : ∀ k, r_R I2 A2 B2 S2 V2 f2 W2 67 k = I2 67 k := fun k => r_R_un (by omega)
    have e68 : ∀ k, r_R I2 A2 B2 S2 V2 f2 W2 68 k = I2 68 k := fun k => r_R_un (by omega)
    have e69 : ∀ k, r_R I2 A2 B2 S2 V2 f2 W2 69 k = I2 69 k := fun k => r_R_un (by omega)
    have e9 : r_cp (r_R I2 A2 B2 S2 V2 f2 W2) 62 9 = nI R.2.2.2.1 := hD.2.1
    have e64 : ∀ k, k < 4 → r_cp (r_R I2 A2 B2 S2 V2 f2 W2) 64 k = R.2.2.1 k := fun k hk => ((r_cp_at hk).1.trans (e67 k)).trans (hD.1 k hk)
    refine ⟨r_cp (r_R I2 A2 B2 S2 V2 f2 W2), ?_, fun _ => ⟨e9, e64, fun j hj => ?_⟩, fun e => absurd h e, ?_, ?_, ?_⟩
    · rw [if_pos h]
      have ec : ∀ k, k < 4 → t_ct (r_cp (r_R I2 A2 B2 S2 V2 f2 W2) 64) k = t_ct R.2.2.1 k := by
        intro k hk
        unfold t_ct
        rw [e64 k hk]
      rw [show t_tot R.2.2 = r_lm (r_cp (r_R I2 A2 B2 S2 V2 f2 W2)) by unfold t_tot r_lm; rw [e9, ec 0 (by decide), ec 1 (by decide), ec 2 (by decide), ec 3 (by decide)]]
      exact G1 (r_wT0 (e6.trans h))
    · have hj4 : j < 4 := by have := hD.2.2.1; omega
      exact ⟨((r_cp_at hj4).2.1.trans (e68 j)).trans (hD.2.2.2 j hj).1, ((r_cp_at hj4).2.2.trans (e69 j)).trans (hD.2.2.2 j hj).2⟩
    · rw [r_cp_un (by omega) (by omega)]; exact e6
    · rfl
    · intro i j h1 h2
      rw [r_cp_un (by omega) (by omega)]
      exact efr i j (by omega) (by omega)
  · refine ⟨q_u (r_R I2 A2 B2 S2 V2 f2 W2) 62 1 0, ?_, fun e => absurd e h, fun _ => ⟨?_, fun k => ⟨?_, ?_, ?_⟩⟩, ?_, ?_, ?_⟩
    · rw [if_neg h, ← hP.2.2.1 h, ← e7]
      refine G1 (r_wTF ?_)
      rw [e6, ← hR]
      have hfp : ∀ (n : Nat) (x : Int32 × t_S × t_D), (x.1 = 0 ∨ 0 < x.1) → ((t_read t n x).1 = 0 ∨ 0 < (t_read t n x).1) := by
        intro n
        induction n with
        | zero => intro x hx; exact hx
        | succ n ih =>
          intro x hx
          unfold t_read
          split
          · split
            · exact hx
            · refine ih _ ?_
              unfold t_step
              split
              · exact t_e_fp t _
              · exact t_law_fp
          · exact hx
      rcases hfp 200 (t_er t (t_S0 (I 62 5)), t_tok t (t_S0 (I 62 5)), ((fun _ => -4), 0, D.2.2)) (t_e_fp t (t_q t 0)) with h3 | h3
      · exact absurd (hR ▸ h3) h
      · exact Int32.not_le.mpr h3
    · rw [q_un _ _ (by omega)]; exact efr 62 9 (by omega) (by omega)
    · rw [q_un _ _ (by omega)]; exact efr 64 k (by omega) (by omega)
    · rw [q_un _ _ (by omega)]; exact efr 65 k (by omega) (by omega)
    · rw [q_un _ _ (by omega)]; exact efr 66 k (by omega) (by omega)
    · rw [q_un _ _ (by omega)]; exact e6
    · exact q_us _ _ _ _
    · intro i j h1 h2
      rw [q_un _ _ (by omega)]
      exact efr i j (by omega) (by omega)
