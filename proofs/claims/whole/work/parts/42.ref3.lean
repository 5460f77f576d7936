def f_r_move (I : Nat → Nat → Int32) (k j : Nat) (n : Int32) : Int32 := if (f_i3 n 1 ((I 74 k) - 1)) = 0 then (-1000000) else if ((I 74 j) + n) ≤ 6 then if (I 77 k) = (-4) then if (I 77 j) = (-4) then if 0 ≤ (lg_cmp (((Int32.toInt64 n) * (Int32.toInt64 (I 75 k))) - ((Int32.toInt64 n) * (Int32.toInt64 (I 75 k))) / (Int32.toInt64 (I 74 k)) * (Int32.toInt64 (I 74 k))) 0) then Int64.toInt32 (((Int32.toInt64 n) * (Int32.toInt64 (I 75 k))) / (Int32.toInt64 (I 74 k))) else Int64.toInt32 ((((Int32.toInt64 n) * (Int32.toInt64 (I 75 k))) / (Int32.toInt64 (I 74 k))) - 1) else (-1000002) else (-1000002) else (-1000000)
def fm_r_move (I : Nat → Nat → Int32) (k j : Nat) (n : Int32) : Nat → Nat → Int32 := if (f_i3 n 1 ((I 74 k) - 1)) = 0 then I else if ((I 74 j) + n) ≤ 6 then if (I 77 k) = (-4) then if (I 77 j) = (-4) then if 0 ≤ (lg_cmp (((Int32.toInt64 n) * (Int32.toInt64 (I 75 k))) - ((Int32.toInt64 n) * (Int32.toInt64 (I 75 k))) / (Int32.toInt64 (I 74 k)) * (Int32.toInt64 (I 74 k))) 0) then q_u (q_u (q_u (q_u I 75 k ((I 75 k) - (Int64.toInt32 (((Int32.toInt64 n) * (Int32.toInt64 (I 75 k))) / (Int32.toInt64 (I 74 k)))))) 75 j (((q_u I 75 k ((I 75 k) - (Int64.toInt32 (((Int32.toInt64 n) * (Int32.toInt64 (I 75 k))) / (Int32.toInt64 (I 74 k)))))) 75 j) + (Int64.toInt32 (((Int32.toInt64 n) * (Int32.toInt64 (I 75 k))) / (Int32.toInt64 (I 74 k)))))) 74 k ((I 74 k) - n)) 74 j (((q_u (q_u (q_u I 75 k ((I 75 k) - (Int64.toInt32 (((Int32.toInt64 n) * (Int32.toInt64 (I 75 k))) / (Int32.toInt64 (I 74 k)))))) 75 j (((q_u I 75 k ((I 75 k) - (Int64.toInt32 (((Int32.toInt64 n) * (Int32.toInt64 (I 75 k))) / (Int32.toInt64 (I 74 k)))))) 75 j) + (Int64.toInt32 (((Int32.toInt64 n) * (Int32.toInt64 (I 75 k))) / (Int32.toInt64 (I 74 k)))))) 74 k ((I 74 k) - n)) 74 j) + n) else q_u (q_u (q_u (q_u I 75 k ((I 75 k) - (Int64.toInt32 ((((Int32.toInt64 n) * (Int32.toInt64 (I 75 k))) / (Int32.toInt64 (I 74 k))) - 1)))) 75 j (((q_u I 75 k ((I 75 k) - (Int64.toInt32 ((((Int32.toInt64 n) * (Int32.toInt64 (I 75 k))) / (Int32.toInt64 (I 74 k))) - 1)))) 75 j) + (Int64.toInt32 ((((Int32.toInt64 n) * (Int32.toInt64 (I 75 k))) / (Int32.toInt64 (I 74 k))) - 1)))) 74 k ((I 74 k) - n)) 74 j (((q_u (q_u (q_u I 75 k ((I 75 k) - (Int64.toInt32 ((((Int32.toInt64 n) * (Int32.toInt64 (I 75 k))) / (Int32.toInt64 (I 74 k))) - 1)))) 75 j (((q_u I 75 k ((I 75 k) - (Int64.toInt32 ((((Int32.toInt64 n) * (Int32.toInt64 (I 75 k))) / (Int32.toInt64 (I 74 k))) - 1)))) 75 j) + (Int64.toInt32 ((((Int32.toInt64 n) * (Int32.toInt64 (I 75 k))) / (Int32.toInt64 (I 74 k))) - 1)))) 74 k ((I 74 k) - n)) 74 j) + n) else I else I else I
theorem r_move {d : Nat} {sw : Bool} {gc : Nat} {J : Nat → Nat → Int64} (I : Nat → Nat → Int32) (k j : Nat) (n : Int32) (hmg : I 62 20 = nI gc) (hg : gc ≤ 8) (hk : k < gc) (hj : j < gc) (hkj : k ≠ j) (hm : ¬ Int32.toInt64 (I 74 k) = 0) : GM (d + 2) 124 [.ref 62, .int (nI k), .int (nI j), .int n] (qS sw gc I J) (some (.int (f_r_move I k j n))) (qS sw gc (fm_r_move I k j n) J) := by
  refine GM_of (by decide) (Nat.le_refl _) (Nat.le_of_ble_eq_true rfl) trivial ?_
  refine G_st (L := 89) (k := 0) (0, [some (.ref 62), some (.int (nI k)), some (.int (nI j)), some (.int n), none, none, none, none, none], [], qS sw gc I J) (q_hn _ _ _ _) rfl ?_
  refine G_st (L := 89) (k := 2) (2, [some (.ref 62), some (.int (nI k)), some (.int (nI j)), some (.int n), none, none, none, none, none], [.int (nI k), .ref 62], qS sw gc I J) (q_hn _ _ _ _) rfl ?_
  refine G_callV (b := 62) (ci := 9) (as := [.int (nI k)]) (rest := []) rfl rfl rfl (q_lt (by decide)) (by decide) rfl rfl (Nat.le_of_ble_eq_true rfl) (r_isGang hmg hg (k := k) (by omega)) (Nat.le_refl _) ?_
  refine G_st (L := 89) (k := 0) (5, [some (.ref 62), some (.int (nI k)), some (.int (nI j)), some (.int n), none, none, none, none, none], [.int 1], qS sw gc I J) (q_hn _ _ _ _) rfl ?_
  refine G_if_eq 52 rfl rfl (fun h9 => absurd h9 (by decide)) (fun _ => ?_)
  refine G_st (L := 89) (k := 2) (10, [some (.ref 62), some (.int (nI k)), some (.int (nI j)), some (.int n), none, none, none, none, none], [.int (nI j), .ref 62], qS sw gc I J) (q_hn _ _ _ _) rfl ?_
  refine G_callV (b := 62) (ci := 9) (as := [.int (nI j)]) (rest := []) rfl rfl rfl (q_lt (by decide)) (by decide) rfl rfl (Nat.le_of_ble_eq_true rfl) (r_isGang hmg hg (k := j) (by omega)) (Nat.le_refl _) ?_
  refine G_st (L := 89) (k := 0) (13, [some (.ref 62), some (.int (nI k)), some (.int (nI j)), some (.int n), none, none, none, none, none], [.int 1], qS sw gc I J) (q_hn _ _ _ _) rfl ?_
  refine G_if_eq 52 rfl rfl (fun h9 => absurd h9 (by decide)) (fun _ => ?_)
  refine G_st (L := 89) (k := 2) (18, [some (.ref 62), some (.int (nI k)), some (.int (nI j)), some (.int n), none, none, none, none, none], [.int (nI j), .int (nI k)], qS sw gc I J) (q_hn _ _ _ _) rfl ?_
  refine G_icmp_eq 52 rfl rfl (fun h9 => absurd h9 (fun e9 => hkj ((nI_eq (by omega) (by omega)).mp e9))) (fun _ => ?_)
  refine G_st (L := 89) (k := 6) (29, [some (.ref 62), some (.int (nI k)), some (.int (nI j)), some (.int n), none, none, none, none, none], [.int (nI k), .ref 74, .long 1, .long (Int32.toInt64 n)], qS sw gc I J) (q_hn _ _ _ _) rfl ?_
  refine G_iald (i := 74) (n := 8) rfl rfl (q_lt (by decide)) (vp_in_nI (by omega) (by decide)) ?_
  rw [q_clamp (n := k) (by omega)]
  refine G_st (L := 89) (k := 3) (33, [some (.ref 62), some (.int (nI k)), some (.int (nI j)), some (.int n), none, none, none, none, none], [.long (Int32.toInt64 ((I 74 k) - 1)), .long 1, .long (Int32.toInt64 n)], qS sw gc I J) (q_hn _ _ _ _) rfl ?_
  refine G_callS (as := [.long (Int32.toInt64 n), .long 1, .long (Int32.toInt64 ((I 74 k) - 1))]) (rest := []) rfl rfl rfl (Nat.le_of_ble_eq_true rfl) (r_in (lo := 1) (hi := (I 74 k) - 1) rfl rfl) (Nat.le_refl _) ?_
  refine G_st (L := 89) (k := 0) (36, [some (.ref 62), some (.int (nI k)), some (.int (nI j)), some (.int n), none, none, none, none, none], [.int (f_i3 n 1 ((I 74 k) - 1))], qS sw gc I J) (q_hn _ _ _ _) rfl ?_
  refine G_if_eq 52 rfl rfl (fun h1 => ?_) (fun h1 => ?_)
  · skip
    refine G_st (L := 89) (k := 1) (54, [some (.ref 62), some (.int (nI k)), some (.int (nI j)), some (.int n), none, none, none, none, none], [.int (-1000000)], qS sw gc I J) (q_hn _ _ _ _) rfl ?_
    exact G_iret rfl rfl (by rw [f_r_move, if_pos h1]) (by rw [fm_r_move, if_pos h1])
  · skip
    refine G_st (L := 89) (k := 3) (44, [some (.ref 62), some (.int (nI k)), some (.int (nI j)), some (.int n), none, none, none, none, none], [.int (nI j), .ref 74], qS sw gc I J) (q_hn _ _ _ _) rfl ?_
    refine G_iald (i := 74) (n := 8) rfl rfl (q_lt (by decide)) (vp_in_nI (by omega) (by decide)) ?_
    rw [q_clamp (n := j) (by omega)]
    refine G_st (L := 89) (k := 3) (49, [some (.ref 62), some (.int (nI k)), some (.int (nI j)), some (.int n), none, none, none, none, none], [.int 6, .int ((I 74 j) + n)], qS sw gc I J) (q_hn _ _ _ _) rfl ?_
    refine G_icmp_le 55 rfl rfl (fun h2 => ?_) (fun h2 => ?_)
    · skip
      refine G_st (L := 89) (k := 3) (60, [some (.ref 62), some (.int (nI k)), some (.int (nI j)), some (.int n), none, none, none, none, none], [.int (nI k), .ref 77], qS sw gc I J) (q_hn _ _ _ _) rfl ?_
      refine G_iald (i := 77) (n := 8) rfl rfl (q_lt (by decide)) (vp_in_nI (by omega) (by decide)) ?_
      rw [q_clamp (n := k) (by omega)]
      refine G_st (L := 89) (k := 1) (63, [some (.ref 62), some (.int (nI k)), some (.int (nI j)), some (.int n), none, none, none, none, none], [.int (-4), .int (I 77 k)], qS sw gc I J) (q_hn _ _ _ _) rfl ?_
      refine G_icmp_ne 77 rfl rfl (fun h3 => ?_) (fun h3 => ?_)
      · skip
        refine G_st (L := 89) (k := 1) (79, [some (.ref 62), some (.int (nI k)), some (.int (nI j)), some (.int n), none, none, none, none, none], [.int (-1000002)], qS sw gc I J) (q_hn _ _ _ _) rfl ?_
        exact G_iret rfl rfl (by rw [f_r_move, if_neg h1, if_pos h2, if_neg h3]) (by rw [fm_r_move, if_neg h1, if_pos h2, if_neg h3])
      · skip
        refine G_st (L := 89) (k := 3) (71, [some (.ref 62), some (.int (nI k)), some (.int (nI j)), some (.int n), none, none, none, none, none], [.int (nI j), .ref 77], qS sw gc I J) (q_hn _ _ _ _) rfl ?_
        refine G_iald (i := 77) (n := 8) rfl rfl (q_lt (by decide)) (vp_in_nI (by omega) (by decide)) ?_
        rw [q_clamp (n := j) (by omega)]
        refine G_st (L := 89) (k := 1) (74, [some (.ref 62), some (.int (nI k)), some (.int (nI j)), some (.int n), none, none, none, none, none], [.int (-4), .int (I 77 j)], qS sw gc I J) (q_hn _ _ _ _) rfl ?_
        refine G_icmp_eq 80 rfl rfl (fun h4 => ?_) (fun h4 => ?_)
        · skip
          refine G_st (L := 89) (k := 5) (87, [some (.ref 62), some (.int (nI k)), some (.int (nI j)), some (.int n), none, none, none, none, none], [.int (nI k), .ref 75, .long (Int32.toInt64 n)], qS sw gc I J) (q_hn _ _ _ _) rfl ?_
          refine G_iald (i := 75) (n := 8) rfl rfl (q_lt (by decide)) (vp_in_nI (by omega) (by decide)) ?_
          rw [q_clamp (n := k) (by omega)]
          refine G_st (L := 89) (k := 7) (99, [some (.ref 62), some (.int (nI k)), some (.int (nI j)), some (.int n), some (.long ((Int32.toInt64 n) * (Int32.toInt64 (I 75 k)))), none, none, none, none], [.int (nI k), .ref 74, .long ((Int32.toInt64 n) * (Int32.toInt64 (I 75 k)))], qS sw gc I J) (q_hn _ _ _ _) rfl ?_
          refine G_iald (i := 74) (n := 8) rfl rfl (q_lt (by decide)) (vp_in_nI (by omega) (by decide)) ?_
          rw [q_clamp (n := k) (by omega)]
          refine G_st (L := 89) (k := 1) (101, [some (.ref 62), some (.int (nI k)), some (.int (nI j)), some (.int n), some (.long ((Int32.toInt64 n) * (Int32.toInt64 (I 75 k)))), none, none, none, none], [.long (Int32.toInt64 (I 74 k)), .long ((Int32.toInt64 n) * (Int32.toInt64 (I 75 k)))], qS sw gc I J) (q_hn _ _ _ _) rfl ?_
          refine G_ldiv rfl hm ?_
          refine G_st (L := 89) (k := 5) (111, [some (.ref 62), some (.int (nI k)), some (.int (nI j)), some (.int n), some (.long ((Int32.toInt64 n) * (Int32.toInt64 (I 75 k)))), none, some (.long (((Int32.toInt64 n) * (Int32.toInt64 (I 75 k))) / (Int32.toInt64 (I 74 k)))), none, none], [.int (nI k), .ref 74, .long ((Int32.toInt64 n) * (Int32.toInt64 (I 75 k)))], qS sw gc I J) (q_hn _ _ _ _) rfl ?_
          refine G_iald (i := 74) (n := 8) rfl rfl (q_lt (by decide)) (vp_in_nI (by omega) (by decide)) ?_
          rw [q_clamp (n := k) (by omega)]
          refine G_st (L := 89) (k := 1) (113, [some (.ref 62), some (.int (nI k)), some (.int (nI j)), some (.int n), some (.long ((Int32.toInt64 n) * (Int32.toInt64 (I 75 k)))), none, some (.long (((Int32.toInt64 n) * (Int32.toInt64 (I 75 k))) / (Int32.toInt64 (I 74 k)))), none, none], [.long (Int32.toInt64 (I 74 k)), .long ((Int32.toInt64 n) * (Int32.toInt64 (I 75 k)))], qS sw gc I J) (q_hn _ _ _ _) rfl ?_
          refine G_lrem rfl hm ?_
          refine G_st (L := 89) (k := 2) (116, [some (.ref 62), some (.int (nI k)), some (.int (nI j)), some (.int n), some (.long ((Int32.toInt64 n) * (Int32.toInt64 (I 75 k)))), none, some (.long (((Int32.toInt64 n) * (Int32.toInt64 (I 75 k))) / (Int32.toInt64 (I 74 k)))), none, none], [.int (lg_cmp (((Int32.toInt64 n) * (Int32.toInt64 (I 75 k))) - ((Int32.toInt64 n) * (Int32.toInt64 (I 75 k))) / (Int32.toInt64 (I 74 k)) * (Int32.toInt64 (I 74 k))) 0)], qS sw gc I J) (q_hn _ _ _ _) rfl ?_
          refine G_if_ge 126 rfl rfl (fun h5 => ?_) (fun h5 => ?_)
          · skip
            refine G_st (L := 89) (k := 7) (137, [some (.ref 62), some (.int (nI k)), some (.int (nI j)), some (.int n), some (.long ((Int32.toInt64 n) * (Int32.toInt64 (I 75 k)))), none, some (.long (((Int32.toInt64 n) * (Int32.toInt64 (I 75 k))) / (Int32.toInt64 (I 74 k)))), none, some (.int (Int64.toInt32 (((Int32.toInt64 n) * (Int32.toInt64 (I 75 k))) / (Int32.toInt64 (I 74 k)))))], [.int (nI k), .ref 75, .int (nI k), .ref 75], qS sw gc I J) (q_hn _ _ _ _) rfl ?_
            refine G_iald (i := 75) (n := 8) rfl rfl (q_lt (by decide)) (vp_in_nI (by omega) (by decide)) ?_
            rw [q_clamp (n := k) (by omega)]
            refine G_st (L := 89) (k := 2) (141, [some (.ref 62), some (.int (nI k)), some (.int (nI j)), some (.int n), some (.long ((Int32.toInt64 n) * (Int32.toInt64 (I 75 k)))), none, some (.long (((Int32.toInt64 n) * (Int32.toInt64 (I 75 k))) / (Int32.toInt64 (I 74 k)))), none, some (.int (Int64.toInt32 (((Int32.toInt64 n) * (Int32.toInt64 (I 75 k))) / (Int32.toInt64 (I 74 k)))))], [.int ((I 75 k) - (Int64.toInt32 (((Int32.toInt64 n) * (Int32.toInt64 (I 75 k))) / (Int32.toInt64 (I 74 k))))), .int (nI k), .ref 75], qS sw gc I J) (q_hn _ _ _ _) rfl ?_
            refine G_iast (i := 75) (n := 8) rfl rfl (q_lt (by decide)) (vp_in_nI (by omega) (by decide)) ?_
            rw [q_clamp (n := k) (by omega)]
            refine G_st (L := 89) (k := 4) (148, [some (.ref 62), some (.int (nI k)), some (.int (nI j)), some (.int n), some (.long ((Int32.toInt64 n) * (Int32.toInt64 (I 75 k)))), none, some (.long (((Int32.toInt64 n) * (Int32.toInt64 (I 75 k))) / (Int32.toInt64 (I 74 k)))), none, some (.int (Int64.toInt32 (((Int32.toInt64 n) * (Int32.toInt64 (I 75 k))) / (Int32.toInt64 (I 74 k)))))], [.int (nI j), .ref 75, .int (nI j), .ref 75], qS sw gc (q_u I 75 k ((I 75 k) - (Int64.toInt32 (((Int32.toInt64 n) * (Int32.toInt64 (I 75 k))) / (Int32.toInt64 (I 74 k)))))) J) (q_hn _ _ _ _) rfl ?_
            refine G_iald (i := 75) (n := 8) rfl rfl (q_lt (by decide)) (vp_in_nI (by omega) (by decide)) ?_
            rw [q_clamp (n := j) (by omega)]
            refine G_st (L := 89) (k := 2) (152, [some (.ref 62), some (.int (nI k)), some (.int (nI j)), some (.int n), some (.long ((Int32.toInt64 n) * (Int32.toInt64 (I 75 k)))), none, some (.long (((Int32.toInt64 n) * (Int32.toInt64 (I 75 k))) / (Int32.toInt64 (I 74 k)))), none, some (.int (Int64.toInt32 (((Int32.toInt64 n) * (Int32.toInt64 (I 75 k))) / (Int32.toInt64 (I 74 k)))))], [.int (((q_u I 75 k ((I 75 k) - (Int64.toInt32 (((Int32.toInt64 n) * (Int32.toInt64 (I 75 k))) / (Int32.toInt64 (I 74 k)))))) 75 j) + (Int64.toInt32 (((Int32.toInt64 n) * (Int32.toInt64 (I 75 k))) / (Int32.toInt64 (I 74 k))))), .int (nI j), .ref 75], qS sw gc (q_u I 75 k ((I 75 k) - (Int64.toInt32 (((Int32.toInt64 n) * (Int32.toInt64 (I 75 k))) / (Int32.toInt64 (I 74 k)))))) J) (q_hn _ _ _ _) rfl ?_
            refine G_iast (i := 75) (n := 8) rfl rfl (q_lt (by decide)) (vp_in_nI (by omega) (by decide)) ?_
            rw [q_clamp (n := j) (by omega)]
            refine G_st (L := 89) (k := 4) (159, [some (.ref 62), some (.int (nI k)), some (.int (nI j)), some (.int n), some (.long ((Int32.toInt64 n) * (Int32.toInt64 (I 75 k)))), none, some (.long (((Int32.toInt64 n) * (Int32.toInt64 (I 75 k))) / (Int32.toInt64 (I 74 k)))), none, some (.int (Int64.toInt32 (((Int32.toInt64 n) * (Int32.toInt64 (I 75 k))) / (Int32.toInt64 (I 74 k)))))], [.int (nI k), .ref 74, .int (nI k), .ref 74], qS sw gc (q_u (q_u I 75 k ((I 75 k) - (Int64.toInt32 (((Int32.toInt64 n) * (Int32.toInt64 (I 75 k))) / (Int32.toInt64 (I 74 k)))))) 75 j (((q_u I 75 k ((I 75 k) - (Int64.toInt32 (((Int32.toInt64 n) * (Int32.toInt64 (I 75 k))) / (Int32.toInt64 (I 74 k)))))) 75 j) + (Int64.toInt32 (((Int32.toInt64 n) * (Int32.toInt64 (I 75 k))) / (Int32.toInt64 (I 74 k)))))) J) (q_hn _ _ _ _) rfl ?_
            refine G_iald (i := 74) (n := 8) rfl rfl (q_lt (by decide)) (vp_in_nI (by omega) (by decide)) ?_
            rw [q_clamp (n := k) (by omega)]
            rw [show q_i (qS sw gc (q_u (q_u I 75 k ((I 75 k) - (Int64.toInt32 (((Int32.toInt64 n) * (Int32.toInt64 (I 75 k))) / (Int32.toInt64 (I 74 k)))))) 75 j (((q_u I 75 k ((I 75 k) - (Int64.toInt32 (((Int32.toInt64 n) * (Int32.toInt64 (I 75 k))) / (Int32.toInt64 (I 74 k)))))) 75 j) + (Int64.toInt32 (((Int32.toInt64 n) * (Int32.toInt64 (I 75 k))) / (Int32.toInt64 (I 74 k)))))) J) 74 k = I 74 k from (show (q_u (q_u I 75 k ((I 75 k) - (Int64.toInt32 (((Int32.toInt64 n) * (Int32.toInt64 (I 75 k))) / (Int32.toInt64 (I 74 k)))))) 75 j (((q_u I 75 k ((I 75 k) - (Int64.toInt32 (((Int32.toInt64 n) * (Int32.toInt64 (I 75 k))) / (Int32.toInt64 (I 74 k)))))) 75 j) + (Int64.toInt32 (((Int32.toInt64 n) * (Int32.toInt64 (I 75 k))) / (Int32.toInt64 (I 74 k)))))) 74 k = I 74 k from (q_un _ _ (by omega)).trans (q_un _ _ (by omega)))]
            refine G_st (L := 89) (k := 2) (162, [some (.ref 62), some (.int (nI k)), some (.int (nI j)), some (.int n), some (.long ((Int32.toInt64 n) * (Int32.toInt64 (I 75 k)))), none, some (.long (((Int32.toInt64 n) * (Int32.toInt64 (I 75 k))) / (Int32.toInt64 (I 74 k)))), none, some (.int (Int64.toInt32 (((Int32.toInt64 n) * (Int32.toInt64 (I 75 k))) / (Int32.toInt64 (I 74 k)))))], [.int ((I 74 k) - n), .int (nI k), .ref 74], qS sw gc (q_u (q_u I 75 k ((I 75 k) - (Int64.toInt32 (((Int32.toInt64 n) * (Int32.toInt64 (I 75 k))) / (Int32.toInt64 (I 74 k)))))) 75 j (((q_u I 75 k ((I 75 k) - (Int64.toInt32 (((Int32.toInt64 n) * (Int32.toInt64 (I 75 k))) / (Int32.toInt64 (I 74 k)))))) 75 j) + (Int64.toInt32 (((Int32.toInt64 n) * (Int32.toInt64 (I 75 k))) / (Int32.toInt64 (I 74 k)))))) J) (q_hn _ _ _ _) rfl ?_
            refine G_iast (i := 74) (n := 8) rfl rfl (q_lt (by decide)) (vp_in_nI (by omega) (by decide)) ?_
            rw [q_clamp (n := k) (by omega)]
            refine G_st (L := 89) (k := 4) (169, [some (.ref 62), some (.int (nI k)), some (.int (nI j)), some (.int n), some (.long ((Int32.toInt64 n) * (Int32.toInt64 (I 75 k)))), none, some (.long (((Int32.toInt64 n) * (Int32.toInt64 (I 75 k))) / (Int32.toInt64 (I 74 k)))), none, some (.int (Int64.toInt32 (((Int32.toInt64 n) * (Int32.toInt64 (I 75 k))) / (Int32.toInt64 (I 74 k)))))], [.int (nI j), .ref 74, .int (nI j), .ref 74], qS sw gc (q_u (q_u (q_u I 75 k ((I 75 k) - (Int64.toInt32 (((Int32.toInt64 n) * (Int32.toInt64 (I 75 k))) / (Int32.toInt64 (I 74 k)))))) 75 j (((q_u I 75 k ((I 75 k) - (Int64.toInt32 (((Int32.toInt64 n) * (Int32.toInt64 (I 75 k))) / (Int32.toInt64 (I 74 k)))))) 75 j) + (Int64.toInt32 (((Int32.toInt64 n) * (Int32.toInt64 (I 75 k))) / (Int32.toInt64 (I 74 k)))))) 74 k ((I 74 k) - n)) J) (q_hn _ _ _ _) rfl ?_
            refine G_iald (i := 74) (n := 8) rfl rfl (q_lt (by decide)) (vp_in_nI (by omega) (by decide)) ?_
            rw [q_clamp (n := j) (by omega)]
            refine G_st (L := 89) (k := 2) (172, [some (.ref 62), some (.int (nI k)), some (.int (nI j)), some (.int n), some (.long ((Int32.toInt64 n) * (Int32.toInt64 (I 75 k)))), none, some (.long (((Int32.toInt64 n) * (Int32.toInt64 (I 75 k))) / (Int32.toInt64 (I 74 k)))), none, some (.int (Int64.toInt32 (((Int32.toInt64 n) * (Int32.toInt64 (I 75 k))) / (Int32.toInt64 (I 74 k)))))], [.int (((q_u (q_u (q_u I 75 k ((I 75 k) - (Int64.toInt32 (((Int32.toInt64 n) * (Int32.toInt64 (I 75 k))) / (Int32.toInt64 (I 74 k)))))) 75 j (((q_u I 75 k ((I 75 k) - (Int64.toInt32 (((Int32.toInt64 n) * (Int32.toInt64 (I 75 k))) / (Int32.toInt64 (I 74 k)))))) 75 j) + (Int64.toInt32 (((Int32.toInt64 n) * (Int32.toInt64 (I 75 k))) / (Int32.toInt64 (I 74 k)))))) 74 k ((I 74 k) - n)) 74 j) + n), .int (nI j), .ref 74], qS sw gc (q_u (q_u (q_u I 75 k ((I 75 k) - (Int64.toInt32 (((Int32.toInt64 n) * (Int32.toInt64 (I 75 k))) / (Int32.toInt64 (I 74 k)))))) 75 j (((q_u I 75 k ((I 75 k) - (Int64.toInt32 (((Int32.toInt64 n) * (Int32.toInt64 (I 75 k))) / (Int32.toInt64 (I 74 k)))))) 75 j) + (Int64.toInt32 (((Int32.toInt64 n) * (Int32.toInt64 (I 75 k))) / (Int32.toInt64 (I 74 k)))))) 74 k ((I 74 k) - n)) J) (q_hn _ _ _ _) rfl ?_
            refine G_iast (i := 74) (n := 8) rfl rfl (q_lt (by decide)) (vp_in_nI (by omega) (by decide)) ?_
            rw [q_clamp (n := j) (by omega)]
            refine G_st (L := 89) (k := 1) (175, [some (.ref 62), some (.int (nI k)), some (.int (nI j)), some (.int n), some (.long ((Int32.toInt64 n) * (Int32.toInt64 (I 75 k)))), none, some (.long (((Int32.toInt64 n) * (Int32.toInt64 (I 75 k))) / (Int32.toInt64 (I 74 k)))), none, some (.int (Int64.toInt32 (((Int32.toInt64 n) * (Int32.toInt64 (I 75 k))) / (Int32.toInt64 (I 74 k)))))], [.int (Int64.toInt32 (((Int32.toInt64 n) * (Int32.toInt64 (I 75 k))) / (Int32.toInt64 (I 74 k))))], qS sw gc (q_u (q_u (q_u (q_u I 75 k ((I 75 k) - (Int64.toInt32 (((Int32.toInt64 n) * (Int32.toInt64 (I 75 k))) / (Int32.toInt64 (I 74 k)))))) 75 j (((q_u I 75 k ((I 75 k) - (Int64.toInt32 (((Int32.toInt64 n) * (Int32.toInt64 (I 75 k))) / (Int32.toInt64 (I 74 k)))))) 75 j) + (Int64.toInt32 (((Int32.toInt64 n) * (Int32.toInt64 (I 75 k))) / (Int32.toInt64 (I 74 k)))))) 74 k ((I 74 k) - n)) 74 j (((q_u (q_u (q_u I 75 k ((I 75 k) - (Int64.toInt32 (((Int32.toInt64 n) * (Int32.toInt64 (I 75 k))) / (Int32.toInt64 (I 74 k)))))) 75 j (((q_u I 75 k ((I 75 k) - (Int64.toInt32 (((Int32.toInt64 n) * (Int32.toInt64 (I 75 k))) / (Int32.toInt64 (I 74 k)))))) 75 j) + (Int64.toInt32 (((Int32.toInt64 n) * (Int32.toInt64 (I 75 k))) / (Int32.toInt64 (I 74 k)))))) 74 k ((I 74 k) - n)) 74 j) + n)) J) (q_hn _ _ _ _) rfl ?_
            exact G_iret rfl rfl (by rw [f_r_move, if_neg h1, if_pos h2, if_pos h3, if_pos h4, if_pos h5]) (by rw [fm_r_move, if_neg h1, if_pos h2, if_pos h3, if_pos h4, if_pos h5])
          · skip
            refine G_st (L := 89) (k := 10) (137, [some (.ref 62), some (.int (nI k)), some (.int (nI j)), some (.int n), some (.long ((Int32.toInt64 n) * (Int32.toInt64 (I 75 k)))), none, some (.long (((Int32.toInt64 n) * (Int32.toInt64 (I 75 k))) / (Int32.toInt64 (I 74 k)))), none, some (.int (Int64.toInt32 ((((Int32.toInt64 n) * (Int32.toInt64 (I 75 k))) / (Int32.toInt64 (I 74 k))) - 1)))], [.int (nI k), .ref 75, .int (nI k), .ref 75], qS sw gc I J) (q_hn _ _ _ _) rfl ?_
            refine G_iald (i := 75) (n := 8) rfl rfl (q_lt (by decide)) (vp_in_nI (by omega) (by decide)) ?_
            rw [q_clamp (n := k) (by omega)]
            refine G_st (L := 89) (k := 2) (141, [some (.ref 62), some (.int (nI k)), some (.int (nI j)), some (.int n), some (.long ((Int32.toInt64 n) * (Int32.toInt64 (I 75 k)))), none, some (.long (((Int32.toInt64 n) * (Int32.toInt64 (I 75 k))) / (Int32.toInt64 (I 74 k)))), none, some (.int (Int64.toInt32 ((((Int32.toInt64 n) * (Int32.toInt64 (I 75 k))) / (Int32.toInt64 (I 74 k))) - 1)))], [.int ((I 75 k) - (Int64.toInt32 ((((Int32.toInt64 n) * (Int32.toInt64 (I 75 k))) / (Int32.toInt64 (I 74 k))) - 1))), .int (nI k), .ref 75], qS sw gc I J) (q_hn _ _ _ _) rfl ?_
            refine G_iast (i := 75) (n := 8) rfl rfl (q_lt (by decide)) (vp_in_nI (by omega) (by decide)) ?_
            rw [q_clamp (n := k) (by omega)]
            refine G_st (L := 89) (k := 4) (148, [some (.ref 62), some (.int (nI k)), some (.int (nI j)), some (.int n), some (.long ((Int32.toInt64 n) * (Int32.toInt64 (I 75 k)))), none, some (.long (((Int32.toInt64 n) * (Int32.toInt64 (I 75 k))) / (Int32.toInt64 (I 74 k)))), none, some (.int (Int64.toInt32 ((((Int32.toInt64 n) * (Int32.toInt64 (I 75 k))) / (Int32.toInt64 (I 74 k))) - 1)))], [.int (nI j), .ref 75, .int (nI j), .ref 75], qS sw gc (q_u I 75 k ((I 75 k) - (Int64.toInt32 ((((Int32.toInt64 n) * (Int32.toInt64 (I 75 k))) / (Int32.toInt64 (I 74 k))) - 1)))) J) (q_hn _ _ _ _) rfl ?_
            refine G_iald (i := 75) (n := 8) rfl rfl (q_lt (by decide)) (vp_in_nI (by omega) (by decide)) ?_
            rw [q_clamp (n := j) (by omega)]
            refine G_st (L := 89) (k := 2) (152, [some (.ref 62), some (.int (nI k)), some (.int (nI j)), some (.int n), some (.long ((Int32.toInt64 n) * (Int32.toInt64 (I 75 k)))), none, some (.long (((Int32.toInt64 n) * (Int32.toInt64 (I 75 k))) / (Int32.toInt64 (I 74 k)))), none, some (.int (Int64.toInt32 ((((Int32.toInt64 n) * (Int32.toInt64 (I 75 k))) / (Int32.toInt64 (I 74 k))) - 1)))], [.int (((q_u I 75 k ((I 75 k) - (Int64.toInt32 ((((Int32.toInt64 n) * (Int32.toInt64 (I 75 k))) / (Int32.toInt64 (I 74 k))) - 1)))) 75 j) + (Int64.toInt32 ((((Int32.toInt64 n) * (Int32.toInt64 (I 75 k))) / (Int32.toInt64 (I 74 k))) - 1))), .int (nI j), .ref 75], qS sw gc (q_u I 75 k ((I 75 k) - (Int64.toInt32 ((((Int32.toInt64 n) * (Int32.toInt64 (I 75 k))) / (Int32.toInt64 (I 74 k))) - 1)))) J) (q_hn _ _ _ _) rfl ?_
            refine G_iast (i := 75) (n := 8) rfl rfl (q_lt (by decide)) (vp_in_nI (by omega) (by decide)) ?_
            rw [q_clamp (n := j) (by omega)]
            refine G_st (L := 89) (k := 4) (159, [some (.ref 62), some (.int (nI k)), some (.int (nI j)), some (.int n), some (.long ((Int32.toInt64 n) * (Int32.toInt64 (I 75 k)))), none, some (.long (((Int32.toInt64 n) * (Int32.toInt64 (I 75 k))) / (Int32.toInt64 (I 74 k)))), none, some (.int (Int64.toInt32 ((((Int32.toInt64 n) * (Int32.toInt64 (I 75 k))) / (Int32.toInt64 (I 74 k))) - 1)))], [.int (nI k), .ref 74, .int (nI k), .ref 74], qS sw gc (q_u (q_u I 75 k ((I 75 k) - (Int64.toInt32 ((((Int32.toInt64 n) * (Int32.toInt64 (I 75 k))) / (Int32.toInt64 (I 74 k))) - 1)))) 75 j (((q_u I 75 k ((I 75 k) - (Int64.toInt32 ((((Int32.toInt64 n) * (Int32.toInt64 (I 75 k))) / (Int32.toInt64 (I 74 k))) - 1)))) 75 j) + (Int64.toInt32 ((((Int32.toInt64 n) * (Int32.toInt64 (I 75 k))) / (Int32.toInt64 (I 74 k))) - 1)))) J) (q_hn _ _ _ _) rfl ?_
            refine G_iald (i := 74) (n := 8) rfl rfl (q_lt (by decide)) (vp_in_nI (by omega) (by decide)) ?_
            rw [q_clamp (n := k) (by omega)]
            rw [show q_i (qS sw gc (q_u (q_u I 75 k ((I 75 k) - (Int64.toInt32 ((((Int32.toInt64 n) * (Int32.toInt64 (I 75 k))) / (Int32.toInt64 (I 74 k))) - 1)))) 75 j (((q_u I 75 k ((I 75 k) - (Int64.toInt32 ((((Int32.toInt64 n) * (Int32.toInt64 (I 75 k))) / (Int32.toInt64 (I 74 k))) - 1)))) 75 j) + (Int64.toInt32 ((((Int32.toInt64 n) * (Int32.toInt64 (I 75 k))) / (Int32.toInt64 (I 74 k))) - 1)))) J) 74 k = I 74 k from (show (q_u (q_u I 75 k ((I 75 k) - (Int64.toInt32 ((((Int32.toInt64 n) * (Int32.toInt64 (I 75 k))) / (Int32.toInt64 (I 74 k))) - 1)))) 75 j (((q_u I 75 k ((I 75 k) - (Int64.toInt32 ((((Int32.toInt64 n) * (Int32.toInt64 (I 75 k))) / (Int32.toInt64 (I 74 k))) - 1)))) 75 j) + (Int64.toInt32 ((((Int32.toInt64 n) * (Int32.toInt64 (I 75 k))) / (Int32.toInt64 (I 74 k))) - 1)))) 74 k = I 74 k from (q_un _ _ (by omega)).trans (q_un _ _ (by omega)))]
            refine G_st (L := 89) (k := 2) (162, [some (.ref 62), some (.int (nI k)), some (.int (nI j)), some (.int n), some (.long ((Int32.toInt64 n) * (Int32.toInt64 (I 75 k)))), none, some (.long (((Int32.toInt64 n) * (Int32.toInt64 (I 75 k))) / (Int32.toInt64 (I 74 k)))), none, some (.int (Int64.toInt32 ((((Int32.toInt64 n) * (Int32.toInt64 (I 75 k))) / (Int32.toInt64 (I 74 k))) - 1)))], [.int ((I 74 k) - n), .int (nI k), .ref 74], qS sw gc (q_u (q_u I 75 k ((I 75 k) - (Int64.toInt32 ((((Int32.toInt64 n) * (Int32.toInt64 (I 75 k))) / (Int32.toInt64 (I 74 k))) - 1)))) 75 j (((q_u I 75 k ((I 75 k) - (Int64.toInt32 ((((Int32.toInt64 n) * (Int32.toInt64 (I 75 k))) / (Int32.toInt64 (I 74 k))) - 1)))) 75 j) + (Int64.toInt32 ((((Int32.toInt64 n) * (Int32.toInt64 (I 75 k))) / (Int32.toInt64 (I 74 k))) - 1)))) J) (q_hn _ _ _ _) rfl ?_
            refine G_iast (i := 74) (n := 8) rfl rfl (q_lt (by decide)) (vp_in_nI (by omega) (by decide)) ?_
            rw [q_clamp (n := k) (by omega)]
            refine G_st (L := 89) (k := 4) (169, [some (.ref 62), some (.int (nI k)), some (.int (nI j)), some (.int n), some (.long ((Int32.toInt64 n) * (Int32.toInt64 (I 75 k)))), none, some (.long (((Int32.toInt64 n) * (Int32.toInt64 (I 75 k))) / (Int32.toInt64 (I 74 k)))), none, some (.int (Int64.toInt32 ((((Int32.toInt64 n) * (Int32.toInt64 (I 75 k))) / (Int32.toInt64 (I 74 k))) - 1)))], [.int (nI j), .ref 74, .int (nI j), .ref 74], qS sw gc (q_u (q_u (q_u I 75 k ((I 75 k) - (Int64.toInt32 ((((Int32.toInt64 n) * (Int32.toInt64 (I 75 k))) / (Int32.toInt64 (I 74 k))) - 1)))) 75 j (((q_u I 75 k ((I 75 k) - (Int64.toInt32 ((((Int32.toInt64 n) * (Int32.toInt64 (I 75 k))) / (Int32.toInt64 (I 74 k))) - 1)))) 75 j) + (Int64.toInt32 ((((Int32.toInt64 n) * (Int32.toInt64 (I 75 k))) / (Int32.toInt64 (I 74 k))) - 1)))) 74 k ((I 74 k) - n)) J) (q_hn _ _ _ _) rfl ?_
            refine G_iald (i := 74) (n := 8) rfl rfl (q_lt (by decide)) (vp_in_nI (by omega) (by decide)) ?_
            rw [q_clamp (n := j) (by omega)]
            refine G_st (L := 89) (k := 2) (172, [some (.ref 62), some (.int (nI k)), some (.int (nI j)), some (.int n), some (.long ((Int32.toInt64 n) * (Int32.toInt64 (I 75 k)))), none, some (.long (((Int32.toInt64 n) * (Int32.toInt64 (I 75 k))) / (Int32.toInt64 (I 74 k)))), none, some (.int (Int64.toInt32 ((((Int32.toInt64 n) * (Int32.toInt64 (I 75 k))) / (Int32.toInt64 (I 74 k))) - 1)))], [.int (((q_u (q_u (q_u I 75 k ((I 75 k) - (Int64.toInt32 ((((Int32.toInt64 n) * (Int32.toInt64 (I 75 k))) / (Int32.toInt64 (I 74 k))) - 1)))) 75 j (((q_u I 75 k ((I 75 k) - (Int64.toInt32 ((((Int32.toInt64 n) * (Int32.toInt64 (I 75 k))) / (Int32.toInt64 (I 74 k))) - 1)))) 75 j) + (Int64.toInt32 ((((Int32.toInt64 n) * (Int32.toInt64 (I 75 k))) / (Int32.toInt64 (I 74 k))) - 1)))) 74 k ((I 74 k) - n)) 74 j) + n), .int (nI j), .ref 74], qS sw gc (q_u (q_u (q_u I 75 k ((I 75 k) - (Int64.toInt32 ((((Int32.toInt64 n) * (Int32.toInt64 (I 75 k))) / (Int32.toInt64 (I 74 k))) - 1)))) 75 j (((q_u I 75 k ((I 75 k) - (Int64.toInt32 ((((Int32.toInt64 n) * (Int32.toInt64 (I 75 k))) / (Int32.toInt64 (I 74 k))) - 1)))) 75 j) + (Int64.toInt32 ((((Int32.toInt64 n) * (Int32.toInt64 (I 75 k))) / (Int32.toInt64 (I 74 k))) - 1)))) 74 k ((I 74 k) - n)) J) (q_hn _ _ _ _) rfl ?_
            refine G_iast (i := 74) (n := 8) rfl rfl (q_lt (by decide)) (vp_in_nI (by omega) (by decide)) ?_
            rw [q_clamp (n := j) (by omega)]
            refine G_st (L := 89) (k := 1) (175, [some (.ref 62), some (.int (nI k)), some (.int (nI j)), some (.int n), some (.long ((Int32.toInt64 n) * (Int32.toInt64 (I 75 k)))), none, some (.long (((Int32.toInt64 n) * (Int32.toInt64 (I 75 k))) / (Int32.toInt64 (I 74 k)))), none, some (.int (Int64.toInt32 ((((Int32.toInt64 n) * (Int32.toInt64 (I 75 k))) / (Int32.toInt64 (I 74 k))) - 1)))], [.int (Int64.toInt32 ((((Int32.toInt64 n) * (Int32.toInt64 (I 75 k))) / (Int32.toInt64 (I 74 k))) - 1))], qS sw gc (q_u (q_u (q_u (q_u I 75 k ((I 75 k) - (Int64.toInt32 ((((Int32.toInt64 n) * (Int32.toInt64 (I 75 k))) / (Int32.toInt64 (I 74 k))) - 1)))) 75 j (((q_u I 75 k ((I 75 k) - (Int64.toInt32 ((((Int32.toInt64 n) * (Int32.toInt64 (I 75 k))) / (Int32.toInt64 (I 74 k))) - 1)))) 75 j) + (Int64.toInt32 ((((Int32.toInt64 n) * (Int32.toInt64 (I 75 k))) / (Int32.toInt64 (I 74 k))) - 1)))) 74 k ((I 74 k) - n)) 74 j (((q_u (q_u (q_u I 75 k ((I 75 k) - (Int64.toInt32 ((((Int32.toInt64 n) * (Int32.toInt64 (I 75 k))) / (Int32.toInt64 (I 74 k))) - 1)))) 75 j (((q_u I 75 k ((I 75 k) - (Int64.toInt32 ((((Int32.toInt64 n) * (Int32.toInt64 (I 75 k))) / (Int32.toInt64 (I 74 k))) - 1)))) 75 j) + (Int64.toInt32 ((((Int32.toInt64 n) * (Int32.toInt64 (I 75 k))) / (Int32.toInt64 (I 74 k))) - 1)))) 74 k ((I 74 k) - n)) 74 j) + n)) J) (q_hn _ _ _ _) rfl ?_
            exact G_iret rfl rfl (by rw [f_r_move, if_neg h1, if_pos h2, if_pos h3, if_pos h4, if_neg h5]) (by rw [fm_r_move, if_neg h1, if_pos h2, if_pos h3, if_pos h4, if_neg h5])
        · skip
          refine G_st (L := 89) (k := 1) (79, [some (.ref 62), some (.int (nI k)), some (.int (nI j)), some (.int n), none, none, none, none, none], [.int (-1000002)], qS sw gc I J) (q_hn _ _ _ _) rfl ?_
          exact G_iret rfl rfl (by rw [f_r_move, if_neg h1, if_pos h2, if_pos h3, if_neg h4]) (by rw [fm_r_move, if_neg h1, if_pos h2, if_pos h3, if_neg h4])
    · skip
      refine G_st (L := 89) (k := 1) (54, [some (.ref 62), some (.int (nI k)), some (.int (nI j)), some (.int n), none, none, none, none, none], [.int (-1000000)], qS sw gc I J) (q_hn _ _ _ _) rfl ?_
      exact G_iret rfl rfl (by rw [f_r_move, if_neg h1, if_neg h2]) (by rw [fm_r_move, if_neg h1, if_neg h2])
theorem r_moveE {d : Nat} {sw : Bool} {gc : Nat} {I : Nat → Nat → Int32} {J : Nat → Nat → Int64} (hmg : I 62 20 = nI gc) (hg : gc ≤ 8) {k : Nat} (hk : k < gc) {n : Int32} : GM (d + 2) 124 [.ref 62, .int (nI k), .int (nI k), .int n] (qS sw gc I J) (some (.int (-1000000))) (qS sw gc I J) := by
  refine GM_of (by decide) (Nat.le_refl _) (Nat.le_of_ble_eq_true rfl) trivial ?_
  refine G_st (L := 89) (k := 0) (0, [some (.ref 62), some (.int (nI k)), some (.int (nI k)), some (.int n), none, none, none, none, none], [], qS sw gc I J) (q_hn _ _ _ _) rfl ?_
  refine G_st (L := 89) (k := 2) (2, [some (.ref 62), some (.int (nI k)), some (.int (nI k)), some (.int n), none, none, none, none, none], [.int (nI k), .ref 62], qS sw gc I J) (q_hn _ _ _ _) rfl ?_
  refine G_callV (b := 62) (ci := 9) (as := [.int (nI k)]) (rest := []) rfl rfl rfl (q_lt (by decide)) (by decide) rfl rfl (Nat.le_of_ble_eq_true rfl) (r_isGang hmg hg (k := k) (by omega)) (Nat.le_refl _) ?_
  refine G_st (L := 89) (k := 0) (5, [some (.ref 62), some (.int (nI k)), some (.int (nI k)), some (.int n), none, none, none, none, none], [.int 1], qS sw gc I J) (q_hn _ _ _ _) rfl ?_
  refine G_if_eq 52 rfl rfl (fun h9 => absurd h9 (by decide)) (fun _ => ?_)
  refine G_st (L := 89) (k := 2) (10, [some (.ref 62), some (.int (nI k)), some (.int (nI k)), some (.int n), none, none, none, none, none], [.int (nI k), .ref 62], qS sw gc I J) (q_hn _ _ _ _) rfl ?_
  refine G_callV (b := 62) (ci := 9) (as := [.int (nI k)]) (rest := []) rfl rfl rfl (q_lt (by decide)) (by decide) rfl rfl (Nat.le_of_ble_eq_true rfl) (r_isGang hmg hg (k := k) (by omega)) (Nat.le_refl _) ?_
  refine G_st (L := 89) (k := 0) (13, [some (.ref 62), some (.int (nI k)), some (.int (nI k)), some (.int n), none, none, none, none, none], [.int 1], qS sw gc I J) (q_hn _ _ _ _) rfl ?_
  refine G_if_eq 52 rfl rfl (fun h9 => absurd h9 (by decide)) (fun _ => ?_)
  refine G_st (L := 89) (k := 2) (18, [some (.ref 62), some (.int (nI k)), some (.int (nI k)), some (.int n), none, none, none, none, none], [.int (nI k), .int (nI k)], qS sw gc I J) (q_hn _ _ _ _) rfl ?_
  refine G_icmp_eq 52 rfl rfl (fun _ => ?_) (fun h9 => absurd rfl h9)
  refine G_st (L := 89) (k := 1) (54, [some (.ref 62), some (.int (nI k)), some (.int (nI k)), some (.int n), none, none, none, none, none], [.int (-1000000)], qS sw gc I J) (q_hn _ _ _ _) rfl ?_
  exact G_iret rfl rfl rfl rfl
theorem r_moveX {d : Nat} {sw : Bool} {gc : Nat} {I : Nat → Nat → Int32} {J : Nat → Nat → Int64} (hmg : I 62 20 = nI gc) (hg : gc ≤ 8) {x : Int32} (hx : Int32.toInt64 x < 0 ∨ lN gc ≤ Int32.toInt64 x) {y n : Int32} : GM (d + 2) 124 [.ref 62, .int x, .int y, .int n] (qS sw gc I J) (some (.int (-1000000))) (qS sw gc I J) := by
  refine GM_of (by decide) (Nat.le_refl _) (Nat.le_of_ble_eq_true rfl) trivial ?_
  refine G_st (L := 89) (k := 0) (0, [some (.ref 62), some (.int x), some (.int y), some (.int n), none, none, none, none, none], [], qS sw gc I J) (q_hn _ _ _ _) rfl ?_
  refine G_st (L := 89) (k := 2) (2, [some (.ref 62), some (.int x), some (.int y), some (.int n), none, none, none, none, none], [.int x, .ref 62], qS sw gc I J) (q_hn _ _ _ _) rfl ?_
  refine G_callV (b := 62) (ci := 9) (as := [.int x]) (rest := []) rfl rfl rfl (q_lt (by decide)) (by decide) rfl rfl (Nat.le_of_ble_eq_true rfl) (r_isGangB hmg hg hx) (Nat.le_refl _) ?_
  refine G_st (L := 89) (k := 0) (5, [some (.ref 62), some (.int x), some (.int y), some (.int n), none, none, none, none, none], [.int 0], qS sw gc I J) (q_hn _ _ _ _) rfl ?_
  refine G_if_eq 52 rfl rfl (fun _ => ?_) (fun h9 => absurd h9 (by decide))
  refine G_st (L := 89) (k := 1) (54, [some (.ref 62), some (.int x), some (.int y), some (.int n), none, none, none, none, none], [.int (-1000000)], qS sw gc I J) (q_hn _ _ _ _) rfl ?_
  exact G_iret rfl rfl rfl rfl
theorem r_moveY {d : Nat} {sw : Bool} {gc : Nat} {I : Nat → Nat → Int32} {J : Nat → Nat → Int64} (hmg : I 62 20 = nI gc) (hg : gc ≤ 8) {x : Int32} (hx : Int32.toInt64 x < 0 ∨ lN gc ≤ Int32.toInt64 x) {n : Int32} {j : Nat} (hj : j < gc) : GM (d + 2) 124 [.ref 62, .int (nI j), .int x, .int n] (qS sw gc I J) (some (.int (-1000000))) (qS sw gc I J) := by
  refine GM_of (by decide) (Nat.le_refl _) (Nat.le_of_ble_eq_true rfl) trivial ?_
  refine G_st (L := 89) (k := 0) (0, [some (.ref 62), some (.int (nI j)), some (.int x), some (.int n), none, none, none, none, none], [], qS sw gc I J) (q_hn _ _ _ _) rfl ?_
  refine G_st (L := 89) (k := 2) (2, [some (.ref 62), some (.int (nI j)), some (.int x), some (.int n), none, none, none, none, none], [.int (nI j), .ref 62], qS sw gc I J) (q_hn _ _ _ _) rfl ?_
  refine G_callV (b := 62) (ci := 9) (as := [.int (nI j)]) (rest := []) rfl rfl rfl (q_lt (by decide)) (by decide) rfl rfl (Nat.le_of_ble_eq_true rfl) (r_isGang hmg hg (k := j) (by omega)) (Nat.le_refl _) ?_
  refine G_st (L := 89) (k := 0) (5, [some (.ref 62), some (.int (nI j)), some (.int x), some (.int n), none, none, none, none, none], [.int 1], qS sw gc I J) (q_hn _ _ _ _) rfl ?_
  refine G_if_eq 52 rfl rfl (fun h9 => absurd h9 (by decide)) (fun _ => ?_)
  refine G_st (L := 89) (k := 2) (10, [some (.ref 62), some (.int (nI j)), some (.int x), some (.int n), none, none, none, none, none], [.int x, .ref 62], qS sw gc I J) (q_hn _ _ _ _) rfl ?_
  refine G_callV (b := 62) (ci := 9) (as := [.int x]) (rest := []) rfl rfl rfl (q_lt (by decide)) (by decide) rfl rfl (Nat.le_of_ble_eq_true rfl) (r_isGangB hmg hg hx) (Nat.le_refl _) ?_
  refine G_st (L := 89) (k := 0) (13, [some (.ref 62), some (.int (nI j)), some (.int x), some (.int n), none, none, none, none, none], [.int 0], qS sw gc I J) (q_hn _ _ _ _) rfl ?_
  refine G_if_eq 52 rfl rfl (fun _ => ?_) (fun h9 => absurd h9 (by decide))
  refine G_st (L := 89) (k := 1) (54, [some (.ref 62), some (.int (nI j)), some (.int x), some (.int n), none, none, none, none, none], [.int (-1000000)], qS sw gc I J) (q_hn _ _ _ _) rfl ?_
  exact G_iret rfl rfl rfl rfl
def r_askP (I : Nat → Nat → Int32) (i : Nat) : Bool := !decide (I 81 i = (-4))
theorem r_am_loop {d : Nat} {sw : Bool} {gc : Nat} {I : Nat → Nat → Int32} {J : Nat → Nat → Int64} : ∀ (n i c : Nat), i + n = 240 → c + n < 1000 → G d 125 (4, [some (.ref 62), some (.int (nI c)), some (.int (nI i))], [], qS sw gc I J) (some (.int (nI (c + q_cnt (r_askP I) n i)))) (qS sw gc I J) := by
  intro n
  induction n with
  | zero =>
    intro i c h hc
    obtain rfl : i = 240 := by omega
    show G d 125 _ (some (.int (nI c))) _
    refine G_st (L := 89) (k := 2) (8, [some (.ref 62), some (.int (nI c)), some (.int 240)], [.int 240, .int 240], qS sw gc I J) (q_hn _ _ _ _) rfl ?_
    refine G_icmp_ge 36 rfl rfl (fun _ => ?_) (fun h9 => absurd h9 (by decide))
    refine G_st (L := 89) (k := 1) (37, [some (.ref 62), some (.int (nI c)), some (.int 240)], [.int (nI c)], qS sw gc I J) (q_hn _ _ _ _) rfl ?_
    exact G_iret rfl rfl rfl rfl
  | succ n ih =>
    intro i c h hc
    by_cases hl : I 81 i = -4
    · rw [show c + q_cnt (r_askP I) (n + 1) i = c + 0 + q_cnt (r_askP I) n (i + 1) by rw [q_cnt, r_askP, decide_eq_true hl]; simp]
      refine G_st (L := 89) (k := 2) (8, [some (.ref 62), some (.int (nI c)), some (.int (nI i))], [.int 240, .int (nI i)], qS sw gc I J) (q_hn _ _ _ _) rfl ?_
      refine G_icmp_ge 36 rfl rfl (fun h9 => absurd h9 (nI_ge (b := 240) (by omega) (by decide))) (fun _ => ?_)
      refine G_st (L := 89) (k := 4) (17, [some (.ref 62), some (.int (nI c)), some (.int (nI i))], [.int (nI i), .ref 81, .int (nI c)], qS sw gc I J) (q_hn _ _ _ _) rfl ?_
      refine G_iald (i := 81) (n := 240) rfl rfl (q_lt (by decide)) (vp_in_nI (by omega) (by decide)) ?_
      rw [q_clamp (n := i) (by omega)]
      refine G_st (L := 89) (k := 1) (20, [some (.ref 62), some (.int (nI c)), some (.int (nI i))], [.int (-4), .int (I 81 i), .int (nI c)], qS sw gc I J) (q_hn _ _ _ _) rfl ?_
      refine G_icmp_ne 27 rfl rfl (fun h9 => absurd hl h9) (fun _ => ?_)
      refine G_st (L := 89) (k := 6) (4, [some (.ref 62), some (.int ((nI c) + 0)), some (.int ((nI i) + 1))], [], qS sw gc I J) (q_hn _ _ _ _) rfl ?_
      rw [show (nI c) + 0 = nI (c + 0) from (q_addP rfl rfl)]
      rw [show (nI i) + 1 = nI (i + 1) from (q_addP rfl rfl)]
      exact ih (i + 1) (c + 0) (by omega) (by omega)
    · rw [show c + q_cnt (r_askP I) (n + 1) i = c + 1 + q_cnt (r_askP I) n (i + 1) by rw [q_cnt, r_askP, decide_eq_false hl]; simp; omega]
      refine G_st (L := 89) (k := 2) (8, [some (.ref 62), some (.int (nI c)), some (.int (nI i))], [.int 240, .int (nI i)], qS sw gc I J) (q_hn _ _ _ _) rfl ?_
      refine G_icmp_ge 36 rfl rfl (fun h9 => absurd h9 (nI_ge (b := 240) (by omega) (by decide))) (fun _ => ?_)
      refine G_st (L := 89) (k := 4) (17, [some (.ref 62), some (.int (nI c)), some (.int (nI i))], [.int (nI i), .ref 81, .int (nI c)], qS sw gc I J) (q_hn _ _ _ _) rfl ?_
      refine G_iald (i := 81) (n := 240) rfl rfl (q_lt (by decide)) (vp_in_nI (by omega) (by decide)) ?_
      rw [q_clamp (n := i) (by omega)]
      refine G_st (L := 89) (k := 1) (20, [some (.ref 62), some (.int (nI c)), some (.int (nI i))], [.int (-4), .int (I 81 i), .int (nI c)], qS sw gc I J) (q_hn _ _ _ _) rfl ?_
      refine G_icmp_ne 27 rfl rfl (fun _ => ?_) (fun h9 => absurd h9 hl)
      refine G_st (L := 89) (k := 5) (4, [some (.ref 62), some (.int ((nI c) + 1)), some (.int ((nI i) + 1))], [], qS sw gc I J) (q_hn _ _ _ _) rfl ?_
      rw [show (nI c) + 1 = nI (c + 1) from (q_addP rfl rfl)]
      rw [show (nI i) + 1 = nI (i + 1) from (q_addP rfl rfl)]
      exact ih (i + 1) (c + 1) (by omega) (by omega)
theorem r_askMany {d : Nat} {sw : Bool} {gc : Nat} {I : Nat → Nat → Int32} {J : Nat → Nat → Int64}  : GM d 125 [.ref 62] (qS sw gc I J) (some (.int (nI (q_cnt (r_askP I) 240 0)))) (qS sw gc I J) := by
  refine GM_of (by decide) (Nat.le_refl _) (Nat.le_of_ble_eq_true rfl) trivial ?_
  refine G_st (L := 89) (k := 0) (0, [some (.ref 62), none, none], [], qS sw gc I J) (q_hn _ _ _ _) rfl ?_
  refine G_st (L := 89) (k := 4) (4, [some (.ref 62), some (.int 0), some (.int 0)], [], qS sw gc I J) (q_hn _ _ _ _) rfl ?_
  have h9 := r_am_loop (d := d) (sw := sw) (gc := gc) (I := I) (J := J) 240 0 0 (by omega) (by omega)
  rw [Nat.zero_add] at h9
  exact h9
theorem r_ask {d : Nat} {sw : Bool} {gc : Nat} {I : Nat → Nat → Int32} {J : Nat → Nat → Int64} (hmg : I 62 20 = nI gc) (hg : gc ≤ 8) {k : Nat} (hk : k < gc) {a b : Nat} (ha : a < 5) (hb : b < 6) {p : Int32} (hp : f_i3 p 0 9999 = 1) (hl : I 62 29 = 0) : GM (d + 2) 126 [.ref 62, .int (nI k), .int (nI a), .int (nI b), .int p] (qS sw gc I J) (some (.int (nI (q_cnt (r_askP (q_u I 81 (30 * k + 6 * a + b) p)) 240 0)))) (qS sw gc (q_u I 81 (30 * k + 6 * a + b) p) J) := by
  refine GM_of (by decide) (Nat.le_refl _) (Nat.le_of_ble_eq_true rfl) trivial ?_
  refine G_st (L := 89) (k := 0) (0, [some (.ref 62), some (.int (nI k)), some (.int (nI a)), some (.int (nI b)), some (.int p)], [], qS sw gc I J) (q_hn _ _ _ _) rfl ?_
  refine G_st (L := 89) (k := 2) (2, [some (.ref 62), some (.int (nI k)), some (.int (nI a)), some (.int (nI b)), some (.int p)], [.int (nI k), .ref 62], qS sw gc I J) (q_hn _ _ _ _) rfl ?_
  refine G_callV (b := 62) (ci := 9) (as := [.int (nI k)]) (rest := []) rfl rfl rfl (q_lt (by decide)) (by decide) rfl rfl (Nat.le_of_ble_eq_true rfl) (r_isGang hmg hg (k := k) (by omega)) (Nat.le_refl _) ?_
  refine G_st (L := 89) (k := 0) (5, [some (.ref 62), some (.int (nI k)), some (.int (nI a)), some (.int (nI b)), some (.int p)], [.int 1], qS sw gc I J) (q_hn _ _ _ _) rfl ?_
  refine G_if_eq 29 rfl rfl (fun h9 => absurd h9 (by decide)) (fun _ => ?_)
  refine G_st (L := 89) (k := 2) (10, [some (.ref 62), some (.int (nI k)), some (.int (nI a)), some (.int (nI b)), some (.int p)], [.int (nI b), .int (nI a)], qS sw gc I J) (q_hn _ _ _ _) rfl ?_
  refine G_callS (as := [.int (nI a), .int (nI b)]) (rest := []) rfl rfl rfl (Nat.le_of_ble_eq_true rfl) (r_isFace ha hb) (Nat.le_refl _) ?_
  refine G_st (L := 89) (k := 0) (13, [some (.ref 62), some (.int (nI k)), some (.int (nI a)), some (.int (nI b)), some (.int p)], [.int 1], qS sw gc I J) (q_hn _ _ _ _) rfl ?_
  refine G_if_eq 29 rfl rfl (fun h9 => absurd h9 (by decide)) (fun _ => ?_)
  refine G_st (L := 89) (k := 4) (23, [some (.ref 62), some (.int (nI k)), some (.int (nI a)), some (.int (nI b)), some (.int p)], [.long 9999, .long 0, .long (Int32.toInt64 p)], qS sw gc I J) (q_hn _ _ _ _) rfl ?_
  refine G_callS (as := [.long (Int32.toInt64 p), .long 0, .long 9999]) (rest := []) rfl rfl rfl (Nat.le_of_ble_eq_true rfl) (r_in (lo := 0) (hi := 9999) rfl rfl) (Nat.le_refl _) ?_
  refine G_st (L := 89) (k := 0) (26, [some (.ref 62), some (.int (nI k)), some (.int (nI a)), some (.int (nI b)), some (.int p)], [.int (f_i3 p 0 9999)], qS sw gc I J) (q_hn _ _ _ _) rfl ?_
  refine G_if_ne 31 rfl rfl (fun _ => ?_) (fun h9 => absurd h9 (by rw [hp]; decide))
  refine G_st (L := 89) (k := 2) (35, [some (.ref 62), some (.int (nI k)), some (.int (nI a)), some (.int (nI b)), some (.int p)], [.int (I 62 29)], qS sw gc I J) (q_hn _ _ _ _) rfl ?_
  refine G_if_eq 41 rfl rfl (fun _ => ?_) (fun h9 => absurd hl h9)
  refine G_st (L := 89) (k := 12) (58, [some (.ref 62), some (.int (nI k)), some (.int (nI a)), some (.int (nI b)), some (.int p)], [.int p, .int (((30 * (nI k)) + (6 * (nI a))) + (nI b)), .ref 81], qS sw gc I J) (q_hn _ _ _ _) rfl ?_
  rw [show ((30 * (nI k)) + (6 * (nI a))) + (nI b) = nI (30 * k + 6 * a + b) from (q_addP (q_addP (q_mulP rfl rfl) (q_mulP rfl rfl)) rfl)]
  refine G_iast (i := 81) (n := 240) rfl rfl (q_lt (by decide)) (vp_in_nI (by omega) (by decide)) ?_
  rw [q_clamp (n := 30 * k + 6 * a + b) (by omega)]
  refine G_st (L := 89) (k := 1) (60, [some (.ref 62), some (.int (nI k)), some (.int (nI a)), some (.int (nI b)), some (.int p)], [.ref 62], qS sw gc (q_u I 81 (30 * k + 6 * a + b) p) J) (q_hn _ _ _ _) rfl ?_
  refine G_callV (b := 62) (ci := 9) (as := []) (rest := []) rfl rfl rfl (q_lt (by decide)) (by decide) rfl rfl (Nat.le_of_ble_eq_true rfl) r_askMany (Nat.le_refl _) ?_
  refine G_st (L := 89) (k := 0) (63, [some (.ref 62), some (.int (nI k)), some (.int (nI a)), some (.int (nI b)), some (.int p)], [.int (nI (q_cnt (r_askP (q_u I 81 (30 * k + 6 * a + b) p)) 240 0))], qS sw gc (q_u I 81 (30 * k + 6 * a + b) p) J) (q_hn _ _ _ _) rfl ?_
  exact G_iret rfl rfl rfl rfl
theorem r_askL {d : Nat} {sw : Bool} {gc : Nat} {I : Nat → Nat → Int32} {J : Nat → Nat → Int64} (hmg : I 62 20 = nI gc) (hg : gc ≤ 8) {k : Nat} (hk : k < gc) {a b : Nat} (ha : a < 5) (hb : b < 6) {p : Int32} (hp : f_i3 p 0 9999 = 1) (hl : ¬ I 62 29 = 0) : GM (d + 2) 126 [.ref 62, .int (nI k), .int (nI a), .int (nI b), .int p] (qS sw gc I J) (some (.int (-2))) (qS sw gc I J) := by
  refine GM_of (by decide) (Nat.le_refl _) (Nat.le_of_ble_eq_true rfl) trivial ?_
  refine G_st (L := 89) (k := 0) (0, [some (.ref 62), some (.int (nI k)), some (.int (nI a)), some (.int (nI b)), some (.int p)], [], qS sw gc I J) (q_hn _ _ _ _) rfl ?_
  refine G_st (L := 89) (k := 2) (2, [some (.ref 62), some (.int (nI k)), some (.int (nI a)), some (.int (nI b)), some (.int p)], [.int (nI k), .ref 62], qS sw gc I J) (q_hn _ _ _ _) rfl ?_
  refine G_callV (b := 62) (ci := 9) (as := [.int (nI k)]) (rest := []) rfl rfl rfl (q_lt (by decide)) (by decide) rfl rfl (Nat.le_of_ble_eq_true rfl) (r_isGang hmg hg (k := k) (by omega)) (Nat.le_refl _) ?_
  refine G_st (L := 89) (k := 0) (5, [some (.ref 62), some (.int (nI k)), some (.int (nI a)), some (.int (nI b)), some (.int p)], [.int 1], qS sw gc I J) (q_hn _ _ _ _) rfl ?_
  refine G_if_eq 29 rfl rfl (fun h9 => absurd h9 (by decide)) (fun _ => ?_)
  refine G_st (L := 89) (k := 2) (10, [some (.ref 62), some (.int (nI k)), some (.int (nI a)), some (.int (nI b)), some (.int p)], [.int (nI b), .int (nI a)], qS sw gc I J) (q_hn _ _ _ _) rfl ?_
  refine G_callS (as := [.int (nI a), .int (nI b)]) (rest := []) rfl rfl rfl (Nat.le_of_ble_eq_true rfl) (r_isFace ha hb) (Nat.le_refl _) ?_
  refine G_st (L := 89) (k := 0) (13, [some (.ref 62), some (.int (nI k)), some (.int (nI a)), some (.int (nI b)), some (.int p)], [.int 1], qS sw gc I J) (q_hn _ _ _ _) rfl ?_
  refine G_if_eq 29 rfl rfl (fun h9 => absurd h9 (by decide)) (fun _ => ?_)
  refine G_st (L := 89) (k := 4) (23, [some (.ref 62), some (.int (nI k)), some (.int (nI a)), some (.int (nI b)), some (.int p)], [.long 9999, .long 0, .long (Int32.toInt64 p)], qS sw gc I J) (q_hn _ _ _ _) rfl ?_
  refine G_callS (as := [.long (Int32.toInt64 p), .long 0, .long 9999]) (rest := []) rfl rfl rfl (Nat.le_of_ble_eq_true rfl) (r_in (lo := 0) (hi := 9999) rfl rfl) (Nat.le_refl _) ?_
  refine G_st (L := 89) (k := 0) (26, [some (.ref 62), some (.int (nI k)), some (.int (nI a)), some (.int (nI b)), some (.int p)], [.int (f_i3 p 0 9999)], qS sw gc I J) (q_hn _ _ _ _) rfl ?_
  refine G_if_ne 31 rfl rfl (fun _ => ?_) (fun h9 => absurd h9 (by rw [hp]; decide))
  refine G_st (L := 89) (k := 2) (35, [some (.ref 62), some (.int (nI k)), some (.int (nI a)), some (.int (nI b)), some (.int p)], [.int (I 62 29)], qS sw gc I J) (q_hn _ _ _ _) rfl ?_
  refine G_if_eq 41 rfl rfl (fun h9 => absurd h9 hl) (fun _ => ?_)
  refine G_st (L := 89) (k := 1) (40, [some (.ref 62), some (.int (nI k)), some (.int (nI a)), some (.int (nI b)), some (.int p)], [.int (-2)], qS sw gc I J) (q_hn _ _ _ _) rfl ?_
  exact G_iret rfl rfl rfl rfl
theorem r_askP0 {d : Nat} {sw : Bool} {gc : Nat} {I : Nat → Nat → Int32} {J : Nat → Nat → Int64} (hmg : I 62 20 = nI gc) (hg : gc ≤ 8) {k : Nat} (hk : k < gc) {a b : Nat} (ha : a < 5) (hb : b < 6) {p : Int32} (hp : f_i3 p 0 9999 = 0) : GM (d + 2) 126 [.ref 62, .int (nI k), .int (nI a), .int (nI b), .int p] (qS sw gc I J) (some (.int (-1))) (qS sw gc I J) := by
  refine GM_of (by decide) (Nat.le_refl _) (Nat.le_of_ble_eq_true rfl) trivial ?_
  refine G_st (L := 89) (k := 0) (0, [some (.ref 62), some (.int (nI k)), some (.int (nI a)), some (.int (nI b)), some (.int p)], [], qS sw gc I J) (q_hn _ _ _ _) rfl ?_
  refine G_st (L := 89) (k := 2) (2, [some (.ref 62), some (.int (nI k)), some (.int (nI a)), some (.int (nI b)), some (.int p)], [.int (nI k), .ref 62], qS sw gc I J) (q_hn _ _ _ _) rfl ?_
  refine G_callV (b := 62) (ci := 9) (as := [.int (nI k)]) (rest := []) rfl rfl rfl (q_lt (by decide)) (by decide) rfl rfl (Nat.le_of_ble_eq_true rfl) (r_isGang hmg hg (k := k) (by omega)) (Nat.le_refl _) ?_
  refine G_st (L := 89) (k := 0) (5, [some (.ref 62), some (.int (nI k)), some (.int (nI a)), some (.int (nI b)), some (.int p)], [.int 1], qS sw gc I J) (q_hn _ _ _ _) rfl ?_
  refine G_if_eq 29 rfl rfl (fun h9 => absurd h9 (by decide)) (fun _ => ?_)
  refine G_st (L := 89) (k := 2) (10, [some (.ref 62), some (.int (nI k)), some (.int (nI a)), some (.int (nI b)), some (.int p)], [.int (nI b), .int (nI a)], qS sw gc I J) (q_hn _ _ _ _) rfl ?_
  refine G_callS (as := [.int (nI a), .int (nI b)]) (rest := []) rfl rfl rfl (Nat.le_of_ble_eq_true rfl) (r_isFace ha hb) (Nat.le_refl _) ?_
  refine G_st (L := 89) (k := 0) (13, [some (.ref 62), some (.int (nI k)), some (.int (nI a)), some (.int (nI b)), some (.int p)], [.int 1], qS sw gc I J) (q_hn _ _ _ _) rfl ?_
  refine G_if_eq 29 rfl rfl (fun h9 => absurd h9 (by decide)) (fun _ => ?_)
  refine G_st (L := 89) (k := 4) (23, [some (.ref 62), some (.int (nI k)), some (.int (nI a)), some (.int (nI b)), some (.int p)], [.long 9999, .long 0, .long (Int32.toInt64 p)], qS sw gc I J) (q_hn _ _ _ _) rfl ?_
  refine G_callS (as := [.long (Int32.toInt64 p), .long 0, .long 9999]) (rest := []) rfl rfl rfl (Nat.le_of_ble_eq_true rfl) (r_in (lo := 0) (hi := 9999) rfl rfl) (Nat.le_refl _) ?_
  refine G_st (L := 89) (k := 0) (26, [some (.ref 62), some (.int (nI k)), some (.int (nI a)), some (.int (nI b)), some (.int p)], [.int (f_i3 p 0 9999)], qS sw gc I J) (q_hn _ _ _ _) rfl ?_
  refine G_if_ne 31 rfl rfl (fun h9 => absurd hp h9) (fun _ => ?_)
  refine G_st (L := 89) (k := 1) (30, [some (.ref 62), some (.int (nI k)), some (.int (nI a)), some (.int (nI b)), some (.int p)], [.int (-1)], qS sw gc I J) (q_hn _ _ _ _) rfl ?_
  exact G_iret rfl rfl rfl rfl
theorem r_askF {d : Nat} {sw : Bool} {gc : Nat} {I : Nat → Nat → Int32} {J : Nat → Nat → Int64} (hmg : I 62 20 = nI gc) (hg : gc ≤ 8) {k : Nat} (hk : k < gc) {g c : Int32} (hbad : g < 0 ∨ nI 5 ≤ g ∨ c < 0 ∨ nI 6 ≤ c) {p : Int32} : GM (d + 2) 126 [.ref 62, .int (nI k), .int g, .int c, .int p] (qS sw gc I J) (some (.int (-1))) (qS sw gc I J) := by
  refine GM_of (by decide) (Nat.le_refl _) (Nat.le_of_ble_eq_true rfl) trivial ?_
  refine G_st (L := 89) (k := 0) (0, [some (.ref 62), some (.int (nI k)), some (.int g), some (.int c), some (.int p)], [], qS sw gc I J) (q_hn _ _ _ _) rfl ?_
  refine G_st (L := 89) (k := 2) (2, [some (.ref 62), some (.int (nI k)), some (.int g), some (.int c), some (.int p)], [.int (nI k), .ref 62], qS sw gc I J) (q_hn _ _ _ _) rfl ?_
  refine G_callV (b := 62) (ci := 9) (as := [.int (nI k)]) (rest := []) rfl rfl rfl (q_lt (by decide)) (by decide) rfl rfl (Nat.le_of_ble_eq_true rfl) (r_isGang hmg hg (k := k) (by omega)) (Nat.le_refl _) ?_
  refine G_st (L := 89) (k := 0) (5, [some (.ref 62), some (.int (nI k)), some (.int g), some (.int c), some (.int p)], [.int 1], qS sw gc I J) (q_hn _ _ _ _) rfl ?_
  refine G_if_eq 29 rfl rfl (fun h9 => absurd h9 (by decide)) (fun _ => ?_)
  refine G_st (L := 89) (k := 2) (10, [some (.ref 62), some (.int (nI k)), some (.int g), some (.int c), some (.int p)], [.int c, .int g], qS sw gc I J) (q_hn _ _ _ _) rfl ?_
  refine G_callS (as := [.int g, .int c]) (rest := []) rfl rfl rfl (Nat.le_of_ble_eq_true rfl) (r_isFaceB hbad) (Nat.le_refl _) ?_
  refine G_st (L := 89) (k := 0) (13, [some (.ref 62), some (.int (nI k)), some (.int g), some (.int c), some (.int p)], [.int 0], qS sw gc I J) (q_hn _ _ _ _) rfl ?_
  refine G_if_eq 29 rfl rfl (fun _ => ?_) (fun h9 => absurd h9 (by decide))
  refine G_st (L := 89) (k := 1) (30, [some (.ref 62), some (.int (nI k)), some (.int g), some (.int c), some (.int p)], [.int (-1)], qS sw gc I J) (q_hn _ _ _ _) rfl ?_
  exact G_iret rfl rfl rfl rfl
theorem r_askG {d : Nat} {sw : Bool} {gc : Nat} {I : Nat → Nat → Int32} {J : Nat → Nat → Int64} (hmg : I 62 20 = nI gc) (hg : gc ≤ 8) {x : Int32} (hx : Int32.toInt64 x < 0 ∨ lN gc ≤ Int32.toInt64 x) {g c p : Int32} : GM (d + 2) 126 [.ref 62, .int x, .int g, .int c, .int p] (qS sw gc I J) (some (.int (-1))) (qS sw gc I J) := by
  refine GM_of (by decide) (Nat.le_refl _) (Nat.le_of_ble_eq_true rfl) trivial ?_
  refine G_st (L := 89) (k := 0) (0, [some (.ref 62), some (.int x), some (.int g), some (.int c), some (.int p)], [], qS sw gc I J) (q_hn _ _ _ _) rfl ?_
  refine G_st (L := 89) (k := 2) (2, [some (.ref 62), some (.int x), some (.int g), some (.int c), some (.int p)], [.int x, .ref 62], qS sw gc I J) (q_hn _ _ _ _) rfl ?_
  refine G_callV (b := 62) (ci := 9) (as := [.int x]) (rest := []) rfl rfl rfl (q_lt (by decide)) (by decide) rfl rfl (Nat.le_of_ble_eq_true rfl) (r_isGangB hmg hg hx) (Nat.le_refl _) ?_
  refine G_st (L := 89) (k := 0) (5, [some (.ref 62), some (.int x), some (.int g), some (.int c), some (.int p)], [.int 0], qS sw gc I J) (q_hn _ _ _ _) rfl ?_
  refine G_if_eq 29 rfl rfl (fun _ => ?_) (fun h9 => absurd h9 (by decide))
  refine G_st (L := 89) (k := 1) (30, [some (.ref 62), some (.int x), some (.int g), some (.int c), some (.int p)], [.int (-1)], qS sw gc I J) (q_hn _ _ _ _) rfl ?_
  exact G_iret rfl rfl rfl rfl
theorem r_size {d : Nat} {sw : Bool} {gc : Nat} {I : Nat → Nat → Int32} {J : Nat → Nat → Int64} {u v : Int32} (hu : f_i3 u 1 20 = 1) (hv : f_i3 v 1 200 = 1) {n : Nat} (hn : I 62 32 = nI n) (hn8 : n < 8) : GM (d + 1) 129 [.ref 62, .int u, .int v] (qS sw gc I J) (some (.int (nI n))) (qS sw gc (q_u (q_u (q_u I 82 n u) 83 n v) 62 32 (nI (n + 1))) J) := by
  refine GM_of (by decide) (Nat.le_refl _) (Nat.le_of_ble_eq_true rfl) trivial ?_
  refine G_st (L := 89) (k := 0) (0, [some (.ref 62), some (.int u), some (.int v)], [], qS sw gc I J) (q_hn _ _ _ _) rfl ?_
  refine G_st (L := 89) (k := 4) (6, [some (.ref 62), some (.int u), some (.int v)], [.long 20, .long 1, .long (Int32.toInt64 u)], qS sw gc I J) (q_hn _ _ _ _) rfl ?_
  refine G_callS (as := [.long (Int32.toInt64 u), .long 1, .long 20]) (rest := []) rfl rfl rfl (Nat.le_of_ble_eq_true rfl) (r_in (lo := 1) (hi := 20) rfl rfl) (Nat.le_refl _) ?_
  refine G_st (L := 89) (k := 0) (9, [some (.ref 62), some (.int u), some (.int v)], [.int (f_i3 u 1 20)], qS sw gc I J) (q_hn _ _ _ _) rfl ?_
  refine G_if_eq 24 rfl rfl (fun h9 => absurd h9 (by rw [hu]; decide)) (fun _ => ?_)
  refine G_st (L := 89) (k := 4) (18, [some (.ref 62), some (.int u), some (.int v)], [.long 200, .long 1, .long (Int32.toInt64 v)], qS sw gc I J) (q_hn _ _ _ _) rfl ?_
  refine G_callS (as := [.long (Int32.toInt64 v), .long 1, .long 200]) (rest := []) rfl rfl rfl (Nat.le_of_ble_eq_true rfl) (r_in (lo := 1) (hi := 200) rfl rfl) (Nat.le_refl _) ?_
  refine G_st (L := 89) (k := 0) (21, [some (.ref 62), some (.int u), some (.int v)], [.int (f_i3 v 1 200)], qS sw gc I J) (q_hn _ _ _ _) rfl ?_
  refine G_if_ne 26 rfl rfl (fun _ => ?_) (fun h9 => absurd h9 (by rw [hv]; decide))
  refine G_st (L := 89) (k := 3) (32, [some (.ref 62), some (.int u), some (.int v)], [.int 8, .int (I 62 32)], qS sw gc I J) (q_hn _ _ _ _) rfl ?_
  rw [show I 62 32 = nI n from hn]
  refine G_icmp_ne 38 rfl rfl (fun _ => ?_) (fun h9 => absurd h9 (fun e9 => absurd ((nI_eq (b := 8) (by omega) (by decide)).mp e9) (by omega)))
  refine G_st (L := 89) (k := 5) (47, [some (.ref 62), some (.int u), some (.int v)], [.int u, .int (I 62 32), .ref 82], qS sw gc I J) (q_hn _ _ _ _) rfl ?_
  rw [show I 62 32 = nI n from hn]
  refine G_iast (i := 82) (n := 8) rfl rfl (q_lt (by decide)) (vp_in_nI (by omega) (by decide)) ?_
  rw [q_clamp (n := n) (by omega)]
  refine G_st (L := 89) (k := 3) (53, [some (.ref 62), some (.int u), some (.int v)], [.ref 62, .ref 83], qS sw gc (q_u I 82 n u) J) (q_hn _ _ _ _) rfl ?_
  refine G_get (ci := 9) (k := 32) (i := 62) rfl rfl rfl (q_lt (by decide)) ?_
  rw [show q_av (qS sw gc (q_u I 82 n u) J) 62 (q_fty 9 32) 32 = .int (I 62 32) from congrArg Value.int (show (q_u I 82 n u) 62 32 = I 62 32 from q_un _ _ (by omega))]
  refine G_st (L := 89) (k := 1) (57, [some (.ref 62), some (.int u), some (.int v)], [.int v, .int (I 62 32), .ref 83], qS sw gc (q_u I 82 n u) J) (q_hn _ _ _ _) rfl ?_
  rw [show I 62 32 = nI n from hn]
  refine G_iast (i := 83) (n := 8) rfl rfl (q_lt (by decide)) (vp_in_nI (by omega) (by decide)) ?_
  rw [q_clamp (n := n) (by omega)]
  refine G_st (L := 89) (k := 2) (60, [some (.ref 62), some (.int u), some (.int v)], [.ref 62, .ref 62], qS sw gc (q_u (q_u I 82 n u) 83 n v) J) (q_hn _ _ _ _) rfl ?_
  refine G_get (ci := 9) (k := 32) (i := 62) rfl rfl rfl (q_lt (by decide)) ?_
  rw [show q_av (qS sw gc (q_u (q_u I 82 n u) 83 n v) J) 62 (q_fty 9 32) 32 = .int (I 62 32) from congrArg Value.int (show (q_u (q_u I 82 n u) 83 n v) 62 32 = I 62 32 from (q_un _ _ (by omega)).trans (q_un _ _ (by omega)))]
  refine G_st (L := 89) (k := 7) (74, [some (.ref 62), some (.int u), some (.int v)], [.int (((I 62 32) + 1) - 1)], qS sw gc (q_u (q_u (q_u I 82 n u) 83 n v) 62 32 ((I 62 32) + 1)) J) (q_hn _ _ _ _) rfl ?_
  exact G_iret rfl rfl (by rw [hn, show nI n + 1 = nI (n + 1) from q_addP rfl rfl, show nI (n + 1) - 1 = nI n from q_subP (a := n + 1) (b := 1) rfl rfl (by omega)]) (by rw [show nI (n + 1) = nI n + 1 from (q_addP rfl rfl).symm, ← hn])
theorem r_sizeF {d : Nat} {sw : Bool} {gc : Nat} {I : Nat → Nat → Int32} {J : Nat → Nat → Int64} {u v : Int32} (hu : f_i3 u 1 20 = 1) (hv : f_i3 v 1 200 = 1) (hn : I 62 32 = 8) : GM (d + 1) 129 [.ref 62, .int u, .int v] (qS sw gc I J) (some (.int (-3))) (qS sw gc I J) := by
  refine GM_of (by decide) (Nat.le_refl _) (Nat.le_of_ble_eq_true rfl) trivial ?_
  refine G_st (L := 89) (k := 0) (0, [some (.ref 62), some (.int u), some (.int v)], [], qS sw gc I J) (q_hn _ _ _ _) rfl ?_
  refine G_st (L := 89) (k := 4) (6, [some (.ref 62), some (.int u), some (.int v)], [.long 20, .long 1, .long (Int32.toInt64 u)], qS sw gc I J) (q_hn _ _ _ _) rfl ?_
  refine G_callS (as := [.long (Int32.toInt64 u), .long 1, .long 20]) (rest := []) rfl rfl rfl (Nat.le_of_ble_eq_true rfl) (r_in (lo := 1) (hi := 20) rfl rfl) (Nat.le_refl _) ?_
  refine G_st (L := 89) (k := 0) (9, [some (.ref 62), some (.int u), some (.int v)], [.int (f_i3 u 1 20)], qS sw gc I J) (q_hn _ _ _ _) rfl ?_
  refine G_if_eq 24 rfl rfl (fun h9 => absurd h9 (by rw [hu]; decide)) (fun _ => ?_)
  refine G_st (L := 89) (k := 4) (18, [some (.ref 62), some (.int u), some (.int v)], [.long 200, .long 1, .long (Int32.toInt64 v)], qS sw gc I J) (q_hn _ _ _ _) rfl ?_
  refine G_callS (as := [.long (Int32.toInt64 v), .long 1, .long 200]) (rest := []) rfl rfl rfl (Nat.le_of_ble_eq_true rfl) (r_in (lo := 1) (hi := 200) rfl rfl) (Nat.le_refl _) ?_
  refine G_st (L := 89) (k := 0) (21, [some (.ref 62), some (.int u), some (.int v)], [.int (f_i3 v 1 200)], qS sw gc I J) (q_hn _ _ _ _) rfl ?_
  refine G_if_ne 26 rfl rfl (fun _ => ?_) (fun h9 => absurd h9 (by rw [hv]; decide))
  refine G_st (L := 89) (k := 3) (32, [some (.ref 62), some (.int u), some (.int v)], [.int 8, .int (I 62 32)], qS sw gc I J) (q_hn _ _ _ _) rfl ?_
  refine G_icmp_ne 38 rfl rfl (fun h9 => absurd hn h9) (fun _ => ?_)
  refine G_st (L := 89) (k := 1) (37, [some (.ref 62), some (.int u), some (.int v)], [.int (-3)], qS sw gc I J) (q_hn _ _ _ _) rfl ?_
  exact G_iret rfl rfl rfl rfl
theorem r_sizeB {d : Nat} {sw : Bool} {gc : Nat} {I : Nat → Nat → Int32} {J : Nat → Nat → Int64} {u v : Int32} (h : f_i3 u 1 20 = 0 ∨ f_i3 v 1 200 = 0) : GM (d + 1) 129 [.ref 62, .int u, .int v] (qS sw gc I J) (some (.int (-1))) (qS sw gc I J) := by
  refine GM_of (by decide) (Nat.le_refl _) (Nat.le_of_ble_eq_true rfl) trivial ?_
  refine G_st (L := 89) (k := 0) (0, [some (.ref 62), some (.int u), some (.int v)], [], qS sw gc I J) (q_hn _ _ _ _) rfl ?_
  refine G_st (L := 89) (k := 4) (6, [some (.ref 62), some (.int u), some (.int v)], [.long 20, .long 1, .long (Int32.toInt64 u)], qS sw gc I J) (q_hn _ _ _ _) rfl ?_
  refine G_callS (as := [.long (Int32.toInt64 u), .long 1, .long 20]) (rest := []) rfl rfl rfl (Nat.le_of_ble_eq_true rfl) (r_in (lo := 1) (hi := 20) rfl rfl) (Nat.le_refl _) ?_
  refine G_st (L := 89) (k := 0) (9, [some (.ref 62), some (.int u), some (.int v)], [.int (f_i3 u 1 20)], qS sw gc I J) (q_hn _ _ _ _) rfl ?_
  refine G_if_eq 24 rfl rfl (fun h1 => ?_) (fun h1 => ?_)
  · skip
    refine G_st (L := 89) (k := 1) (25, [some (.ref 62), some (.int u), some (.int v)], [.int (-1)], qS sw gc I J) (q_hn _ _ _ _) rfl ?_
    exact G_iret rfl rfl rfl rfl
  · skip
    refine G_st (L := 89) (k := 4) (18, [some (.ref 62), some (.int u), some (.int v)], [.long 200, .long 1, .long (Int32.toInt64 v)], qS sw gc I J) (q_hn _ _ _ _) rfl ?_
    refine G_callS (as := [.long (Int32.toInt64 v), .long 1, .long 200]) (rest := []) rfl rfl rfl (Nat.le_of_ble_eq_true rfl) (r_in (lo := 1) (hi := 200) rfl rfl) (Nat.le_refl _) ?_
    refine G_st (L := 89) (k := 0) (21, [some (.ref 62), some (.int u), some (.int v)], [.int (f_i3 v 1 200)], qS sw gc I J) (q_hn _ _ _ _) rfl ?_
    refine G_if_ne 26 rfl rfl (fun h9 => absurd (h.resolve_left h1) h9) (fun _ => ?_)
    refine G_st (L := 89) (k := 1) (25, [some (.ref 62), some (.int u), some (.int v)], [.int (-1)], qS sw gc I J) (q_hn _ _ _ _) rfl ?_
    exact G_iret rfl rfl rfl rfl
theorem r_slates {d : Nat} {sw : Bool} {gc : Nat} {I : Nat → Nat → Int32} {J : Nat → Nat → Int64} {n k : Nat} (hn : I 62 32 = nI n) (hn8 : n ≤ 8) (hk : k < n) : GM (d + 1) 139 [.ref 62, .int (nI k)] (qS sw gc I J) (some (.int (I 84 k))) (qS sw gc I J) := by
  refine GM_of (by decide) (Nat.le_refl _) (Nat.le_of_ble_eq_true rfl) trivial ?_
  refine G_st (L := 89) (k := 0) (0, [some (.ref 62), some (.int (nI k))], [], qS sw gc I J) (q_hn _ _ _ _) rfl ?_
  refine G_st (L := 89) (k := 8) (10, [some (.ref 62), some (.int (nI k))], [.long (Int32.toInt64 ((I 62 32) - 1)), .long 0, .long (Int32.toInt64 (nI k))], qS sw gc I J) (q_hn _ _ _ _) rfl ?_
  refine G_callS (as := [.long (Int32.toInt64 (nI k)), .long 0, .long (Int32.toInt64 ((I 62 32) - 1))]) (rest := []) rfl rfl rfl (Nat.le_of_ble_eq_true rfl) (r_in (lo := 0) (hi := (I 62 32) - 1) rfl rfl) (Nat.le_refl _) ?_
  refine G_st (L := 89) (k := 0) (13, [some (.ref 62), some (.int (nI k))], [.int (f_i3 (nI k) 0 ((I 62 32) - 1))], qS sw gc I J) (q_hn _ _ _ _) rfl ?_
  refine G_if_eq 25 rfl rfl (fun h9 => absurd h9 (by rw [hn, show nI n - 1 = nI (n - 1) from q_subP rfl rfl (by omega), f_i3_n (by omega) (by omega)]; decide)) (fun _ => ?_)
  refine G_st (L := 89) (k := 3) (21, [some (.ref 62), some (.int (nI k))], [.int (nI k), .ref 84], qS sw gc I J) (q_hn _ _ _ _) rfl ?_
  refine G_iald (i := 84) (n := 8) rfl rfl (q_lt (by decide)) (vp_in_nI (by omega) (by decide)) ?_
  rw [q_clamp (n := k) (by omega)]
  refine G_st (L := 89) (k := 1) (26, [some (.ref 62), some (.int (nI k))], [.int (I 84 k)], qS sw gc I J) (q_hn _ _ _ _) rfl ?_
  exact G_iret rfl rfl rfl rfl
theorem r_slatesB {d : Nat} {sw : Bool} {gc : Nat} {I : Nat → Nat → Int32} {J : Nat → Nat → Int64} {n : Nat} {x : Int32} (hn : I 62 32 = nI n) (hn8 : n ≤ 8) (hx : x < 0 ∨ nI n ≤ x) : GM (d + 1) 139 [.ref 62, .int x] (qS sw gc I J) (some (.int (-1))) (qS sw gc I J) := by
  refine GM_of (by decide) (Nat.le_refl _) (Nat.le_of_ble_eq_true rfl) trivial ?_
  refine G_st (L := 89) (k := 0) (0, [some (.ref 62), some (.int x)], [], qS sw gc I J) (q_hn _ _ _ _) rfl ?_
  refine G_st (L := 89) (k := 8) (10, [some (.ref 62), some (.int x)], [.long (Int32.toInt64 ((I 62 32) - 1)), .long 0, .long (Int32.toInt64 x)], qS sw gc I J) (q_hn _ _ _ _) rfl ?_
  refine G_callS (as := [.long (Int32.toInt64 x), .long 0, .long (Int32.toInt64 ((I 62 32) - 1))]) (rest := []) rfl rfl rfl (Nat.le_of_ble_eq_true rfl) (r_in (lo := 0) (hi := (I 62 32) - 1) rfl rfl) (Nat.le_refl _) ?_
  refine G_st (L := 89) (k := 0) (13, [some (.ref 62), some (.int x)], [.int (f_i3 x 0 ((I 62 32) - 1))], qS sw gc I J) (q_hn _ _ _ _) rfl ?_
  refine G_if_eq 25 rfl rfl (fun _ => ?_) (fun h9 => absurd (by rw [hn]; exact q_gl2 (by omega) hx) h9)
  refine G_st (L := 89) (k := 1) (26, [some (.ref 62), some (.int x)], [.int (-1)], qS sw gc I J) (q_hn _ _ _ _) rfl ?_
  exact G_iret rfl rfl rfl rfl
theorem r_isSheet {d : Nat} {sw : Bool} {gc : Nat} {I : Nat → Nat → Int32} {J : Nat → Nat → Int64} {k : Nat} (hk : k < 4) {u : Int32} (hu : f_i3 u 0 2 = 1) : GM (d + 1) 140 [.int (nI k), .int u] (qS sw gc I J) (some (.int 1)) (qS sw gc I J) := by
  refine GM_of (by decide) (Nat.le_refl _) (Nat.le_of_ble_eq_true rfl) rfl ?_
  refine G_st (L := 89) (k := 0) (0, [some (.int (nI k)), some (.int u)], [], qS sw gc I J) (q_hn _ _ _ _) rfl ?_
  refine G_st (L := 89) (k := 4) (6, [some (.int (nI k)), some (.int u)], [.long 3, .long 0, .long (Int32.toInt64 (nI k))], qS sw gc I J) (q_hn _ _ _ _) rfl ?_
  refine G_callS (as := [.long (Int32.toInt64 (nI k)), .long 0, .long 3]) (rest := []) rfl rfl rfl (Nat.le_of_ble_eq_true rfl) (r_in (lo := 0) (hi := 3) rfl rfl) (Nat.le_refl _) ?_
  refine G_st (L := 89) (k := 0) (9, [some (.int (nI k)), some (.int u)], [.int (f_i3 (nI k) 0 3)], qS sw gc I J) (q_hn _ _ _ _) rfl ?_
  refine G_if_eq 28 rfl rfl (fun h9 => absurd h9 (by rw [show f_i3 (nI k) 0 3 = 1 from f_i3_n (n := 3) (by omega) (by decide)]; decide)) (fun _ => ?_)
  refine G_st (L := 89) (k := 4) (18, [some (.int (nI k)), some (.int u)], [.long 2, .long 0, .long (Int32.toInt64 u)], qS sw gc I J) (q_hn _ _ _ _) rfl ?_
  refine G_callS (as := [.long (Int32.toInt64 u), .long 0, .long 2]) (rest := []) rfl rfl rfl (Nat.le_of_ble_eq_true rfl) (r_in (lo := 0) (hi := 2) rfl rfl) (Nat.le_refl _) ?_
  refine G_st (L := 89) (k := 0) (21, [some (.int (nI k)), some (.int u)], [.int (f_i3 u 0 2)], qS sw gc I J) (q_hn _ _ _ _) rfl ?_
  refine G_if_eq 28 rfl rfl (fun h9 => absurd h9 (by rw [hu]; decide)) (fun _ => ?_)
  refine G_st (L := 89) (k := 2) (29, [some (.int (nI k)), some (.int u)], [.int 1], qS sw gc I J) (q_hn _ _ _ _) rfl ?_
  exact G_iret rfl rfl rfl rfl
theorem r_isSheetL {d : Nat} {sw : Bool} {gc : Nat} {I : Nat → Nat → Int32} {J : Nat → Nat → Int64} {k : Nat} (hk : k < 4) {u : Int32} (hu : f_i3 u 0 2 = 0) : GM (d + 1) 140 [.int (nI k), .int u] (qS sw gc I J) (some (.int 0)) (qS sw gc I J) := by
  refine GM_of (by decide) (Nat.le_refl _) (Nat.le_of_ble_eq_true rfl) rfl ?_
  refine G_st (L := 89) (k := 0) (0, [some (.int (nI k)), some (.int u)], [], qS sw gc I J) (q_hn _ _ _ _) rfl ?_
  refine G_st (L := 89) (k := 4) (6, [some (.int (nI k)), some (.int u)], [.long 3, .long 0, .long (Int32.toInt64 (nI k))], qS sw gc I J) (q_hn _ _ _ _) rfl ?_
  refine G_callS (as := [.long (Int32.toInt64 (nI k)), .long 0, .long 3]) (rest := []) rfl rfl rfl (Nat.le_of_ble_eq_true rfl) (r_in (lo := 0) (hi := 3) rfl rfl) (Nat.le_refl _) ?_
  refine G_st (L := 89) (k := 0) (9, [some (.int (nI k)), some (.int u)], [.int (f_i3 (nI k) 0 3)], qS sw gc I J) (q_hn _ _ _ _) rfl ?_
  refine G_if_eq 28 rfl rfl (fun h9 => absurd h9 (by rw [show f_i3 (nI k) 0 3 = 1 from f_i3_n (n := 3) (by omega) (by decide)]; decide)) (fun _ => ?_)
  refine G_st (L := 89) (k := 4) (18, [some (.int (nI k)), some (.int u)], [.long 2, .long 0, .long (Int32.toInt64 u)], qS sw gc I J) (q_hn _ _ _ _) rfl ?_
  refine G_callS (as := [.long (Int32.toInt64 u), .long 0, .long 2]) (rest := []) rfl rfl rfl (Nat.le_of_ble_eq_true rfl) (r_in (lo := 0) (hi := 2) rfl rfl) (Nat.le_refl _) ?_
  refine G_st (L := 89) (k := 0) (21, [some (.int (nI k)), some (.int u)], [.int (f_i3 u 0 2)], qS sw gc I J) (q_hn _ _ _ _) rfl ?_
  refine G_if_eq 28 rfl rfl (fun _ => ?_) (fun h9 => absurd hu h9)
  refine G_st (L := 89) (k := 1) (29, [some (.int (nI k)), some (.int u)], [.int 0], qS sw gc I J) (q_hn _ _ _ _) rfl ?_
  exact G_iret rfl rfl rfl rfl
theorem q_b4 {x : Int32} (h : x < 0 ∨ nI 4 ≤ x) : f_i3 x 0 3 = 0 := by
  refine f_i3_0 ?_
  rcases h with h | h
  · exact Or.inl h
  · right
    rw [q_le_int] at h
    rw [q_lt_int]
    have e0 : (nI 4).toInt = 4 := rfl
    have e4 : (3 : Int32).toInt = 3 := rfl
    omega
theorem r_isSheetK {d : Nat} {sw : Bool} {gc : Nat} {I : Nat → Nat → Int32} {J : Nat → Nat → Int64} {x u : Int32} (hx : x < 0 ∨ nI 4 ≤ x) : GM (d + 1) 140 [.int x, .int u] (qS sw gc I J) (some (.int 0)) (qS sw gc I J) := by
  refine GM_of (by decide) (Nat.le_refl _) (Nat.le_of_ble_eq_true rfl) rfl ?_
  refine G_st (L := 89) (k := 0) (0, [some (.int x), some (.int u)], [], qS sw gc I J) (q_hn _ _ _ _) rfl ?_
  refine G_st (L := 89) (k := 4) (6, [some (.int x), some (.int u)], [.long 3, .long 0, .long (Int32.toInt64 x)], qS sw gc I J) (q_hn _ _ _ _) rfl ?_
  refine G_callS (as := [.long (Int32.toInt64 x), .long 0, .long 3]) (rest := []) rfl rfl rfl (Nat.le_of_ble_eq_true rfl) (r_in (lo := 0) (hi := 3) rfl rfl) (Nat.le_refl _) ?_
  refine G_st (L := 89) (k := 0) (9, [some (.int x), some (.int u)], [.int (f_i3 x 0 3)], qS sw gc I J) (q_hn _ _ _ _) rfl ?_
  refine G_if_eq 28 rfl rfl (fun _ => ?_) (fun h9 => absurd (q_b4 hx) h9)
  refine G_st (L := 89) (k := 1) (29, [some (.int x), some (.int u)], [.int 0], qS sw gc I J) (q_hn _ _ _ _) rfl ?_
  exact G_iret rfl rfl rfl rfl
theorem r_sh_loop {d : Nat} {sw : Bool} {gc : Nat} {I : Nat → Nat → Int32} {k : Nat} (hk : k < 4) {u v : Int32} : ∀ (n i : Nat) (J : Nat → Nat → Int64), i + n = 60 → G d 141 (40, [some (.ref 62), some (.int (nI k)), some (.int u), some (.int v), some (.int (nI i))], [], qS sw gc I J) (some (.int 1)) (qS sw gc I (q_filL J 88 (60 * k + i) (60 * k + 60) 0)) := by
  intro n
  induction n with
  | zero =>
    intro i J h
    obtain rfl : i = 60 := by omega
    rw [q_filL_end]
    refine G_st (L := 89) (k := 2) (44, [some (.ref 62), some (.int (nI k)), some (.int u), some (.int v), some (.int 60)], [.int 60, .int 60], qS sw gc I J) (q_hn _ _ _ _) rfl ?_
    refine G_icmp_ge 66 rfl rfl (fun _ => ?_) (fun h9 => absurd h9 (by decide))
    refine G_st (L := 89) (k := 1) (67, [some (.ref 62), some (.int (nI k)), some (.int u), some (.int v), some (.int 60)], [.int 1], qS sw gc I J) (q_hn _ _ _ _) rfl ?_
    exact G_iret rfl rfl rfl rfl
  | succ n ih =>
    intro i J h
    rw [← q_filL_step J 0 (by omega)]
    refine G_st (L := 89) (k := 2) (44, [some (.ref 62), some (.int (nI k)), some (.int u), some (.int v), some (.int (nI i))], [.int 60, .int (nI i)], qS sw gc I J) (q_hn _ _ _ _) rfl ?_
    refine G_icmp_ge 66 rfl rfl (fun h9 => absurd h9 (nI_ge (b := 60) (by omega) (by decide))) (fun _ => ?_)
    refine G_st (L := 89) (k := 8) (59, [some (.ref 62), some (.int (nI k)), some (.int u), some (.int v), some (.int (nI i))], [.long 0, .int ((60 * (nI k)) + (nI i)), .ref 88], qS sw gc I J) (q_hn _ _ _ _) rfl ?_
    rw [show (60 * (nI k)) + (nI i) = nI (60 * k + i) from (q_addP (q_mulP rfl rfl) rfl)]
    refine G_last (i := 88) (n := 240) rfl rfl (q_lt (by decide)) (vp_in_nI (by omega) (by decide)) ?_
    rw [q_clamp (n := 60 * k + i) (by omega)]
    refine G_st (L := 89) (k := 2) (40, [some (.ref 62), some (.int (nI k)), some (.int u), some (.int v), some (.int ((nI i) + 1))], [], qS sw gc I (q_u J 88 (60 * k + i) 0)) (q_hn _ _ _ _) rfl ?_
    rw [show (nI i) + 1 = nI (i + 1) from (q_addP rfl rfl)]
    exact ih (i + 1) _ (by omega)
theorem r_sheet {d : Nat} {sw : Bool} {gc : Nat} {I : Nat → Nat → Int32} {J : Nat → Nat → Int64} {k : Nat} (hk : k < 4) {u v : Int32} (hu : f_i3 u 0 2 = 1) (h60 : v ≤ 60) (h0 : 0 ≤ v) : GM (d + 2) 141 [.ref 62, .int (nI k), .int u, .int v] (qS sw gc I J) (some (.int 1)) (qS sw gc (q_u (q_u I 86 k u) 87 k v) (q_filL J 88 (60 * k) (60 * k + 60) 0)) := by
  refine GM_of (by decide) (Nat.le_refl _) (Nat.le_of_ble_eq_true rfl) trivial ?_
  refine G_st (L := 89) (k := 0) (0, [some (.ref 62), some (.int (nI k)), some (.int u), some (.int v), none], [], qS sw gc I J) (q_hn _ _ _ _) rfl ?_
  refine G_st (L := 89) (k := 2) (2, [some (.ref 62), some (.int (nI k)), some (.int u), some (.int v), none], [.int u, .int (nI k)], qS sw gc I J) (q_hn _ _ _ _) rfl ?_
  refine G_callS (as := [.int (nI k), .int u]) (rest := []) rfl rfl rfl (Nat.le_of_ble_eq_true rfl) (r_isSheet hk hu) (Nat.le_refl _) ?_
  refine G_st (L := 89) (k := 0) (5, [some (.ref 62), some (.int (nI k)), some (.int u), some (.int v), none], [.int 1], qS sw gc I J) (q_hn _ _ _ _) rfl ?_
  refine G_if_eq 14 rfl rfl (fun h9 => absurd h9 (by decide)) (fun _ => ?_)
  refine G_st (L := 89) (k := 2) (11, [some (.ref 62), some (.int (nI k)), some (.int u), some (.int v), none], [.int 60, .int v], qS sw gc I J) (q_hn _ _ _ _) rfl ?_
  refine G_icmp_le 16 rfl rfl (fun _ => ?_) (fun h9 => absurd h60 h9)
  refine G_st (L := 89) (k := 1) (17, [some (.ref 62), some (.int (nI k)), some (.int u), some (.int v), none], [.int v], qS sw gc I J) (q_hn _ _ _ _) rfl ?_
  refine G_if_ge 23 rfl rfl (fun _ => ?_) (fun h9 => absurd h0 h9)
  refine G_st (L := 89) (k := 4) (29, [some (.ref 62), some (.int (nI k)), some (.int u), some (.int v), none], [.int u, .int (nI k), .ref 86], qS sw gc I J) (q_hn _ _ _ _) rfl ?_
  refine G_iast (i := 86) (n := 4) rfl rfl (q_lt (by decide)) (vp_in_nI (by omega) (by decide)) ?_
  rw [q_clamp (n := k) (by omega)]
  refine G_st (L := 89) (k := 4) (36, [some (.ref 62), some (.int (nI k)), some (.int u), some (.int v), none], [.int v, .int (nI k), .ref 87], qS sw gc (q_u I 86 k u) J) (q_hn _ _ _ _) rfl ?_
  refine G_iast (i := 87) (n := 4) rfl rfl (q_lt (by decide)) (vp_in_nI (by omega) (by decide)) ?_
  rw [q_clamp (n := k) (by omega)]
  refine G_st (L := 89) (k := 2) (40, [some (.ref 62), some (.int (nI k)), some (.int u), some (.int v), some (.int 0)], [], qS sw gc (q_u (q_u I 86 k u) 87 k v) J) (q_hn _ _ _ _) rfl ?_
  exact r_sh_loop hk 60 0 J rfl
theorem r_sheetZ {d : Nat} {sw : Bool} {gc : Nat} {I : Nat → Nat → Int32} {J : Nat → Nat → Int64} {k : Nat} (hk : k < 4) {u v : Int32} (hu : f_i3 u 0 2 = 1) (h60 : v ≤ 60) (h0 : ¬ 0 ≤ v) : GM (d + 2) 141 [.ref 62, .int (nI k), .int u, .int v] (qS sw gc I J) (some (.int (-14))) (qS sw gc I J) := by
  refine GM_of (by decide) (Nat.le_refl _) (Nat.le_of_ble_eq_true rfl) trivial ?_
  refine G_st (L := 89) (k := 0) (0, [some (.ref 62), some (.int (nI k)), some (.int u), some (.int v), none], [], qS sw gc I J) (q_hn _ _ _ _) rfl ?_
  refine G_st (L := 89) (k := 2) (2, [some (.ref 62), some (.int (nI k)), some (.int u), some (.int v), none], [.int u, .int (nI k)], qS sw gc I J) (q_hn _ _ _ _) rfl ?_
  refine G_callS (as := [.int (nI k), .int u]) (rest := []) rfl rfl rfl (Nat.le_of_ble_eq_true rfl) (r_isSheet hk hu) (Nat.le_refl _) ?_
  refine G_st (L := 89) (k := 0) (5, [some (.ref 62), some (.int (nI k)), some (.int u), some (.int v), none], [.int 1], qS sw gc I J) (q_hn _ _ _ _) rfl ?_
  refine G_if_eq 14 rfl rfl (fun h9 => absurd h9 (by decide)) (fun _ => ?_)
  refine G_st (L := 89) (k := 2) (11, [some (.ref 62), some (.int (nI k)), some (.int u), some (.int v), none], [.int 60, .int v], qS sw gc I J) (q_hn _ _ _ _) rfl ?_
  refine G_icmp_le 16 rfl rfl (fun _ => ?_) (fun h9 => absurd h60 h9)
  refine G_st (L := 89) (k := 1) (17, [some (.ref 62), some (.int (nI k)), some (.int u), some (.int v), none], [.int v], qS sw gc I J) (q_hn _ _ _ _) rfl ?_
  refine G_if_ge 23 rfl rfl (fun h9 => absurd h9 h0) (fun _ => ?_)
  refine G_st (L := 89) (k := 1) (22, [some (.ref 62), some (.int (nI k)), some (.int u), some (.int v), none], [.int (-14)], qS sw gc I J) (q_hn _ _ _ _) rfl ?_
  exact G_iret rfl rfl rfl rfl
theorem r_sheetM {d : Nat} {sw : Bool} {gc : Nat} {I : Nat → Nat → Int32} {J : Nat → Nat → Int64} {k : Nat} (hk : k < 4) {u v : Int32} (hu : f_i3 u 0 2 = 1) (h60 : ¬ v ≤ 60) : GM (d + 2) 141 [.ref 62, .int (nI k), .int u, .int v] (qS sw gc I J) (some (.int (-1))) (qS sw gc I J) := by
  refine GM_of (by decide) (Nat.le_refl _) (Nat.le_of_ble_eq_true rfl) trivial ?_
  refine G_st (L := 89) (k := 0) (0, [some (.ref 62), some (.int (nI k)), some (.int u), some (.int v), none], [], qS sw gc I J) (q_hn _ _ _ _) rfl ?_
  refine G_st (L := 89) (k := 2) (2, [some (.ref 62), some (.int (nI k)), some (.int u), some (.int v), none], [.int u, .int (nI k)], qS sw gc I J) (q_hn _ _ _ _) rfl ?_
  refine G_callS (as := [.int (nI k), .int u]) (rest := []) rfl rfl rfl (Nat.le_of_ble_eq_true rfl) (r_isSheet hk hu) (Nat.le_refl _) ?_
  refine G_st (L := 89) (k := 0) (5, [some (.ref 62), some (.int (nI k)), some (.int u), some (.int v), none], [.int 1], qS sw gc I J) (q_hn _ _ _ _) rfl ?_
  refine G_if_eq 14 rfl rfl (fun h9 => absurd h9 (by decide)) (fun _ => ?_)
  refine G_st (L := 89) (k := 2) (11, [some (.ref 62), some (.int (nI k)), some (.int u), some (.int v), none], [.int 60, .int v], qS sw gc I J) (q_hn _ _ _ _) rfl ?_
  refine G_icmp_le 16 rfl rfl (fun h9 => absurd h9 h60) (fun _ => ?_)
  refine G_st (L := 89) (k := 1) (15, [some (.ref 62), some (.int (nI k)), some (.int u), some (.int v), none], [.int (-1)], qS sw gc I J) (q_hn _ _ _ _) rfl ?_
  exact G_iret rfl rfl rfl rfl
theorem r_sheetL {d : Nat} {sw : Bool} {gc : Nat} {I : Nat → Nat → Int32} {J : Nat → Nat → Int64} {k : Nat} (hk : k < 4) {u v : Int32} (hu : f_i3 u 0 2 = 0) : GM (d + 2) 141 [.ref 62, .int (nI k), .int u, .int v] (qS sw gc I J) (some (.int (-1))) (qS sw gc I J) := by
  refine GM_of (by decide) (Nat.le_refl _) (Nat.le_of_ble_eq_true rfl) trivial ?_
  refine G_st (L := 89) (k := 0) (0, [some (.ref 62), some (.int (nI k)), some (.int u), some (.int v), none], [], qS sw gc I J) (q_hn _ _ _ _) rfl ?_
  refine G_st (L := 89) (k := 2) (2, [some (.ref 62), some (.int (nI k)), some (.int u), some (.int v), none], [.int u, .int (nI k)], qS sw gc I J) (q_hn _ _ _ _) rfl ?_
  refine G_callS (as := [.int (nI k), .int u]) (rest := []) rfl rfl rfl (Nat.le_of_ble_eq_true rfl) (r_isSheetL hk hu) (Nat.le_refl _) ?_
  refine G_st (L := 89) (k := 0) (5, [some (.ref 62), some (.int (nI k)), some (.int u), some (.int v), none], [.int 0], qS sw gc I J) (q_hn _ _ _ _) rfl ?_
  refine G_if_eq 14 rfl rfl (fun _ => ?_) (fun h9 => absurd h9 (by decide))
  refine G_st (L := 89) (k := 1) (15, [some (.ref 62), some (.int (nI k)), some (.int u), some (.int v), none], [.int (-1)], qS sw gc I J) (q_hn _ _ _ _) rfl ?_
  exact G_iret rfl rfl rfl rfl
theorem r_sheetK {d : Nat} {sw : Bool} {gc : Nat} {I : Nat → Nat → Int32} {J : Nat → Nat → Int64} {x u v : Int32} (hx : x < 0 ∨ nI 4 ≤ x) : GM (d + 2) 141 [.ref 62, .int x, .int u, .int v] (qS sw gc I J) (some (.int (-1))) (qS sw gc I J) := by
  refine GM_of (by decide) (Nat.le_refl _) (Nat.le_of_ble_eq_true rfl) trivial ?_
  refine G_st (L := 89) (k := 0) (0, [some (.ref 62), some (.int x), some (.int u), some (.int v), none], [], qS sw gc I J) (q_hn _ _ _ _) rfl ?_
  refine G_st (L := 89) (k := 2) (2, [some (.ref 62), some (.int x), some (.int u), some (.int v), none], [.int u, .int x], qS sw gc I J) (q_hn _ _ _ _) rfl ?_
  refine G_callS (as := [.int x, .int u]) (rest := []) rfl rfl rfl (Nat.le_of_ble_eq_true rfl) (r_isSheetK hx) (Nat.le_refl _) ?_
  refine G_st (L := 89) (k := 0) (5, [some (.ref 62), some (.int x), some (.int u), some (.int v), none], [.int 0], qS sw gc I J) (q_hn _ _ _ _) rfl ?_
  refine G_if_eq 14 rfl rfl (fun _ => ?_) (fun h9 => absurd h9 (by decide))
  refine G_st (L := 89) (k := 1) (15, [some (.ref 62), some (.int x), some (.int u), some (.int v), none], [.int (-1)], qS sw gc I J) (q_hn _ _ _ _) rfl ?_
  exact G_iret rfl rfl rfl rfl
theorem r_lay {d : Nat} {sw : Bool} {gc : Nat} {I : Nat → Nat → Int32} {J : Nat → Nat → Int64} {k : Nat} (hk : k < 4) (hnt : ¬ I 86 k = -4) {n j : Nat} (hn : I 87 k = nI n) (hn60 : n ≤ 60) (hj : j < n) {v : Int64} : GM (d + 2) 142 [.ref 62, .int (nI k), .int (nI j), .long v] (qS sw gc I J) (some (.int 1)) (qS sw gc I (q_u J 88 (60 * k + j) (x_cut (I 86 k) v))) := by
  refine GM_of (by decide) (Nat.le_refl _) (Nat.le_of_ble_eq_true rfl) trivial ?_
  refine G_st (L := 89) (k := 0) (0, [some (.ref 62), some (.int (nI k)), some (.int (nI j)), some (.long v), none], [], qS sw gc I J) (q_hn _ _ _ _) rfl ?_
  refine G_st (L := 89) (k := 2) (2, [some (.ref 62), some (.int (nI k)), some (.int (nI j)), some (.long v), none], [.int 0, .int (nI k)], qS sw gc I J) (q_hn _ _ _ _) rfl ?_
  refine G_callS (as := [.int (nI k), .int 0]) (rest := []) rfl rfl rfl (Nat.le_of_ble_eq_true rfl) (r_isSheet hk (u := 0) (by decide)) (Nat.le_refl _) ?_
  refine G_st (L := 89) (k := 0) (5, [some (.ref 62), some (.int (nI k)), some (.int (nI j)), some (.long v), none], [.int 1], qS sw gc I J) (q_hn _ _ _ _) rfl ?_
  refine G_if_ne 10 rfl rfl (fun _ => ?_) (fun h9 => absurd h9 (by decide))
  refine G_st (L := 89) (k := 3) (15, [some (.ref 62), some (.int (nI k)), some (.int (nI j)), some (.long v), none], [.int (nI k), .ref 86], qS sw gc I J) (q_hn _ _ _ _) rfl ?_
  refine G_iald (i := 86) (n := 4) rfl rfl (q_lt (by decide)) (vp_in_nI (by omega) (by decide)) ?_
  rw [q_clamp (n := k) (by omega)]
  refine G_st (L := 89) (k := 1) (18, [some (.ref 62), some (.int (nI k)), some (.int (nI j)), some (.long v), none], [.int (-4), .int (I 86 k)], qS sw gc I J) (q_hn _ _ _ _) rfl ?_
  refine G_icmp_ne 24 rfl rfl (fun _ => ?_) (fun h9 => absurd h9 hnt)
  refine G_st (L := 89) (k := 6) (32, [some (.ref 62), some (.int (nI k)), some (.int (nI j)), some (.long v), none], [.int (nI k), .ref 87, .long 0, .long (Int32.toInt64 (nI j))], qS sw gc I J) (q_hn _ _ _ _) rfl ?_
  refine G_iald (i := 87) (n := 4) rfl rfl (q_lt (by decide)) (vp_in_nI (by omega) (by decide)) ?_
  rw [q_clamp (n := k) (by omega)]
  refine G_st (L := 89) (k := 3) (36, [some (.ref 62), some (.int (nI k)), some (.int (nI j)), some (.long v), none], [.long (Int32.toInt64 ((I 87 k) - 1)), .long 0, .long (Int32.toInt64 (nI j))], qS sw gc I J) (q_hn _ _ _ _) rfl ?_
  refine G_callS (as := [.long (Int32.toInt64 (nI j)), .long 0, .long (Int32.toInt64 ((I 87 k) - 1))]) (rest := []) rfl rfl rfl (Nat.le_of_ble_eq_true rfl) (r_in (lo := 0) (hi := (I 87 k) - 1) rfl rfl) (Nat.le_refl _) ?_
  refine G_st (L := 89) (k := 0) (39, [some (.ref 62), some (.int (nI k)), some (.int (nI j)), some (.long v), none], [.int (f_i3 (nI j) 0 ((I 87 k) - 1))], qS sw gc I J) (q_hn _ _ _ _) rfl ?_
  refine G_if_ne 45 rfl rfl (fun _ => ?_) (fun h9 => absurd h9 (by rw [hn, show nI n - 1 = nI (n - 1) from q_subP rfl rfl (by omega), f_i3_n (by omega) (by omega)]; decide))
  refine G_st (L := 89) (k := 10) (60, [some (.ref 62), some (.int (nI k)), some (.int (nI j)), some (.long v), none], [.int (nI k), .ref 86, .int ((60 * (nI k)) + (nI j)), .ref 88], qS sw gc I J) (q_hn _ _ _ _) rfl ?_
  rw [show (60 * (nI k)) + (nI j) = nI (60 * k + j) from (q_addP (q_mulP rfl rfl) rfl)]
  refine G_iald (i := 86) (n := 4) rfl rfl (q_lt (by decide)) (vp_in_nI (by omega) (by decide)) ?_
  rw [q_clamp (n := k) (by omega)]
  refine G_st (L := 89) (k := 0) (61, [some (.ref 62), some (.int (nI k)), some (.int (nI j)), some (.long v), none], [.int (I 86 k), .int (nI (60 * k + j)), .ref 88], qS sw gc I J) (q_hn _ _ _ _) rfl ?_
  refine G_if_ne 71 rfl rfl (fun h1 => ?_) (fun h1 => ?_)
  · skip
    refine G_st (L := 89) (k := 3) (76, [some (.ref 62), some (.int (nI k)), some (.int (nI j)), some (.long v), none], [.int (nI k), .ref 86, .int (nI (60 * k + j)), .ref 88], qS sw gc I J) (q_hn _ _ _ _) rfl ?_
    refine G_iald (i := 86) (n := 4) rfl rfl (q_lt (by decide)) (vp_in_nI (by omega) (by decide)) ?_
    rw [q_clamp (n := k) (by omega)]
    refine G_st (L := 89) (k := 1) (78, [some (.ref 62), some (.int (nI k)), some (.int (nI j)), some (.long v), none], [.int 1, .int (I 86 k), .int (nI (60 * k + j)), .ref 88], qS sw gc I J) (q_hn _ _ _ _) rfl ?_
    refine G_icmp_ne 88 rfl rfl (fun h2 => ?_) (fun h2 => ?_)
    · skip
      refine G_st (L := 89) (k := 1) (89, [some (.ref 62), some (.int (nI k)), some (.int (nI j)), some (.long v), none], [.long v, .int (nI (60 * k + j)), .ref 88], qS sw gc I J) (q_hn _ _ _ _) rfl ?_
      refine G_last (i := 88) (n := 240) rfl rfl (q_lt (by decide)) (vp_in_nI (by omega) (by decide)) ?_
      rw [q_clamp (n := 60 * k + j) (by omega)]
      refine G_st (L := 89) (k := 1) (91, [some (.ref 62), some (.int (nI k)), some (.int (nI j)), some (.long v), none], [.int 1], qS sw gc I (q_u J 88 (60 * k + j) v)) (q_hn _ _ _ _) rfl ?_
      exact G_iret rfl rfl rfl (by rw [x_cut, if_neg h1, if_neg h2])
    · skip
      refine G_st (L := 89) (k := 5) (89, [some (.ref 62), some (.int (nI k)), some (.int (nI j)), some (.long v), none], [.long (Int32.toInt64 (Int16.toInt32 (Int32.toInt16 (Int64.toInt32 v)))), .int (nI (60 * k + j)), .ref 88], qS sw gc I J) (q_hn _ _ _ _) rfl ?_
      refine G_last (i := 88) (n := 240) rfl rfl (q_lt (by decide)) (vp_in_nI (by omega) (by decide)) ?_
      rw [q_clamp (n := 60 * k + j) (by omega)]
      refine G_st (L := 89) (k := 1) (91, [some (.ref 62), some (.int (nI k)), some (.int (nI j)), some (.long v), none], [.int 1], qS sw gc I (q_u J 88 (60 * k + j) (Int32.toInt64 (Int16.toInt32 (Int32.toInt16 (Int64.toInt32 v)))))) (q_hn _ _ _ _) rfl ?_
      exact G_iret rfl rfl rfl (by rw [x_cut, if_neg h1, if_pos h2])
  · skip
    refine G_st (L := 89) (k := 5) (89, [some (.ref 62), some (.int (nI k)), some (.int (nI j)), some (.long v), none], [.long (Int32.toInt64 (Int8.toInt32 (Int32.toInt8 (Int64.toInt32 v)))), .int (nI (60 * k + j)), .ref 88], qS sw gc I J) (q_hn _ _ _ _) rfl ?_
    refine G_last (i := 88) (n := 240) rfl rfl (q_lt (by decide)) (vp_in_nI (by omega) (by decide)) ?_
    rw [q_clamp (n := 60 * k + j) (by omega)]
    refine G_st (L := 89) (k := 1) (91, [some (.ref 62), some (.int (nI k)), some (.int (nI j)), some (.long v), none], [.int 1], qS sw gc I (q_u J 88 (60 * k + j) (Int32.toInt64 (Int8.toInt32 (Int32.toInt8 (Int64.toInt32 v)))))) (q_hn _ _ _ _) rfl ?_
    exact G_iret rfl rfl rfl (by rw [x_cut, if_pos h1])
theorem r_layI {d : Nat} {sw : Bool} {gc : Nat} {I : Nat → Nat → Int32} {J : Nat → Nat → Int64} {k : Nat} (hk : k < 4) (hnt : ¬ I 86 k = -4) {n : Nat} (hn : I 87 k = nI n) (hn60 : n ≤ 60) {x : Int32} (hx : x < 0 ∨ nI n ≤ x) {v : Int64} : GM (d + 2) 142 [.ref 62, .int (nI k), .int x, .long v] (qS sw gc I J) (some (.int (-12))) (qS sw gc I J) := by
  refine GM_of (by decide) (Nat.le_refl _) (Nat.le_of_ble_eq_true rfl) trivial ?_
  refine G_st (L := 89) (k := 0) (0, [some (.ref 62), some (.int (nI k)), some (.int x), some (.long v), none], [], qS sw gc I J) (q_hn _ _ _ _) rfl ?_
  refine G_st (L := 89) (k := 2) (2, [some (.ref 62), some (.int (nI k)), some (.int x), some (.long v), none], [.int 0, .int (nI k)], qS sw gc I J) (q_hn _ _ _ _) rfl ?_
  refine G_callS (as := [.int (nI k), .int 0]) (rest := []) rfl rfl rfl (Nat.le_of_ble_eq_true rfl) (r_isSheet hk (u := 0) (by decide)) (Nat.le_refl _) ?_
  refine G_st (L := 89) (k := 0) (5, [some (.ref 62), some (.int (nI k)), some (.int x), some (.long v), none], [.int 1], qS sw gc I J) (q_hn _ _ _ _) rfl ?_
  refine G_if_ne 10 rfl rfl (fun _ => ?_) (fun h9 => absurd h9 (by decide))
  refine G_st (L := 89) (k := 3) (15, [some (.ref 62), some (.int (nI k)), some (.int x), some (.long v), none], [.int (nI k), .ref 86], qS sw gc I J) (q_hn _ _ _ _) rfl ?_
  refine G_iald (i := 86) (n := 4) rfl rfl (q_lt (by decide)) (vp_in_nI (by omega) (by decide)) ?_
  rw [q_clamp (n := k) (by omega)]
  refine G_st (L := 89) (k := 1) (18, [some (.ref 62), some (.int (nI k)), some (.int x), some (.long v), none], [.int (-4), .int (I 86 k)], qS sw gc I J) (q_hn _ _ _ _) rfl ?_
  refine G_icmp_ne 24 rfl rfl (fun _ => ?_) (fun h9 => absurd h9 hnt)
  refine G_st (L := 89) (k := 6) (32, [some (.ref 62), some (.int (nI k)), some (.int x), some (.long v), none], [.int (nI k), .ref 87, .long 0, .long (Int32.toInt64 x)], qS sw gc I J) (q_hn _ _ _ _) rfl ?_
  refine G_iald (i := 87) (n := 4) rfl rfl (q_lt (by decide)) (vp_in_nI (by omega) (by decide)) ?_
  rw [q_clamp (n := k) (by omega)]
  refine G_st (L := 89) (k := 3) (36, [some (.ref 62), some (.int (nI k)), some (.int x), some (.long v), none], [.long (Int32.toInt64 ((I 87 k) - 1)), .long 0, .long (Int32.toInt64 x)], qS sw gc I J) (q_hn _ _ _ _) rfl ?_
  refine G_callS (as := [.long (Int32.toInt64 x), .long 0, .long (Int32.toInt64 ((I 87 k) - 1))]) (rest := []) rfl rfl rfl (Nat.le_of_ble_eq_true rfl) (r_in (lo := 0) (hi := (I 87 k) - 1) rfl rfl) (Nat.le_refl _) ?_
  refine G_st (L := 89) (k := 0) (39, [some (.ref 62), some (.int (nI k)), some (.int x), some (.long v), none], [.int (f_i3 x 0 ((I 87 k) - 1))], qS sw gc I J) (q_hn _ _ _ _) rfl ?_
  refine G_if_ne 45 rfl rfl (fun h9 => absurd (by rw [hn]; exact q_gl2 hn60 hx) h9) (fun _ => ?_)
  refine G_st (L := 89) (k := 1) (44, [some (.ref 62), some (.int (nI k)), some (.int x), some (.long v), none], [.int (-12)], qS sw gc I J) (q_hn _ _ _ _) rfl ?_
  exact G_iret rfl rfl rfl rfl
theorem r_layN {d : Nat} {sw : Bool} {gc : Nat} {I : Nat → Nat → Int32} {J : Nat → Nat → Int64} {k : Nat} (hk : k < 4) (hnt : I 86 k = -4) {x : Int32} {v : Int64} : GM (d + 2) 142 [.ref 62, .int (nI k), .int x, .long v] (qS sw gc I J) (some (.int (-11))) (qS sw gc I J) := by
  refine GM_of (by decide) (Nat.le_refl _) (Nat.le_of_ble_eq_true rfl) trivial ?_
  refine G_st (L := 89) (k := 0) (0, [some (.ref 62), some (.int (nI k)), some (.int x), some (.long v), none], [], qS sw gc I J) (q_hn _ _ _ _) rfl ?_
  refine G_st (L := 89) (k := 2) (2, [some (.ref 62), some (.int (nI k)), some (.int x), some (.long v), none], [.int 0, .int (nI k)], qS sw gc I J) (q_hn _ _ _ _) rfl ?_
  refine G_callS (as := [.int (nI k), .int 0]) (rest := []) rfl rfl rfl (Nat.le_of_ble_eq_true rfl) (r_isSheet hk (u := 0) (by decide)) (Nat.le_refl _) ?_
  refine G_st (L := 89) (k := 0) (5, [some (.ref 62), some (.int (nI k)), some (.int x), some (.long v), none], [.int 1], qS sw gc I J) (q_hn _ _ _ _) rfl ?_
  refine G_if_ne 10 rfl rfl (fun _ => ?_) (fun h9 => absurd h9 (by decide))
  refine G_st (L := 89) (k := 3) (15, [some (.ref 62), some (.int (nI k)), some (.int x), some (.long v), none], [.int (nI k), .ref 86], qS sw gc I J) (q_hn _ _ _ _) rfl ?_
  refine G_iald (i := 86) (n := 4) rfl rfl (q_lt (by decide)) (vp_in_nI (by omega) (by decide)) ?_
  rw [q_clamp (n := k) (by omega)]
  refine G_st (L := 89) (k := 1) (18, [some (.ref 62), some (.int (nI k)), some (.int x), some (.long v), none], [.int (-4), .int (I 86 k)], qS sw gc I J) (q_hn _ _ _ _) rfl ?_
  refine G_icmp_ne 24 rfl rfl (fun h9 => absurd hnt h9) (fun _ => ?_)
  refine G_st (L := 89) (k := 1) (23, [some (.ref 62), some (.int (nI k)), some (.int x), some (.long v), none], [.int (-11)], qS sw gc I J) (q_hn _ _ _ _) rfl ?_
  exact G_iret rfl rfl rfl rfl
theorem r_layK {d : Nat} {sw : Bool} {gc : Nat} {I : Nat → Nat → Int32} {J : Nat → Nat → Int64} {x y : Int32} (hx : x < 0 ∨ nI 4 ≤ x) {v : Int64} : GM (d + 2) 142 [.ref 62, .int x, .int y, .long v] (qS sw gc I J) (some (.int (-1))) (qS sw gc I J) := by
  refine GM_of (by decide) (Nat.le_refl _) (Nat.le_of_ble_eq_true rfl) trivial ?_
  refine G_st (L := 89) (k := 0) (0, [some (.ref 62), some (.int x), some (.int y), some (.long v), none], [], qS sw gc I J) (q_hn _ _ _ _) rfl ?_
  refine G_st (L := 89) (k := 2) (2, [some (.ref 62), some (.int x), some (.int y), some (.long v), none], [.int 0, .int x], qS sw gc I J) (q_hn _ _ _ _) rfl ?_
  refine G_callS (as := [.int x, .int 0]) (rest := []) rfl rfl rfl (Nat.le_of_ble_eq_true rfl) (r_isSheetK hx) (Nat.le_refl _) ?_
  refine G_st (L := 89) (k := 0) (5, [some (.ref 62), some (.int x), some (.int y), some (.long v), none], [.int 0], qS sw gc I J) (q_hn _ _ _ _) rfl ?_
  refine G_if_ne 10 rfl rfl (fun h9 => absurd h9 (by decide)) (fun _ => ?_)
  refine G_st (L := 89) (k := 1) (9, [some (.ref 62), some (.int x), some (.int y), some (.long v), none], [.int (-1)], qS sw gc I J) (q_hn _ _ _ _) rfl ?_
  exact G_iret rfl rfl rfl rfl
def f_r_isBlock (a b : Int64) : Int32 := if (f_in a 1 40) = 0 then 0 else if (lg_cmp (b >>> (Int32.toInt64 (Int64.toInt32 a) &&& 63)) 0) = 0 then 1 else 0
theorem r_isBlock {d : Nat} {M : qM} {a b : Int64} : GM (d + 1) 130 [.long a, .long b] (M) (some (.int (f_r_isBlock a b))) (M) := by
  refine GM_of (by decide) (Nat.le_refl _) (Nat.le_of_ble_eq_true rfl) (by unfold f_r_isBlock; repeat (first | rfl | split)) ?_
  refine G_st (L := 0) (k := 0) (0, [some (.long a), none, some (.long b), none], [], M) (Nat.zero_le _) rfl ?_
  refine G_st (L := 0) (k := 3) (5, [some (.long a), none, some (.long b), none], [.long 40, .long 1, .long a], M) (Nat.zero_le _) rfl ?_
  refine G_callS (as := [.long a, .long 1, .long 40]) (rest := []) rfl rfl rfl (Nat.le_of_ble_eq_true rfl) (m_in _ _ _) (Nat.le_refl _) ?_
  refine G_st (L := 0) (k := 0) (8, [some (.long a), none, some (.long b), none], [.int (f_in a 1 40)], M) (Nat.zero_le _) rfl ?_
  refine G_if_eq 24 rfl rfl (fun h1 => ?_) (fun h1 => ?_)
  · skip
    refine G_st (L := 0) (k := 1) (25, [some (.long a), none, some (.long b), none], [.int 0], M) (Nat.zero_le _) rfl ?_
    exact G_iret rfl rfl (by rw [f_r_isBlock, if_pos h1]) rfl
  · skip
    refine G_st (L := 0) (k := 6) (17, [some (.long a), none, some (.long b), none], [.int (lg_cmp (b >>> (Int32.toInt64 (Int64.toInt32 a) &&& 63)) 0)], M) (Nat.zero_le _) rfl ?_
    refine G_if_ne 24 rfl rfl (fun h2 => ?_) (fun h2 => ?_)
    · skip
      refine G_st (L := 0) (k := 1) (25, [some (.long a), none, some (.long b), none], [.int 0], M) (Nat.zero_le _) rfl ?_
      exact G_iret rfl rfl (by rw [f_r_isBlock, if_neg h1, if_neg h2]) rfl
    · skip
      refine G_st (L := 0) (k := 2) (25, [some (.long a), none, some (.long b), none], [.int 1], M) (Nat.zero_le _) rfl ?_
      exact G_iret rfl rfl (by rw [f_r_isBlock, if_neg h1, if_pos h2]) rfl
