def x_sh (I : Nat → Nat → Int32) (k : Nat) (n : Int32) : Int32 := Int64.toInt32 (x_fd (Int32.toInt64 (I (2 * k + 89) 2) * Int32.toInt64 n) (Int32.toInt64 (I (2 * k + 89) 1)))
def f_x_move (I : Nat → Nat → Int32) (k j : Nat) (n : Int32) : Int32 := if n < 1 then (-1000000) else if (I (2 * k + 89) 1) ≤ n then (-1000000) else if n ≤ (6 - (I (2 * j + 89) 1)) then if (q_b (x_hw I k)) = 0 then if (q_b (x_hw I j)) = 0 then x_sh I k n else (-1000002) else (-1000002) else (-1000000)
def fm_x_move (I : Nat → Nat → Int32) (k j : Nat) (n : Int32) : Nat → Nat → Int32 := if n < 1 then I else if (I (2 * k + 89) 1) ≤ n then I else if n ≤ (6 - (I (2 * j + 89) 1)) then if (q_b (x_hw I k)) = 0 then if (q_b (x_hw I j)) = 0 then q_u (q_u (q_u (q_u I (2 * k + 89) 2 ((I (2 * k + 89) 2) - (x_sh I k n))) (2 * k + 89) 1 ((I (2 * k + 89) 1) - n)) (2 * j + 89) 2 (((q_u I (2 * k + 89) 2 ((I (2 * k + 89) 2) - (x_sh I k n))) (2 * j + 89) 2) + (x_sh I k n))) (2 * j + 89) 1 (((q_u (q_u I (2 * k + 89) 2 ((I (2 * k + 89) 2) - (x_sh I k n))) (2 * k + 89) 1 ((I (2 * k + 89) 1) - n)) (2 * j + 89) 1) + n) else I else I else I
theorem x_move {d : Nat} {sw : Bool} {gc : Nat} {J : Nat → Nat → Int64} (I : Nat → Nat → Int32) (k j : Nat) (n : Int32) (hgc : I 0 6 = nI gc) (hg : gc ≤ 8) (hk : k < gc) (hj : j < gc) (hkj : k ≠ j) (hm1 : ¬ I (2 * k + 89) 1 < 1) (hm : ¬ Int32.toInt64 (I (2 * k + 89) 1) = 0) : GM (d + 2) 78 [.ref 0, .int (nI k), .int (nI j), .int n] (qS sw gc I J) (some (.int (f_x_move I k j n))) (qS sw gc (fm_x_move I k j n) J) := by
  refine GM_of (by decide) (Nat.le_refl _) (Nat.le_of_ble_eq_true rfl) trivial ?_
  refine G_st (L := 89) (k := 0) (0, [some (.ref 0), some (.int (nI k)), some (.int (nI j)), some (.int n), none, none, none], [], qS sw gc I J) (q_hn _ _ _ _) rfl ?_
  refine G_st (L := 89) (k := 3) (3, [some (.ref 0), some (.int (nI k)), some (.int (nI j)), some (.int n), none, none, none], [.long (Int32.toInt64 (nI k)), .ref 0], qS sw gc I J) (q_hn _ _ _ _) rfl ?_
  rw [show Int32.toInt64 (nI k) = lN k from (q_i2lP rfl (by omega))]
  refine G_callV (b := 0) (ci := 8) (as := [.long (lN k)]) (rest := []) rfl rfl rfl (q_lt (by decide)) (by decide) rfl rfl (Nat.le_of_ble_eq_true rfl) (x_gangAt hgc hg hk) (Nat.le_refl _) ?_
  refine G_st (L := 89) (k := 4) (11, [some (.ref 0), some (.int (nI k)), some (.int (nI j)), some (.int n), some (.ref (2 * k + 89)), none, none], [.long (Int32.toInt64 (nI j)), .ref 0], qS sw gc I J) (q_hn _ _ _ _) rfl ?_
  rw [show Int32.toInt64 (nI j) = lN j from (q_i2lP rfl (by omega))]
  refine G_callV (b := 0) (ci := 8) (as := [.long (lN j)]) (rest := []) rfl rfl rfl (q_lt (by decide)) (by decide) rfl rfl (Nat.le_of_ble_eq_true rfl) (x_gangAt hgc hg hj) (Nat.le_refl _) ?_
  refine G_st (L := 89) (k := 7) (28, [some (.ref 0), some (.int (nI k)), some (.int (nI j)), some (.int n), some (.ref (2 * k + 89)), some (.ref (2 * j + 89)), none], [.int (nI j), .int (nI k)], qS sw gc I J) (q_hn _ _ _ _) rfl ?_
  refine G_icmp_ne 34 rfl rfl (fun _ => ?_) (fun h9 => absurd h9 (fun e9 => absurd ((nI_eq (by omega) (by omega)).mp e9) hkj))
  refine G_st (L := 89) (k := 2) (36, [some (.ref 0), some (.int (nI k)), some (.int (nI j)), some (.int n), some (.ref (2 * k + 89)), some (.ref (2 * j + 89)), none], [.int 1, .int n], qS sw gc I J) (q_hn _ _ _ _) rfl ?_
  refine G_icmp_lt 60 rfl rfl (fun h1 => ?_) (fun h1 => ?_)
  · skip
    refine G_st (L := 89) (k := 1) (62, [some (.ref 0), some (.int (nI k)), some (.int (nI j)), some (.int n), some (.ref (2 * k + 89)), some (.ref (2 * j + 89)), none], [.int (-1000000)], qS sw gc I J) (q_hn _ _ _ _) rfl ?_
    exact G_iret rfl rfl (by rw [f_x_move, if_pos h1]) (by rw [fm_x_move, if_pos h1])
  · skip
    refine G_st (L := 89) (k := 2) (42, [some (.ref 0), some (.int (nI k)), some (.int (nI j)), some (.int n), some (.ref (2 * k + 89)), some (.ref (2 * j + 89)), none], [.ref (2 * k + 89), .int n], qS sw gc I J) (q_hn _ _ _ _) rfl ?_
    refine G_get (ci := 1) (k := 1) (i := 2 * k + 89) rfl rfl (q_shG (by omega)).1 (q_ltG (by omega)).1 ?_
    refine G_st (L := 89) (k := 0) (45, [some (.ref 0), some (.int (nI k)), some (.int (nI j)), some (.int n), some (.ref (2 * k + 89)), some (.ref (2 * j + 89)), none], [.int (I (2 * k + 89) 1), .int n], qS sw gc I J) (q_hn _ _ _ _) rfl ?_
    refine G_icmp_ge 60 rfl rfl (fun h2 => ?_) (fun h2 => ?_)
    · skip
      refine G_st (L := 89) (k := 1) (62, [some (.ref 0), some (.int (nI k)), some (.int (nI j)), some (.int n), some (.ref (2 * k + 89)), some (.ref (2 * j + 89)), none], [.int (-1000000)], qS sw gc I J) (q_hn _ _ _ _) rfl ?_
      exact G_iret rfl rfl (by rw [f_x_move, if_neg h1, if_pos h2]) (by rw [fm_x_move, if_neg h1, if_pos h2])
    · skip
      refine G_st (L := 89) (k := 3) (53, [some (.ref 0), some (.int (nI k)), some (.int (nI j)), some (.int n), some (.ref (2 * k + 89)), some (.ref (2 * j + 89)), none], [.ref (2 * j + 89), .int 6, .int n], qS sw gc I J) (q_hn _ _ _ _) rfl ?_
      refine G_get (ci := 1) (k := 1) (i := 2 * j + 89) rfl rfl (q_shG (by omega)).1 (q_ltG (by omega)).1 ?_
      refine G_st (L := 89) (k := 1) (57, [some (.ref 0), some (.int (nI k)), some (.int (nI j)), some (.int n), some (.ref (2 * k + 89)), some (.ref (2 * j + 89)), none], [.int (6 - (I (2 * j + 89) 1)), .int n], qS sw gc I J) (q_hn _ _ _ _) rfl ?_
      refine G_icmp_le 63 rfl rfl (fun h3 => ?_) (fun h3 => ?_)
      · skip
        refine G_st (L := 89) (k := 1) (65, [some (.ref 0), some (.int (nI k)), some (.int (nI j)), some (.int n), some (.ref (2 * k + 89)), some (.ref (2 * j + 89)), none], [.ref (2 * k + 89)], qS sw gc I J) (q_hn _ _ _ _) rfl ?_
        refine G_callV (b := 2 * k + 89) (ci := 1) (as := []) (rest := []) rfl rfl (q_shG (by omega)).1 (q_ltG (by omega)).1 (by decide) rfl rfl (Nat.le_of_ble_eq_true rfl) (x_hasWall hk hg) (Nat.le_refl _) ?_
        refine G_st (L := 89) (k := 0) (68, [some (.ref 0), some (.int (nI k)), some (.int (nI j)), some (.int n), some (.ref (2 * k + 89)), some (.ref (2 * j + 89)), none], [.int (q_b (x_hw I k))], qS sw gc I J) (q_hn _ _ _ _) rfl ?_
        refine G_if_ne 79 rfl rfl (fun h4 => ?_) (fun h4 => ?_)
        · skip
          refine G_st (L := 89) (k := 1) (81, [some (.ref 0), some (.int (nI k)), some (.int (nI j)), some (.int n), some (.ref (2 * k + 89)), some (.ref (2 * j + 89)), none], [.int (-1000002)], qS sw gc I J) (q_hn _ _ _ _) rfl ?_
          exact G_iret rfl rfl (by rw [f_x_move, if_neg h1, if_neg h2, if_pos h3, if_neg h4]) (by rw [fm_x_move, if_neg h1, if_neg h2, if_pos h3, if_neg h4])
        · skip
          refine G_st (L := 89) (k := 1) (73, [some (.ref 0), some (.int (nI k)), some (.int (nI j)), some (.int n), some (.ref (2 * k + 89)), some (.ref (2 * j + 89)), none], [.ref (2 * j + 89)], qS sw gc I J) (q_hn _ _ _ _) rfl ?_
          refine G_callV (b := 2 * j + 89) (ci := 1) (as := []) (rest := []) rfl rfl (q_shG (by omega)).1 (q_ltG (by omega)).1 (by decide) rfl rfl (Nat.le_of_ble_eq_true rfl) (x_hasWall hj hg) (Nat.le_refl _) ?_
          refine G_st (L := 89) (k := 0) (76, [some (.ref 0), some (.int (nI k)), some (.int (nI j)), some (.int n), some (.ref (2 * k + 89)), some (.ref (2 * j + 89)), none], [.int (q_b (x_hw I j))], qS sw gc I J) (q_hn _ _ _ _) rfl ?_
          refine G_if_eq 82 rfl rfl (fun h5 => ?_) (fun h5 => ?_)
          · skip
            refine G_st (L := 89) (k := 2) (85, [some (.ref 0), some (.int (nI k)), some (.int (nI j)), some (.int n), some (.ref (2 * k + 89)), some (.ref (2 * j + 89)), none], [.int n, .ref (2 * k + 89)], qS sw gc I J) (q_hn _ _ _ _) rfl ?_
            refine G_callV (b := 2 * k + 89) (ci := 1) (as := [.int n]) (rest := []) rfl rfl (q_shG (by omega)).1 (q_ltG (by omega)).1 (by decide) rfl rfl (Nat.le_of_ble_eq_true rfl) (x_shareOf hk hg hm1 hm) (Nat.le_refl _) ?_
            refine G_st (L := 89) (k := 3) (93, [some (.ref 0), some (.int (nI k)), some (.int (nI j)), some (.int n), some (.ref (2 * k + 89)), some (.ref (2 * j + 89)), some (.int (x_sh I k n))], [.ref (2 * k + 89), .ref (2 * k + 89)], qS sw gc I J) (q_hn _ _ _ _) rfl ?_
            refine G_get (ci := 1) (k := 2) (i := 2 * k + 89) rfl rfl (q_shG (by omega)).1 (q_ltG (by omega)).1 ?_
            refine G_st (L := 89) (k := 2) (99, [some (.ref 0), some (.int (nI k)), some (.int (nI j)), some (.int n), some (.ref (2 * k + 89)), some (.ref (2 * j + 89)), some (.int (x_sh I k n))], [.int ((I (2 * k + 89) 2) - (x_sh I k n)), .ref (2 * k + 89)], qS sw gc I J) (q_hn _ _ _ _) rfl ?_
            refine G_put (ci := 1) (k := 2) (i := 2 * k + 89) (M1 := qS sw gc (q_u I (2 * k + 89) 2 ((I (2 * k + 89) 2) - (x_sh I k n))) J) rfl rfl (q_shG (by omega)).1 (q_ltG (by omega)).1 rfl rfl rfl ?_
            refine G_st (L := 89) (k := 2) (105, [some (.ref 0), some (.int (nI k)), some (.int (nI j)), some (.int n), some (.ref (2 * k + 89)), some (.ref (2 * j + 89)), some (.int (x_sh I k n))], [.ref (2 * k + 89), .ref (2 * k + 89)], qS sw gc (q_u I (2 * k + 89) 2 ((I (2 * k + 89) 2) - (x_sh I k n))) J) (q_hn _ _ _ _) rfl ?_
            refine G_get (ci := 1) (k := 1) (i := 2 * k + 89) rfl rfl (q_shG (by omega)).1 (q_ltG (by omega)).1 ?_
            rw [show q_av (qS sw gc (q_u I (2 * k + 89) 2 ((I (2 * k + 89) 2) - (x_sh I k n))) J) (2 * k + 89) (q_fty 1 1) 1 = .int (I (2 * k + 89) 1) from congrArg Value.int (show (q_u I (2 * k + 89) 2 ((I (2 * k + 89) 2) - (x_sh I k n))) (2 * k + 89) 1 = I (2 * k + 89) 1 from q_un _ _ (by omega))]
            refine G_st (L := 89) (k := 2) (110, [some (.ref 0), some (.int (nI k)), some (.int (nI j)), some (.int n), some (.ref (2 * k + 89)), some (.ref (2 * j + 89)), some (.int (x_sh I k n))], [.int ((I (2 * k + 89) 1) - n), .ref (2 * k + 89)], qS sw gc (q_u I (2 * k + 89) 2 ((I (2 * k + 89) 2) - (x_sh I k n))) J) (q_hn _ _ _ _) rfl ?_
            refine G_put (ci := 1) (k := 1) (i := 2 * k + 89) (M1 := qS sw gc (q_u (q_u I (2 * k + 89) 2 ((I (2 * k + 89) 2) - (x_sh I k n))) (2 * k + 89) 1 ((I (2 * k + 89) 1) - n)) J) rfl rfl (q_shG (by omega)).1 (q_ltG (by omega)).1 rfl rfl rfl ?_
            refine G_st (L := 89) (k := 2) (116, [some (.ref 0), some (.int (nI k)), some (.int (nI j)), some (.int n), some (.ref (2 * k + 89)), some (.ref (2 * j + 89)), some (.int (x_sh I k n))], [.ref (2 * j + 89), .ref (2 * j + 89)], qS sw gc (q_u (q_u I (2 * k + 89) 2 ((I (2 * k + 89) 2) - (x_sh I k n))) (2 * k + 89) 1 ((I (2 * k + 89) 1) - n)) J) (q_hn _ _ _ _) rfl ?_
            refine G_get (ci := 1) (k := 2) (i := 2 * j + 89) rfl rfl (q_shG (by omega)).1 (q_ltG (by omega)).1 ?_
            rw [show q_av (qS sw gc (q_u (q_u I (2 * k + 89) 2 ((I (2 * k + 89) 2) - (x_sh I k n))) (2 * k + 89) 1 ((I (2 * k + 89) 1) - n)) J) (2 * j + 89) (q_fty 1 2) 2 = .int ((q_u I (2 * k + 89) 2 ((I (2 * k + 89) 2) - (x_sh I k n))) (2 * j + 89) 2) from congrArg Value.int (show (q_u (q_u I (2 * k + 89) 2 ((I (2 * k + 89) 2) - (x_sh I k n))) (2 * k + 89) 1 ((I (2 * k + 89) 1) - n)) (2 * j + 89) 2 = (q_u I (2 * k + 89) 2 ((I (2 * k + 89) 2) - (x_sh I k n))) (2 * j + 89) 2 from q_un _ _ (by omega))]
            refine G_st (L := 89) (k := 2) (122, [some (.ref 0), some (.int (nI k)), some (.int (nI j)), some (.int n), some (.ref (2 * k + 89)), some (.ref (2 * j + 89)), some (.int (x_sh I k n))], [.int (((q_u I (2 * k + 89) 2 ((I (2 * k + 89) 2) - (x_sh I k n))) (2 * j + 89) 2) + (x_sh I k n)), .ref (2 * j + 89)], qS sw gc (q_u (q_u I (2 * k + 89) 2 ((I (2 * k + 89) 2) - (x_sh I k n))) (2 * k + 89) 1 ((I (2 * k + 89) 1) - n)) J) (q_hn _ _ _ _) rfl ?_
            refine G_put (ci := 1) (k := 2) (i := 2 * j + 89) (M1 := qS sw gc (q_u (q_u (q_u I (2 * k + 89) 2 ((I (2 * k + 89) 2) - (x_sh I k n))) (2 * k + 89) 1 ((I (2 * k + 89) 1) - n)) (2 * j + 89) 2 (((q_u I (2 * k + 89) 2 ((I (2 * k + 89) 2) - (x_sh I k n))) (2 * j + 89) 2) + (x_sh I k n))) J) rfl rfl (q_shG (by omega)).1 (q_ltG (by omega)).1 rfl rfl rfl ?_
            refine G_st (L := 89) (k := 2) (128, [some (.ref 0), some (.int (nI k)), some (.int (nI j)), some (.int n), some (.ref (2 * k + 89)), some (.ref (2 * j + 89)), some (.int (x_sh I k n))], [.ref (2 * j + 89), .ref (2 * j + 89)], qS sw gc (q_u (q_u (q_u I (2 * k + 89) 2 ((I (2 * k + 89) 2) - (x_sh I k n))) (2 * k + 89) 1 ((I (2 * k + 89) 1) - n)) (2 * j + 89) 2 (((q_u I (2 * k + 89) 2 ((I (2 * k + 89) 2) - (x_sh I k n))) (2 * j + 89) 2) + (x_sh I k n))) J) (q_hn _ _ _ _) rfl ?_
            refine G_get (ci := 1) (k := 1) (i := 2 * j + 89) rfl rfl (q_shG (by omega)).1 (q_ltG (by omega)).1 ?_
            rw [show q_av (qS sw gc (q_u (q_u (q_u I (2 * k + 89) 2 ((I (2 * k + 89) 2) - (x_sh I k n))) (2 * k + 89) 1 ((I (2 * k + 89) 1) - n)) (2 * j + 89) 2 (((q_u I (2 * k + 89) 2 ((I (2 * k + 89) 2) - (x_sh I k n))) (2 * j + 89) 2) + (x_sh I k n))) J) (2 * j + 89) (q_fty 1 1) 1 = .int ((q_u (q_u I (2 * k + 89) 2 ((I (2 * k + 89) 2) - (x_sh I k n))) (2 * k + 89) 1 ((I (2 * k + 89) 1) - n)) (2 * j + 89) 1) from congrArg Value.int (show (q_u (q_u (q_u I (2 * k + 89) 2 ((I (2 * k + 89) 2) - (x_sh I k n))) (2 * k + 89) 1 ((I (2 * k + 89) 1) - n)) (2 * j + 89) 2 (((q_u I (2 * k + 89) 2 ((I (2 * k + 89) 2) - (x_sh I k n))) (2 * j + 89) 2) + (x_sh I k n))) (2 * j + 89) 1 = (q_u (q_u I (2 * k + 89) 2 ((I (2 * k + 89) 2) - (x_sh I k n))) (2 * k + 89) 1 ((I (2 * k + 89) 1) - n)) (2 * j + 89) 1 from q_un _ _ (by omega))]
            refine G_st (L := 89) (k := 2) (133, [some (.ref 0), some (.int (nI k)), some (.int (nI j)), some (.int n), some (.ref (2 * k + 89)), some (.ref (2 * j + 89)), some (.int (x_sh I k n))], [.int (((q_u (q_u I (2 * k + 89) 2 ((I (2 * k + 89) 2) - (x_sh I k n))) (2 * k + 89) 1 ((I (2 * k + 89) 1) - n)) (2 * j + 89) 1) + n), .ref (2 * j + 89)], qS sw gc (q_u (q_u (q_u I (2 * k + 89) 2 ((I (2 * k + 89) 2) - (x_sh I k n))) (2 * k + 89) 1 ((I (2 * k + 89) 1) - n)) (2 * j + 89) 2 (((q_u I (2 * k + 89) 2 ((I (2 * k + 89) 2) - (x_sh I k n))) (2 * j + 89) 2) + (x_sh I k n))) J) (q_hn _ _ _ _) rfl ?_
            refine G_put (ci := 1) (k := 1) (i := 2 * j + 89) (M1 := qS sw gc (q_u (q_u (q_u (q_u I (2 * k + 89) 2 ((I (2 * k + 89) 2) - (x_sh I k n))) (2 * k + 89) 1 ((I (2 * k + 89) 1) - n)) (2 * j + 89) 2 (((q_u I (2 * k + 89) 2 ((I (2 * k + 89) 2) - (x_sh I k n))) (2 * j + 89) 2) + (x_sh I k n))) (2 * j + 89) 1 (((q_u (q_u I (2 * k + 89) 2 ((I (2 * k + 89) 2) - (x_sh I k n))) (2 * k + 89) 1 ((I (2 * k + 89) 1) - n)) (2 * j + 89) 1) + n)) J) rfl rfl (q_shG (by omega)).1 (q_ltG (by omega)).1 rfl rfl rfl ?_
            refine G_st (L := 89) (k := 1) (138, [some (.ref 0), some (.int (nI k)), some (.int (nI j)), some (.int n), some (.ref (2 * k + 89)), some (.ref (2 * j + 89)), some (.int (x_sh I k n))], [.int (x_sh I k n)], qS sw gc (q_u (q_u (q_u (q_u I (2 * k + 89) 2 ((I (2 * k + 89) 2) - (x_sh I k n))) (2 * k + 89) 1 ((I (2 * k + 89) 1) - n)) (2 * j + 89) 2 (((q_u I (2 * k + 89) 2 ((I (2 * k + 89) 2) - (x_sh I k n))) (2 * j + 89) 2) + (x_sh I k n))) (2 * j + 89) 1 (((q_u (q_u I (2 * k + 89) 2 ((I (2 * k + 89) 2) - (x_sh I k n))) (2 * k + 89) 1 ((I (2 * k + 89) 1) - n)) (2 * j + 89) 1) + n)) J) (q_hn _ _ _ _) rfl ?_
            exact G_iret rfl rfl (by rw [f_x_move, if_neg h1, if_neg h2, if_pos h3, if_pos h4, if_pos h5]) (by rw [fm_x_move, if_neg h1, if_neg h2, if_pos h3, if_pos h4, if_pos h5])
          · skip
            refine G_st (L := 89) (k := 1) (81, [some (.ref 0), some (.int (nI k)), some (.int (nI j)), some (.int n), some (.ref (2 * k + 89)), some (.ref (2 * j + 89)), none], [.int (-1000002)], qS sw gc I J) (q_hn _ _ _ _) rfl ?_
            exact G_iret rfl rfl (by rw [f_x_move, if_neg h1, if_neg h2, if_pos h3, if_pos h4, if_neg h5]) (by rw [fm_x_move, if_neg h1, if_neg h2, if_pos h3, if_pos h4, if_neg h5])
      · skip
        refine G_st (L := 89) (k := 1) (62, [some (.ref 0), some (.int (nI k)), some (.int (nI j)), some (.int n), some (.ref (2 * k + 89)), some (.ref (2 * j + 89)), none], [.int (-1000000)], qS sw gc I J) (q_hn _ _ _ _) rfl ?_
        exact G_iret rfl rfl (by rw [f_x_move, if_neg h1, if_neg h2, if_neg h3]) (by rw [fm_x_move, if_neg h1, if_neg h2, if_neg h3])
def f_x_moveE (I : Nat → Nat → Int32) (k : Nat) (n : Int32) : Int32 := (-1000000)
theorem x_moveE {d : Nat} {sw : Bool} {gc : Nat} {J : Nat → Nat → Int64} (I : Nat → Nat → Int32) (k : Nat) (n : Int32) (hgc : I 0 6 = nI gc) (hg : gc ≤ 8) (hk : k < gc) : GM (d + 2) 78 [.ref 0, .int (nI k), .int (nI k), .int n] (qS sw gc I J) (some (.int (f_x_moveE I k n))) (qS sw gc I J) := by
  refine GM_of (by decide) (Nat.le_refl _) (Nat.le_of_ble_eq_true rfl) trivial ?_
  refine G_st (L := 89) (k := 0) (0, [some (.ref 0), some (.int (nI k)), some (.int (nI k)), some (.int n), none, none, none], [], qS sw gc I J) (q_hn _ _ _ _) rfl ?_
  refine G_st (L := 89) (k := 3) (3, [some (.ref 0), some (.int (nI k)), some (.int (nI k)), some (.int n), none, none, none], [.long (Int32.toInt64 (nI k)), .ref 0], qS sw gc I J) (q_hn _ _ _ _) rfl ?_
  rw [show Int32.toInt64 (nI k) = lN k from (q_i2lP rfl (by omega))]
  refine G_callV (b := 0) (ci := 8) (as := [.long (lN k)]) (rest := []) rfl rfl rfl (q_lt (by decide)) (by decide) rfl rfl (Nat.le_of_ble_eq_true rfl) (x_gangAt hgc hg hk) (Nat.le_refl _) ?_
  refine G_st (L := 89) (k := 4) (11, [some (.ref 0), some (.int (nI k)), some (.int (nI k)), some (.int n), some (.ref (2 * k + 89)), none, none], [.long (Int32.toInt64 (nI k)), .ref 0], qS sw gc I J) (q_hn _ _ _ _) rfl ?_
  rw [show Int32.toInt64 (nI k) = lN k from (q_i2lP rfl (by omega))]
  refine G_callV (b := 0) (ci := 8) (as := [.long (lN k)]) (rest := []) rfl rfl rfl (q_lt (by decide)) (by decide) rfl rfl (Nat.le_of_ble_eq_true rfl) (x_gangAt hgc hg hk) (Nat.le_refl _) ?_
  refine G_st (L := 89) (k := 7) (28, [some (.ref 0), some (.int (nI k)), some (.int (nI k)), some (.int n), some (.ref (2 * k + 89)), some (.ref (2 * k + 89)), none], [.int (nI k), .int (nI k)], qS sw gc I J) (q_hn _ _ _ _) rfl ?_
  refine G_icmp_ne 34 rfl rfl (fun h9 => absurd rfl h9) (fun _ => ?_)
  refine G_st (L := 89) (k := 1) (33, [some (.ref 0), some (.int (nI k)), some (.int (nI k)), some (.int n), some (.ref (2 * k + 89)), some (.ref (2 * k + 89)), none], [.int (-1000000)], qS sw gc I J) (q_hn _ _ _ _) rfl ?_
  exact G_iret rfl rfl rfl rfl
theorem x_moveB {d : Nat} {sw : Bool} {gc : Nat} {I : Nat → Nat → Int32} {J : Nat → Nat → Int64} {x : Int32} (hgc : I 0 6 = nI gc) (hg : gc ≤ 8) (hx : Int32.toInt64 x < 0 ∨ lN gc ≤ Int32.toInt64 x) {y n : Int32} (hy : Int32.toInt64 y < 0 ∨ lN gc ≤ Int32.toInt64 y) : GM (d + 2) 78 [.ref 0, .int x, .int y, .int n] (qS sw gc I J) (some (.int (-1000000))) (qS sw gc I J) := by
  refine GM_of (by decide) (Nat.le_refl _) (Nat.le_of_ble_eq_true rfl) trivial ?_
  refine G_st (L := 89) (k := 0) (0, [some (.ref 0), some (.int x), some (.int y), some (.int n), none, none, none], [], qS sw gc I J) (q_hn _ _ _ _) rfl ?_
  refine G_st (L := 89) (k := 3) (3, [some (.ref 0), some (.int x), some (.int y), some (.int n), none, none, none], [.long (Int32.toInt64 x), .ref 0], qS sw gc I J) (q_hn _ _ _ _) rfl ?_
  refine G_callV (b := 0) (ci := 8) (as := [.long (Int32.toInt64 x)]) (rest := []) rfl rfl rfl (q_lt (by decide)) (by decide) rfl rfl (Nat.le_of_ble_eq_true rfl) (x_gangAtN hgc hg hx) (Nat.le_refl _) ?_
  refine G_st (L := 89) (k := 4) (11, [some (.ref 0), some (.int x), some (.int y), some (.int n), some (.null), none, none], [.long (Int32.toInt64 y), .ref 0], qS sw gc I J) (q_hn _ _ _ _) rfl ?_
  refine G_callV (b := 0) (ci := 8) (as := [.long (Int32.toInt64 y)]) (rest := []) rfl rfl rfl (q_lt (by decide)) (by decide) rfl rfl (Nat.le_of_ble_eq_true rfl) (x_gangAtN hgc hg hy) (Nat.le_refl _) ?_
  refine G_st (L := 89) (k := 4) (33, [some (.ref 0), some (.int x), some (.int y), some (.int n), some (.null), some (.null), none], [.int (-1000000)], qS sw gc I J) (q_hn _ _ _ _) rfl ?_
  exact G_iret rfl rfl rfl rfl
theorem x_moveX {d : Nat} {sw : Bool} {gc : Nat} {I : Nat → Nat → Int32} {J : Nat → Nat → Int64} {x : Int32} (hgc : I 0 6 = nI gc) (hg : gc ≤ 8) (hx : Int32.toInt64 x < 0 ∨ lN gc ≤ Int32.toInt64 x) {n : Int32} {j : Nat} (hj : j < gc) : GM (d + 2) 78 [.ref 0, .int x, .int (nI j), .int n] (qS sw gc I J) (some (.int (-1000000))) (qS sw gc I J) := by
  refine GM_of (by decide) (Nat.le_refl _) (Nat.le_of_ble_eq_true rfl) trivial ?_
  refine G_st (L := 89) (k := 0) (0, [some (.ref 0), some (.int x), some (.int (nI j)), some (.int n), none, none, none], [], qS sw gc I J) (q_hn _ _ _ _) rfl ?_
  refine G_st (L := 89) (k := 3) (3, [some (.ref 0), some (.int x), some (.int (nI j)), some (.int n), none, none, none], [.long (Int32.toInt64 x), .ref 0], qS sw gc I J) (q_hn _ _ _ _) rfl ?_
  refine G_callV (b := 0) (ci := 8) (as := [.long (Int32.toInt64 x)]) (rest := []) rfl rfl rfl (q_lt (by decide)) (by decide) rfl rfl (Nat.le_of_ble_eq_true rfl) (x_gangAtN hgc hg hx) (Nat.le_refl _) ?_
  refine G_st (L := 89) (k := 4) (11, [some (.ref 0), some (.int x), some (.int (nI j)), some (.int n), some (.null), none, none], [.long (Int32.toInt64 (nI j)), .ref 0], qS sw gc I J) (q_hn _ _ _ _) rfl ?_
  rw [show Int32.toInt64 (nI j) = lN j from (q_i2lP rfl (by omega))]
  refine G_callV (b := 0) (ci := 8) (as := [.long (lN j)]) (rest := []) rfl rfl rfl (q_lt (by decide)) (by decide) rfl rfl (Nat.le_of_ble_eq_true rfl) (x_gangAt hgc hg hj) (Nat.le_refl _) ?_
  refine G_st (L := 89) (k := 4) (33, [some (.ref 0), some (.int x), some (.int (nI j)), some (.int n), some (.null), some (.ref (2 * j + 89)), none], [.int (-1000000)], qS sw gc I J) (q_hn _ _ _ _) rfl ?_
  exact G_iret rfl rfl rfl rfl
theorem x_moveY {d : Nat} {sw : Bool} {gc : Nat} {I : Nat → Nat → Int32} {J : Nat → Nat → Int64} {x : Int32} (hgc : I 0 6 = nI gc) (hg : gc ≤ 8) (hx : Int32.toInt64 x < 0 ∨ lN gc ≤ Int32.toInt64 x) {n : Int32} {j : Nat} (hj : j < gc) : GM (d + 2) 78 [.ref 0, .int (nI j), .int x, .int n] (qS sw gc I J) (some (.int (-1000000))) (qS sw gc I J) := by
  refine GM_of (by decide) (Nat.le_refl _) (Nat.le_of_ble_eq_true rfl) trivial ?_
  refine G_st (L := 89) (k := 0) (0, [some (.ref 0), some (.int (nI j)), some (.int x), some (.int n), none, none, none], [], qS sw gc I J) (q_hn _ _ _ _) rfl ?_
  refine G_st (L := 89) (k := 3) (3, [some (.ref 0), some (.int (nI j)), some (.int x), some (.int n), none, none, none], [.long (Int32.toInt64 (nI j)), .ref 0], qS sw gc I J) (q_hn _ _ _ _) rfl ?_
  rw [show Int32.toInt64 (nI j) = lN j from (q_i2lP rfl (by omega))]
  refine G_callV (b := 0) (ci := 8) (as := [.long (lN j)]) (rest := []) rfl rfl rfl (q_lt (by decide)) (by decide) rfl rfl (Nat.le_of_ble_eq_true rfl) (x_gangAt hgc hg hj) (Nat.le_refl _) ?_
  refine G_st (L := 89) (k := 4) (11, [some (.ref 0), some (.int (nI j)), some (.int x), some (.int n), some (.ref (2 * j + 89)), none, none], [.long (Int32.toInt64 x), .ref 0], qS sw gc I J) (q_hn _ _ _ _) rfl ?_
  refine G_callV (b := 0) (ci := 8) (as := [.long (Int32.toInt64 x)]) (rest := []) rfl rfl rfl (q_lt (by decide)) (by decide) rfl rfl (Nat.le_of_ble_eq_true rfl) (x_gangAtN hgc hg hx) (Nat.le_refl _) ?_
  refine G_st (L := 89) (k := 6) (33, [some (.ref 0), some (.int (nI j)), some (.int x), some (.int n), some (.ref (2 * j + 89)), some (.null), none], [.int (-1000000)], qS sw gc I J) (q_hn _ _ _ _) rfl ?_
  exact G_iret rfl rfl rfl rfl
def f_x_ask (I : Nat → Nat → Int32) (k a b : Nat) (p : Int32) : Int32 := if p < 0 then (-1) else if p ≤ 9999 then if (I 0 8) = 0 then if (I (2 * k + 90) (6 * a + b)) = (-4) then (I 0 7) + 1 else I 0 7 else (-2) else (-1)
def fm_x_ask (I : Nat → Nat → Int32) (k a b : Nat) (p : Int32) : Nat → Nat → Int32 := if p < 0 then I else if p ≤ 9999 then if (I 0 8) = 0 then if (I (2 * k + 90) (6 * a + b)) = (-4) then q_u (q_u I 0 7 ((I 0 7) + 1)) (2 * k + 90) (6 * a + b) p else q_u I (2 * k + 90) (6 * a + b) p else I else I
theorem x_ask {d : Nat} {sw : Bool} {gc : Nat} {J : Nat → Nat → Int64} (I : Nat → Nat → Int32) (k a b : Nat) (p : Int32) (hgc : I 0 6 = nI gc) (hg : gc ≤ 8) (hk : k < gc) (ha : a < 5) (hb : b < 6) : GM (d + 1) 79 [.ref 0, .int (nI k), .int (nI a), .int (nI b), .int p] (qS sw gc I J) (some (.int (f_x_ask I k a b p))) (qS sw gc (fm_x_ask I k a b p) J) := by
  refine GM_of (by decide) (Nat.le_refl _) (Nat.le_of_ble_eq_true rfl) trivial ?_
  refine G_st (L := 89) (k := 0) (0, [some (.ref 0), some (.int (nI k)), some (.int (nI a)), some (.int (nI b)), some (.int p), none, none], [], qS sw gc I J) (q_hn _ _ _ _) rfl ?_
  refine G_st (L := 89) (k := 3) (3, [some (.ref 0), some (.int (nI k)), some (.int (nI a)), some (.int (nI b)), some (.int p), none, none], [.long (Int32.toInt64 (nI k)), .ref 0], qS sw gc I J) (q_hn _ _ _ _) rfl ?_
  rw [show Int32.toInt64 (nI k) = lN k from (q_i2lP rfl (by omega))]
  refine G_callV (b := 0) (ci := 8) (as := [.long (lN k)]) (rest := []) rfl rfl rfl (q_lt (by decide)) (by decide) rfl rfl (Nat.le_of_ble_eq_true rfl) (x_gangAt hgc hg hk) (Nat.le_refl _) ?_
  refine G_st (L := 89) (k := 3) (10, [some (.ref 0), some (.int (nI k)), some (.int (nI a)), some (.int (nI b)), some (.int p), some (.ref (2 * k + 89)), none], [.int (nI b), .int (nI a)], qS sw gc I J) (q_hn _ _ _ _) rfl ?_
  refine G_callS (as := [.int (nI a), .int (nI b)]) (rest := []) rfl rfl rfl (Nat.le_of_ble_eq_true rfl) (x_ix_ok ha hb) (Nat.le_refl _) ?_
  refine G_st (L := 89) (k := 6) (26, [some (.ref 0), some (.int (nI k)), some (.int (nI a)), some (.int (nI b)), some (.int p), some (.ref (2 * k + 89)), some (.int (nI (6 * a + b)))], [.int (nI (6 * a + b)), .ref 14], qS sw gc I J) (q_hn _ _ _ _) rfl ?_
  refine G_callV (b := 14) (ci := 0) (as := [.int (nI (6 * a + b))]) (rest := []) rfl rfl rfl (q_lt (by decide)) (by decide) rfl rfl (Nat.le_of_ble_eq_true rfl) (x_wallAt (by omega)) (Nat.le_refl _) ?_
  refine G_st (L := 89) (k := 2) (34, [some (.ref 0), some (.int (nI k)), some (.int (nI a)), some (.int (nI b)), some (.int p), some (.ref (2 * k + 89)), some (.int (nI (6 * a + b)))], [.int p], qS sw gc I J) (q_hn _ _ _ _) rfl ?_
  refine G_if_lt 45 rfl rfl (fun h1 => ?_) (fun h1 => ?_)
  · skip
    refine G_st (L := 89) (k := 1) (46, [some (.ref 0), some (.int (nI k)), some (.int (nI a)), some (.int (nI b)), some (.int p), some (.ref (2 * k + 89)), some (.int (nI (6 * a + b)))], [.int (-1)], qS sw gc I J) (q_hn _ _ _ _) rfl ?_
    exact G_iret rfl rfl (by rw [f_x_ask, if_pos h1]) (by rw [fm_x_ask, if_pos h1])
  · skip
    refine G_st (L := 89) (k := 2) (42, [some (.ref 0), some (.int (nI k)), some (.int (nI a)), some (.int (nI b)), some (.int p), some (.ref (2 * k + 89)), some (.int (nI (6 * a + b)))], [.int 9999, .int p], qS sw gc I J) (q_hn _ _ _ _) rfl ?_
    refine G_icmp_le 47 rfl rfl (fun h2 => ?_) (fun h2 => ?_)
    · skip
      refine G_st (L := 89) (k := 2) (51, [some (.ref 0), some (.int (nI k)), some (.int (nI a)), some (.int (nI b)), some (.int p), some (.ref (2 * k + 89)), some (.int (nI (6 * a + b)))], [.int (I 0 8)], qS sw gc I J) (q_hn _ _ _ _) rfl ?_
      refine G_if_eq 57 rfl rfl (fun h3 => ?_) (fun h3 => ?_)
      · skip
        refine G_st (L := 89) (k := 2) (61, [some (.ref 0), some (.int (nI k)), some (.int (nI a)), some (.int (nI b)), some (.int p), some (.ref (2 * k + 89)), some (.int (nI (6 * a + b)))], [.int (nI (6 * a + b)), .ref (2 * k + 89)], qS sw gc I J) (q_hn _ _ _ _) rfl ?_
        refine G_callV (b := 2 * k + 89) (ci := 1) (as := [.int (nI (6 * a + b))]) (rest := []) rfl rfl (q_shG (by omega)).1 (q_ltG (by omega)).1 (by decide) rfl rfl (Nat.le_of_ble_eq_true rfl) (x_askFor hk hg (by omega)) (Nat.le_refl _) ?_
        refine G_st (L := 89) (k := 1) (66, [some (.ref 0), some (.int (nI k)), some (.int (nI a)), some (.int (nI b)), some (.int p), some (.ref (2 * k + 89)), some (.int (nI (6 * a + b)))], [.int (-4), .int (I (2 * k + 90) (6 * a + b))], qS sw gc I J) (q_hn _ _ _ _) rfl ?_
        refine G_icmp_ne 79 rfl rfl (fun h4 => ?_) (fun h4 => ?_)
        · skip
          refine G_st (L := 89) (k := 3) (85, [some (.ref 0), some (.int (nI k)), some (.int (nI a)), some (.int (nI b)), some (.int p), some (.ref (2 * k + 89)), some (.int (nI (6 * a + b)))], [.int p, .int (nI (6 * a + b)), .ref (2 * k + 89)], qS sw gc I J) (q_hn _ _ _ _) rfl ?_
          refine G_callV (b := 2 * k + 89) (ci := 1) (as := [.int (nI (6 * a + b)), .int p]) (rest := []) rfl rfl (q_shG (by omega)).1 (q_ltG (by omega)).1 (by decide) rfl rfl (Nat.le_of_ble_eq_true rfl) (x_setAsk hk hg (by omega)) (Nat.le_refl _) ?_
          refine G_st (L := 89) (k := 1) (89, [some (.ref 0), some (.int (nI k)), some (.int (nI a)), some (.int (nI b)), some (.int p), some (.ref (2 * k + 89)), some (.int (nI (6 * a + b)))], [.ref 0], qS sw gc (q_u I (2 * k + 90) (6 * a + b) p) J) (q_hn _ _ _ _) rfl ?_
          refine G_get (ci := 8) (k := 7) (i := 0) rfl rfl rfl (q_lt (by decide)) ?_
          rw [show q_av (qS sw gc (q_u I (2 * k + 90) (6 * a + b) p) J) 0 (q_fty 8 7) 7 = .int (I 0 7) from congrArg Value.int (show (q_u I (2 * k + 90) (6 * a + b) p) 0 7 = I 0 7 from q_un _ _ (by omega))]
          refine G_st (L := 89) (k := 0) (92, [some (.ref 0), some (.int (nI k)), some (.int (nI a)), some (.int (nI b)), some (.int p), some (.ref (2 * k + 89)), some (.int (nI (6 * a + b)))], [.int (I 0 7)], qS sw gc (q_u I (2 * k + 90) (6 * a + b) p) J) (q_hn _ _ _ _) rfl ?_
          exact G_iret rfl rfl (by rw [f_x_ask, if_neg h1, if_pos h2, if_pos h3, if_neg h4]) (by rw [fm_x_ask, if_neg h1, if_pos h2, if_pos h3, if_neg h4])
        · skip
          refine G_st (L := 89) (k := 9) (85, [some (.ref 0), some (.int (nI k)), some (.int (nI a)), some (.int (nI b)), some (.int p), some (.ref (2 * k + 89)), some (.int (nI (6 * a + b)))], [.int p, .int (nI (6 * a + b)), .ref (2 * k + 89)], qS sw gc (q_u I 0 7 ((I 0 7) + 1)) J) (q_hn _ _ _ _) rfl ?_
          refine G_callV (b := 2 * k + 89) (ci := 1) (as := [.int (nI (6 * a + b)), .int p]) (rest := []) rfl rfl (q_shG (by omega)).1 (q_ltG (by omega)).1 (by decide) rfl rfl (Nat.le_of_ble_eq_true rfl) (x_setAsk hk hg (by omega)) (Nat.le_refl _) ?_
          refine G_st (L := 89) (k := 1) (89, [some (.ref 0), some (.int (nI k)), some (.int (nI a)), some (.int (nI b)), some (.int p), some (.ref (2 * k + 89)), some (.int (nI (6 * a + b)))], [.ref 0], qS sw gc (q_u (q_u I 0 7 ((I 0 7) + 1)) (2 * k + 90) (6 * a + b) p) J) (q_hn _ _ _ _) rfl ?_
          refine G_get (ci := 8) (k := 7) (i := 0) rfl rfl rfl (q_lt (by decide)) ?_
          rw [show q_av (qS sw gc (q_u (q_u I 0 7 ((I 0 7) + 1)) (2 * k + 90) (6 * a + b) p) J) 0 (q_fty 8 7) 7 = .int ((I 0 7) + 1) from congrArg Value.int (show (q_u (q_u I 0 7 ((I 0 7) + 1)) (2 * k + 90) (6 * a + b) p) 0 7 = (I 0 7) + 1 from (q_un _ _ (by omega)).trans (q_us _ _ _ _))]
          refine G_st (L := 89) (k := 0) (92, [some (.ref 0), some (.int (nI k)), some (.int (nI a)), some (.int (nI b)), some (.int p), some (.ref (2 * k + 89)), some (.int (nI (6 * a + b)))], [.int ((I 0 7) + 1)], qS sw gc (q_u (q_u I 0 7 ((I 0 7) + 1)) (2 * k + 90) (6 * a + b) p) J) (q_hn _ _ _ _) rfl ?_
          exact G_iret rfl rfl (by rw [f_x_ask, if_neg h1, if_pos h2, if_pos h3, if_pos h4]) (by rw [fm_x_ask, if_neg h1, if_pos h2, if_pos h3, if_pos h4])
      · skip
        refine G_st (L := 89) (k := 1) (56, [some (.ref 0), some (.int (nI k)), some (.int (nI a)), some (.int (nI b)), some (.int p), some (.ref (2 * k + 89)), some (.int (nI (6 * a + b)))], [.int (-2)], qS sw gc I J) (q_hn _ _ _ _) rfl ?_
        exact G_iret rfl rfl (by rw [f_x_ask, if_neg h1, if_pos h2, if_neg h3]) (by rw [fm_x_ask, if_neg h1, if_pos h2, if_neg h3])
    · skip
      refine G_st (L := 89) (k := 1) (46, [some (.ref 0), some (.int (nI k)), some (.int (nI a)), some (.int (nI b)), some (.int p), some (.ref (2 * k + 89)), some (.int (nI (6 * a + b)))], [.int (-1)], qS sw gc I J) (q_hn _ _ _ _) rfl ?_
      exact G_iret rfl rfl (by rw [f_x_ask, if_neg h1, if_neg h2]) (by rw [fm_x_ask, if_neg h1, if_neg h2])
theorem x_askF {d : Nat} {sw : Bool} {gc : Nat} {I : Nat → Nat → Int32} {J : Nat → Nat → Int64} {g c : Int32} (hbad : g < 0 ∨ nI 5 ≤ g ∨ c < 0 ∨ nI 6 ≤ c) {p : Int32} {k : Nat} (hgc : I 0 6 = nI gc) (hg : gc ≤ 8) (hk : k < gc) : GM (d + 1) 79 [.ref 0, .int (nI k), .int g, .int c, .int p] (qS sw gc I J) (some (.int (-1))) (qS sw gc I J) := by
  refine GM_of (by decide) (Nat.le_refl _) (Nat.le_of_ble_eq_true rfl) trivial ?_
  refine G_st (L := 89) (k := 0) (0, [some (.ref 0), some (.int (nI k)), some (.int g), some (.int c), some (.int p), none, none], [], qS sw gc I J) (q_hn _ _ _ _) rfl ?_
  refine G_st (L := 89) (k := 3) (3, [some (.ref 0), some (.int (nI k)), some (.int g), some (.int c), some (.int p), none, none], [.long (Int32.toInt64 (nI k)), .ref 0], qS sw gc I J) (q_hn _ _ _ _) rfl ?_
  rw [show Int32.toInt64 (nI k) = lN k from (q_i2lP rfl (by omega))]
  refine G_callV (b := 0) (ci := 8) (as := [.long (lN k)]) (rest := []) rfl rfl rfl (q_lt (by decide)) (by decide) rfl rfl (Nat.le_of_ble_eq_true rfl) (x_gangAt hgc hg hk) (Nat.le_refl _) ?_
  refine G_st (L := 89) (k := 3) (10, [some (.ref 0), some (.int (nI k)), some (.int g), some (.int c), some (.int p), some (.ref (2 * k + 89)), none], [.int c, .int g], qS sw gc I J) (q_hn _ _ _ _) rfl ?_
  refine G_callS (as := [.int g, .int c]) (rest := []) rfl rfl rfl (Nat.le_of_ble_eq_true rfl) (x_ix_bad hbad) (Nat.le_refl _) ?_
  refine G_st (L := 89) (k := 6) (26, [some (.ref 0), some (.int (nI k)), some (.int g), some (.int c), some (.int p), some (.ref (2 * k + 89)), some (.int (-4))], [.int (-4), .ref 14], qS sw gc I J) (q_hn _ _ _ _) rfl ?_
  refine G_callV (b := 14) (ci := 0) (as := [.int (-4)]) (rest := []) rfl rfl rfl (q_lt (by decide)) (by decide) rfl rfl (Nat.le_of_ble_eq_true rfl) (x_wallAtN (Or.inl (by decide))) (Nat.le_refl _) ?_
  refine G_st (L := 89) (k := 2) (46, [some (.ref 0), some (.int (nI k)), some (.int g), some (.int c), some (.int p), some (.ref (2 * k + 89)), some (.int (-4))], [.int (-1)], qS sw gc I J) (q_hn _ _ _ _) rfl ?_
  exact G_iret rfl rfl rfl rfl
theorem x_askG {d : Nat} {sw : Bool} {gc : Nat} {I : Nat → Nat → Int32} {J : Nat → Nat → Int64} {a b : Nat} (ha : a < 5) (hb : b < 6) {p : Int32} {x : Int32} (hgc : I 0 6 = nI gc) (hg : gc ≤ 8) (hx : Int32.toInt64 x < 0 ∨ lN gc ≤ Int32.toInt64 x) : GM (d + 1) 79 [.ref 0, .int x, .int (nI a), .int (nI b), .int p] (qS sw gc I J) (some (.int (-1))) (qS sw gc I J) := by
  refine GM_of (by decide) (Nat.le_refl _) (Nat.le_of_ble_eq_true rfl) trivial ?_
  refine G_st (L := 89) (k := 0) (0, [some (.ref 0), some (.int x), some (.int (nI a)), some (.int (nI b)), some (.int p), none, none], [], qS sw gc I J) (q_hn _ _ _ _) rfl ?_
  refine G_st (L := 89) (k := 3) (3, [some (.ref 0), some (.int x), some (.int (nI a)), some (.int (nI b)), some (.int p), none, none], [.long (Int32.toInt64 x), .ref 0], qS sw gc I J) (q_hn _ _ _ _) rfl ?_
  refine G_callV (b := 0) (ci := 8) (as := [.long (Int32.toInt64 x)]) (rest := []) rfl rfl rfl (q_lt (by decide)) (by decide) rfl rfl (Nat.le_of_ble_eq_true rfl) (x_gangAtN hgc hg hx) (Nat.le_refl _) ?_
  refine G_st (L := 89) (k := 3) (10, [some (.ref 0), some (.int x), some (.int (nI a)), some (.int (nI b)), some (.int p), some (.null), none], [.int (nI b), .int (nI a)], qS sw gc I J) (q_hn _ _ _ _) rfl ?_
  refine G_callS (as := [.int (nI a), .int (nI b)]) (rest := []) rfl rfl rfl (Nat.le_of_ble_eq_true rfl) (x_ix_ok ha hb) (Nat.le_refl _) ?_
  refine G_st (L := 89) (k := 4) (46, [some (.ref 0), some (.int x), some (.int (nI a)), some (.int (nI b)), some (.int p), some (.null), some (.int (nI (6 * a + b)))], [.int (-1)], qS sw gc I J) (q_hn _ _ _ _) rfl ?_
  exact G_iret rfl rfl rfl rfl
theorem x_askFG {d : Nat} {sw : Bool} {gc : Nat} {I : Nat → Nat → Int32} {J : Nat → Nat → Int64} {g c : Int32} (hbad : g < 0 ∨ nI 5 ≤ g ∨ c < 0 ∨ nI 6 ≤ c) {p : Int32} {x : Int32} (hgc : I 0 6 = nI gc) (hg : gc ≤ 8) (hx : Int32.toInt64 x < 0 ∨ lN gc ≤ Int32.toInt64 x) : GM (d + 1) 79 [.ref 0, .int x, .int g, .int c, .int p] (qS sw gc I J) (some (.int (-1))) (qS sw gc I J) := by
  refine GM_of (by decide) (Nat.le_refl _) (Nat.le_of_ble_eq_true rfl) trivial ?_
  refine G_st (L := 89) (k := 0) (0, [some (.ref 0), some (.int x), some (.int g), some (.int c), some (.int p), none, none], [], qS sw gc I J) (q_hn _ _ _ _) rfl ?_
  refine G_st (L := 89) (k := 3) (3, [some (.ref 0), some (.int x), some (.int g), some (.int c), some (.int p), none, none], [.long (Int32.toInt64 x), .ref 0], qS sw gc I J) (q_hn _ _ _ _) rfl ?_
  refine G_callV (b := 0) (ci := 8) (as := [.long (Int32.toInt64 x)]) (rest := []) rfl rfl rfl (q_lt (by decide)) (by decide) rfl rfl (Nat.le_of_ble_eq_true rfl) (x_gangAtN hgc hg hx) (Nat.le_refl _) ?_
  refine G_st (L := 89) (k := 3) (10, [some (.ref 0), some (.int x), some (.int g), some (.int c), some (.int p), some (.null), none], [.int c, .int g], qS sw gc I J) (q_hn _ _ _ _) rfl ?_
  refine G_callS (as := [.int g, .int c]) (rest := []) rfl rfl rfl (Nat.le_of_ble_eq_true rfl) (x_ix_bad hbad) (Nat.le_refl _) ?_
  refine G_st (L := 89) (k := 4) (46, [some (.ref 0), some (.int x), some (.int g), some (.int c), some (.int p), some (.null), some (.int (-4))], [.int (-1)], qS sw gc I J) (q_hn _ _ _ _) rfl ?_
  exact G_iret rfl rfl rfl rfl
theorem x_size {d : Nat} {sw : Bool} {gc : Nat} {I : Nat → Nat → Int32} {J : Nat → Nat → Int64} {n : Nat} {u v : Int32} (hs : f_isSlate u v = 1) (hn : I 47 3 = nI n) (h8 : n < 8) : GM (d + 1) 82 [.ref 0, .int u, .int v] (qS sw gc I J) (some (.int (nI n))) (qS sw gc (q_u (q_u (q_u I 48 n u) 49 n v) 47 3 (nI (n + 1))) J) := by
  refine GM_of (by decide) (Nat.le_refl _) (Nat.le_of_ble_eq_true rfl) trivial ?_
  refine G_st (L := 89) (k := 0) (0, [some (.ref 0), some (.int u), some (.int v)], [], qS sw gc I J) (q_hn _ _ _ _) rfl ?_
  refine G_st (L := 89) (k := 2) (2, [some (.ref 0), some (.int u), some (.int v)], [.int v, .int u], qS sw gc I J) (q_hn _ _ _ _) rfl ?_
  refine G_callS (as := [.int u, .int v]) (rest := []) rfl rfl rfl (Nat.le_of_ble_eq_true rfl) (GM_r (m_isSlate _ _) hs) (Nat.le_refl _) ?_
  refine G_st (L := 89) (k := 0) (5, [some (.ref 0), some (.int u), some (.int v)], [.int 1], qS sw gc I J) (q_hn _ _ _ _) rfl ?_
  refine G_if_ne 10 rfl rfl (fun _ => ?_) (fun h9 => absurd h9 (by decide))
  refine G_st (L := 89) (k := 4) (16, [some (.ref 0), some (.int u), some (.int v)], [.int v, .int u, .ref 47], qS sw gc I J) (q_hn _ _ _ _) rfl ?_
  refine G_callV (b := 47) (ci := 4) (as := [.int u, .int v]) (rest := []) rfl rfl rfl (q_lt (by decide)) (by decide) rfl rfl (Nat.le_of_ble_eq_true rfl) (x_addSize hn h8) (Nat.le_refl _) ?_
  refine G_st (L := 89) (k := 0) (19, [some (.ref 0), some (.int u), some (.int v)], [.int (nI n)], qS sw gc (q_u (q_u (q_u I 48 n u) 49 n v) 47 3 (nI (n + 1))) J) (q_hn _ _ _ _) rfl ?_
  exact G_iret rfl rfl rfl rfl
theorem x_sizeF {d : Nat} {sw : Bool} {gc : Nat} {I : Nat → Nat → Int32} {J : Nat → Nat → Int64} {u v : Int32} (hs : f_isSlate u v = 1) (hn : I 47 3 = nI 8) : GM (d + 1) 82 [.ref 0, .int u, .int v] (qS sw gc I J) (some (.int (-3))) (qS sw gc I J) := by
  refine GM_of (by decide) (Nat.le_refl _) (Nat.le_of_ble_eq_true rfl) trivial ?_
  refine G_st (L := 89) (k := 0) (0, [some (.ref 0), some (.int u), some (.int v)], [], qS sw gc I J) (q_hn _ _ _ _) rfl ?_
  refine G_st (L := 89) (k := 2) (2, [some (.ref 0), some (.int u), some (.int v)], [.int v, .int u], qS sw gc I J) (q_hn _ _ _ _) rfl ?_
  refine G_callS (as := [.int u, .int v]) (rest := []) rfl rfl rfl (Nat.le_of_ble_eq_true rfl) (GM_r (m_isSlate _ _) hs) (Nat.le_refl _) ?_
  refine G_st (L := 89) (k := 0) (5, [some (.ref 0), some (.int u), some (.int v)], [.int 1], qS sw gc I J) (q_hn _ _ _ _) rfl ?_
  refine G_if_ne 10 rfl rfl (fun _ => ?_) (fun h9 => absurd h9 (by decide))
  refine G_st (L := 89) (k := 4) (16, [some (.ref 0), some (.int u), some (.int v)], [.int v, .int u, .ref 47], qS sw gc I J) (q_hn _ _ _ _) rfl ?_
  refine G_callV (b := 47) (ci := 4) (as := [.int u, .int v]) (rest := []) rfl rfl rfl (q_lt (by decide)) (by decide) rfl rfl (Nat.le_of_ble_eq_true rfl) (x_addSizeF hn) (Nat.le_refl _) ?_
  refine G_st (L := 89) (k := 0) (19, [some (.ref 0), some (.int u), some (.int v)], [.int (-3)], qS sw gc I J) (q_hn _ _ _ _) rfl ?_
  exact G_iret rfl rfl rfl rfl
theorem x_sizeB {d : Nat} {sw : Bool} {gc : Nat} {I : Nat → Nat → Int32} {J : Nat → Nat → Int64} {u v : Int32} (hs : f_isSlate u v = 0) : GM (d + 1) 82 [.ref 0, .int u, .int v] (qS sw gc I J) (some (.int (-1))) (qS sw gc I J) := by
  refine GM_of (by decide) (Nat.le_refl _) (Nat.le_of_ble_eq_true rfl) trivial ?_
  refine G_st (L := 89) (k := 0) (0, [some (.ref 0), some (.int u), some (.int v)], [], qS sw gc I J) (q_hn _ _ _ _) rfl ?_
  refine G_st (L := 89) (k := 2) (2, [some (.ref 0), some (.int u), some (.int v)], [.int v, .int u], qS sw gc I J) (q_hn _ _ _ _) rfl ?_
  refine G_callS (as := [.int u, .int v]) (rest := []) rfl rfl rfl (Nat.le_of_ble_eq_true rfl) (GM_r (m_isSlate _ _) hs) (Nat.le_refl _) ?_
  refine G_st (L := 89) (k := 0) (5, [some (.ref 0), some (.int u), some (.int v)], [.int 0], qS sw gc I J) (q_hn _ _ _ _) rfl ?_
  refine G_if_ne 10 rfl rfl (fun h9 => absurd h9 (by decide)) (fun _ => ?_)
  refine G_st (L := 89) (k := 1) (9, [some (.ref 0), some (.int u), some (.int v)], [.int (-1)], qS sw gc I J) (q_hn _ _ _ _) rfl ?_
  exact G_iret rfl rfl rfl rfl
theorem x_slates {d : Nat} {sw : Bool} {gc : Nat} {I : Nat → Nat → Int32} {J : Nat → Nat → Int64} {n : Nat} {L : Nat → Nat} (hz : x_Sz I n L) {k : Nat} (hk : k < n) : GM (d + 2) 86 [.ref 0, .int (nI k)] (qS sw gc I J) (some (.int (I 50 k))) (qS sw gc I J) := by
  refine GM_of (by decide) (Nat.le_refl _) (Nat.le_of_ble_eq_true rfl) trivial ?_
  refine G_st (L := 89) (k := 0) (0, [some (.ref 0), some (.int (nI k))], [], qS sw gc I J) (q_hn _ _ _ _) rfl ?_
  refine G_st (L := 89) (k := 3) (5, [some (.ref 0), some (.int (nI k))], [.int (nI k), .ref 47], qS sw gc I J) (q_hn _ _ _ _) rfl ?_
  refine G_callV (b := 47) (ci := 4) (as := [.int (nI k)]) (rest := []) rfl rfl rfl (q_lt (by decide)) (by decide) rfl rfl (Nat.le_of_ble_eq_true rfl) (x_hasSize hz hk) (Nat.le_refl _) ?_
  refine G_st (L := 89) (k := 0) (8, [some (.ref 0), some (.int (nI k))], [.int 1], qS sw gc I J) (q_hn _ _ _ _) rfl ?_
  refine G_if_eq 22 rfl rfl (fun h9 => absurd h9 (by decide)) (fun _ => ?_)
  refine G_st (L := 89) (k := 3) (16, [some (.ref 0), some (.int (nI k))], [.int (nI k), .ref 47], qS sw gc I J) (q_hn _ _ _ _) rfl ?_
  refine G_callV (b := 47) (ci := 4) (as := [.int (nI k)]) (rest := []) rfl rfl rfl (q_lt (by decide)) (by decide) rfl rfl (Nat.le_of_ble_eq_true rfl) (x_slatesOf hz hk) (Nat.le_refl _) ?_
  refine G_st (L := 89) (k := 1) (23, [some (.ref 0), some (.int (nI k))], [.int (I 50 k)], qS sw gc I J) (q_hn _ _ _ _) rfl ?_
  exact G_iret rfl rfl rfl rfl
theorem x_slatesB {d : Nat} {sw : Bool} {gc : Nat} {I : Nat → Nat → Int32} {J : Nat → Nat → Int64} {n : Nat} {L : Nat → Nat} (hz : x_Sz I n L) {x : Int32} (hx : x < 0 ∨ nI n ≤ x) : GM (d + 2) 86 [.ref 0, .int x] (qS sw gc I J) (some (.int (-1))) (qS sw gc I J) := by
  refine GM_of (by decide) (Nat.le_refl _) (Nat.le_of_ble_eq_true rfl) trivial ?_
  refine G_st (L := 89) (k := 0) (0, [some (.ref 0), some (.int x)], [], qS sw gc I J) (q_hn _ _ _ _) rfl ?_
  refine G_st (L := 89) (k := 3) (5, [some (.ref 0), some (.int x)], [.int x, .ref 47], qS sw gc I J) (q_hn _ _ _ _) rfl ?_
  refine G_callV (b := 47) (ci := 4) (as := [.int x]) (rest := []) rfl rfl rfl (q_lt (by decide)) (by decide) rfl rfl (Nat.le_of_ble_eq_true rfl) (x_hasSizeN hz hx) (Nat.le_refl _) ?_
  refine G_st (L := 89) (k := 0) (8, [some (.ref 0), some (.int x)], [.int 0], qS sw gc I J) (q_hn _ _ _ _) rfl ?_
  refine G_if_eq 22 rfl rfl (fun _ => ?_) (fun h9 => absurd h9 (by decide))
  refine G_st (L := 89) (k := 1) (23, [some (.ref 0), some (.int x)], [.int (-1)], qS sw gc I J) (q_hn _ _ _ _) rfl ?_
  exact G_iret rfl rfl rfl rfl
theorem x_most {d : Nat} {sw : Bool} {gc : Nat} {I : Nat → Nat → Int32} {J : Nat → Nat → Int64} {n : Nat} {L : Nat → Nat} (hz : x_Sz I n L) {len : Nat} {F : Int64} (hl : len ≤ 40) (hl1 : 1 ≤ len) (hb : f_isBlock (lN len) F = 1) : GM (d + 3) 83 [.ref 0, .int (nI len), .long F] (qS sw gc I J) (some (.int (x_mo I L n len F 51 0))) (qS sw gc (x_mo I L n len F) J) := by
  refine GM_of (by decide) (Nat.le_refl _) (Nat.le_of_ble_eq_true rfl) trivial ?_
  refine G_st (L := 89) (k := 0) (0, [some (.ref 0), some (.int (nI len)), some (.long F), none], [], qS sw gc I J) (q_hn _ _ _ _) rfl ?_
  refine G_st (L := 89) (k := 3) (3, [some (.ref 0), some (.int (nI len)), some (.long F), none], [.long F, .long (Int32.toInt64 (nI len))], qS sw gc I J) (q_hn _ _ _ _) rfl ?_
  rw [show Int32.toInt64 (nI len) = lN len from (q_i2lP rfl (by omega))]
  refine G_callS (as := [.long (lN len), .long F]) (rest := []) rfl rfl rfl (Nat.le_of_ble_eq_true rfl) (GM_r (m_isBlock _ _) hb) (Nat.le_refl _) ?_
  refine G_st (L := 89) (k := 0) (6, [some (.ref 0), some (.int (nI len)), some (.long F), none], [.int 1], qS sw gc I J) (q_hn _ _ _ _) rfl ?_
  refine G_if_eq 21 rfl rfl (fun h9 => absurd h9 (by decide)) (fun _ => ?_)
  refine G_st (L := 89) (k := 4) (15, [some (.ref 0), some (.int (nI len)), some (.long F), none], [.long F, .int (nI len), .ref 47], qS sw gc I J) (q_hn _ _ _ _) rfl ?_
  refine G_callV (b := 47) (ci := 4) (as := [.int (nI len), .long F]) (rest := []) rfl rfl rfl (q_lt (by decide)) (by decide) rfl rfl (Nat.le_of_ble_eq_true rfl) (x_mostOf hz hl hl1 hb) (Nat.le_refl _) ?_
  refine G_st (L := 89) (k := 1) (22, [some (.ref 0), some (.int (nI len)), some (.long F), none], [.int (x_mo I L n len F 51 0)], qS sw gc (x_mo I L n len F) J) (q_hn _ _ _ _) rfl ?_
  exact G_iret rfl rfl rfl rfl
theorem x_mostB {d : Nat} {sw : Bool} {gc : Nat} {I : Nat → Nat → Int32} {J : Nat → Nat → Int64} {x : Int32} {F : Int64} (hb : f_isBlock (Int32.toInt64 x) F = 0) : GM (d + 3) 83 [.ref 0, .int x, .long F] (qS sw gc I J) (some (.int (-1))) (qS sw gc I J) := by
  refine GM_of (by decide) (Nat.le_refl _) (Nat.le_of_ble_eq_true rfl) trivial ?_
  refine G_st (L := 89) (k := 0) (0, [some (.ref 0), some (.int x), some (.long F), none], [], qS sw gc I J) (q_hn _ _ _ _) rfl ?_
  refine G_st (L := 89) (k := 3) (3, [some (.ref 0), some (.int x), some (.long F), none], [.long F, .long (Int32.toInt64 x)], qS sw gc I J) (q_hn _ _ _ _) rfl ?_
  refine G_callS (as := [.long (Int32.toInt64 x), .long F]) (rest := []) rfl rfl rfl (Nat.le_of_ble_eq_true rfl) (GM_r (m_isBlock _ _) hb) (Nat.le_refl _) ?_
  refine G_st (L := 89) (k := 0) (6, [some (.ref 0), some (.int x), some (.long F), none], [.int 0], qS sw gc I J) (q_hn _ _ _ _) rfl ?_
  refine G_if_eq 21 rfl rfl (fun _ => ?_) (fun h9 => absurd h9 (by decide))
  refine G_st (L := 89) (k := 1) (22, [some (.ref 0), some (.int x), some (.long F), none], [.int (-1)], qS sw gc I J) (q_hn _ _ _ _) rfl ?_
  exact G_iret rfl rfl rfl rfl
theorem x_split {d : Nat} {sw : Bool} {gc : Nat} {I : Nat → Nat → Int32} {J : Nat → Nat → Int64} {n : Nat} {L : Nat → Nat} (hz : x_Sz I n L) {len : Nat} {F : Int64} (hl : len ≤ 40) (hl1 : 1 ≤ len) (hb : f_isBlock (lN len) F = 1) {c i : Nat} (hi31 : i < 2 ^ 31) (hc : x_ctI I L n len F 47 6 = nI c) (hc40 : c ≤ 40) (hi : i < c) : GM (d + 4) 84 [.ref 0, .int (nI len), .long F, .int (nI i)] (qS sw gc I J) (some (.int (x_ctI I L n len F 52 i))) (qS sw gc (x_ctI I L n len F) J) := by
  refine GM_of (by decide) (Nat.le_refl _) (Nat.le_of_ble_eq_true rfl) trivial ?_
  refine G_st (L := 89) (k := 0) (0, [some (.ref 0), some (.int (nI len)), some (.long F), none, some (.int (nI i))], [], qS sw gc I J) (q_hn _ _ _ _) rfl ?_
  refine G_st (L := 89) (k := 1) (2, [some (.ref 0), some (.int (nI len)), some (.long F), none, some (.int (nI i))], [.int (nI i)], qS sw gc I J) (q_hn _ _ _ _) rfl ?_
  refine G_if_lt 14 rfl rfl (fun h9 => absurd h9 (nI_pos (by omega))) (fun _ => ?_)
  refine G_st (L := 89) (k := 3) (8, [some (.ref 0), some (.int (nI len)), some (.long F), none, some (.int (nI i))], [.long F, .long (Int32.toInt64 (nI len))], qS sw gc I J) (q_hn _ _ _ _) rfl ?_
  rw [show Int32.toInt64 (nI len) = lN len from (q_i2lP rfl (by omega))]
  refine G_callS (as := [.long (lN len), .long F]) (rest := []) rfl rfl rfl (Nat.le_of_ble_eq_true rfl) (GM_r (m_isBlock _ _) hb) (Nat.le_refl _) ?_
  refine G_st (L := 89) (k := 0) (11, [some (.ref 0), some (.int (nI len)), some (.long F), none, some (.int (nI i))], [.int 1], qS sw gc I J) (q_hn _ _ _ _) rfl ?_
  refine G_if_ne 16 rfl rfl (fun _ => ?_) (fun h9 => absurd h9 (by decide))
  refine G_st (L := 89) (k := 4) (22, [some (.ref 0), some (.int (nI len)), some (.long F), none, some (.int (nI i))], [.long F, .int (nI len), .ref 47], qS sw gc I J) (q_hn _ _ _ _) rfl ?_
  refine G_callV (b := 47) (ci := 4) (as := [.int (nI len), .long F]) (rest := []) rfl rfl rfl (q_lt (by decide)) (by decide) rfl rfl (Nat.le_of_ble_eq_true rfl) (x_cut_ hz hl hl1 hb) (Nat.le_refl _) ?_
  refine G_st (L := 89) (k := 3) (31, [some (.ref 0), some (.int (nI len)), some (.long F), none, some (.int (nI i))], [.int (nI i), .ref 47], qS sw gc (x_ctI I L n len F) J) (q_hn _ _ _ _) rfl ?_
  refine G_callV (b := 47) (ci := 4) (as := [.int (nI i)]) (rest := []) rfl rfl rfl (q_lt (by decide)) (by decide) rfl rfl (Nat.le_of_ble_eq_true rfl) (x_pieceAt hc hc40 hi) (Nat.le_refl _) ?_
  refine G_st (L := 89) (k := 0) (34, [some (.ref 0), some (.int (nI len)), some (.long F), none, some (.int (nI i))], [.int (x_ctI I L n len F 52 i)], qS sw gc (x_ctI I L n len F) J) (q_hn _ _ _ _) rfl ?_
  exact G_iret rfl rfl rfl rfl
theorem x_splitN {d : Nat} {sw : Bool} {gc : Nat} {I : Nat → Nat → Int32} {J : Nat → Nat → Int64} {n : Nat} {L : Nat → Nat} (hz : x_Sz I n L) {len : Nat} {F : Int64} (hl : len ≤ 40) (hl1 : 1 ≤ len) (hb : f_isBlock (lN len) F = 1) {c : Nat} {x : Int32} (hx0 : ¬ x < 0) (hc : x_ctI I L n len F 47 6 = nI c) (hx : nI c ≤ x) : GM (d + 4) 84 [.ref 0, .int (nI len), .long F, .int x] (qS sw gc I J) (some (.int (-4))) (qS sw gc (x_ctI I L n len F) J) := by
  refine GM_of (by decide) (Nat.le_refl _) (Nat.le_of_ble_eq_true rfl) trivial ?_
  refine G_st (L := 89) (k := 0) (0, [some (.ref 0), some (.int (nI len)), some (.long F), none, some (.int x)], [], qS sw gc I J) (q_hn _ _ _ _) rfl ?_
  refine G_st (L := 89) (k := 1) (2, [some (.ref 0), some (.int (nI len)), some (.long F), none, some (.int x)], [.int x], qS sw gc I J) (q_hn _ _ _ _) rfl ?_
  refine G_if_lt 14 rfl rfl (fun h9 => absurd h9 hx0) (fun _ => ?_)
  refine G_st (L := 89) (k := 3) (8, [some (.ref 0), some (.int (nI len)), some (.long F), none, some (.int x)], [.long F, .long (Int32.toInt64 (nI len))], qS sw gc I J) (q_hn _ _ _ _) rfl ?_
  rw [show Int32.toInt64 (nI len) = lN len from (q_i2lP rfl (by omega))]
  refine G_callS (as := [.long (lN len), .long F]) (rest := []) rfl rfl rfl (Nat.le_of_ble_eq_true rfl) (GM_r (m_isBlock _ _) hb) (Nat.le_refl _) ?_
  refine G_st (L := 89) (k := 0) (11, [some (.ref 0), some (.int (nI len)), some (.long F), none, some (.int x)], [.int 1], qS sw gc I J) (q_hn _ _ _ _) rfl ?_
  refine G_if_ne 16 rfl rfl (fun _ => ?_) (fun h9 => absurd h9 (by decide))
  refine G_st (L := 89) (k := 4) (22, [some (.ref 0), some (.int (nI len)), some (.long F), none, some (.int x)], [.long F, .int (nI len), .ref 47], qS sw gc I J) (q_hn _ _ _ _) rfl ?_
  refine G_callV (b := 47) (ci := 4) (as := [.int (nI len), .long F]) (rest := []) rfl rfl rfl (q_lt (by decide)) (by decide) rfl rfl (Nat.le_of_ble_eq_true rfl) (x_cut_ hz hl hl1 hb) (Nat.le_refl _) ?_
  refine G_st (L := 89) (k := 3) (31, [some (.ref 0), some (.int (nI len)), some (.long F), none, some (.int x)], [.int x, .ref 47], qS sw gc (x_ctI I L n len F) J) (q_hn _ _ _ _) rfl ?_
  refine G_callV (b := 47) (ci := 4) (as := [.int x]) (rest := []) rfl rfl rfl (q_lt (by decide)) (by decide) rfl rfl (Nat.le_of_ble_eq_true rfl) (x_pieceAtN hc (Or.inr hx)) (Nat.le_refl _) ?_
  refine G_st (L := 89) (k := 0) (34, [some (.ref 0), some (.int (nI len)), some (.long F), none, some (.int x)], [.int (-4)], qS sw gc (x_ctI I L n len F) J) (q_hn _ _ _ _) rfl ?_
  exact G_iret rfl rfl rfl rfl
theorem x_splitI {d : Nat} {sw : Bool} {gc : Nat} {I : Nat → Nat → Int32} {J : Nat → Nat → Int64} {y x : Int32} {F : Int64} (hx0 : x < 0) : GM (d + 4) 84 [.ref 0, .int y, .long F, .int x] (qS sw gc I J) (some (.int (-1))) (qS sw gc I J) := by
  refine GM_of (by decide) (Nat.le_refl _) (Nat.le_of_ble_eq_true rfl) trivial ?_
  refine G_st (L := 89) (k := 0) (0, [some (.ref 0), some (.int y), some (.long F), none, some (.int x)], [], qS sw gc I J) (q_hn _ _ _ _) rfl ?_
  refine G_st (L := 89) (k := 1) (2, [some (.ref 0), some (.int y), some (.long F), none, some (.int x)], [.int x], qS sw gc I J) (q_hn _ _ _ _) rfl ?_
  refine G_if_lt 14 rfl rfl (fun _ => ?_) (fun h9 => absurd hx0 h9)
  refine G_st (L := 89) (k := 1) (15, [some (.ref 0), some (.int y), some (.long F), none, some (.int x)], [.int (-1)], qS sw gc I J) (q_hn _ _ _ _) rfl ?_
  exact G_iret rfl rfl rfl rfl
theorem x_splitB {d : Nat} {sw : Bool} {gc : Nat} {I : Nat → Nat → Int32} {J : Nat → Nat → Int64} {y x : Int32} {F : Int64} (hb : f_isBlock (Int32.toInt64 y) F = 0) : GM (d + 4) 84 [.ref 0, .int y, .long F, .int x] (qS sw gc I J) (some (.int (-1))) (qS sw gc I J) := by
  refine GM_of (by decide) (Nat.le_refl _) (Nat.le_of_ble_eq_true rfl) trivial ?_
  refine G_st (L := 89) (k := 0) (0, [some (.ref 0), some (.int y), some (.long F), none, some (.int x)], [], qS sw gc I J) (q_hn _ _ _ _) rfl ?_
  refine G_st (L := 89) (k := 1) (2, [some (.ref 0), some (.int y), some (.long F), none, some (.int x)], [.int x], qS sw gc I J) (q_hn _ _ _ _) rfl ?_
  refine G_if_lt 14 rfl rfl (fun h1 => ?_) (fun h1 => ?_)
  · skip
    refine G_st (L := 89) (k := 1) (15, [some (.ref 0), some (.int y), some (.long F), none, some (.int x)], [.int (-1)], qS sw gc I J) (q_hn _ _ _ _) rfl ?_
    exact G_iret rfl rfl rfl rfl
  · skip
    refine G_st (L := 89) (k := 3) (8, [some (.ref 0), some (.int y), some (.long F), none, some (.int x)], [.long F, .long (Int32.toInt64 y)], qS sw gc I J) (q_hn _ _ _ _) rfl ?_
    refine G_callS (as := [.long (Int32.toInt64 y), .long F]) (rest := []) rfl rfl rfl (Nat.le_of_ble_eq_true rfl) (GM_r (m_isBlock _ _) hb) (Nat.le_refl _) ?_
    refine G_st (L := 89) (k := 0) (11, [some (.ref 0), some (.int y), some (.long F), none, some (.int x)], [.int 0], qS sw gc I J) (q_hn _ _ _ _) rfl ?_
    refine G_if_ne 16 rfl rfl (fun h9 => absurd h9 (by decide)) (fun _ => ?_)
    refine G_st (L := 89) (k := 1) (15, [some (.ref 0), some (.int y), some (.long F), none, some (.int x)], [.int (-1)], qS sw gc I J) (q_hn _ _ _ _) rfl ?_
    exact G_iret rfl rfl rfl rfl
theorem x_sheet {d : Nat} {sw : Bool} {gc : Nat} {I : Nat → Nat → Int32} {J : Nat → Nat → Int64} {k : Nat} {u v : Int32} (hk : k < 4) (hln : f_isLane u = 1) (h60 : v ≤ 60) (h0 : 0 ≤ v) : GM (d + 2) 87 [.ref 0, .int (nI k), .int u, .int v] (qS sw gc I J) (some (.int 1)) (qS sw gc (q_u (q_u I (2 * k + 54) 2 u) (2 * k + 54) 1 v) (q_filL J (2 * k + 55) 0 60 0)) := by
  refine GM_of (by decide) (Nat.le_refl _) (Nat.le_of_ble_eq_true rfl) trivial ?_
  refine G_st (L := 89) (k := 0) (0, [some (.ref 0), some (.int (nI k)), some (.int u), some (.int v), none], [], qS sw gc I J) (q_hn _ _ _ _) rfl ?_
  refine G_st (L := 89) (k := 2) (2, [some (.ref 0), some (.int (nI k)), some (.int u), some (.int v), none], [.int (nI k), .ref 0], qS sw gc I J) (q_hn _ _ _ _) rfl ?_
  refine G_callV (b := 0) (ci := 8) (as := [.int (nI k)]) (rest := []) rfl rfl rfl (q_lt (by decide)) (by decide) rfl rfl (Nat.le_of_ble_eq_true rfl) (x_sheetAt hk) (Nat.le_refl _) ?_
  refine G_st (L := 89) (k := 4) (13, [some (.ref 0), some (.int (nI k)), some (.int u), some (.int v), some (.ref (2 * k + 54))], [.int u], qS sw gc I J) (q_hn _ _ _ _) rfl ?_
  refine G_callS (as := [.int u]) (rest := []) rfl rfl rfl (Nat.le_of_ble_eq_true rfl) (GM_r (m_isLane _) hln) (Nat.le_refl _) ?_
  refine G_st (L := 89) (k := 0) (16, [some (.ref 0), some (.int (nI k)), some (.int u), some (.int v), some (.ref (2 * k + 54))], [.int 1], qS sw gc I J) (q_hn _ _ _ _) rfl ?_
  refine G_if_eq 25 rfl rfl (fun h9 => absurd h9 (by decide)) (fun _ => ?_)
  refine G_st (L := 89) (k := 2) (22, [some (.ref 0), some (.int (nI k)), some (.int u), some (.int v), some (.ref (2 * k + 54))], [.int 60, .int v], qS sw gc I J) (q_hn _ _ _ _) rfl ?_
  refine G_icmp_le 27 rfl rfl (fun _ => ?_) (fun h9 => absurd h60 h9)
  refine G_st (L := 89) (k := 1) (28, [some (.ref 0), some (.int (nI k)), some (.int u), some (.int v), some (.ref (2 * k + 54))], [.int v], qS sw gc I J) (q_hn _ _ _ _) rfl ?_
  refine G_if_ge 34 rfl rfl (fun _ => ?_) (fun h9 => absurd h0 h9)
  refine G_st (L := 89) (k := 3) (38, [some (.ref 0), some (.int (nI k)), some (.int u), some (.int v), some (.ref (2 * k + 54))], [.int v, .int u, .ref (2 * k + 54)], qS sw gc I J) (q_hn _ _ _ _) rfl ?_
  refine G_callV (b := 2 * k + 54) (ci := 5) (as := [.int u, .int v]) (rest := []) rfl rfl (q_shS (by omega)).1 (q_ltS (by omega)).1 (by decide) rfl rfl (Nat.le_of_ble_eq_true rfl) (x_renew hk) (Nat.le_refl _) ?_
  refine G_st (L := 89) (k := 1) (42, [some (.ref 0), some (.int (nI k)), some (.int u), some (.int v), some (.ref (2 * k + 54))], [.int 1], qS sw gc (q_u (q_u I (2 * k + 54) 2 u) (2 * k + 54) 1 v) (q_filL J (2 * k + 55) 0 60 0)) (q_hn _ _ _ _) rfl ?_
  exact G_iret rfl rfl rfl rfl
theorem x_sheetZ {d : Nat} {sw : Bool} {gc : Nat} {I : Nat → Nat → Int32} {J : Nat → Nat → Int64} {k : Nat} {u v : Int32} (hk : k < 4) (hln : f_isLane u = 1) (h60 : v ≤ 60) (h0 : ¬ 0 ≤ v) : GM (d + 2) 87 [.ref 0, .int (nI k), .int u, .int v] (qS sw gc I J) (some (.int (-14))) (qS sw gc I J) := by
  refine GM_of (by decide) (Nat.le_refl _) (Nat.le_of_ble_eq_true rfl) trivial ?_
  refine G_st (L := 89) (k := 0) (0, [some (.ref 0), some (.int (nI k)), some (.int u), some (.int v), none], [], qS sw gc I J) (q_hn _ _ _ _) rfl ?_
  refine G_st (L := 89) (k := 2) (2, [some (.ref 0), some (.int (nI k)), some (.int u), some (.int v), none], [.int (nI k), .ref 0], qS sw gc I J) (q_hn _ _ _ _) rfl ?_
  refine G_callV (b := 0) (ci := 8) (as := [.int (nI k)]) (rest := []) rfl rfl rfl (q_lt (by decide)) (by decide) rfl rfl (Nat.le_of_ble_eq_true rfl) (x_sheetAt hk) (Nat.le_refl _) ?_
  refine G_st (L := 89) (k := 4) (13, [some (.ref 0), some (.int (nI k)), some (.int u), some (.int v), some (.ref (2 * k + 54))], [.int u], qS sw gc I J) (q_hn _ _ _ _) rfl ?_
  refine G_callS (as := [.int u]) (rest := []) rfl rfl rfl (Nat.le_of_ble_eq_true rfl) (GM_r (m_isLane _) hln) (Nat.le_refl _) ?_
  refine G_st (L := 89) (k := 0) (16, [some (.ref 0), some (.int (nI k)), some (.int u), some (.int v), some (.ref (2 * k + 54))], [.int 1], qS sw gc I J) (q_hn _ _ _ _) rfl ?_
  refine G_if_eq 25 rfl rfl (fun h9 => absurd h9 (by decide)) (fun _ => ?_)
  refine G_st (L := 89) (k := 2) (22, [some (.ref 0), some (.int (nI k)), some (.int u), some (.int v), some (.ref (2 * k + 54))], [.int 60, .int v], qS sw gc I J) (q_hn _ _ _ _) rfl ?_
  refine G_icmp_le 27 rfl rfl (fun _ => ?_) (fun h9 => absurd h60 h9)
  refine G_st (L := 89) (k := 1) (28, [some (.ref 0), some (.int (nI k)), some (.int u), some (.int v), some (.ref (2 * k + 54))], [.int v], qS sw gc I J) (q_hn _ _ _ _) rfl ?_
  refine G_if_ge 34 rfl rfl (fun h9 => absurd h9 h0) (fun _ => ?_)
  refine G_st (L := 89) (k := 1) (33, [some (.ref 0), some (.int (nI k)), some (.int u), some (.int v), some (.ref (2 * k + 54))], [.int (-14)], qS sw gc I J) (q_hn _ _ _ _) rfl ?_
  exact G_iret rfl rfl rfl rfl
theorem x_sheetL {d : Nat} {sw : Bool} {gc : Nat} {I : Nat → Nat → Int32} {J : Nat → Nat → Int64} {k : Nat} {u v : Int32} (hk : k < 4) (hln : f_isLane u = 0) : GM (d + 2) 87 [.ref 0, .int (nI k), .int u, .int v] (qS sw gc I J) (some (.int (-1))) (qS sw gc I J) := by
  refine GM_of (by decide) (Nat.le_refl _) (Nat.le_of_ble_eq_true rfl) trivial ?_
  refine G_st (L := 89) (k := 0) (0, [some (.ref 0), some (.int (nI k)), some (.int u), some (.int v), none], [], qS sw gc I J) (q_hn _ _ _ _) rfl ?_
  refine G_st (L := 89) (k := 2) (2, [some (.ref 0), some (.int (nI k)), some (.int u), some (.int v), none], [.int (nI k), .ref 0], qS sw gc I J) (q_hn _ _ _ _) rfl ?_
  refine G_callV (b := 0) (ci := 8) (as := [.int (nI k)]) (rest := []) rfl rfl rfl (q_lt (by decide)) (by decide) rfl rfl (Nat.le_of_ble_eq_true rfl) (x_sheetAt hk) (Nat.le_refl _) ?_
  refine G_st (L := 89) (k := 4) (13, [some (.ref 0), some (.int (nI k)), some (.int u), some (.int v), some (.ref (2 * k + 54))], [.int u], qS sw gc I J) (q_hn _ _ _ _) rfl ?_
  refine G_callS (as := [.int u]) (rest := []) rfl rfl rfl (Nat.le_of_ble_eq_true rfl) (GM_r (m_isLane _) hln) (Nat.le_refl _) ?_
  refine G_st (L := 89) (k := 0) (16, [some (.ref 0), some (.int (nI k)), some (.int u), some (.int v), some (.ref (2 * k + 54))], [.int 0], qS sw gc I J) (q_hn _ _ _ _) rfl ?_
  refine G_if_eq 25 rfl rfl (fun _ => ?_) (fun h9 => absurd h9 (by decide))
  refine G_st (L := 89) (k := 1) (26, [some (.ref 0), some (.int (nI k)), some (.int u), some (.int v), some (.ref (2 * k + 54))], [.int (-1)], qS sw gc I J) (q_hn _ _ _ _) rfl ?_
  exact G_iret rfl rfl rfl rfl
theorem x_sheetM {d : Nat} {sw : Bool} {gc : Nat} {I : Nat → Nat → Int32} {J : Nat → Nat → Int64} {k : Nat} {u v : Int32} (hk : k < 4) (hln : f_isLane u = 1) (h60 : ¬ v ≤ 60) : GM (d + 2) 87 [.ref 0, .int (nI k), .int u, .int v] (qS sw gc I J) (some (.int (-1))) (qS sw gc I J) := by
  refine GM_of (by decide) (Nat.le_refl _) (Nat.le_of_ble_eq_true rfl) trivial ?_
  refine G_st (L := 89) (k := 0) (0, [some (.ref 0), some (.int (nI k)), some (.int u), some (.int v), none], [], qS sw gc I J) (q_hn _ _ _ _) rfl ?_
  refine G_st (L := 89) (k := 2) (2, [some (.ref 0), some (.int (nI k)), some (.int u), some (.int v), none], [.int (nI k), .ref 0], qS sw gc I J) (q_hn _ _ _ _) rfl ?_
  refine G_callV (b := 0) (ci := 8) (as := [.int (nI k)]) (rest := []) rfl rfl rfl (q_lt (by decide)) (by decide) rfl rfl (Nat.le_of_ble_eq_true rfl) (x_sheetAt hk) (Nat.le_refl _) ?_
  refine G_st (L := 89) (k := 4) (13, [some (.ref 0), some (.int (nI k)), some (.int u), some (.int v), some (.ref (2 * k + 54))], [.int u], qS sw gc I J) (q_hn _ _ _ _) rfl ?_
  refine G_callS (as := [.int u]) (rest := []) rfl rfl rfl (Nat.le_of_ble_eq_true rfl) (GM_r (m_isLane _) hln) (Nat.le_refl _) ?_
  refine G_st (L := 89) (k := 0) (16, [some (.ref 0), some (.int (nI k)), some (.int u), some (.int v), some (.ref (2 * k + 54))], [.int 1], qS sw gc I J) (q_hn _ _ _ _) rfl ?_
  refine G_if_eq 25 rfl rfl (fun h9 => absurd h9 (by decide)) (fun _ => ?_)
  refine G_st (L := 89) (k := 2) (22, [some (.ref 0), some (.int (nI k)), some (.int u), some (.int v), some (.ref (2 * k + 54))], [.int 60, .int v], qS sw gc I J) (q_hn _ _ _ _) rfl ?_
  refine G_icmp_le 27 rfl rfl (fun h9 => absurd h9 h60) (fun _ => ?_)
  refine G_st (L := 89) (k := 1) (26, [some (.ref 0), some (.int (nI k)), some (.int u), some (.int v), some (.ref (2 * k + 54))], [.int (-1)], qS sw gc I J) (q_hn _ _ _ _) rfl ?_
  exact G_iret rfl rfl rfl rfl
theorem x_sheetK {d : Nat} {sw : Bool} {gc : Nat} {I : Nat → Nat → Int32} {J : Nat → Nat → Int64} {x u v : Int32} (hx : x < 0 ∨ nI 4 ≤ x) : GM (d + 2) 87 [.ref 0, .int x, .int u, .int v] (qS sw gc I J) (some (.int (-1))) (qS sw gc I J) := by
  refine GM_of (by decide) (Nat.le_refl _) (Nat.le_of_ble_eq_true rfl) trivial ?_
  refine G_st (L := 89) (k := 0) (0, [some (.ref 0), some (.int x), some (.int u), some (.int v), none], [], qS sw gc I J) (q_hn _ _ _ _) rfl ?_
  refine G_st (L := 89) (k := 2) (2, [some (.ref 0), some (.int x), some (.int u), some (.int v), none], [.int x, .ref 0], qS sw gc I J) (q_hn _ _ _ _) rfl ?_
  refine G_callV (b := 0) (ci := 8) (as := [.int x]) (rest := []) rfl rfl rfl (q_lt (by decide)) (by decide) rfl rfl (Nat.le_of_ble_eq_true rfl) (x_sheetAtN hx) (Nat.le_refl _) ?_
  refine G_st (L := 89) (k := 4) (26, [some (.ref 0), some (.int x), some (.int u), some (.int v), some (.null)], [.int (-1)], qS sw gc I J) (q_hn _ _ _ _) rfl ?_
  exact G_iret rfl rfl rfl rfl
theorem x_lay {d : Nat} {sw : Bool} {gc : Nat} {I : Nat → Nat → Int32} {J : Nat → Nat → Int64} {k : Nat} (hk : k < 4) (hnt : x_nth I k = false) {n j : Nat} (hn : I (2 * k + 54) 1 = nI n) (hn60 : n ≤ 60) (hj : j < n) {v : Int64} : GM (d + 2) 88 [.ref 0, .int (nI k), .int (nI j), .long v] (qS sw gc I J) (some (.int 1)) (qS sw gc I (q_u J (2 * k + 55) j (x_cut (I (2 * k + 54) 2) v))) := by
  refine GM_of (by decide) (Nat.le_refl _) (Nat.le_of_ble_eq_true rfl) trivial ?_
  refine G_st (L := 89) (k := 0) (0, [some (.ref 0), some (.int (nI k)), some (.int (nI j)), some (.long v), none, none], [], qS sw gc I J) (q_hn _ _ _ _) rfl ?_
  refine G_st (L := 89) (k := 2) (2, [some (.ref 0), some (.int (nI k)), some (.int (nI j)), some (.long v), none, none], [.int (nI k), .ref 0], qS sw gc I J) (q_hn _ _ _ _) rfl ?_
  refine G_callV (b := 0) (ci := 8) (as := [.int (nI k)]) (rest := []) rfl rfl rfl (q_lt (by decide)) (by decide) rfl rfl (Nat.le_of_ble_eq_true rfl) (x_sheetAt hk) (Nat.le_refl _) ?_
  refine G_st (L := 89) (k := 4) (16, [some (.ref 0), some (.int (nI k)), some (.int (nI j)), some (.long v), none, some (.ref (2 * k + 54))], [.ref (2 * k + 54)], qS sw gc I J) (q_hn _ _ _ _) rfl ?_
  refine G_callV (b := 2 * k + 54) (ci := 5) (as := []) (rest := []) rfl rfl (q_shS (by omega)).1 (q_ltS (by omega)).1 (by decide) rfl rfl (Nat.le_of_ble_eq_true rfl) (GM_r (x_isNothing hk) (congrArg q_b hnt)) (Nat.le_refl _) ?_
  refine G_st (L := 89) (k := 0) (19, [some (.ref 0), some (.int (nI k)), some (.int (nI j)), some (.long v), none, some (.ref (2 * k + 54))], [.int 0], qS sw gc I J) (q_hn _ _ _ _) rfl ?_
  refine G_if_eq 25 rfl rfl (fun _ => ?_) (fun h9 => absurd h9 (by decide))
  refine G_st (L := 89) (k := 3) (29, [some (.ref 0), some (.int (nI k)), some (.int (nI j)), some (.long v), none, some (.ref (2 * k + 54))], [.long (Int32.toInt64 (nI j)), .ref (2 * k + 54)], qS sw gc I J) (q_hn _ _ _ _) rfl ?_
  rw [show Int32.toInt64 (nI j) = lN j from (q_i2lP rfl (by omega))]
  refine G_callV (b := 2 * k + 54) (ci := 5) (as := [.long (lN j)]) (rest := []) rfl rfl (q_shS (by omega)).1 (q_ltS (by omega)).1 (by decide) rfl rfl (Nat.le_of_ble_eq_true rfl) (GM_r (r2 := 1) (x_hasCell hk) (by rw [hn, x_hc_in hj hn60]; rfl)) (Nat.le_refl _) ?_
  refine G_st (L := 89) (k := 0) (32, [some (.ref 0), some (.int (nI k)), some (.int (nI j)), some (.long v), none, some (.ref (2 * k + 54))], [.int 1], qS sw gc I J) (q_hn _ _ _ _) rfl ?_
  refine G_if_ne 38 rfl rfl (fun _ => ?_) (fun h9 => absurd h9 (by decide))
  refine G_st (L := 89) (k := 3) (42, [some (.ref 0), some (.int (nI k)), some (.int (nI j)), some (.long v), none, some (.ref (2 * k + 54))], [.long v, .int (nI j), .ref (2 * k + 54)], qS sw gc I J) (q_hn _ _ _ _) rfl ?_
  refine G_callV (b := 2 * k + 54) (ci := 5) (as := [.int (nI j), .long v]) (rest := []) rfl rfl (q_shS (by omega)).1 (q_ltS (by omega)).1 (by decide) rfl rfl (Nat.le_of_ble_eq_true rfl) (x_setCell hk hn hn60 hj) (Nat.le_refl _) ?_
  refine G_st (L := 89) (k := 1) (46, [some (.ref 0), some (.int (nI k)), some (.int (nI j)), some (.long v), none, some (.ref (2 * k + 54))], [.int 1], qS sw gc I (q_u J (2 * k + 55) j (x_cut (I (2 * k + 54) 2) v))) (q_hn _ _ _ _) rfl ?_
  exact G_iret rfl rfl rfl rfl
theorem x_layI {d : Nat} {sw : Bool} {gc : Nat} {I : Nat → Nat → Int32} {J : Nat → Nat → Int64} {k n : Nat} {x : Int32} (hk : k < 4) (hnt : x_nth I k = false) (hn : I (2 * k + 54) 1 = nI n) (hn60 : n ≤ 60) (hx : Int32.toInt64 x < 0 ∨ lN n ≤ Int32.toInt64 x) {v : Int64} : GM (d + 2) 88 [.ref 0, .int (nI k), .int x, .long v] (qS sw gc I J) (some (.int (-12))) (qS sw gc I J) := by
  refine GM_of (by decide) (Nat.le_refl _) (Nat.le_of_ble_eq_true rfl) trivial ?_
  refine G_st (L := 89) (k := 0) (0, [some (.ref 0), some (.int (nI k)), some (.int x), some (.long v), none, none], [], qS sw gc I J) (q_hn _ _ _ _) rfl ?_
  refine G_st (L := 89) (k := 2) (2, [some (.ref 0), some (.int (nI k)), some (.int x), some (.long v), none, none], [.int (nI k), .ref 0], qS sw gc I J) (q_hn _ _ _ _) rfl ?_
  refine G_callV (b := 0) (ci := 8) (as := [.int (nI k)]) (rest := []) rfl rfl rfl (q_lt (by decide)) (by decide) rfl rfl (Nat.le_of_ble_eq_true rfl) (x_sheetAt hk) (Nat.le_refl _) ?_
  refine G_st (L := 89) (k := 4) (16, [some (.ref 0), some (.int (nI k)), some (.int x), some (.long v), none, some (.ref (2 * k + 54))], [.ref (2 * k + 54)], qS sw gc I J) (q_hn _ _ _ _) rfl ?_
  refine G_callV (b := 2 * k + 54) (ci := 5) (as := []) (rest := []) rfl rfl (q_shS (by omega)).1 (q_ltS (by omega)).1 (by decide) rfl rfl (Nat.le_of_ble_eq_true rfl) (GM_r (x_isNothing hk) (congrArg q_b hnt)) (Nat.le_refl _) ?_
  refine G_st (L := 89) (k := 0) (19, [some (.ref 0), some (.int (nI k)), some (.int x), some (.long v), none, some (.ref (2 * k + 54))], [.int 0], qS sw gc I J) (q_hn _ _ _ _) rfl ?_
  refine G_if_eq 25 rfl rfl (fun _ => ?_) (fun h9 => absurd h9 (by decide))
  refine G_st (L := 89) (k := 3) (29, [some (.ref 0), some (.int (nI k)), some (.int x), some (.long v), none, some (.ref (2 * k + 54))], [.long (Int32.toInt64 x), .ref (2 * k + 54)], qS sw gc I J) (q_hn _ _ _ _) rfl ?_
  refine G_callV (b := 2 * k + 54) (ci := 5) (as := [.long (Int32.toInt64 x)]) (rest := []) rfl rfl (q_shS (by omega)).1 (q_ltS (by omega)).1 (by decide) rfl rfl (Nat.le_of_ble_eq_true rfl) (GM_r (r2 := 0) (x_hasCell hk) (by rw [hn, x_hc_out hn60 hx]; rfl)) (Nat.le_refl _) ?_
  refine G_st (L := 89) (k := 0) (32, [some (.ref 0), some (.int (nI k)), some (.int x), some (.long v), none, some (.ref (2 * k + 54))], [.int 0], qS sw gc I J) (q_hn _ _ _ _) rfl ?_
  refine G_if_ne 38 rfl rfl (fun h9 => absurd h9 (by decide)) (fun _ => ?_)
  refine G_st (L := 89) (k := 1) (37, [some (.ref 0), some (.int (nI k)), some (.int x), some (.long v), none, some (.ref (2 * k + 54))], [.int (-12)], qS sw gc I J) (q_hn _ _ _ _) rfl ?_
  exact G_iret rfl rfl rfl rfl
theorem x_layN {d : Nat} {sw : Bool} {gc : Nat} {I : Nat → Nat → Int32} {J : Nat → Nat → Int64} {k : Nat} {x : Int32} (hk : k < 4) (hnt : x_nth I k = true) {v : Int64} : GM (d + 2) 88 [.ref 0, .int (nI k), .int x, .long v] (qS sw gc I J) (some (.int (-11))) (qS sw gc I J) := by
  refine GM_of (by decide) (Nat.le_refl _) (Nat.le_of_ble_eq_true rfl) trivial ?_
  refine G_st (L := 89) (k := 0) (0, [some (.ref 0), some (.int (nI k)), some (.int x), some (.long v), none, none], [], qS sw gc I J) (q_hn _ _ _ _) rfl ?_
  refine G_st (L := 89) (k := 2) (2, [some (.ref 0), some (.int (nI k)), some (.int x), some (.long v), none, none], [.int (nI k), .ref 0], qS sw gc I J) (q_hn _ _ _ _) rfl ?_
  refine G_callV (b := 0) (ci := 8) (as := [.int (nI k)]) (rest := []) rfl rfl rfl (q_lt (by decide)) (by decide) rfl rfl (Nat.le_of_ble_eq_true rfl) (x_sheetAt hk) (Nat.le_refl _) ?_
  refine G_st (L := 89) (k := 4) (16, [some (.ref 0), some (.int (nI k)), some (.int x), some (.long v), none, some (.ref (2 * k + 54))], [.ref (2 * k + 54)], qS sw gc I J) (q_hn _ _ _ _) rfl ?_
  refine G_callV (b := 2 * k + 54) (ci := 5) (as := []) (rest := []) rfl rfl (q_shS (by omega)).1 (q_ltS (by omega)).1 (by decide) rfl rfl (Nat.le_of_ble_eq_true rfl) (GM_r (x_isNothing hk) (congrArg q_b hnt)) (Nat.le_refl _) ?_
  refine G_st (L := 89) (k := 0) (19, [some (.ref 0), some (.int (nI k)), some (.int x), some (.long v), none, some (.ref (2 * k + 54))], [.int 1], qS sw gc I J) (q_hn _ _ _ _) rfl ?_
  refine G_if_eq 25 rfl rfl (fun h9 => absurd h9 (by decide)) (fun _ => ?_)
  refine G_st (L := 89) (k := 1) (24, [some (.ref 0), some (.int (nI k)), some (.int x), some (.long v), none, some (.ref (2 * k + 54))], [.int (-11)], qS sw gc I J) (q_hn _ _ _ _) rfl ?_
  exact G_iret rfl rfl rfl rfl
theorem x_layK {d : Nat} {sw : Bool} {gc : Nat} {I : Nat → Nat → Int32} {J : Nat → Nat → Int64} {x y : Int32} (hx : x < 0 ∨ nI 4 ≤ x) {v : Int64} : GM (d + 2) 88 [.ref 0, .int x, .int y, .long v] (qS sw gc I J) (some (.int (-1))) (qS sw gc I J) := by
  refine GM_of (by decide) (Nat.le_refl _) (Nat.le_of_ble_eq_true rfl) trivial ?_
  refine G_st (L := 89) (k := 0) (0, [some (.ref 0), some (.int x), some (.int y), some (.long v), none, none], [], qS sw gc I J) (q_hn _ _ _ _) rfl ?_
  refine G_st (L := 89) (k := 2) (2, [some (.ref 0), some (.int x), some (.int y), some (.long v), none, none], [.int x, .ref 0], qS sw gc I J) (q_hn _ _ _ _) rfl ?_
  refine G_callV (b := 0) (ci := 8) (as := [.int x]) (rest := []) rfl rfl rfl (q_lt (by decide)) (by decide) rfl rfl (Nat.le_of_ble_eq_true rfl) (x_sheetAtN hx) (Nat.le_refl _) ?_
  refine G_st (L := 89) (k := 4) (13, [some (.ref 0), some (.int x), some (.int y), some (.long v), none, some (.null)], [.int (-1)], qS sw gc I J) (q_hn _ _ _ _) rfl ?_
  exact G_iret rfl rfl rfl rfl
theorem x_fault {d : Nat} {sw : Bool} {gc : Nat} {I : Nat → Nat → Int32} {J : Nat → Nat → Int64} : GM d 71 [.ref 0] (qS sw gc I J) (some (.int (I 0 3))) (qS sw gc I J) := by
  refine GM_of (by decide) (Nat.le_refl _) (Nat.le_of_ble_eq_true rfl) trivial ?_
  refine G_st (L := 89) (k := 0) (0, [some (.ref 0)], [], qS sw gc I J) (q_hn _ _ _ _) rfl ?_
  refine G_st (L := 89) (k := 2) (4, [some (.ref 0)], [.int (I 0 3)], qS sw gc I J) (q_hn _ _ _ _) rfl ?_
  exact G_iret rfl rfl rfl rfl
