def r_lm (I : Nat → Nat → Int32) : Int32 := I 62 9 + t_ct (I 64) 0 + t_ct (I 64) 1 + t_ct (I 64) 2 + t_ct (I 64) 3
theorem r_lawMany {d : Nat} {sw : Bool} {gc : Nat} {I : Nat → Nat → Int32} {J : Nat → Nat → Int64}  : GM d 110 [.ref 62] (qS sw gc I J) (some (.int (r_lm I))) (qS sw gc I J) := by
  refine GM_of (by decide) (Nat.le_refl _) (Nat.le_of_ble_eq_true rfl) trivial ?_
  refine G_st (L := 89) (k := 0) (0, [some (.ref 62), none, none], [], qS sw gc I J) (q_hn _ _ _ _) rfl ?_
  refine G_st (L := 89) (k := 7) (9, [some (.ref 62), some (.int (I 62 9)), some (.int 0)], [.int 4, .int 0], qS sw gc I J) (q_hn _ _ _ _) rfl ?_
  refine G_icmp_ge 37 rfl rfl (fun h9 => absurd h9 (by decide)) (fun _ => ?_)
  refine G_st (L := 89) (k := 4) (18, [some (.ref 62), some (.int (I 62 9)), some (.int 0)], [.int 0, .ref 64, .int (I 62 9)], qS sw gc I J) (q_hn _ _ _ _) rfl ?_
  refine G_iald (i := 64) (n := 4) rfl rfl (q_lt (by decide)) (by unfold vp_in; decide) ?_
  refine G_st (L := 89) (k := 1) (21, [some (.ref 62), some (.int (I 62 9)), some (.int 0)], [.int (-4), .int (I 64 0), .int (I 62 9)], qS sw gc I J) (q_hn _ _ _ _) rfl ?_
  refine G_icmp_ne 28 rfl rfl (fun h1 => ?_) (fun h1 => ?_)
  · skip
    refine G_st (L := 89) (k := 7) (9, [some (.ref 62), some (.int ((I 62 9) + 1)), some (.int 1)], [.int 4, .int 1], qS sw gc I J) (q_hn _ _ _ _) rfl ?_
    refine G_icmp_ge 37 rfl rfl (fun h9 => absurd h9 (by decide)) (fun _ => ?_)
    refine G_st (L := 89) (k := 4) (18, [some (.ref 62), some (.int ((I 62 9) + 1)), some (.int 1)], [.int 1, .ref 64, .int ((I 62 9) + 1)], qS sw gc I J) (q_hn _ _ _ _) rfl ?_
    refine G_iald (i := 64) (n := 4) rfl rfl (q_lt (by decide)) (by unfold vp_in; decide) ?_
    refine G_st (L := 89) (k := 1) (21, [some (.ref 62), some (.int ((I 62 9) + 1)), some (.int 1)], [.int (-4), .int (I 64 1), .int ((I 62 9) + 1)], qS sw gc I J) (q_hn _ _ _ _) rfl ?_
    refine G_icmp_ne 28 rfl rfl (fun h2 => ?_) (fun h2 => ?_)
    · skip
      refine G_st (L := 89) (k := 7) (9, [some (.ref 62), some (.int (((I 62 9) + 1) + 1)), some (.int 2)], [.int 4, .int 2], qS sw gc I J) (q_hn _ _ _ _) rfl ?_
      refine G_icmp_ge 37 rfl rfl (fun h9 => absurd h9 (by decide)) (fun _ => ?_)
      refine G_st (L := 89) (k := 4) (18, [some (.ref 62), some (.int (((I 62 9) + 1) + 1)), some (.int 2)], [.int 2, .ref 64, .int (((I 62 9) + 1) + 1)], qS sw gc I J) (q_hn _ _ _ _) rfl ?_
      refine G_iald (i := 64) (n := 4) rfl rfl (q_lt (by decide)) (by unfold vp_in; decide) ?_
      refine G_st (L := 89) (k := 1) (21, [some (.ref 62), some (.int (((I 62 9) + 1) + 1)), some (.int 2)], [.int (-4), .int (I 64 2), .int (((I 62 9) + 1) + 1)], qS sw gc I J) (q_hn _ _ _ _) rfl ?_
      refine G_icmp_ne 28 rfl rfl (fun h3 => ?_) (fun h3 => ?_)
      · skip
        refine G_st (L := 89) (k := 7) (9, [some (.ref 62), some (.int ((((I 62 9) + 1) + 1) + 1)), some (.int 3)], [.int 4, .int 3], qS sw gc I J) (q_hn _ _ _ _) rfl ?_
        refine G_icmp_ge 37 rfl rfl (fun h9 => absurd h9 (by decide)) (fun _ => ?_)
        refine G_st (L := 89) (k := 4) (18, [some (.ref 62), some (.int ((((I 62 9) + 1) + 1) + 1)), some (.int 3)], [.int 3, .ref 64, .int ((((I 62 9) + 1) + 1) + 1)], qS sw gc I J) (q_hn _ _ _ _) rfl ?_
        refine G_iald (i := 64) (n := 4) rfl rfl (q_lt (by decide)) (by unfold vp_in; decide) ?_
        refine G_st (L := 89) (k := 1) (21, [some (.ref 62), some (.int ((((I 62 9) + 1) + 1) + 1)), some (.int 3)], [.int (-4), .int (I 64 3), .int ((((I 62 9) + 1) + 1) + 1)], qS sw gc I J) (q_hn _ _ _ _) rfl ?_
        refine G_icmp_ne 28 rfl rfl (fun h4 => ?_) (fun h4 => ?_)
        · skip
          refine G_st (L := 89) (k := 7) (9, [some (.ref 62), some (.int (((((I 62 9) + 1) + 1) + 1) + 1)), some (.int 4)], [.int 4, .int 4], qS sw gc I J) (q_hn _ _ _ _) rfl ?_
          refine G_icmp_ge 37 rfl rfl (fun _ => ?_) (fun h9 => absurd h9 (by decide))
          refine G_st (L := 89) (k := 1) (38, [some (.ref 62), some (.int (((((I 62 9) + 1) + 1) + 1) + 1)), some (.int 4)], [.int (((((I 62 9) + 1) + 1) + 1) + 1)], qS sw gc I J) (q_hn _ _ _ _) rfl ?_
          exact G_iret rfl rfl (by unfold r_lm t_ct; rw [if_neg h1, if_neg h2, if_neg h3, if_neg h4]) rfl
        · skip
          refine G_st (L := 89) (k := 8) (9, [some (.ref 62), some (.int (((((I 62 9) + 1) + 1) + 1) + 0)), some (.int 4)], [.int 4, .int 4], qS sw gc I J) (q_hn _ _ _ _) rfl ?_
          refine G_icmp_ge 37 rfl rfl (fun _ => ?_) (fun h9 => absurd h9 (by decide))
          refine G_st (L := 89) (k := 1) (38, [some (.ref 62), some (.int (((((I 62 9) + 1) + 1) + 1) + 0)), some (.int 4)], [.int (((((I 62 9) + 1) + 1) + 1) + 0)], qS sw gc I J) (q_hn _ _ _ _) rfl ?_
          exact G_iret rfl rfl (by unfold r_lm t_ct; rw [if_neg h1, if_neg h2, if_neg h3, if_pos h4]) rfl
      · skip
        refine G_st (L := 89) (k := 8) (9, [some (.ref 62), some (.int ((((I 62 9) + 1) + 1) + 0)), some (.int 3)], [.int 4, .int 3], qS sw gc I J) (q_hn _ _ _ _) rfl ?_
        refine G_icmp_ge 37 rfl rfl (fun h9 => absurd h9 (by decide)) (fun _ => ?_)
        refine G_st (L := 89) (k := 4) (18, [some (.ref 62), some (.int ((((I 62 9) + 1) + 1) + 0)), some (.int 3)], [.int 3, .ref 64, .int ((((I 62 9) + 1) + 1) + 0)], qS sw gc I J) (q_hn _ _ _ _) rfl ?_
        refine G_iald (i := 64) (n := 4) rfl rfl (q_lt (by decide)) (by unfold vp_in; decide) ?_
        refine G_st (L := 89) (k := 1) (21, [some (.ref 62), some (.int ((((I 62 9) + 1) + 1) + 0)), some (.int 3)], [.int (-4), .int (I 64 3), .int ((((I 62 9) + 1) + 1) + 0)], qS sw gc I J) (q_hn _ _ _ _) rfl ?_
        refine G_icmp_ne 28 rfl rfl (fun h5 => ?_) (fun h5 => ?_)
        · skip
          refine G_st (L := 89) (k := 7) (9, [some (.ref 62), some (.int (((((I 62 9) + 1) + 1) + 0) + 1)), some (.int 4)], [.int 4, .int 4], qS sw gc I J) (q_hn _ _ _ _) rfl ?_
          refine G_icmp_ge 37 rfl rfl (fun _ => ?_) (fun h9 => absurd h9 (by decide))
          refine G_st (L := 89) (k := 1) (38, [some (.ref 62), some (.int (((((I 62 9) + 1) + 1) + 0) + 1)), some (.int 4)], [.int (((((I 62 9) + 1) + 1) + 0) + 1)], qS sw gc I J) (q_hn _ _ _ _) rfl ?_
          exact G_iret rfl rfl (by unfold r_lm t_ct; rw [if_neg h1, if_neg h2, if_pos h3, if_neg h5]) rfl
        · skip
          refine G_st (L := 89) (k := 8) (9, [some (.ref 62), some (.int (((((I 62 9) + 1) + 1) + 0) + 0)), some (.int 4)], [.int 4, .int 4], qS sw gc I J) (q_hn _ _ _ _) rfl ?_
          refine G_icmp_ge 37 rfl rfl (fun _ => ?_) (fun h9 => absurd h9 (by decide))
          refine G_st (L := 89) (k := 1) (38, [some (.ref 62), some (.int (((((I 62 9) + 1) + 1) + 0) + 0)), some (.int 4)], [.int (((((I 62 9) + 1) + 1) + 0) + 0)], qS sw gc I J) (q_hn _ _ _ _) rfl ?_
          exact G_iret rfl rfl (by unfold r_lm t_ct; rw [if_neg h1, if_neg h2, if_pos h3, if_pos h5]) rfl
    · skip
      refine G_st (L := 89) (k := 8) (9, [some (.ref 62), some (.int (((I 62 9) + 1) + 0)), some (.int 2)], [.int 4, .int 2], qS sw gc I J) (q_hn _ _ _ _) rfl ?_
      refine G_icmp_ge 37 rfl rfl (fun h9 => absurd h9 (by decide)) (fun _ => ?_)
      refine G_st (L := 89) (k := 4) (18, [some (.ref 62), some (.int (((I 62 9) + 1) + 0)), some (.int 2)], [.int 2, .ref 64, .int (((I 62 9) + 1) + 0)], qS sw gc I J) (q_hn _ _ _ _) rfl ?_
      refine G_iald (i := 64) (n := 4) rfl rfl (q_lt (by decide)) (by unfold vp_in; decide) ?_
      refine G_st (L := 89) (k := 1) (21, [some (.ref 62), some (.int (((I 62 9) + 1) + 0)), some (.int 2)], [.int (-4), .int (I 64 2), .int (((I 62 9) + 1) + 0)], qS sw gc I J) (q_hn _ _ _ _) rfl ?_
      refine G_icmp_ne 28 rfl rfl (fun h6 => ?_) (fun h6 => ?_)
      · skip
        refine G_st (L := 89) (k := 7) (9, [some (.ref 62), some (.int ((((I 62 9) + 1) + 0) + 1)), some (.int 3)], [.int 4, .int 3], qS sw gc I J) (q_hn _ _ _ _) rfl ?_
        refine G_icmp_ge 37 rfl rfl (fun h9 => absurd h9 (by decide)) (fun _ => ?_)
        refine G_st (L := 89) (k := 4) (18, [some (.ref 62), some (.int ((((I 62 9) + 1) + 0) + 1)), some (.int 3)], [.int 3, .ref 64, .int ((((I 62 9) + 1) + 0) + 1)], qS sw gc I J) (q_hn _ _ _ _) rfl ?_
        refine G_iald (i := 64) (n := 4) rfl rfl (q_lt (by decide)) (by unfold vp_in; decide) ?_
        refine G_st (L := 89) (k := 1) (21, [some (.ref 62), some (.int ((((I 62 9) + 1) + 0) + 1)), some (.int 3)], [.int (-4), .int (I 64 3), .int ((((I 62 9) + 1) + 0) + 1)], qS sw gc I J) (q_hn _ _ _ _) rfl ?_
        refine G_icmp_ne 28 rfl rfl (fun h7 => ?_) (fun h7 => ?_)
        · skip
          refine G_st (L := 89) (k := 7) (9, [some (.ref 62), some (.int (((((I 62 9) + 1) + 0) + 1) + 1)), some (.int 4)], [.int 4, .int 4], qS sw gc I J) (q_hn _ _ _ _) rfl ?_
          refine G_icmp_ge 37 rfl rfl (fun _ => ?_) (fun h9 => absurd h9 (by decide))
          refine G_st (L := 89) (k := 1) (38, [some (.ref 62), some (.int (((((I 62 9) + 1) + 0) + 1) + 1)), some (.int 4)], [.int (((((I 62 9) + 1) + 0) + 1) + 1)], qS sw gc I J) (q_hn _ _ _ _) rfl ?_
          exact G_iret rfl rfl (by unfold r_lm t_ct; rw [if_neg h1, if_pos h2, if_neg h6, if_neg h7]) rfl
        · skip
          refine G_st (L := 89) (k := 8) (9, [some (.ref 62), some (.int (((((I 62 9) + 1) + 0) + 1) + 0)), some (.int 4)], [.int 4, .int 4], qS sw gc I J) (q_hn _ _ _ _) rfl ?_
          refine G_icmp_ge 37 rfl rfl (fun _ => ?_) (fun h9 => absurd h9 (by decide))
          refine G_st (L := 89) (k := 1) (38, [some (.ref 62), some (.int (((((I 62 9) + 1) + 0) + 1) + 0)), some (.int 4)], [.int (((((I 62 9) + 1) + 0) + 1) + 0)], qS sw gc I J) (q_hn _ _ _ _) rfl ?_
          exact G_iret rfl rfl (by unfold r_lm t_ct; rw [if_neg h1, if_pos h2, if_neg h6, if_pos h7]) rfl
      · skip
        refine G_st (L := 89) (k := 8) (9, [some (.ref 62), some (.int ((((I 62 9) + 1) + 0) + 0)), some (.int 3)], [.int 4, .int 3], qS sw gc I J) (q_hn _ _ _ _) rfl ?_
        refine G_icmp_ge 37 rfl rfl (fun h9 => absurd h9 (by decide)) (fun _ => ?_)
        refine G_st (L := 89) (k := 4) (18, [some (.ref 62), some (.int ((((I 62 9) + 1) + 0) + 0)), some (.int 3)], [.int 3, .ref 64, .int ((((I 62 9) + 1) + 0) + 0)], qS sw gc I J) (q_hn _ _ _ _) rfl ?_
        refine G_iald (i := 64) (n := 4) rfl rfl (q_lt (by decide)) (by unfold vp_in; decide) ?_
        refine G_st (L := 89) (k := 1) (21, [some (.ref 62), some (.int ((((I 62 9) + 1) + 0) + 0)), some (.int 3)], [.int (-4), .int (I 64 3), .int ((((I 62 9) + 1) + 0) + 0)], qS sw gc I J) (q_hn _ _ _ _) rfl ?_
        refine G_icmp_ne 28 rfl rfl (fun h8 => ?_) (fun h8 => ?_)
        · skip
          refine G_st (L := 89) (k := 7) (9, [some (.ref 62), some (.int (((((I 62 9) + 1) + 0) + 0) + 1)), some (.int 4)], [.int 4, .int 4], qS sw gc I J) (q_hn _ _ _ _) rfl ?_
          refine G_icmp_ge 37 rfl rfl (fun _ => ?_) (fun h9 => absurd h9 (by decide))
          refine G_st (L := 89) (k := 1) (38, [some (.ref 62), some (.int (((((I 62 9) + 1) + 0) + 0) + 1)), some (.int 4)], [.int (((((I 62 9) + 1) + 0) + 0) + 1)], qS sw gc I J) (q_hn _ _ _ _) rfl ?_
          exact G_iret rfl rfl (by unfold r_lm t_ct; rw [if_neg h1, if_pos h2, if_pos h6, if_neg h8]) rfl
        · skip
          refine G_st (L := 89) (k := 8) (9, [some (.ref 62), some (.int (((((I 62 9) + 1) + 0) + 0) + 0)), some (.int 4)], [.int 4, .int 4], qS sw gc I J) (q_hn _ _ _ _) rfl ?_
          refine G_icmp_ge 37 rfl rfl (fun _ => ?_) (fun h9 => absurd h9 (by decide))
          refine G_st (L := 89) (k := 1) (38, [some (.ref 62), some (.int (((((I 62 9) + 1) + 0) + 0) + 0)), some (.int 4)], [.int (((((I 62 9) + 1) + 0) + 0) + 0)], qS sw gc I J) (q_hn _ _ _ _) rfl ?_
          exact G_iret rfl rfl (by unfold r_lm t_ct; rw [if_neg h1, if_pos h2, if_pos h6, if_pos h8]) rfl
  · skip
    refine G_st (L := 89) (k := 8) (9, [some (.ref 62), some (.int ((I 62 9) + 0)), some (.int 1)], [.int 4, .int 1], qS sw gc I J) (q_hn _ _ _ _) rfl ?_
    refine G_icmp_ge 37 rfl rfl (fun h9 => absurd h9 (by decide)) (fun _ => ?_)
    refine G_st (L := 89) (k := 4) (18, [some (.ref 62), some (.int ((I 62 9) + 0)), some (.int 1)], [.int 1, .ref 64, .int ((I 62 9) + 0)], qS sw gc I J) (q_hn _ _ _ _) rfl ?_
    refine G_iald (i := 64) (n := 4) rfl rfl (q_lt (by decide)) (by unfold vp_in; decide) ?_
    refine G_st (L := 89) (k := 1) (21, [some (.ref 62), some (.int ((I 62 9) + 0)), some (.int 1)], [.int (-4), .int (I 64 1), .int ((I 62 9) + 0)], qS sw gc I J) (q_hn _ _ _ _) rfl ?_
    refine G_icmp_ne 28 rfl rfl (fun h9 => ?_) (fun h9 => ?_)
    · skip
      refine G_st (L := 89) (k := 7) (9, [some (.ref 62), some (.int (((I 62 9) + 0) + 1)), some (.int 2)], [.int 4, .int 2], qS sw gc I J) (q_hn _ _ _ _) rfl ?_
      refine G_icmp_ge 37 rfl rfl (fun h9 => absurd h9 (by decide)) (fun _ => ?_)
      refine G_st (L := 89) (k := 4) (18, [some (.ref 62), some (.int (((I 62 9) + 0) + 1)), some (.int 2)], [.int 2, .ref 64, .int (((I 62 9) + 0) + 1)], qS sw gc I J) (q_hn _ _ _ _) rfl ?_
      refine G_iald (i := 64) (n := 4) rfl rfl (q_lt (by decide)) (by unfold vp_in; decide) ?_
      refine G_st (L := 89) (k := 1) (21, [some (.ref 62), some (.int (((I 62 9) + 0) + 1)), some (.int 2)], [.int (-4), .int (I 64 2), .int (((I 62 9) + 0) + 1)], qS sw gc I J) (q_hn _ _ _ _) rfl ?_
      refine G_icmp_ne 28 rfl rfl (fun h10 => ?_) (fun h10 => ?_)
      · skip
        refine G_st (L := 89) (k := 7) (9, [some (.ref 62), some (.int ((((I 62 9) + 0) + 1) + 1)), some (.int 3)], [.int 4, .int 3], qS sw gc I J) (q_hn _ _ _ _) rfl ?_
        refine G_icmp_ge 37 rfl rfl (fun h9 => absurd h9 (by decide)) (fun _ => ?_)
        refine G_st (L := 89) (k := 4) (18, [some (.ref 62), some (.int ((((I 62 9) + 0) + 1) + 1)), some (.int 3)], [.int 3, .ref 64, .int ((((I 62 9) + 0) + 1) + 1)], qS sw gc I J) (q_hn _ _ _ _) rfl ?_
        refine G_iald (i := 64) (n := 4) rfl rfl (q_lt (by decide)) (by unfold vp_in; decide) ?_
        refine G_st (L := 89) (k := 1) (21, [some (.ref 62), some (.int ((((I 62 9) + 0) + 1) + 1)), some (.int 3)], [.int (-4), .int (I 64 3), .int ((((I 62 9) + 0) + 1) + 1)], qS sw gc I J) (q_hn _ _ _ _) rfl ?_
        refine G_icmp_ne 28 rfl rfl (fun h11 => ?_) (fun h11 => ?_)
        · skip
          refine G_st (L := 89) (k := 7) (9, [some (.ref 62), some (.int (((((I 62 9) + 0) + 1) + 1) + 1)), some (.int 4)], [.int 4, .int 4], qS sw gc I J) (q_hn _ _ _ _) rfl ?_
          refine G_icmp_ge 37 rfl rfl (fun _ => ?_) (fun h9 => absurd h9 (by decide))
          refine G_st (L := 89) (k := 1) (38, [some (.ref 62), some (.int (((((I 62 9) + 0) + 1) + 1) + 1)), some (.int 4)], [.int (((((I 62 9) + 0) + 1) + 1) + 1)], qS sw gc I J) (q_hn _ _ _ _) rfl ?_
          exact G_iret rfl rfl (by unfold r_lm t_ct; rw [if_pos h1, if_neg h9, if_neg h10, if_neg h11]) rfl
        · skip
          refine G_st (L := 89) (k := 8) (9, [some (.ref 62), some (.int (((((I 62 9) + 0) + 1) + 1) + 0)), some (.int 4)], [.int 4, .int 4], qS sw gc I J) (q_hn _ _ _ _) rfl ?_
          refine G_icmp_ge 37 rfl rfl (fun _ => ?_) (fun h9 => absurd h9 (by decide))
          refine G_st (L := 89) (k := 1) (38, [some (.ref 62), some (.int (((((I 62 9) + 0) + 1) + 1) + 0)), some (.int 4)], [.int (((((I 62 9) + 0) + 1) + 1) + 0)], qS sw gc I J) (q_hn _ _ _ _) rfl ?_
          exact G_iret rfl rfl (by unfold r_lm t_ct; rw [if_pos h1, if_neg h9, if_neg h10, if_pos h11]) rfl
      · skip
        refine G_st (L := 89) (k := 8) (9, [some (.ref 62), some (.int ((((I 62 9) + 0) + 1) + 0)), some (.int 3)], [.int 4, .int 3], qS sw gc I J) (q_hn _ _ _ _) rfl ?_
        refine G_icmp_ge 37 rfl rfl (fun h9 => absurd h9 (by decide)) (fun _ => ?_)
        refine G_st (L := 89) (k := 4) (18, [some (.ref 62), some (.int ((((I 62 9) + 0) + 1) + 0)), some (.int 3)], [.int 3, .ref 64, .int ((((I 62 9) + 0) + 1) + 0)], qS sw gc I J) (q_hn _ _ _ _) rfl ?_
        refine G_iald (i := 64) (n := 4) rfl rfl (q_lt (by decide)) (by unfold vp_in; decide) ?_
        refine G_st (L := 89) (k := 1) (21, [some (.ref 62), some (.int ((((I 62 9) + 0) + 1) + 0)), some (.int 3)], [.int (-4), .int (I 64 3), .int ((((I 62 9) + 0) + 1) + 0)], qS sw gc I J) (q_hn _ _ _ _) rfl ?_
        refine G_icmp_ne 28 rfl rfl (fun h12 => ?_) (fun h12 => ?_)
        · skip
          refine G_st (L := 89) (k := 7) (9, [some (.ref 62), some (.int (((((I 62 9) + 0) + 1) + 0) + 1)), some (.int 4)], [.int 4, .int 4], qS sw gc I J) (q_hn _ _ _ _) rfl ?_
          refine G_icmp_ge 37 rfl rfl (fun _ => ?_) (fun h9 => absurd h9 (by decide))
          refine G_st (L := 89) (k := 1) (38, [some (.ref 62), some (.int (((((I 62 9) + 0) + 1) + 0) + 1)), some (.int 4)], [.int (((((I 62 9) + 0) + 1) + 0) + 1)], qS sw gc I J) (q_hn _ _ _ _) rfl ?_
          exact G_iret rfl rfl (by unfold r_lm t_ct; rw [if_pos h1, if_neg h9, if_pos h10, if_neg h12]) rfl
        · skip
          refine G_st (L := 89) (k := 8) (9, [some (.ref 62), some (.int (((((I 62 9) + 0) + 1) + 0) + 0)), some (.int 4)], [.int 4, .int 4], qS sw gc I J) (q_hn _ _ _ _) rfl ?_
          refine G_icmp_ge 37 rfl rfl (fun _ => ?_) (fun h9 => absurd h9 (by decide))
          refine G_st (L := 89) (k := 1) (38, [some (.ref 62), some (.int (((((I 62 9) + 0) + 1) + 0) + 0)), some (.int 4)], [.int (((((I 62 9) + 0) + 1) + 0) + 0)], qS sw gc I J) (q_hn _ _ _ _) rfl ?_
          exact G_iret rfl rfl (by unfold r_lm t_ct; rw [if_pos h1, if_neg h9, if_pos h10, if_pos h12]) rfl
    · skip
      refine G_st (L := 89) (k := 8) (9, [some (.ref 62), some (.int (((I 62 9) + 0) + 0)), some (.int 2)], [.int 4, .int 2], qS sw gc I J) (q_hn _ _ _ _) rfl ?_
      refine G_icmp_ge 37 rfl rfl (fun h9 => absurd h9 (by decide)) (fun _ => ?_)
      refine G_st (L := 89) (k := 4) (18, [some (.ref 62), some (.int (((I 62 9) + 0) + 0)), some (.int 2)], [.int 2, .ref 64, .int (((I 62 9) + 0) + 0)], qS sw gc I J) (q_hn _ _ _ _) rfl ?_
      refine G_iald (i := 64) (n := 4) rfl rfl (q_lt (by decide)) (by unfold vp_in; decide) ?_
      refine G_st (L := 89) (k := 1) (21, [some (.ref 62), some (.int (((I 62 9) + 0) + 0)), some (.int 2)], [.int (-4), .int (I 64 2), .int (((I 62 9) + 0) + 0)], qS sw gc I J) (q_hn _ _ _ _) rfl ?_
      refine G_icmp_ne 28 rfl rfl (fun h13 => ?_) (fun h13 => ?_)
      · skip
        refine G_st (L := 89) (k := 7) (9, [some (.ref 62), some (.int ((((I 62 9) + 0) + 0) + 1)), some (.int 3)], [.int 4, .int 3], qS sw gc I J) (q_hn _ _ _ _) rfl ?_
        refine G_icmp_ge 37 rfl rfl (fun h9 => absurd h9 (by decide)) (fun _ => ?_)
        refine G_st (L := 89) (k := 4) (18, [some (.ref 62), some (.int ((((I 62 9) + 0) + 0) + 1)), some (.int 3)], [.int 3, .ref 64, .int ((((I 62 9) + 0) + 0) + 1)], qS sw gc I J) (q_hn _ _ _ _) rfl ?_
        refine G_iald (i := 64) (n := 4) rfl rfl (q_lt (by decide)) (by unfold vp_in; decide) ?_
        refine G_st (L := 89) (k := 1) (21, [some (.ref 62), some (.int ((((I 62 9) + 0) + 0) + 1)), some (.int 3)], [.int (-4), .int (I 64 3), .int ((((I 62 9) + 0) + 0) + 1)], qS sw gc I J) (q_hn _ _ _ _) rfl ?_
        refine G_icmp_ne 28 rfl rfl (fun h14 => ?_) (fun h14 => ?_)
        · skip
          refine G_st (L := 89) (k := 7) (9, [some (.ref 62), some (.int (((((I 62 9) + 0) + 0) + 1) + 1)), some (.int 4)], [.int 4, .int 4], qS sw gc I J) (q_hn _ _ _ _) rfl ?_
          refine G_icmp_ge 37 rfl rfl (fun _ => ?_) (fun h9 => absurd h9 (by decide))
          refine G_st (L := 89) (k := 1) (38, [some (.ref 62), some (.int (((((I 62 9) + 0) + 0) + 1) + 1)), some (.int 4)], [.int (((((I 62 9) + 0) + 0) + 1) + 1)], qS sw gc I J) (q_hn _ _ _ _) rfl ?_
          exact G_iret rfl rfl (by unfold r_lm t_ct; rw [if_pos h1, if_pos h9, if_neg h13, if_neg h14]) rfl
        · skip
          refine G_st (L := 89) (k := 8) (9, [some (.ref 62), some (.int (((((I 62 9) + 0) + 0) + 1) + 0)), some (.int 4)], [.int 4, .int 4], qS sw gc I J) (q_hn _ _ _ _) rfl ?_
          refine G_icmp_ge 37 rfl rfl (fun _ => ?_) (fun h9 => absurd h9 (by decide))
          refine G_st (L := 89) (k := 1) (38, [some (.ref 62), some (.int (((((I 62 9) + 0) + 0) + 1) + 0)), some (.int 4)], [.int (((((I 62 9) + 0) + 0) + 1) + 0)], qS sw gc I J) (q_hn _ _ _ _) rfl ?_
          exact G_iret rfl rfl (by unfold r_lm t_ct; rw [if_pos h1, if_pos h9, if_neg h13, if_pos h14]) rfl
      · skip
        refine G_st (L := 89) (k := 8) (9, [some (.ref 62), some (.int ((((I 62 9) + 0) + 0) + 0)), some (.int 3)], [.int 4, .int 3], qS sw gc I J) (q_hn _ _ _ _) rfl ?_
        refine G_icmp_ge 37 rfl rfl (fun h9 => absurd h9 (by decide)) (fun _ => ?_)
        refine G_st (L := 89) (k := 4) (18, [some (.ref 62), some (.int ((((I 62 9) + 0) + 0) + 0)), some (.int 3)], [.int 3, .ref 64, .int ((((I 62 9) + 0) + 0) + 0)], qS sw gc I J) (q_hn _ _ _ _) rfl ?_
        refine G_iald (i := 64) (n := 4) rfl rfl (q_lt (by decide)) (by unfold vp_in; decide) ?_
        refine G_st (L := 89) (k := 1) (21, [some (.ref 62), some (.int ((((I 62 9) + 0) + 0) + 0)), some (.int 3)], [.int (-4), .int (I 64 3), .int ((((I 62 9) + 0) + 0) + 0)], qS sw gc I J) (q_hn _ _ _ _) rfl ?_
        refine G_icmp_ne 28 rfl rfl (fun h15 => ?_) (fun h15 => ?_)
        · skip
          refine G_st (L := 89) (k := 7) (9, [some (.ref 62), some (.int (((((I 62 9) + 0) + 0) + 0) + 1)), some (.int 4)], [.int 4, .int 4], qS sw gc I J) (q_hn _ _ _ _) rfl ?_
          refine G_icmp_ge 37 rfl rfl (fun _ => ?_) (fun h9 => absurd h9 (by decide))
          refine G_st (L := 89) (k := 1) (38, [some (.ref 62), some (.int (((((I 62 9) + 0) + 0) + 0) + 1)), some (.int 4)], [.int (((((I 62 9) + 0) + 0) + 0) + 1)], qS sw gc I J) (q_hn _ _ _ _) rfl ?_
          exact G_iret rfl rfl (by unfold r_lm t_ct; rw [if_pos h1, if_pos h9, if_pos h13, if_neg h15]) rfl
        · skip
          refine G_st (L := 89) (k := 8) (9, [some (.ref 62), some (.int (((((I 62 9) + 0) + 0) + 0) + 0)), some (.int 4)], [.int 4, .int 4], qS sw gc I J) (q_hn _ _ _ _) rfl ?_
          refine G_icmp_ge 37 rfl rfl (fun _ => ?_) (fun h9 => absurd h9 (by decide))
          refine G_st (L := 89) (k := 1) (38, [some (.ref 62), some (.int (((((I 62 9) + 0) + 0) + 0) + 0)), some (.int 4)], [.int (((((I 62 9) + 0) + 0) + 0) + 0)], qS sw gc I J) (q_hn _ _ _ _) rfl ?_
          exact G_iret rfl rfl (by unfold r_lm t_ct; rw [if_pos h1, if_pos h9, if_pos h13, if_pos h15]) rfl
def r_pd (I : Nat → Nat → Int32) (g : Int32) : Nat → Nat → Int32
  | 0, _ => 0
  | m + 1, i => if (I 65 i) < g then r_pd I g m (i + 1) else I 66 i
theorem r_pd_loop {d : Nat} {sw : Bool} {gc : Nat} {I : Nat → Nat → Int32} {J : Nat → Nat → Int64} {g : Int32} {c : Nat} (hc : I 62 9 = nI c) (hc4 : c ≤ 4) : ∀ (m i : Nat), i + m = c → G d 113 (2, [some (.ref 62), some (.int g), some (.int (nI i))], [], qS sw gc I J) (some (.int (r_pd I g m i))) (qS sw gc I J) := by
  intro m
  induction m with
  | zero =>
    intro i h
    obtain rfl : i = c := by omega
    refine G_st (L := 89) (k := 3) (7, [some (.ref 62), some (.int g), some (.int (nI i))], [.int (I 62 9), .int (nI i)], qS sw gc I J) (q_hn _ _ _ _) rfl ?_
    rw [show I 62 9 = nI i from hc]
    refine G_icmp_ge 33 rfl rfl (fun _ => ?_) (fun h9 => absurd (nI_le (Nat.le_refl _) (by omega)) h9)
    refine G_st (L := 89) (k := 1) (34, [some (.ref 62), some (.int g), some (.int (nI i))], [.int 0], qS sw gc I J) (q_hn _ _ _ _) rfl ?_
    exact G_iret rfl rfl rfl rfl
  | succ m ih =>
    intro i h
    refine G_st (L := 89) (k := 3) (7, [some (.ref 62), some (.int g), some (.int (nI i))], [.int (I 62 9), .int (nI i)], qS sw gc I J) (q_hn _ _ _ _) rfl ?_
    rw [show I 62 9 = nI c from hc]
    refine G_icmp_ge 33 rfl rfl (fun h9 => absurd h9 (nI_ge (by omega) (by omega))) (fun _ => ?_)
    refine G_st (L := 89) (k := 3) (15, [some (.ref 62), some (.int g), some (.int (nI i))], [.int (nI i), .ref 65], qS sw gc I J) (q_hn _ _ _ _) rfl ?_
    refine G_iald (i := 65) (n := 4) rfl rfl (q_lt (by decide)) (vp_in_nI (by omega) (by decide)) ?_
    rw [q_clamp (n := i) (by omega)]
    refine G_st (L := 89) (k := 1) (17, [some (.ref 62), some (.int g), some (.int (nI i))], [.int g, .int (I 65 i)], qS sw gc I J) (q_hn _ _ _ _) rfl ?_
    refine G_icmp_lt 27 rfl rfl (fun h1 => ?_) (fun h1 => ?_)
    · skip
      refine G_st (L := 89) (k := 2) (2, [some (.ref 62), some (.int g), some (.int ((nI i) + 1))], [], qS sw gc I J) (q_hn _ _ _ _) rfl ?_
      rw [show (nI i) + 1 = nI (i + 1) from (q_addP rfl rfl)]
      rw [r_pd, if_pos h1]
      exact ih (i + 1) (by omega)
    · skip
      refine G_st (L := 89) (k := 3) (25, [some (.ref 62), some (.int g), some (.int (nI i))], [.int (nI i), .ref 66], qS sw gc I J) (q_hn _ _ _ _) rfl ?_
      refine G_iald (i := 66) (n := 4) rfl rfl (q_lt (by decide)) (vp_in_nI (by omega) (by decide)) ?_
      rw [q_clamp (n := i) (by omega)]
      refine G_st (L := 89) (k := 0) (26, [some (.ref 62), some (.int g), some (.int (nI i))], [.int (I 66 i)], qS sw gc I J) (q_hn _ _ _ _) rfl ?_
      exact G_iret rfl rfl (by rw [r_pd, if_neg h1]) rfl
theorem r_poundage {d : Nat} {sw : Bool} {gc : Nat} {I : Nat → Nat → Int32} {J : Nat → Nat → Int64} {g : Int32} {c : Nat} (hc : I 62 9 = nI c) (hc4 : c ≤ 4) : GM d 113 [.ref 62, .int g] (qS sw gc I J) (some (.int (r_pd I g c 0))) (qS sw gc I J) := by
  refine GM_of (by decide) (Nat.le_refl _) (Nat.le_of_ble_eq_true rfl) trivial ?_
  refine G_st (L := 89) (k := 0) (0, [some (.ref 62), some (.int g), none], [], qS sw gc I J) (q_hn _ _ _ _) rfl ?_
  refine G_st (L := 89) (k := 2) (2, [some (.ref 62), some (.int g), some (.int 0)], [], qS sw gc I J) (q_hn _ _ _ _) rfl ?_
  exact r_pd_loop hc hc4 c 0 (by omega)
def r_lo (I : Nat → Nat → Int32) (k : Nat) : Int32 := if I 64 k = (-4) then (if nI k ≤ 1 then I 64 k else 0) else I 64 k
theorem r_lawOf {d : Nat} {sw : Bool} {gc : Nat} {I : Nat → Nat → Int32} {J : Nat → Nat → Int64} {k : Nat} (hk : k < 4) : GM d 114 [.ref 62, .int (nI k)] (qS sw gc I J) (some (.int (r_lo I k))) (qS sw gc I J) := by
  refine GM_of (by decide) (Nat.le_refl _) (Nat.le_of_ble_eq_true rfl) trivial ?_
  refine G_st (L := 89) (k := 0) (0, [some (.ref 62), some (.int (nI k))], [], qS sw gc I J) (q_hn _ _ _ _) rfl ?_
  refine G_st (L := 89) (k := 3) (5, [some (.ref 62), some (.int (nI k))], [.int (nI k), .ref 64], qS sw gc I J) (q_hn _ _ _ _) rfl ?_
  refine G_iald (i := 64) (n := 4) rfl rfl (q_lt (by decide)) (vp_in_nI (by omega) (by decide)) ?_
  rw [q_clamp (n := k) (by omega)]
  refine G_st (L := 89) (k := 1) (8, [some (.ref 62), some (.int (nI k))], [.int (-4), .int (I 64 k)], qS sw gc I J) (q_hn _ _ _ _) rfl ?_
  refine G_icmp_ne 20 rfl rfl (fun h1 => ?_) (fun h1 => ?_)
  · skip
    refine G_st (L := 89) (k := 3) (25, [some (.ref 62), some (.int (nI k))], [.int (nI k), .ref 64], qS sw gc I J) (q_hn _ _ _ _) rfl ?_
    refine G_iald (i := 64) (n := 4) rfl rfl (q_lt (by decide)) (vp_in_nI (by omega) (by decide)) ?_
    rw [q_clamp (n := k) (by omega)]
    refine G_st (L := 89) (k := 0) (26, [some (.ref 62), some (.int (nI k))], [.int (I 64 k)], qS sw gc I J) (q_hn _ _ _ _) rfl ?_
    exact G_iret rfl rfl (by rw [r_lo, if_neg h1]) rfl
  · skip
    refine G_st (L := 89) (k := 2) (13, [some (.ref 62), some (.int (nI k))], [.int 1, .int (nI k)], qS sw gc I J) (q_hn _ _ _ _) rfl ?_
    refine G_icmp_le 20 rfl rfl (fun h2 => ?_) (fun h2 => ?_)
    · skip
      refine G_st (L := 89) (k := 3) (25, [some (.ref 62), some (.int (nI k))], [.int (nI k), .ref 64], qS sw gc I J) (q_hn _ _ _ _) rfl ?_
      refine G_iald (i := 64) (n := 4) rfl rfl (q_lt (by decide)) (vp_in_nI (by omega) (by decide)) ?_
      rw [q_clamp (n := k) (by omega)]
      refine G_st (L := 89) (k := 0) (26, [some (.ref 62), some (.int (nI k))], [.int (I 64 k)], qS sw gc I J) (q_hn _ _ _ _) rfl ?_
      exact G_iret rfl rfl (by rw [r_lo, if_pos h1, if_pos h2]) rfl
    · skip
      refine G_st (L := 89) (k := 2) (26, [some (.ref 62), some (.int (nI k))], [.int 0], qS sw gc I J) (q_hn _ _ _ _) rfl ?_
      exact G_iret rfl rfl (by rw [r_lo, if_pos h1, if_neg h2]) rfl
theorem r_lawOf_0 {d : Nat} {sw : Bool} {gc : Nat} {I : Nat → Nat → Int32} {J : Nat → Nat → Int64} : GM d 114 [.ref 62, .int 0] (qS sw gc I J) (some (.int (r_lo I 0))) (qS sw gc I J) := r_lawOf (k := 0) (by decide)
theorem r_lawOf_1 {d : Nat} {sw : Bool} {gc : Nat} {I : Nat → Nat → Int32} {J : Nat → Nat → Int64} : GM d 114 [.ref 62, .int 1] (qS sw gc I J) (some (.int (r_lo I 1))) (qS sw gc I J) := r_lawOf (k := 1) (by decide)
theorem r_lawOf_2 {d : Nat} {sw : Bool} {gc : Nat} {I : Nat → Nat → Int32} {J : Nat → Nat → Int64} : GM d 114 [.ref 62, .int 2] (qS sw gc I J) (some (.int (r_lo I 2))) (qS sw gc I J) := r_lawOf (k := 2) (by decide)
theorem r_lawOf_3 {d : Nat} {sw : Bool} {gc : Nat} {I : Nat → Nat → Int32} {J : Nat → Nat → Int64} : GM d 114 [.ref 62, .int 3] (qS sw gc I J) (some (.int (r_lo I 3))) (qS sw gc I J) := r_lawOf (k := 3) (by decide)
theorem r_law1 {d : Nat} {sw : Bool} {gc : Nat} {I : Nat → Nat → Int32} {J : Nat → Nat → Int64} {k : Nat} (hk : k < 4) : GM (d + 1) 115 [.ref 62, .int (nI k)] (qS sw gc I J) (some (.int (r_lo I k))) (qS sw gc I J) := by
  refine GM_of (by decide) (Nat.le_refl _) (Nat.le_of_ble_eq_true rfl) trivial ?_
  refine G_st (L := 89) (k := 0) (0, [some (.ref 62), some (.int (nI k))], [], qS sw gc I J) (q_hn _ _ _ _) rfl ?_
  refine G_st (L := 89) (k := 4) (6, [some (.ref 62), some (.int (nI k))], [.long 3, .long 0, .long (Int32.toInt64 (nI k))], qS sw gc I J) (q_hn _ _ _ _) rfl ?_
  refine G_callS (as := [.long (Int32.toInt64 (nI k)), .long 0, .long 3]) (rest := []) rfl rfl rfl (Nat.le_of_ble_eq_true rfl) (r_in (lo := 0) (hi := 3) rfl rfl) (Nat.le_refl _) ?_
  refine G_st (L := 89) (k := 0) (9, [some (.ref 62), some (.int (nI k))], [.int (f_i3 (nI k) 0 3)], qS sw gc I J) (q_hn _ _ _ _) rfl ?_
  refine G_if_eq 20 rfl rfl (fun h9 => absurd h9 (by rw [show f_i3 (nI k) 0 3 = 1 from f_i3_n (n := 3) (by omega) (by decide)]; decide)) (fun _ => ?_)
  refine G_st (L := 89) (k := 2) (14, [some (.ref 62), some (.int (nI k))], [.int (nI k), .ref 62], qS sw gc I J) (q_hn _ _ _ _) rfl ?_
  refine G_callV (b := 62) (ci := 9) (as := [.int (nI k)]) (rest := []) rfl rfl rfl (q_lt (by decide)) (by decide) rfl rfl (Nat.le_of_ble_eq_true rfl) (r_lawOf (by omega)) (Nat.le_refl _) ?_
  refine G_st (L := 89) (k := 1) (46, [some (.ref 62), some (.int (nI k))], [.int (r_lo I k)], qS sw gc I J) (q_hn _ _ _ _) rfl ?_
  exact G_iret rfl rfl rfl rfl
theorem r_law2 {d : Nat} {sw : Bool} {gc : Nat} {I : Nat → Nat → Int32} {J : Nat → Nat → Int64} {v : Int32} {c : Nat} (h1 : f_i3 v 0 3 = 0) (h2 : f_i3 v 10 19 = 1) (hc : I 62 9 = nI c) (hc4 : c ≤ 4) : GM (d + 1) 115 [.ref 62, .int v] (qS sw gc I J) (some (.int (r_pd I (v - 10) c 0))) (qS sw gc I J) := by
  refine GM_of (by decide) (Nat.le_refl _) (Nat.le_of_ble_eq_true rfl) trivial ?_
  refine G_st (L := 89) (k := 0) (0, [some (.ref 62), some (.int v)], [], qS sw gc I J) (q_hn _ _ _ _) rfl ?_
  refine G_st (L := 89) (k := 4) (6, [some (.ref 62), some (.int v)], [.long 3, .long 0, .long (Int32.toInt64 v)], qS sw gc I J) (q_hn _ _ _ _) rfl ?_
  refine G_callS (as := [.long (Int32.toInt64 v), .long 0, .long 3]) (rest := []) rfl rfl rfl (Nat.le_of_ble_eq_true rfl) (r_in (lo := 0) (hi := 3) rfl rfl) (Nat.le_refl _) ?_
  refine G_st (L := 89) (k := 0) (9, [some (.ref 62), some (.int v)], [.int (f_i3 v 0 3)], qS sw gc I J) (q_hn _ _ _ _) rfl ?_
  refine G_if_eq 20 rfl rfl (fun _ => ?_) (fun h9 => absurd h1 h9)
  refine G_st (L := 89) (k := 4) (28, [some (.ref 62), some (.int v)], [.long 19, .long 10, .long (Int32.toInt64 v)], qS sw gc I J) (q_hn _ _ _ _) rfl ?_
  refine G_callS (as := [.long (Int32.toInt64 v), .long 10, .long 19]) (rest := []) rfl rfl rfl (Nat.le_of_ble_eq_true rfl) (r_in (lo := 10) (hi := 19) rfl rfl) (Nat.le_refl _) ?_
  refine G_st (L := 89) (k := 0) (31, [some (.ref 62), some (.int v)], [.int (f_i3 v 10 19)], qS sw gc I J) (q_hn _ _ _ _) rfl ?_
  refine G_if_eq 45 rfl rfl (fun h9 => absurd h9 (by rw [h2]; decide)) (fun _ => ?_)
  refine G_st (L := 89) (k := 4) (39, [some (.ref 62), some (.int v)], [.int (v - 10), .ref 62], qS sw gc I J) (q_hn _ _ _ _) rfl ?_
  refine G_callV (b := 62) (ci := 9) (as := [.int (v - 10)]) (rest := []) rfl rfl rfl (q_lt (by decide)) (by decide) rfl rfl (Nat.le_of_ble_eq_true rfl) (r_poundage hc hc4) (Nat.le_refl _) ?_
  refine G_st (L := 89) (k := 1) (46, [some (.ref 62), some (.int v)], [.int (r_pd I (v - 10) c 0)], qS sw gc I J) (q_hn _ _ _ _) rfl ?_
  exact G_iret rfl rfl rfl rfl
theorem r_law3 {d : Nat} {sw : Bool} {gc : Nat} {I : Nat → Nat → Int32} {J : Nat → Nat → Int64} {v : Int32} (h1 : f_i3 v 0 3 = 0) (h2 : f_i3 v 10 19 = 0) : GM (d + 1) 115 [.ref 62, .int v] (qS sw gc I J) (some (.int (-1))) (qS sw gc I J) := by
  refine GM_of (by decide) (Nat.le_refl _) (Nat.le_of_ble_eq_true rfl) trivial ?_
  refine G_st (L := 89) (k := 0) (0, [some (.ref 62), some (.int v)], [], qS sw gc I J) (q_hn _ _ _ _) rfl ?_
  refine G_st (L := 89) (k := 4) (6, [some (.ref 62), some (.int v)], [.long 3, .long 0, .long (Int32.toInt64 v)], qS sw gc I J) (q_hn _ _ _ _) rfl ?_
  refine G_callS (as := [.long (Int32.toInt64 v), .long 0, .long 3]) (rest := []) rfl rfl rfl (Nat.le_of_ble_eq_true rfl) (r_in (lo := 0) (hi := 3) rfl rfl) (Nat.le_refl _) ?_
  refine G_st (L := 89) (k := 0) (9, [some (.ref 62), some (.int v)], [.int (f_i3 v 0 3)], qS sw gc I J) (q_hn _ _ _ _) rfl ?_
  refine G_if_eq 20 rfl rfl (fun _ => ?_) (fun h9 => absurd h1 h9)
  refine G_st (L := 89) (k := 4) (28, [some (.ref 62), some (.int v)], [.long 19, .long 10, .long (Int32.toInt64 v)], qS sw gc I J) (q_hn _ _ _ _) rfl ?_
  refine G_callS (as := [.long (Int32.toInt64 v), .long 10, .long 19]) (rest := []) rfl rfl rfl (Nat.le_of_ble_eq_true rfl) (r_in (lo := 10) (hi := 19) rfl rfl) (Nat.le_refl _) ?_
  refine G_st (L := 89) (k := 0) (31, [some (.ref 62), some (.int v)], [.int (f_i3 v 10 19)], qS sw gc I J) (q_hn _ _ _ _) rfl ?_
  refine G_if_eq 45 rfl rfl (fun _ => ?_) (fun h9 => absurd h2 h9)
  refine G_st (L := 89) (k := 1) (46, [some (.ref 62), some (.int v)], [.int (-1)], qS sw gc I J) (q_hn _ _ _ _) rfl ?_
  exact G_iret rfl rfl rfl rfl
theorem r_rock {d : Nat} {sw : Bool} {gc : Nat} {I : Nat → Nat → Int32} {J : Nat → Nat → Int64} {a b : Nat} (ha : a < 5) (hb : b < 6) {v : Int32} (hv : f_i3 v 0 9 = 1) : GM (d + 2) 118 [.ref 62, .int (nI a), .int (nI b), .int v] (qS sw gc I J) (some (.int (I 70 (6 * a + b)))) (qS sw gc (q_u I 70 (6 * a + b) v) J) := by
  refine GM_of (by decide) (Nat.le_refl _) (Nat.le_of_ble_eq_true rfl) trivial ?_
  refine G_st (L := 89) (k := 0) (0, [some (.ref 62), some (.int (nI a)), some (.int (nI b)), some (.int v), none], [], qS sw gc I J) (q_hn _ _ _ _) rfl ?_
  refine G_st (L := 89) (k := 2) (2, [some (.ref 62), some (.int (nI a)), some (.int (nI b)), some (.int v), none], [.int (nI b), .int (nI a)], qS sw gc I J) (q_hn _ _ _ _) rfl ?_
  refine G_callS (as := [.int (nI a), .int (nI b)]) (rest := []) rfl rfl rfl (Nat.le_of_ble_eq_true rfl) (r_isFace ha hb) (Nat.le_refl _) ?_
  refine G_st (L := 89) (k := 0) (5, [some (.ref 62), some (.int (nI a)), some (.int (nI b)), some (.int v), none], [.int 1], qS sw gc I J) (q_hn _ _ _ _) rfl ?_
  refine G_if_eq 20 rfl rfl (fun h9 => absurd h9 (by decide)) (fun _ => ?_)
  refine G_st (L := 89) (k := 4) (14, [some (.ref 62), some (.int (nI a)), some (.int (nI b)), some (.int v), none], [.long 9, .long 0, .long (Int32.toInt64 v)], qS sw gc I J) (q_hn _ _ _ _) rfl ?_
  refine G_callS (as := [.long (Int32.toInt64 v), .long 0, .long 9]) (rest := []) rfl rfl rfl (Nat.le_of_ble_eq_true rfl) (r_in (lo := 0) (hi := 9) rfl rfl) (Nat.le_refl _) ?_
  refine G_st (L := 89) (k := 0) (17, [some (.ref 62), some (.int (nI a)), some (.int (nI b)), some (.int v), none], [.int (f_i3 v 0 9)], qS sw gc I J) (q_hn _ _ _ _) rfl ?_
  refine G_if_ne 22 rfl rfl (fun _ => ?_) (fun h9 => absurd h9 (by rw [hv]; decide))
  refine G_st (L := 89) (k := 7) (32, [some (.ref 62), some (.int (nI a)), some (.int (nI b)), some (.int v), none], [.int ((6 * (nI a)) + (nI b)), .ref 70], qS sw gc I J) (q_hn _ _ _ _) rfl ?_
  rw [show (6 * (nI a)) + (nI b) = nI (6 * a + b) from (q_addP (q_mulP rfl rfl) rfl)]
  refine G_iald (i := 70) (n := 30) rfl rfl (q_lt (by decide)) (vp_in_nI (by omega) (by decide)) ?_
  rw [q_clamp (n := 6 * a + b) (by omega)]
  refine G_st (L := 89) (k := 9) (46, [some (.ref 62), some (.int (nI a)), some (.int (nI b)), some (.int v), some (.int (I 70 (6 * a + b)))], [.int v, .int ((6 * (nI a)) + (nI b)), .ref 70], qS sw gc I J) (q_hn _ _ _ _) rfl ?_
  rw [show (6 * (nI a)) + (nI b) = nI (6 * a + b) from (q_addP (q_mulP rfl rfl) rfl)]
  refine G_iast (i := 70) (n := 30) rfl rfl (q_lt (by decide)) (vp_in_nI (by omega) (by decide)) ?_
  rw [q_clamp (n := 6 * a + b) (by omega)]
  refine G_st (L := 89) (k := 1) (49, [some (.ref 62), some (.int (nI a)), some (.int (nI b)), some (.int v), some (.int (I 70 (6 * a + b)))], [.int (I 70 (6 * a + b))], qS sw gc (q_u I 70 (6 * a + b) v) J) (q_hn _ _ _ _) rfl ?_
  exact G_iret rfl rfl rfl rfl
theorem r_rockV {d : Nat} {sw : Bool} {gc : Nat} {I : Nat → Nat → Int32} {J : Nat → Nat → Int64} {a b : Nat} (ha : a < 5) (hb : b < 6) {v : Int32} (hv : f_i3 v 0 9 = 0) : GM (d + 2) 118 [.ref 62, .int (nI a), .int (nI b), .int v] (qS sw gc I J) (some (.int (-1))) (qS sw gc I J) := by
  refine GM_of (by decide) (Nat.le_refl _) (Nat.le_of_ble_eq_true rfl) trivial ?_
  refine G_st (L := 89) (k := 0) (0, [some (.ref 62), some (.int (nI a)), some (.int (nI b)), some (.int v), none], [], qS sw gc I J) (q_hn _ _ _ _) rfl ?_
  refine G_st (L := 89) (k := 2) (2, [some (.ref 62), some (.int (nI a)), some (.int (nI b)), some (.int v), none], [.int (nI b), .int (nI a)], qS sw gc I J) (q_hn _ _ _ _) rfl ?_
  refine G_callS (as := [.int (nI a), .int (nI b)]) (rest := []) rfl rfl rfl (Nat.le_of_ble_eq_true rfl) (r_isFace ha hb) (Nat.le_refl _) ?_
  refine G_st (L := 89) (k := 0) (5, [some (.ref 62), some (.int (nI a)), some (.int (nI b)), some (.int v), none], [.int 1], qS sw gc I J) (q_hn _ _ _ _) rfl ?_
  refine G_if_eq 20 rfl rfl (fun h9 => absurd h9 (by decide)) (fun _ => ?_)
  refine G_st (L := 89) (k := 4) (14, [some (.ref 62), some (.int (nI a)), some (.int (nI b)), some (.int v), none], [.long 9, .long 0, .long (Int32.toInt64 v)], qS sw gc I J) (q_hn _ _ _ _) rfl ?_
  refine G_callS (as := [.long (Int32.toInt64 v), .long 0, .long 9]) (rest := []) rfl rfl rfl (Nat.le_of_ble_eq_true rfl) (r_in (lo := 0) (hi := 9) rfl rfl) (Nat.le_refl _) ?_
  refine G_st (L := 89) (k := 0) (17, [some (.ref 62), some (.int (nI a)), some (.int (nI b)), some (.int v), none], [.int (f_i3 v 0 9)], qS sw gc I J) (q_hn _ _ _ _) rfl ?_
  refine G_if_ne 22 rfl rfl (fun h9 => absurd hv h9) (fun _ => ?_)
  refine G_st (L := 89) (k := 1) (21, [some (.ref 62), some (.int (nI a)), some (.int (nI b)), some (.int v), none], [.int (-1)], qS sw gc I J) (q_hn _ _ _ _) rfl ?_
  exact G_iret rfl rfl rfl rfl
theorem r_rockF {d : Nat} {sw : Bool} {gc : Nat} {I : Nat → Nat → Int32} {J : Nat → Nat → Int64} {g c : Int32} (hbad : g < 0 ∨ nI 5 ≤ g ∨ c < 0 ∨ nI 6 ≤ c) {v : Int32} : GM (d + 2) 118 [.ref 62, .int g, .int c, .int v] (qS sw gc I J) (some (.int (-1))) (qS sw gc I J) := by
  refine GM_of (by decide) (Nat.le_refl _) (Nat.le_of_ble_eq_true rfl) trivial ?_
  refine G_st (L := 89) (k := 0) (0, [some (.ref 62), some (.int g), some (.int c), some (.int v), none], [], qS sw gc I J) (q_hn _ _ _ _) rfl ?_
  refine G_st (L := 89) (k := 2) (2, [some (.ref 62), some (.int g), some (.int c), some (.int v), none], [.int c, .int g], qS sw gc I J) (q_hn _ _ _ _) rfl ?_
  refine G_callS (as := [.int g, .int c]) (rest := []) rfl rfl rfl (Nat.le_of_ble_eq_true rfl) (r_isFaceB hbad) (Nat.le_refl _) ?_
  refine G_st (L := 89) (k := 0) (5, [some (.ref 62), some (.int g), some (.int c), some (.int v), none], [.int 0], qS sw gc I J) (q_hn _ _ _ _) rfl ?_
  refine G_if_eq 20 rfl rfl (fun _ => ?_) (fun h9 => absurd h9 (by decide))
  refine G_st (L := 89) (k := 1) (21, [some (.ref 62), some (.int g), some (.int c), some (.int v), none], [.int (-1)], qS sw gc I J) (q_hn _ _ _ _) rfl ?_
  exact G_iret rfl rfl rfl rfl
def r_ls (I : Nat → Nat → Int32) (w : Nat) : Bool := !decide (I 72 w = 0)
def r_mayN (I : Nat → Nat → Int32) : Nat → Nat → Bool
  | 0, _ => true
  | n + 1, w => cond (Nat.ble 30 w) true (cond (r_ls I w) false (r_mayN I n (w + 6)))
def r_may (I : Nat → Nat → Int32) (w : Nat) : Bool := r_mayN I 6 w
theorem r_may_loop {d : Nat} {sw : Bool} {gc : Nat} {I : Nat → Nat → Int32} {J : Nat → Nat → Int64} {x : Int32} : ∀ (n u : Nat) (b : Bool), u < 36 → 36 ≤ u + 6 * n → G d 119 (4, [some (.ref 62), some (.int x), some (.int (q_b b)), some (.int (nI u))], [], qS sw gc I J) (some (.int (q_b (b && r_mayN I n u)))) (qS sw gc I J) := by
  intro n
  induction n with
  | zero => intro u b h1 h2; exact absurd h2 (by omega)
  | succ n ih =>
    intro u b h1 h2
    by_cases hu : u < 30
    · have e1 : Nat.ble 30 u = false := q_bleF hu
      cases b with
      | false =>
        show G d 119 (4, [some (.ref 62), some (.int x), some (.int 0), some (.int (nI u))], [], qS sw gc I J) (some (.int (q_b (false && r_mayN I n (u + 6))))) (qS sw gc I J)
        refine G_st (L := 89) (k := 2) (7, [some (.ref 62), some (.int x), some (.int 0), some (.int (nI u))], [.int 30, .int (nI u)], qS sw gc I J) (q_hn _ _ _ _) rfl ?_
        refine G_icmp_ge 35 rfl rfl (fun h9 => absurd h9 (nI_ge (b := 30) (by omega) (by decide))) (fun _ => ?_)
        refine G_st (L := 89) (k := 1) (11, [some (.ref 62), some (.int x), some (.int 0), some (.int (nI u))], [.int 0], qS sw gc I J) (q_hn _ _ _ _) rfl ?_
        refine G_if_eq 27 rfl rfl (fun _ => ?_) (fun h9 => absurd h9 (by decide))
        refine G_st (L := 89) (k := 4) (4, [some (.ref 62), some (.int x), some (.int 0), some (.int ((nI u) + 6))], [], qS sw gc I J) (q_hn _ _ _ _) rfl ?_
        rw [show (nI u) + 6 = nI (u + 6) from (q_addP rfl rfl)]
        exact ih (u + 6) false (by omega) (by omega)
      | true =>
        by_cases hl : I 72 u = 0
        · rw [show (true && r_mayN I (n + 1) u) = (true && r_mayN I n (u + 6)) by rw [r_mayN, e1, r_ls, decide_eq_true hl]; rfl]
          show G d 119 (4, [some (.ref 62), some (.int x), some (.int 1), some (.int (nI u))], [], qS sw gc I J) _ _
          refine G_st (L := 89) (k := 2) (7, [some (.ref 62), some (.int x), some (.int 1), some (.int (nI u))], [.int 30, .int (nI u)], qS sw gc I J) (q_hn _ _ _ _) rfl ?_
          refine G_icmp_ge 35 rfl rfl (fun h9 => absurd h9 (nI_ge (b := 30) (by omega) (by decide))) (fun _ => ?_)
          refine G_st (L := 89) (k := 1) (11, [some (.ref 62), some (.int x), some (.int 1), some (.int (nI u))], [.int 1], qS sw gc I J) (q_hn _ _ _ _) rfl ?_
          refine G_if_eq 27 rfl rfl (fun h9 => absurd h9 (by decide)) (fun _ => ?_)
          refine G_st (L := 89) (k := 3) (19, [some (.ref 62), some (.int x), some (.int 1), some (.int (nI u))], [.int (nI u), .ref 72], qS sw gc I J) (q_hn _ _ _ _) rfl ?_
          refine G_zald (i := 72) (n := 30) rfl rfl (q_lt (by decide)) (vp_in_nI (by omega) (by decide)) ?_
          rw [q_clamp (n := u) (by omega)]
          refine G_st (L := 89) (k := 0) (20, [some (.ref 62), some (.int x), some (.int 1), some (.int (nI u))], [.int (I 72 u)], qS sw gc I J) (q_hn _ _ _ _) rfl ?_
          refine G_if_ne 27 rfl rfl (fun h9 => absurd hl h9) (fun _ => ?_)
          refine G_st (L := 89) (k := 5) (4, [some (.ref 62), some (.int x), some (.int 1), some (.int ((nI u) + 6))], [], qS sw gc I J) (q_hn _ _ _ _) rfl ?_
          rw [show (nI u) + 6 = nI (u + 6) from (q_addP rfl rfl)]
          exact ih (u + 6) true (by omega) (by omega)
        · rw [show (true && r_mayN I (n + 1) u) = (false && r_mayN I n (u + 6)) by rw [r_mayN, e1, r_ls, decide_eq_false hl]; rfl]
          show G d 119 (4, [some (.ref 62), some (.int x), some (.int 1), some (.int (nI u))], [], qS sw gc I J) _ _
          refine G_st (L := 89) (k := 2) (7, [some (.ref 62), some (.int x), some (.int 1), some (.int (nI u))], [.int 30, .int (nI u)], qS sw gc I J) (q_hn _ _ _ _) rfl ?_
          refine G_icmp_ge 35 rfl rfl (fun h9 => absurd h9 (nI_ge (b := 30) (by omega) (by decide))) (fun _ => ?_)
          refine G_st (L := 89) (k := 1) (11, [some (.ref 62), some (.int x), some (.int 1), some (.int (nI u))], [.int 1], qS sw gc I J) (q_hn _ _ _ _) rfl ?_
          refine G_if_eq 27 rfl rfl (fun h9 => absurd h9 (by decide)) (fun _ => ?_)
          refine G_st (L := 89) (k := 3) (19, [some (.ref 62), some (.int x), some (.int 1), some (.int (nI u))], [.int (nI u), .ref 72], qS sw gc I J) (q_hn _ _ _ _) rfl ?_
          refine G_zald (i := 72) (n := 30) rfl rfl (q_lt (by decide)) (vp_in_nI (by omega) (by decide)) ?_
          rw [q_clamp (n := u) (by omega)]
          refine G_st (L := 89) (k := 0) (20, [some (.ref 62), some (.int x), some (.int 1), some (.int (nI u))], [.int (I 72 u)], qS sw gc I J) (q_hn _ _ _ _) rfl ?_
          refine G_if_ne 27 rfl rfl (fun _ => ?_) (fun h9 => absurd h9 hl)
          refine G_st (L := 89) (k := 4) (4, [some (.ref 62), some (.int x), some (.int 0), some (.int ((nI u) + 6))], [], qS sw gc I J) (q_hn _ _ _ _) rfl ?_
          rw [show (nI u) + 6 = nI (u + 6) from (q_addP rfl rfl)]
          exact ih (u + 6) false (by omega) (by omega)
    · have e1 : Nat.ble 30 u = true := Nat.ble_eq_true_of_le (by omega)
      rw [show (b && r_mayN I (n + 1) u) = b by rw [r_mayN, e1]; cases b <;> rfl]
      refine G_st (L := 89) (k := 2) (7, [some (.ref 62), some (.int x), some (.int (q_b b)), some (.int (nI u))], [.int 30, .int (nI u)], qS sw gc I J) (q_hn _ _ _ _) rfl ?_
      refine G_icmp_ge 35 rfl rfl (fun _ => ?_) (fun h9 => absurd (nI_le (a := 30) (by omega) (by omega)) h9)
      refine G_st (L := 89) (k := 1) (36, [some (.ref 62), some (.int x), some (.int (q_b b)), some (.int (nI u))], [.int (q_b b)], qS sw gc I J) (q_hn _ _ _ _) rfl ?_
      exact G_iret rfl rfl rfl rfl
theorem r_mayBeWorked {d : Nat} {sw : Bool} {gc : Nat} {I : Nat → Nat → Int32} {J : Nat → Nat → Int64} {w : Nat} (hw : w < 30) : GM d 119 [.ref 62, .int (nI w)] (qS sw gc I J) (some (.int (q_b (r_may I w)))) (qS sw gc I J) := by
  refine GM_of (by decide) (Nat.le_refl _) (Nat.le_of_ble_eq_true rfl) q_bn ?_
  refine G_st (L := 89) (k := 0) (0, [some (.ref 62), some (.int (nI w)), none, none], [], qS sw gc I J) (q_hn _ _ _ _) rfl ?_
  refine G_st (L := 89) (k := 4) (4, [some (.ref 62), some (.int (nI w)), some (.int 1), some (.int (nI w))], [], qS sw gc I J) (q_hn _ _ _ _) rfl ?_
  exact r_may_loop 6 w true (by omega) (by omega)
theorem r_face0 {d : Nat} {sw : Bool} {gc : Nat} {I : Nat → Nat → Int32} {J : Nat → Nat → Int64} {a b : Nat} (ha : a < 5) (hb : b < 6) : GM (d + 2) 120 [.ref 62, .int (nI a), .int (nI b), .int 0] (qS sw gc I J) (some (.int (I 70 (6 * a + b)))) (qS sw gc I J) := by
  refine GM_of (by decide) (Nat.le_refl _) (Nat.le_of_ble_eq_true rfl) trivial ?_
  refine G_st (L := 89) (k := 0) (0, [some (.ref 62), some (.int (nI a)), some (.int (nI b)), some (.int 0), none], [], qS sw gc I J) (q_hn _ _ _ _) rfl ?_
  refine G_st (L := 89) (k := 2) (2, [some (.ref 62), some (.int (nI a)), some (.int (nI b)), some (.int 0), none], [.int (nI b), .int (nI a)], qS sw gc I J) (q_hn _ _ _ _) rfl ?_
  refine G_callS (as := [.int (nI a), .int (nI b)]) (rest := []) rfl rfl rfl (Nat.le_of_ble_eq_true rfl) (r_isFace ha hb) (Nat.le_refl _) ?_
  refine G_st (L := 89) (k := 0) (5, [some (.ref 62), some (.int (nI a)), some (.int (nI b)), some (.int 0), none], [.int 1], qS sw gc I J) (q_hn _ _ _ _) rfl ?_
  refine G_if_eq 20 rfl rfl (fun h9 => absurd h9 (by decide)) (fun _ => ?_)
  refine G_st (L := 89) (k := 4) (14, [some (.ref 62), some (.int (nI a)), some (.int (nI b)), some (.int 0), none], [.long 4, .long 0, .long 0], qS sw gc I J) (q_hn _ _ _ _) rfl ?_
  refine G_callS (as := [.long 0, .long 0, .long 4]) (rest := []) rfl rfl rfl (Nat.le_of_ble_eq_true rfl) (GM_r (r2 := 1) (m_in _ _ _) (by decide)) (Nat.le_refl _) ?_
  refine G_st (L := 89) (k := 0) (17, [some (.ref 62), some (.int (nI a)), some (.int (nI b)), some (.int 0), none], [.int 1], qS sw gc I J) (q_hn _ _ _ _) rfl ?_
  refine G_if_ne 22 rfl rfl (fun _ => ?_) (fun h9 => absurd h9 (by decide))
  refine G_st (L := 89) (k := 7) (31, [some (.ref 62), some (.int (nI a)), some (.int (nI b)), some (.int 0), some (.int ((6 * (nI a)) + (nI b)))], [.int 0], qS sw gc I J) (q_hn _ _ _ _) rfl ?_
  rw [show (6 * (nI a)) + (nI b) = nI (6 * a + b) from (q_addP (q_mulP rfl rfl) rfl)]
  refine G_if_ne 44 rfl rfl (fun h9 => absurd h9 (by decide)) (fun _ => ?_)
  refine G_st (L := 89) (k := 3) (40, [some (.ref 62), some (.int (nI a)), some (.int (nI b)), some (.int 0), some (.int (nI (6 * a + b)))], [.int (nI (6 * a + b)), .ref 70], qS sw gc I J) (q_hn _ _ _ _) rfl ?_
  refine G_iald (i := 70) (n := 30) rfl rfl (q_lt (by decide)) (vp_in_nI (by omega) (by decide)) ?_
  rw [q_clamp (n := 6 * a + b) (by omega)]
  refine G_st (L := 89) (k := 1) (111, [some (.ref 62), some (.int (nI a)), some (.int (nI b)), some (.int 0), some (.int (nI (6 * a + b)))], [.int (I 70 (6 * a + b))], qS sw gc I J) (q_hn _ _ _ _) rfl ?_
  exact G_iret rfl rfl rfl rfl
theorem r_face1 {d : Nat} {sw : Bool} {gc : Nat} {I : Nat → Nat → Int32} {J : Nat → Nat → Int64} {a b : Nat} (ha : a < 5) (hb : b < 6) : GM (d + 2) 120 [.ref 62, .int (nI a), .int (nI b), .int 1] (qS sw gc I J) (some (.int (I 71 (6 * a + b)))) (qS sw gc I J) := by
  refine GM_of (by decide) (Nat.le_refl _) (Nat.le_of_ble_eq_true rfl) trivial ?_
  refine G_st (L := 89) (k := 0) (0, [some (.ref 62), some (.int (nI a)), some (.int (nI b)), some (.int 1), none], [], qS sw gc I J) (q_hn _ _ _ _) rfl ?_
  refine G_st (L := 89) (k := 2) (2, [some (.ref 62), some (.int (nI a)), some (.int (nI b)), some (.int 1), none], [.int (nI b), .int (nI a)], qS sw gc I J) (q_hn _ _ _ _) rfl ?_
  refine G_callS (as := [.int (nI a), .int (nI b)]) (rest := []) rfl rfl rfl (Nat.le_of_ble_eq_true rfl) (r_isFace ha hb) (Nat.le_refl _) ?_
  refine G_st (L := 89) (k := 0) (5, [some (.ref 62), some (.int (nI a)), some (.int (nI b)), some (.int 1), none], [.int 1], qS sw gc I J) (q_hn _ _ _ _) rfl ?_
  refine G_if_eq 20 rfl rfl (fun h9 => absurd h9 (by decide)) (fun _ => ?_)
  refine G_st (L := 89) (k := 4) (14, [some (.ref 62), some (.int (nI a)), some (.int (nI b)), some (.int 1), none], [.long 4, .long 0, .long 1], qS sw gc I J) (q_hn _ _ _ _) rfl ?_
  refine G_callS (as := [.long 1, .long 0, .long 4]) (rest := []) rfl rfl rfl (Nat.le_of_ble_eq_true rfl) (GM_r (r2 := 1) (m_in _ _ _) (by decide)) (Nat.le_refl _) ?_
  refine G_st (L := 89) (k := 0) (17, [some (.ref 62), some (.int (nI a)), some (.int (nI b)), some (.int 1), none], [.int 1], qS sw gc I J) (q_hn _ _ _ _) rfl ?_
  refine G_if_ne 22 rfl rfl (fun _ => ?_) (fun h9 => absurd h9 (by decide))
  refine G_st (L := 89) (k := 7) (31, [some (.ref 62), some (.int (nI a)), some (.int (nI b)), some (.int 1), some (.int ((6 * (nI a)) + (nI b)))], [.int 1], qS sw gc I J) (q_hn _ _ _ _) rfl ?_
  rw [show (6 * (nI a)) + (nI b) = nI (6 * a + b) from (q_addP (q_mulP rfl rfl) rfl)]
  refine G_if_ne 44 rfl rfl (fun _ => ?_) (fun h9 => absurd h9 (by decide))
  refine G_st (L := 89) (k := 2) (46, [some (.ref 62), some (.int (nI a)), some (.int (nI b)), some (.int 1), some (.int (nI (6 * a + b)))], [.int 1, .int 1], qS sw gc I J) (q_hn _ _ _ _) rfl ?_
  refine G_icmp_ne 59 rfl rfl (fun h9 => absurd h9 (by decide)) (fun _ => ?_)
  refine G_st (L := 89) (k := 3) (55, [some (.ref 62), some (.int (nI a)), some (.int (nI b)), some (.int 1), some (.int (nI (6 * a + b)))], [.int (nI (6 * a + b)), .ref 71], qS sw gc I J) (q_hn _ _ _ _) rfl ?_
  refine G_iald (i := 71) (n := 30) rfl rfl (q_lt (by decide)) (vp_in_nI (by omega) (by decide)) ?_
  rw [q_clamp (n := 6 * a + b) (by omega)]
  refine G_st (L := 89) (k := 1) (111, [some (.ref 62), some (.int (nI a)), some (.int (nI b)), some (.int 1), some (.int (nI (6 * a + b)))], [.int (I 71 (6 * a + b))], qS sw gc I J) (q_hn _ _ _ _) rfl ?_
  exact G_iret rfl rfl rfl rfl
theorem r_face2 {d : Nat} {sw : Bool} {gc : Nat} {I : Nat → Nat → Int32} {J : Nat → Nat → Int64} {a b : Nat} (ha : a < 5) (hb : b < 6) : GM (d + 2) 120 [.ref 62, .int (nI a), .int (nI b), .int 2] (qS sw gc I J) (some (.int (q_b (r_ls I (6 * a + b))))) (qS sw gc I J) := by
  refine GM_of (by decide) (Nat.le_refl _) (Nat.le_of_ble_eq_true rfl) trivial ?_
  refine G_st (L := 89) (k := 0) (0, [some (.ref 62), some (.int (nI a)), some (.int (nI b)), some (.int 2), none], [], qS sw gc I J) (q_hn _ _ _ _) rfl ?_
  refine G_st (L := 89) (k := 2) (2, [some (.ref 62), some (.int (nI a)), some (.int (nI b)), some (.int 2), none], [.int (nI b), .int (nI a)], qS sw gc I J) (q_hn _ _ _ _) rfl ?_
  refine G_callS (as := [.int (nI a), .int (nI b)]) (rest := []) rfl rfl rfl (Nat.le_of_ble_eq_true rfl) (r_isFace ha hb) (Nat.le_refl _) ?_
  refine G_st (L := 89) (k := 0) (5, [some (.ref 62), some (.int (nI a)), some (.int (nI b)), some (.int 2), none], [.int 1], qS sw gc I J) (q_hn _ _ _ _) rfl ?_
  refine G_if_eq 20 rfl rfl (fun h9 => absurd h9 (by decide)) (fun _ => ?_)
  refine G_st (L := 89) (k := 4) (14, [some (.ref 62), some (.int (nI a)), some (.int (nI b)), some (.int 2), none], [.long 4, .long 0, .long 2], qS sw gc I J) (q_hn _ _ _ _) rfl ?_
  refine G_callS (as := [.long 2, .long 0, .long 4]) (rest := []) rfl rfl rfl (Nat.le_of_ble_eq_true rfl) (GM_r (r2 := 1) (m_in _ _ _) (by decide)) (Nat.le_refl _) ?_
  refine G_st (L := 89) (k := 0) (17, [some (.ref 62), some (.int (nI a)), some (.int (nI b)), some (.int 2), none], [.int 1], qS sw gc I J) (q_hn _ _ _ _) rfl ?_
  refine G_if_ne 22 rfl rfl (fun _ => ?_) (fun h9 => absurd h9 (by decide))
  refine G_st (L := 89) (k := 7) (31, [some (.ref 62), some (.int (nI a)), some (.int (nI b)), some (.int 2), some (.int ((6 * (nI a)) + (nI b)))], [.int 2], qS sw gc I J) (q_hn _ _ _ _) rfl ?_
  rw [show (6 * (nI a)) + (nI b) = nI (6 * a + b) from (q_addP (q_mulP rfl rfl) rfl)]
  refine G_if_ne 44 rfl rfl (fun _ => ?_) (fun h9 => absurd h9 (by decide))
  refine G_st (L := 89) (k := 2) (46, [some (.ref 62), some (.int (nI a)), some (.int (nI b)), some (.int 2), some (.int (nI (6 * a + b)))], [.int 1, .int 2], qS sw gc I J) (q_hn _ _ _ _) rfl ?_
  refine G_icmp_ne 59 rfl rfl (fun _ => ?_) (fun h9 => absurd h9 (by decide))
  refine G_st (L := 89) (k := 2) (61, [some (.ref 62), some (.int (nI a)), some (.int (nI b)), some (.int 2), some (.int (nI (6 * a + b)))], [.int 2, .int 2], qS sw gc I J) (q_hn _ _ _ _) rfl ?_
  refine G_icmp_ne 82 rfl rfl (fun h9 => absurd h9 (by decide)) (fun _ => ?_)
  refine G_st (L := 89) (k := 3) (70, [some (.ref 62), some (.int (nI a)), some (.int (nI b)), some (.int 2), some (.int (nI (6 * a + b)))], [.int (nI (6 * a + b)), .ref 72], qS sw gc I J) (q_hn _ _ _ _) rfl ?_
  refine G_zald (i := 72) (n := 30) rfl rfl (q_lt (by decide)) (vp_in_nI (by omega) (by decide)) ?_
  rw [q_clamp (n := 6 * a + b) (by omega)]
  refine G_st (L := 89) (k := 0) (71, [some (.ref 62), some (.int (nI a)), some (.int (nI b)), some (.int 2), some (.int (nI (6 * a + b)))], [.int (I 72 (6 * a + b))], qS sw gc I J) (q_hn _ _ _ _) rfl ?_
  refine G_if_eq 78 rfl rfl (fun h1 => ?_) (fun h1 => ?_)
  · skip
    refine G_st (L := 89) (k := 2) (111, [some (.ref 62), some (.int (nI a)), some (.int (nI b)), some (.int 2), some (.int (nI (6 * a + b)))], [.int 0], qS sw gc I J) (q_hn _ _ _ _) rfl ?_
    exact G_iret rfl rfl (by rw [r_ls, decide_eq_true h1]; rfl) rfl
  · skip
    refine G_st (L := 89) (k := 2) (111, [some (.ref 62), some (.int (nI a)), some (.int (nI b)), some (.int 2), some (.int (nI (6 * a + b)))], [.int 1], qS sw gc I J) (q_hn _ _ _ _) rfl ?_
    exact G_iret rfl rfl (by rw [r_ls, decide_eq_false h1]; rfl) rfl
theorem r_face3 {d : Nat} {sw : Bool} {gc : Nat} {I : Nat → Nat → Int32} {J : Nat → Nat → Int64} {a b : Nat} (ha : a < 5) (hb : b < 6) : GM (d + 2) 120 [.ref 62, .int (nI a), .int (nI b), .int 3] (qS sw gc I J) (some (.int (q_b (r_may I (6 * a + b))))) (qS sw gc I J) := by
  refine GM_of (by decide) (Nat.le_refl _) (Nat.le_of_ble_eq_true rfl) trivial ?_
  refine G_st (L := 89) (k := 0) (0, [some (.ref 62), some (.int (nI a)), some (.int (nI b)), some (.int 3), none], [], qS sw gc I J) (q_hn _ _ _ _) rfl ?_
  refine G_st (L := 89) (k := 2) (2, [some (.ref 62), some (.int (nI a)), some (.int (nI b)), some (.int 3), none], [.int (nI b), .int (nI a)], qS sw gc I J) (q_hn _ _ _ _) rfl ?_
  refine G_callS (as := [.int (nI a), .int (nI b)]) (rest := []) rfl rfl rfl (Nat.le_of_ble_eq_true rfl) (r_isFace ha hb) (Nat.le_refl _) ?_
  refine G_st (L := 89) (k := 0) (5, [some (.ref 62), some (.int (nI a)), some (.int (nI b)), some (.int 3), none], [.int 1], qS sw gc I J) (q_hn _ _ _ _) rfl ?_
  refine G_if_eq 20 rfl rfl (fun h9 => absurd h9 (by decide)) (fun _ => ?_)
  refine G_st (L := 89) (k := 4) (14, [some (.ref 62), some (.int (nI a)), some (.int (nI b)), some (.int 3), none], [.long 4, .long 0, .long 3], qS sw gc I J) (q_hn _ _ _ _) rfl ?_
  refine G_callS (as := [.long 3, .long 0, .long 4]) (rest := []) rfl rfl rfl (Nat.le_of_ble_eq_true rfl) (GM_r (r2 := 1) (m_in _ _ _) (by decide)) (Nat.le_refl _) ?_
  refine G_st (L := 89) (k := 0) (17, [some (.ref 62), some (.int (nI a)), some (.int (nI b)), some (.int 3), none], [.int 1], qS sw gc I J) (q_hn _ _ _ _) rfl ?_
  refine G_if_ne 22 rfl rfl (fun _ => ?_) (fun h9 => absurd h9 (by decide))
  refine G_st (L := 89) (k := 7) (31, [some (.ref 62), some (.int (nI a)), some (.int (nI b)), some (.int 3), some (.int ((6 * (nI a)) + (nI b)))], [.int 3], qS sw gc I J) (q_hn _ _ _ _) rfl ?_
  rw [show (6 * (nI a)) + (nI b) = nI (6 * a + b) from (q_addP (q_mulP rfl rfl) rfl)]
  refine G_if_ne 44 rfl rfl (fun _ => ?_) (fun h9 => absurd h9 (by decide))
  refine G_st (L := 89) (k := 2) (46, [some (.ref 62), some (.int (nI a)), some (.int (nI b)), some (.int 3), some (.int (nI (6 * a + b)))], [.int 1, .int 3], qS sw gc I J) (q_hn _ _ _ _) rfl ?_
  refine G_icmp_ne 59 rfl rfl (fun _ => ?_) (fun h9 => absurd h9 (by decide))
  refine G_st (L := 89) (k := 2) (61, [some (.ref 62), some (.int (nI a)), some (.int (nI b)), some (.int 3), some (.int (nI (6 * a + b)))], [.int 2, .int 3], qS sw gc I J) (q_hn _ _ _ _) rfl ?_
  refine G_icmp_ne 82 rfl rfl (fun _ => ?_) (fun h9 => absurd h9 (by decide))
  refine G_st (L := 89) (k := 2) (84, [some (.ref 62), some (.int (nI a)), some (.int (nI b)), some (.int 3), some (.int (nI (6 * a + b)))], [.int 3, .int 3], qS sw gc I J) (q_hn _ _ _ _) rfl ?_
  refine G_icmp_ne 104 rfl rfl (fun h9 => absurd h9 (by decide)) (fun _ => ?_)
  refine G_st (L := 89) (k := 2) (90, [some (.ref 62), some (.int (nI a)), some (.int (nI b)), some (.int 3), some (.int (nI (6 * a + b)))], [.int (nI (6 * a + b)), .ref 62], qS sw gc I J) (q_hn _ _ _ _) rfl ?_
  refine G_callV (b := 62) (ci := 9) (as := [.int (nI (6 * a + b))]) (rest := []) rfl rfl rfl (q_lt (by decide)) (by decide) rfl rfl (Nat.le_of_ble_eq_true rfl) (r_mayBeWorked (by omega)) (Nat.le_refl _) ?_
  refine G_st (L := 89) (k := 0) (93, [some (.ref 62), some (.int (nI a)), some (.int (nI b)), some (.int 3), some (.int (nI (6 * a + b)))], [.int (q_b (r_may I (6 * a + b)))], qS sw gc I J) (q_hn _ _ _ _) rfl ?_
  refine G_if_eq 100 rfl rfl (fun h1 => ?_) (fun h1 => ?_)
  · skip
    refine G_st (L := 89) (k := 2) (111, [some (.ref 62), some (.int (nI a)), some (.int (nI b)), some (.int 3), some (.int (nI (6 * a + b)))], [.int 0], qS sw gc I J) (q_hn _ _ _ _) rfl ?_
    exact G_iret rfl rfl (by rw [q_b0.mp h1]; rfl) rfl
  · skip
    refine G_st (L := 89) (k := 2) (111, [some (.ref 62), some (.int (nI a)), some (.int (nI b)), some (.int 3), some (.int (nI (6 * a + b)))], [.int 1], qS sw gc I J) (q_hn _ _ _ _) rfl ?_
    exact G_iret rfl rfl (by rw [q_b1 h1]; rfl) rfl
theorem r_face4 {d : Nat} {sw : Bool} {gc : Nat} {I : Nat → Nat → Int32} {J : Nat → Nat → Int64} {a b : Nat} (ha : a < 5) (hb : b < 6) : GM (d + 2) 120 [.ref 62, .int (nI a), .int (nI b), .int 4] (qS sw gc I J) (some (.int (I 73 (6 * a + b)))) (qS sw gc I J) := by
  refine GM_of (by decide) (Nat.le_refl _) (Nat.le_of_ble_eq_true rfl) trivial ?_
  refine G_st (L := 89) (k := 0) (0, [some (.ref 62), some (.int (nI a)), some (.int (nI b)), some (.int 4), none], [], qS sw gc I J) (q_hn _ _ _ _) rfl ?_
  refine G_st (L := 89) (k := 2) (2, [some (.ref 62), some (.int (nI a)), some (.int (nI b)), some (.int 4), none], [.int (nI b), .int (nI a)], qS sw gc I J) (q_hn _ _ _ _) rfl ?_
  refine G_callS (as := [.int (nI a), .int (nI b)]) (rest := []) rfl rfl rfl (Nat.le_of_ble_eq_true rfl) (r_isFace ha hb) (Nat.le_refl _) ?_
  refine G_st (L := 89) (k := 0) (5, [some (.ref 62), some (.int (nI a)), some (.int (nI b)), some (.int 4), none], [.int 1], qS sw gc I J) (q_hn _ _ _ _) rfl ?_
  refine G_if_eq 20 rfl rfl (fun h9 => absurd h9 (by decide)) (fun _ => ?_)
  refine G_st (L := 89) (k := 4) (14, [some (.ref 62), some (.int (nI a)), some (.int (nI b)), some (.int 4), none], [.long 4, .long 0, .long 4], qS sw gc I J) (q_hn _ _ _ _) rfl ?_
  refine G_callS (as := [.long 4, .long 0, .long 4]) (rest := []) rfl rfl rfl (Nat.le_of_ble_eq_true rfl) (GM_r (r2 := 1) (m_in _ _ _) (by decide)) (Nat.le_refl _) ?_
  refine G_st (L := 89) (k := 0) (17, [some (.ref 62), some (.int (nI a)), some (.int (nI b)), some (.int 4), none], [.int 1], qS sw gc I J) (q_hn _ _ _ _) rfl ?_
  refine G_if_ne 22 rfl rfl (fun _ => ?_) (fun h9 => absurd h9 (by decide))
  refine G_st (L := 89) (k := 7) (31, [some (.ref 62), some (.int (nI a)), some (.int (nI b)), some (.int 4), some (.int ((6 * (nI a)) + (nI b)))], [.int 4], qS sw gc I J) (q_hn _ _ _ _) rfl ?_
  rw [show (6 * (nI a)) + (nI b) = nI (6 * a + b) from (q_addP (q_mulP rfl rfl) rfl)]
  refine G_if_ne 44 rfl rfl (fun _ => ?_) (fun h9 => absurd h9 (by decide))
  refine G_st (L := 89) (k := 2) (46, [some (.ref 62), some (.int (nI a)), some (.int (nI b)), some (.int 4), some (.int (nI (6 * a + b)))], [.int 1, .int 4], qS sw gc I J) (q_hn _ _ _ _) rfl ?_
  refine G_icmp_ne 59 rfl rfl (fun _ => ?_) (fun h9 => absurd h9 (by decide))
  refine G_st (L := 89) (k := 2) (61, [some (.ref 62), some (.int (nI a)), some (.int (nI b)), some (.int 4), some (.int (nI (6 * a + b)))], [.int 2, .int 4], qS sw gc I J) (q_hn _ _ _ _) rfl ?_
  refine G_icmp_ne 82 rfl rfl (fun _ => ?_) (fun h9 => absurd h9 (by decide))
  refine G_st (L := 89) (k := 2) (84, [some (.ref 62), some (.int (nI a)), some (.int (nI b)), some (.int 4), some (.int (nI (6 * a + b)))], [.int 3, .int 4], qS sw gc I J) (q_hn _ _ _ _) rfl ?_
  refine G_icmp_ne 104 rfl rfl (fun _ => ?_) (fun h9 => absurd h9 (by decide))
  refine G_st (L := 89) (k := 3) (110, [some (.ref 62), some (.int (nI a)), some (.int (nI b)), some (.int 4), some (.int (nI (6 * a + b)))], [.int (nI (6 * a + b)), .ref 73], qS sw gc I J) (q_hn _ _ _ _) rfl ?_
  refine G_iald (i := 73) (n := 30) rfl rfl (q_lt (by decide)) (vp_in_nI (by omega) (by decide)) ?_
  rw [q_clamp (n := 6 * a + b) (by omega)]
  refine G_st (L := 89) (k := 0) (111, [some (.ref 62), some (.int (nI a)), some (.int (nI b)), some (.int 4), some (.int (nI (6 * a + b)))], [.int (I 73 (6 * a + b))], qS sw gc I J) (q_hn _ _ _ _) rfl ?_
  exact G_iret rfl rfl rfl rfl
theorem r_faceQ {d : Nat} {sw : Bool} {gc : Nat} {I : Nat → Nat → Int32} {J : Nat → Nat → Int64} {a b : Nat} (ha : a < 5) (hb : b < 6) {q : Int32} (hq : f_i3 q 0 4 = 0) : GM (d + 2) 120 [.ref 62, .int (nI a), .int (nI b), .int q] (qS sw gc I J) (some (.int (-1))) (qS sw gc I J) := by
  refine GM_of (by decide) (Nat.le_refl _) (Nat.le_of_ble_eq_true rfl) trivial ?_
  refine G_st (L := 89) (k := 0) (0, [some (.ref 62), some (.int (nI a)), some (.int (nI b)), some (.int q), none], [], qS sw gc I J) (q_hn _ _ _ _) rfl ?_
  refine G_st (L := 89) (k := 2) (2, [some (.ref 62), some (.int (nI a)), some (.int (nI b)), some (.int q), none], [.int (nI b), .int (nI a)], qS sw gc I J) (q_hn _ _ _ _) rfl ?_
  refine G_callS (as := [.int (nI a), .int (nI b)]) (rest := []) rfl rfl rfl (Nat.le_of_ble_eq_true rfl) (r_isFace ha hb) (Nat.le_refl _) ?_
  refine G_st (L := 89) (k := 0) (5, [some (.ref 62), some (.int (nI a)), some (.int (nI b)), some (.int q), none], [.int 1], qS sw gc I J) (q_hn _ _ _ _) rfl ?_
  refine G_if_eq 20 rfl rfl (fun h9 => absurd h9 (by decide)) (fun _ => ?_)
  refine G_st (L := 89) (k := 4) (14, [some (.ref 62), some (.int (nI a)), some (.int (nI b)), some (.int q), none], [.long 4, .long 0, .long (Int32.toInt64 q)], qS sw gc I J) (q_hn _ _ _ _) rfl ?_
  refine G_callS (as := [.long (Int32.toInt64 q), .long 0, .long 4]) (rest := []) rfl rfl rfl (Nat.le_of_ble_eq_true rfl) (r_in (lo := 0) (hi := 4) rfl rfl) (Nat.le_refl _) ?_
  refine G_st (L := 89) (k := 0) (17, [some (.ref 62), some (.int (nI a)), some (.int (nI b)), some (.int q), none], [.int (f_i3 q 0 4)], qS sw gc I J) (q_hn _ _ _ _) rfl ?_
  refine G_if_ne 22 rfl rfl (fun h9 => absurd hq h9) (fun _ => ?_)
  refine G_st (L := 89) (k := 1) (21, [some (.ref 62), some (.int (nI a)), some (.int (nI b)), some (.int q), none], [.int (-1)], qS sw gc I J) (q_hn _ _ _ _) rfl ?_
  exact G_iret rfl rfl rfl rfl
theorem r_faceF {d : Nat} {sw : Bool} {gc : Nat} {I : Nat → Nat → Int32} {J : Nat → Nat → Int64} {g c : Int32} (hbad : g < 0 ∨ nI 5 ≤ g ∨ c < 0 ∨ nI 6 ≤ c) {q : Int32} : GM (d + 2) 120 [.ref 62, .int g, .int c, .int q] (qS sw gc I J) (some (.int (-1))) (qS sw gc I J) := by
  refine GM_of (by decide) (Nat.le_refl _) (Nat.le_of_ble_eq_true rfl) trivial ?_
  refine G_st (L := 89) (k := 0) (0, [some (.ref 62), some (.int g), some (.int c), some (.int q), none], [], qS sw gc I J) (q_hn _ _ _ _) rfl ?_
  refine G_st (L := 89) (k := 2) (2, [some (.ref 62), some (.int g), some (.int c), some (.int q), none], [.int c, .int g], qS sw gc I J) (q_hn _ _ _ _) rfl ?_
  refine G_callS (as := [.int g, .int c]) (rest := []) rfl rfl rfl (Nat.le_of_ble_eq_true rfl) (r_isFaceB hbad) (Nat.le_refl _) ?_
  refine G_st (L := 89) (k := 0) (5, [some (.ref 62), some (.int g), some (.int c), some (.int q), none], [.int 0], qS sw gc I J) (q_hn _ _ _ _) rfl ?_
  refine G_if_eq 20 rfl rfl (fun _ => ?_) (fun h9 => absurd h9 (by decide))
  refine G_st (L := 89) (k := 1) (21, [some (.ref 62), some (.int g), some (.int c), some (.int q), none], [.int (-1)], qS sw gc I J) (q_hn _ _ _ _) rfl ?_
  exact G_iret rfl rfl rfl rfl
theorem r_clear {d : Nat} {sw : Bool} {gc : Nat} {I : Nat → Nat → Int32} {J : Nat → Nat → Int64} {a b : Nat} (ha : a < 5) (hb : b < 6) (hmg : I 62 20 = nI gc) (hg : gc ≤ 8) {k : Nat} (hk : k < gc) (hlo : ¬ I 72 (6 * a + b) = 0) : GM (d + 2) 121 [.ref 62, .int (nI a), .int (nI b), .int (nI k)] (qS sw gc I J) (some (.int 1)) (qS sw gc (q_u (q_u I 72 (6 * a + b) 0) 75 k ((I 75 k) + (20 * (I 74 k)))) J) := by
  refine GM_of (by decide) (Nat.le_refl _) (Nat.le_of_ble_eq_true rfl) trivial ?_
  refine G_st (L := 89) (k := 0) (0, [some (.ref 62), some (.int (nI a)), some (.int (nI b)), some (.int (nI k))], [], qS sw gc I J) (q_hn _ _ _ _) rfl ?_
  refine G_st (L := 89) (k := 2) (2, [some (.ref 62), some (.int (nI a)), some (.int (nI b)), some (.int (nI k))], [.int (nI b), .int (nI a)], qS sw gc I J) (q_hn _ _ _ _) rfl ?_
  refine G_callS (as := [.int (nI a), .int (nI b)]) (rest := []) rfl rfl rfl (Nat.le_of_ble_eq_true rfl) (r_isFace ha hb) (Nat.le_refl _) ?_
  refine G_st (L := 89) (k := 0) (5, [some (.ref 62), some (.int (nI a)), some (.int (nI b)), some (.int (nI k))], [.int 1], qS sw gc I J) (q_hn _ _ _ _) rfl ?_
  refine G_if_eq 16 rfl rfl (fun h9 => absurd h9 (by decide)) (fun _ => ?_)
  refine G_st (L := 89) (k := 2) (10, [some (.ref 62), some (.int (nI a)), some (.int (nI b)), some (.int (nI k))], [.int (nI k), .ref 62], qS sw gc I J) (q_hn _ _ _ _) rfl ?_
  refine G_callV (b := 62) (ci := 9) (as := [.int (nI k)]) (rest := []) rfl rfl rfl (q_lt (by decide)) (by decide) rfl rfl (Nat.le_of_ble_eq_true rfl) (r_isGang hmg hg (k := k) (by omega)) (Nat.le_refl _) ?_
  refine G_st (L := 89) (k := 0) (13, [some (.ref 62), some (.int (nI a)), some (.int (nI b)), some (.int (nI k))], [.int 1], qS sw gc I J) (q_hn _ _ _ _) rfl ?_
  refine G_if_ne 18 rfl rfl (fun _ => ?_) (fun h9 => absurd h9 (by decide))
  refine G_st (L := 89) (k := 7) (28, [some (.ref 62), some (.int (nI a)), some (.int (nI b)), some (.int (nI k))], [.int ((6 * (nI a)) + (nI b)), .ref 72], qS sw gc I J) (q_hn _ _ _ _) rfl ?_
  rw [show (6 * (nI a)) + (nI b) = nI (6 * a + b) from (q_addP (q_mulP rfl rfl) rfl)]
  refine G_zald (i := 72) (n := 30) rfl rfl (q_lt (by decide)) (vp_in_nI (by omega) (by decide)) ?_
  rw [q_clamp (n := 6 * a + b) (by omega)]
  refine G_st (L := 89) (k := 0) (29, [some (.ref 62), some (.int (nI a)), some (.int (nI b)), some (.int (nI k))], [.int (I 72 (6 * a + b))], qS sw gc I J) (q_hn _ _ _ _) rfl ?_
  refine G_if_ne 35 rfl rfl (fun _ => ?_) (fun h9 => absurd h9 hlo)
  refine G_st (L := 89) (k := 8) (46, [some (.ref 62), some (.int (nI a)), some (.int (nI b)), some (.int (nI k))], [.int 0, .int ((6 * (nI a)) + (nI b)), .ref 72], qS sw gc I J) (q_hn _ _ _ _) rfl ?_
  rw [show (6 * (nI a)) + (nI b) = nI (6 * a + b) from (q_addP (q_mulP rfl rfl) rfl)]
  refine G_zast (i := 72) (n := 30) rfl rfl (q_lt (by decide)) (vp_in_nI (by omega) (by decide)) ?_
  rw [q_clamp (n := 6 * a + b) (by omega)]
  refine G_st (L := 89) (k := 4) (53, [some (.ref 62), some (.int (nI a)), some (.int (nI b)), some (.int (nI k))], [.int (nI k), .ref 75, .int (nI k), .ref 75], qS sw gc (q_u I 72 (6 * a + b) 0) J) (q_hn _ _ _ _) rfl ?_
  refine G_iald (i := 75) (n := 8) rfl rfl (q_lt (by decide)) (vp_in_nI (by omega) (by decide)) ?_
  rw [q_clamp (n := k) (by omega)]
  rw [show q_i (qS sw gc (q_u I 72 (6 * a + b) 0) J) 75 k = I 75 k from (show (q_u I 72 (6 * a + b) 0) 75 k = I 75 k from q_un _ _ (by omega))]
  refine G_st (L := 89) (k := 4) (61, [some (.ref 62), some (.int (nI a)), some (.int (nI b)), some (.int (nI k))], [.int (nI k), .ref 74, .int 20, .int (I 75 k), .int (nI k), .ref 75], qS sw gc (q_u I 72 (6 * a + b) 0) J) (q_hn _ _ _ _) rfl ?_
  refine G_iald (i := 74) (n := 8) rfl rfl (q_lt (by decide)) (vp_in_nI (by omega) (by decide)) ?_
  rw [q_clamp (n := k) (by omega)]
  rw [show q_i (qS sw gc (q_u I 72 (6 * a + b) 0) J) 74 k = I 74 k from (show (q_u I 72 (6 * a + b) 0) 74 k = I 74 k from q_un _ _ (by omega))]
  refine G_st (L := 89) (k := 2) (64, [some (.ref 62), some (.int (nI a)), some (.int (nI b)), some (.int (nI k))], [.int ((I 75 k) + (20 * (I 74 k))), .int (nI k), .ref 75], qS sw gc (q_u I 72 (6 * a + b) 0) J) (q_hn _ _ _ _) rfl ?_
  refine G_iast (i := 75) (n := 8) rfl rfl (q_lt (by decide)) (vp_in_nI (by omega) (by decide)) ?_
  rw [q_clamp (n := k) (by omega)]
  refine G_st (L := 89) (k := 1) (66, [some (.ref 62), some (.int (nI a)), some (.int (nI b)), some (.int (nI k))], [.int 1], qS sw gc (q_u (q_u I 72 (6 * a + b) 0) 75 k ((I 75 k) + (20 * (I 74 k)))) J) (q_hn _ _ _ _) rfl ?_
  exact G_iret rfl rfl rfl rfl
theorem r_clearS {d : Nat} {sw : Bool} {gc : Nat} {I : Nat → Nat → Int32} {J : Nat → Nat → Int64} {a b : Nat} (ha : a < 5) (hb : b < 6) (hmg : I 62 20 = nI gc) (hg : gc ≤ 8) {k : Nat} (hk : k < gc) (hlo : I 72 (6 * a + b) = 0) : GM (d + 2) 121 [.ref 62, .int (nI a), .int (nI b), .int (nI k)] (qS sw gc I J) (some (.int (-2))) (qS sw gc I J) := by
  refine GM_of (by decide) (Nat.le_refl _) (Nat.le_of_ble_eq_true rfl) trivial ?_
  refine G_st (L := 89) (k := 0) (0, [some (.ref 62), some (.int (nI a)), some (.int (nI b)), some (.int (nI k))], [], qS sw gc I J) (q_hn _ _ _ _) rfl ?_
  refine G_st (L := 89) (k := 2) (2, [some (.ref 62), some (.int (nI a)), some (.int (nI b)), some (.int (nI k))], [.int (nI b), .int (nI a)], qS sw gc I J) (q_hn _ _ _ _) rfl ?_
  refine G_callS (as := [.int (nI a), .int (nI b)]) (rest := []) rfl rfl rfl (Nat.le_of_ble_eq_true rfl) (r_isFace ha hb) (Nat.le_refl _) ?_
  refine G_st (L := 89) (k := 0) (5, [some (.ref 62), some (.int (nI a)), some (.int (nI b)), some (.int (nI k))], [.int 1], qS sw gc I J) (q_hn _ _ _ _) rfl ?_
  refine G_if_eq 16 rfl rfl (fun h9 => absurd h9 (by decide)) (fun _ => ?_)
  refine G_st (L := 89) (k := 2) (10, [some (.ref 62), some (.int (nI a)), some (.int (nI b)), some (.int (nI k))], [.int (nI k), .ref 62], qS sw gc I J) (q_hn _ _ _ _) rfl ?_
  refine G_callV (b := 62) (ci := 9) (as := [.int (nI k)]) (rest := []) rfl rfl rfl (q_lt (by decide)) (by decide) rfl rfl (Nat.le_of_ble_eq_true rfl) (r_isGang hmg hg (k := k) (by omega)) (Nat.le_refl _) ?_
  refine G_st (L := 89) (k := 0) (13, [some (.ref 62), some (.int (nI a)), some (.int (nI b)), some (.int (nI k))], [.int 1], qS sw gc I J) (q_hn _ _ _ _) rfl ?_
  refine G_if_ne 18 rfl rfl (fun _ => ?_) (fun h9 => absurd h9 (by decide))
  refine G_st (L := 89) (k := 7) (28, [some (.ref 62), some (.int (nI a)), some (.int (nI b)), some (.int (nI k))], [.int ((6 * (nI a)) + (nI b)), .ref 72], qS sw gc I J) (q_hn _ _ _ _) rfl ?_
  rw [show (6 * (nI a)) + (nI b) = nI (6 * a + b) from (q_addP (q_mulP rfl rfl) rfl)]
  refine G_zald (i := 72) (n := 30) rfl rfl (q_lt (by decide)) (vp_in_nI (by omega) (by decide)) ?_
  rw [q_clamp (n := 6 * a + b) (by omega)]
  refine G_st (L := 89) (k := 0) (29, [some (.ref 62), some (.int (nI a)), some (.int (nI b)), some (.int (nI k))], [.int (I 72 (6 * a + b))], qS sw gc I J) (q_hn _ _ _ _) rfl ?_
  refine G_if_ne 35 rfl rfl (fun h9 => absurd hlo h9) (fun _ => ?_)
  refine G_st (L := 89) (k := 1) (34, [some (.ref 62), some (.int (nI a)), some (.int (nI b)), some (.int (nI k))], [.int (-2)], qS sw gc I J) (q_hn _ _ _ _) rfl ?_
  exact G_iret rfl rfl rfl rfl
theorem r_clearG {d : Nat} {sw : Bool} {gc : Nat} {I : Nat → Nat → Int32} {J : Nat → Nat → Int64} {a b : Nat} (ha : a < 5) (hb : b < 6) (hmg : I 62 20 = nI gc) (hg : gc ≤ 8) {x : Int32} (hx : Int32.toInt64 x < 0 ∨ lN gc ≤ Int32.toInt64 x) : GM (d + 2) 121 [.ref 62, .int (nI a), .int (nI b), .int x] (qS sw gc I J) (some (.int (-1))) (qS sw gc I J) := by
  refine GM_of (by decide) (Nat.le_refl _) (Nat.le_of_ble_eq_true rfl) trivial ?_
  refine G_st (L := 89) (k := 0) (0, [some (.ref 62), some (.int (nI a)), some (.int (nI b)), some (.int x)], [], qS sw gc I J) (q_hn _ _ _ _) rfl ?_
  refine G_st (L := 89) (k := 2) (2, [some (.ref 62), some (.int (nI a)), some (.int (nI b)), some (.int x)], [.int (nI b), .int (nI a)], qS sw gc I J) (q_hn _ _ _ _) rfl ?_
  refine G_callS (as := [.int (nI a), .int (nI b)]) (rest := []) rfl rfl rfl (Nat.le_of_ble_eq_true rfl) (r_isFace ha hb) (Nat.le_refl _) ?_
  refine G_st (L := 89) (k := 0) (5, [some (.ref 62), some (.int (nI a)), some (.int (nI b)), some (.int x)], [.int 1], qS sw gc I J) (q_hn _ _ _ _) rfl ?_
  refine G_if_eq 16 rfl rfl (fun h9 => absurd h9 (by decide)) (fun _ => ?_)
  refine G_st (L := 89) (k := 2) (10, [some (.ref 62), some (.int (nI a)), some (.int (nI b)), some (.int x)], [.int x, .ref 62], qS sw gc I J) (q_hn _ _ _ _) rfl ?_
  refine G_callV (b := 62) (ci := 9) (as := [.int x]) (rest := []) rfl rfl rfl (q_lt (by decide)) (by decide) rfl rfl (Nat.le_of_ble_eq_true rfl) (r_isGangB hmg hg hx) (Nat.le_refl _) ?_
  refine G_st (L := 89) (k := 0) (13, [some (.ref 62), some (.int (nI a)), some (.int (nI b)), some (.int x)], [.int 0], qS sw gc I J) (q_hn _ _ _ _) rfl ?_
  refine G_if_ne 18 rfl rfl (fun h9 => absurd h9 (by decide)) (fun _ => ?_)
  refine G_st (L := 89) (k := 1) (17, [some (.ref 62), some (.int (nI a)), some (.int (nI b)), some (.int x)], [.int (-1)], qS sw gc I J) (q_hn _ _ _ _) rfl ?_
  exact G_iret rfl rfl rfl rfl
theorem r_clearF {d : Nat} {sw : Bool} {gc : Nat} {I : Nat → Nat → Int32} {J : Nat → Nat → Int64} {g c : Int32} (hbad : g < 0 ∨ nI 5 ≤ g ∨ c < 0 ∨ nI 6 ≤ c) {x : Int32} : GM (d + 2) 121 [.ref 62, .int g, .int c, .int x] (qS sw gc I J) (some (.int (-1))) (qS sw gc I J) := by
  refine GM_of (by decide) (Nat.le_refl _) (Nat.le_of_ble_eq_true rfl) trivial ?_
  refine G_st (L := 89) (k := 0) (0, [some (.ref 62), some (.int g), some (.int c), some (.int x)], [], qS sw gc I J) (q_hn _ _ _ _) rfl ?_
  refine G_st (L := 89) (k := 2) (2, [some (.ref 62), some (.int g), some (.int c), some (.int x)], [.int c, .int g], qS sw gc I J) (q_hn _ _ _ _) rfl ?_
  refine G_callS (as := [.int g, .int c]) (rest := []) rfl rfl rfl (Nat.le_of_ble_eq_true rfl) (r_isFaceB hbad) (Nat.le_refl _) ?_
  refine G_st (L := 89) (k := 0) (5, [some (.ref 62), some (.int g), some (.int c), some (.int x)], [.int 0], qS sw gc I J) (q_hn _ _ _ _) rfl ?_
  refine G_if_eq 16 rfl rfl (fun _ => ?_) (fun h9 => absurd h9 (by decide))
  refine G_st (L := 89) (k := 1) (17, [some (.ref 62), some (.int g), some (.int c), some (.int x)], [.int (-1)], qS sw gc I J) (q_hn _ _ _ _) rfl ?_
  exact G_iret rfl rfl rfl rfl
theorem r_gangA {d : Nat} {sw : Bool} {gc : Nat} {I : Nat → Nat → Int32} {J : Nat → Nat → Int64} {v : Int32} (h : f_i3 v 1 6 = 0) : GM (d + 1) 122 [.ref 62, .int v] (qS sw gc I J) (some (.int (-1))) (qS sw gc I J) := by
  refine GM_of (by decide) (Nat.le_refl _) (Nat.le_of_ble_eq_true rfl) trivial ?_
  refine G_st (L := 89) (k := 0) (0, [some (.ref 62), some (.int v)], [], qS sw gc I J) (q_hn _ _ _ _) rfl ?_
  refine G_st (L := 89) (k := 4) (6, [some (.ref 62), some (.int v)], [.long 6, .long 1, .long (Int32.toInt64 v)], qS sw gc I J) (q_hn _ _ _ _) rfl ?_
  refine G_callS (as := [.long (Int32.toInt64 v), .long 1, .long 6]) (rest := []) rfl rfl rfl (Nat.le_of_ble_eq_true rfl) (r_in (lo := 1) (hi := 6) rfl rfl) (Nat.le_refl _) ?_
  refine G_st (L := 89) (k := 0) (9, [some (.ref 62), some (.int v)], [.int (f_i3 v 1 6)], qS sw gc I J) (q_hn _ _ _ _) rfl ?_
  refine G_if_ne 14 rfl rfl (fun h9 => absurd h h9) (fun _ => ?_)
  refine G_st (L := 89) (k := 1) (13, [some (.ref 62), some (.int v)], [.int (-1)], qS sw gc I J) (q_hn _ _ _ _) rfl ?_
  exact G_iret rfl rfl rfl rfl
theorem r_gangB {d : Nat} {sw : Bool} {gc : Nat} {I : Nat → Nat → Int32} {J : Nat → Nat → Int64} {v : Int32} (h : f_i3 v 1 6 = 1) (hn : I 62 20 = 8) : GM (d + 1) 122 [.ref 62, .int v] (qS sw gc I J) (some (.int (-3))) (qS sw gc I J) := by
  refine GM_of (by decide) (Nat.le_refl _) (Nat.le_of_ble_eq_true rfl) trivial ?_
  refine G_st (L := 89) (k := 0) (0, [some (.ref 62), some (.int v)], [], qS sw gc I J) (q_hn _ _ _ _) rfl ?_
  refine G_st (L := 89) (k := 4) (6, [some (.ref 62), some (.int v)], [.long 6, .long 1, .long (Int32.toInt64 v)], qS sw gc I J) (q_hn _ _ _ _) rfl ?_
  refine G_callS (as := [.long (Int32.toInt64 v), .long 1, .long 6]) (rest := []) rfl rfl rfl (Nat.le_of_ble_eq_true rfl) (r_in (lo := 1) (hi := 6) rfl rfl) (Nat.le_refl _) ?_
  refine G_st (L := 89) (k := 0) (9, [some (.ref 62), some (.int v)], [.int (f_i3 v 1 6)], qS sw gc I J) (q_hn _ _ _ _) rfl ?_
  refine G_if_ne 14 rfl rfl (fun _ => ?_) (fun h9 => absurd h9 (by rw [h]; decide))
  refine G_st (L := 89) (k := 3) (20, [some (.ref 62), some (.int v)], [.int 8, .int (I 62 20)], qS sw gc I J) (q_hn _ _ _ _) rfl ?_
  refine G_icmp_ne 26 rfl rfl (fun h9 => absurd hn h9) (fun _ => ?_)
  refine G_st (L := 89) (k := 1) (25, [some (.ref 62), some (.int v)], [.int (-3)], qS sw gc I J) (q_hn _ _ _ _) rfl ?_
  exact G_iret rfl rfl rfl rfl
theorem r_gangC {d : Nat} {sw : Bool} {gc : Nat} {I : Nat → Nat → Int32} {J : Nat → Nat → Int64} {v : Int32} {n : Nat} (h : f_i3 v 1 6 = 1) (hn : I 62 20 = nI n) (hn8 : n < 8) : GM (d + 1) 122 [.ref 62, .int v] (qS sw gc I J) (some (.int (nI n))) (qS sw gc (q_u (q_u (q_u I 74 n v) 77 n (-4)) 62 20 (nI (n + 1))) J) := by
  refine GM_of (by decide) (Nat.le_refl _) (Nat.le_of_ble_eq_true rfl) trivial ?_
  refine G_st (L := 89) (k := 0) (0, [some (.ref 62), some (.int v)], [], qS sw gc I J) (q_hn _ _ _ _) rfl ?_
  refine G_st (L := 89) (k := 4) (6, [some (.ref 62), some (.int v)], [.long 6, .long 1, .long (Int32.toInt64 v)], qS sw gc I J) (q_hn _ _ _ _) rfl ?_
  refine G_callS (as := [.long (Int32.toInt64 v), .long 1, .long 6]) (rest := []) rfl rfl rfl (Nat.le_of_ble_eq_true rfl) (r_in (lo := 1) (hi := 6) rfl rfl) (Nat.le_refl _) ?_
  refine G_st (L := 89) (k := 0) (9, [some (.ref 62), some (.int v)], [.int (f_i3 v 1 6)], qS sw gc I J) (q_hn _ _ _ _) rfl ?_
  refine G_if_ne 14 rfl rfl (fun _ => ?_) (fun h9 => absurd h9 (by rw [h]; decide))
  refine G_st (L := 89) (k := 3) (20, [some (.ref 62), some (.int v)], [.int 8, .int (I 62 20)], qS sw gc I J) (q_hn _ _ _ _) rfl ?_
  rw [show I 62 20 = nI n from hn]
  refine G_icmp_ne 26 rfl rfl (fun _ => ?_) (fun h9 => absurd h9 (fun e9 => absurd ((nI_eq (b := 8) (by omega) (by decide)).mp e9) (by omega)))
  refine G_st (L := 89) (k := 5) (35, [some (.ref 62), some (.int v)], [.int v, .int (I 62 20), .ref 74], qS sw gc I J) (q_hn _ _ _ _) rfl ?_
  rw [show I 62 20 = nI n from hn]
  refine G_iast (i := 74) (n := 8) rfl rfl (q_lt (by decide)) (vp_in_nI (by omega) (by decide)) ?_
  rw [q_clamp (n := n) (by omega)]
  refine G_st (L := 89) (k := 3) (41, [some (.ref 62), some (.int v)], [.ref 62, .ref 77], qS sw gc (q_u I 74 n v) J) (q_hn _ _ _ _) rfl ?_
  refine G_get (ci := 9) (k := 20) (i := 62) rfl rfl rfl (q_lt (by decide)) ?_
  rw [show q_av (qS sw gc (q_u I 74 n v) J) 62 (q_fty 9 20) 20 = .int (I 62 20) from congrArg Value.int (show (q_u I 74 n v) 62 20 = I 62 20 from q_un _ _ (by omega))]
  refine G_st (L := 89) (k := 1) (46, [some (.ref 62), some (.int v)], [.int (-4), .int (I 62 20), .ref 77], qS sw gc (q_u I 74 n v) J) (q_hn _ _ _ _) rfl ?_
  rw [show I 62 20 = nI n from hn]
  refine G_iast (i := 77) (n := 8) rfl rfl (q_lt (by decide)) (vp_in_nI (by omega) (by decide)) ?_
  rw [q_clamp (n := n) (by omega)]
  refine G_st (L := 89) (k := 2) (49, [some (.ref 62), some (.int v)], [.ref 62, .ref 62], qS sw gc (q_u (q_u I 74 n v) 77 n (-4)) J) (q_hn _ _ _ _) rfl ?_
  refine G_get (ci := 9) (k := 20) (i := 62) rfl rfl rfl (q_lt (by decide)) ?_
  rw [show q_av (qS sw gc (q_u (q_u I 74 n v) 77 n (-4)) J) 62 (q_fty 9 20) 20 = .int (I 62 20) from congrArg Value.int (show (q_u (q_u I 74 n v) 77 n (-4)) 62 20 = I 62 20 from (q_un _ _ (by omega)).trans (q_un _ _ (by omega)))]
  refine G_st (L := 89) (k := 7) (63, [some (.ref 62), some (.int v)], [.int (((I 62 20) + 1) - 1)], qS sw gc (q_u (q_u (q_u I 74 n v) 77 n (-4)) 62 20 ((I 62 20) + 1)) J) (q_hn _ _ _ _) rfl ?_
  exact G_iret rfl rfl (by rw [hn, show nI n + 1 = nI (n + 1) from q_addP rfl rfl, show nI (n + 1) - 1 = nI n from q_subP (a := n + 1) (b := 1) rfl rfl (by omega)]) (by rw [show nI (n + 1) = nI n + 1 from (q_addP rfl rfl).symm, ← hn])
theorem r_told0 {d : Nat} {sw : Bool} {gc : Nat} {I : Nat → Nat → Int32} {J : Nat → Nat → Int64} (hmg : I 62 20 = nI gc) (hg : gc ≤ 8) {k : Nat} (hk : k < gc) : GM (d + 2) 123 [.ref 62, .int (nI k), .int 0] (qS sw gc I J) (some (.int (I 74 k))) (qS sw gc I J) := by
  refine GM_of (by decide) (Nat.le_refl _) (Nat.le_of_ble_eq_true rfl) trivial ?_
  refine G_st (L := 89) (k := 0) (0, [some (.ref 62), some (.int (nI k)), some (.int 0)], [], qS sw gc I J) (q_hn _ _ _ _) rfl ?_
  refine G_st (L := 89) (k := 2) (2, [some (.ref 62), some (.int (nI k)), some (.int 0)], [.int (nI k), .ref 62], qS sw gc I J) (q_hn _ _ _ _) rfl ?_
  refine G_callV (b := 62) (ci := 9) (as := [.int (nI k)]) (rest := []) rfl rfl rfl (q_lt (by decide)) (by decide) rfl rfl (Nat.le_of_ble_eq_true rfl) (r_isGang hmg hg (k := k) (by omega)) (Nat.le_refl _) ?_
  refine G_st (L := 89) (k := 0) (5, [some (.ref 62), some (.int (nI k)), some (.int 0)], [.int 1], qS sw gc I J) (q_hn _ _ _ _) rfl ?_
  refine G_if_eq 20 rfl rfl (fun h9 => absurd h9 (by decide)) (fun _ => ?_)
  refine G_st (L := 89) (k := 4) (14, [some (.ref 62), some (.int (nI k)), some (.int 0)], [.long 5, .long 0, .long 0], qS sw gc I J) (q_hn _ _ _ _) rfl ?_
  refine G_callS (as := [.long 0, .long 0, .long 5]) (rest := []) rfl rfl rfl (Nat.le_of_ble_eq_true rfl) (GM_r (r2 := 1) (m_in _ _ _) (by decide)) (Nat.le_refl _) ?_
  refine G_st (L := 89) (k := 0) (17, [some (.ref 62), some (.int (nI k)), some (.int 0)], [.int 1], qS sw gc I J) (q_hn _ _ _ _) rfl ?_
  refine G_if_ne 23 rfl rfl (fun _ => ?_) (fun h9 => absurd h9 (by decide))
  refine G_st (L := 89) (k := 1) (24, [some (.ref 62), some (.int (nI k)), some (.int 0)], [.int 0], qS sw gc I J) (q_hn _ _ _ _) rfl ?_
  refine G_tsIn (off := 36) 60 rfl (by decide) (by decide) rfl rfl ?_
  refine G_st (L := 89) (k := 3) (65, [some (.ref 62), some (.int (nI k)), some (.int 0)], [.int (nI k), .ref 74], qS sw gc I J) (q_hn _ _ _ _) rfl ?_
  refine G_iald (i := 74) (n := 8) rfl rfl (q_lt (by decide)) (vp_in_nI (by omega) (by decide)) ?_
  rw [q_clamp (n := k) (by omega)]
  refine G_st (L := 89) (k := 0) (66, [some (.ref 62), some (.int (nI k)), some (.int 0)], [.int (I 74 k)], qS sw gc I J) (q_hn _ _ _ _) rfl ?_
  exact G_iret rfl rfl rfl rfl
theorem r_told1 {d : Nat} {sw : Bool} {gc : Nat} {I : Nat → Nat → Int32} {J : Nat → Nat → Int64} (hmg : I 62 20 = nI gc) (hg : gc ≤ 8) {k : Nat} (hk : k < gc) : GM (d + 2) 123 [.ref 62, .int (nI k), .int 1] (qS sw gc I J) (some (.int (I 75 k))) (qS sw gc I J) := by
  refine GM_of (by decide) (Nat.le_refl _) (Nat.le_of_ble_eq_true rfl) trivial ?_
  refine G_st (L := 89) (k := 0) (0, [some (.ref 62), some (.int (nI k)), some (.int 1)], [], qS sw gc I J) (q_hn _ _ _ _) rfl ?_
  refine G_st (L := 89) (k := 2) (2, [some (.ref 62), some (.int (nI k)), some (.int 1)], [.int (nI k), .ref 62], qS sw gc I J) (q_hn _ _ _ _) rfl ?_
  refine G_callV (b := 62) (ci := 9) (as := [.int (nI k)]) (rest := []) rfl rfl rfl (q_lt (by decide)) (by decide) rfl rfl (Nat.le_of_ble_eq_true rfl) (r_isGang hmg hg (k := k) (by omega)) (Nat.le_refl _) ?_
  refine G_st (L := 89) (k := 0) (5, [some (.ref 62), some (.int (nI k)), some (.int 1)], [.int 1], qS sw gc I J) (q_hn _ _ _ _) rfl ?_
  refine G_if_eq 20 rfl rfl (fun h9 => absurd h9 (by decide)) (fun _ => ?_)
  refine G_st (L := 89) (k := 4) (14, [some (.ref 62), some (.int (nI k)), some (.int 1)], [.long 5, .long 0, .long 1], qS sw gc I J) (q_hn _ _ _ _) rfl ?_
  refine G_callS (as := [.long 1, .long 0, .long 5]) (rest := []) rfl rfl rfl (Nat.le_of_ble_eq_true rfl) (GM_r (r2 := 1) (m_in _ _ _) (by decide)) (Nat.le_refl _) ?_
  refine G_st (L := 89) (k := 0) (17, [some (.ref 62), some (.int (nI k)), some (.int 1)], [.int 1], qS sw gc I J) (q_hn _ _ _ _) rfl ?_
  refine G_if_ne 23 rfl rfl (fun _ => ?_) (fun h9 => absurd h9 (by decide))
  refine G_st (L := 89) (k := 1) (24, [some (.ref 62), some (.int (nI k)), some (.int 1)], [.int 1], qS sw gc I J) (q_hn _ _ _ _) rfl ?_
  refine G_tsIn (off := 43) 67 rfl (by decide) (by decide) rfl rfl ?_
  refine G_st (L := 89) (k := 3) (72, [some (.ref 62), some (.int (nI k)), some (.int 1)], [.int (nI k), .ref 75], qS sw gc I J) (q_hn _ _ _ _) rfl ?_
  refine G_iald (i := 75) (n := 8) rfl rfl (q_lt (by decide)) (vp_in_nI (by omega) (by decide)) ?_
  rw [q_clamp (n := k) (by omega)]
  refine G_st (L := 89) (k := 0) (73, [some (.ref 62), some (.int (nI k)), some (.int 1)], [.int (I 75 k)], qS sw gc I J) (q_hn _ _ _ _) rfl ?_
  exact G_iret rfl rfl rfl rfl
theorem r_told2 {d : Nat} {sw : Bool} {gc : Nat} {I : Nat → Nat → Int32} {J : Nat → Nat → Int64} (hmg : I 62 20 = nI gc) (hg : gc ≤ 8) {k : Nat} (hk : k < gc) : GM (d + 2) 123 [.ref 62, .int (nI k), .int 2] (qS sw gc I J) (some (.int (I 76 k))) (qS sw gc I J) := by
  refine GM_of (by decide) (Nat.le_refl _) (Nat.le_of_ble_eq_true rfl) trivial ?_
  refine G_st (L := 89) (k := 0) (0, [some (.ref 62), some (.int (nI k)), some (.int 2)], [], qS sw gc I J) (q_hn _ _ _ _) rfl ?_
  refine G_st (L := 89) (k := 2) (2, [some (.ref 62), some (.int (nI k)), some (.int 2)], [.int (nI k), .ref 62], qS sw gc I J) (q_hn _ _ _ _) rfl ?_
  refine G_callV (b := 62) (ci := 9) (as := [.int (nI k)]) (rest := []) rfl rfl rfl (q_lt (by decide)) (by decide) rfl rfl (Nat.le_of_ble_eq_true rfl) (r_isGang hmg hg (k := k) (by omega)) (Nat.le_refl _) ?_
  refine G_st (L := 89) (k := 0) (5, [some (.ref 62), some (.int (nI k)), some (.int 2)], [.int 1], qS sw gc I J) (q_hn _ _ _ _) rfl ?_
  refine G_if_eq 20 rfl rfl (fun h9 => absurd h9 (by decide)) (fun _ => ?_)
  refine G_st (L := 89) (k := 4) (14, [some (.ref 62), some (.int (nI k)), some (.int 2)], [.long 5, .long 0, .long 2], qS sw gc I J) (q_hn _ _ _ _) rfl ?_
  refine G_callS (as := [.long 2, .long 0, .long 5]) (rest := []) rfl rfl rfl (Nat.le_of_ble_eq_true rfl) (GM_r (r2 := 1) (m_in _ _ _) (by decide)) (Nat.le_refl _) ?_
  refine G_st (L := 89) (k := 0) (17, [some (.ref 62), some (.int (nI k)), some (.int 2)], [.int 1], qS sw gc I J) (q_hn _ _ _ _) rfl ?_
  refine G_if_ne 23 rfl rfl (fun _ => ?_) (fun h9 => absurd h9 (by decide))
  refine G_st (L := 89) (k := 1) (24, [some (.ref 62), some (.int (nI k)), some (.int 2)], [.int 2], qS sw gc I J) (q_hn _ _ _ _) rfl ?_
  refine G_tsIn (off := 50) 74 rfl (by decide) (by decide) rfl rfl ?_
  refine G_st (L := 89) (k := 3) (79, [some (.ref 62), some (.int (nI k)), some (.int 2)], [.int (nI k), .ref 76], qS sw gc I J) (q_hn _ _ _ _) rfl ?_
  refine G_iald (i := 76) (n := 8) rfl rfl (q_lt (by decide)) (vp_in_nI (by omega) (by decide)) ?_
  rw [q_clamp (n := k) (by omega)]
  refine G_st (L := 89) (k := 0) (80, [some (.ref 62), some (.int (nI k)), some (.int 2)], [.int (I 76 k)], qS sw gc I J) (q_hn _ _ _ _) rfl ?_
  exact G_iret rfl rfl rfl rfl
theorem r_told3 {d : Nat} {sw : Bool} {gc : Nat} {I : Nat → Nat → Int32} {J : Nat → Nat → Int64} (hmg : I 62 20 = nI gc) (hg : gc ≤ 8) {k : Nat} (hk : k < gc) : GM (d + 2) 123 [.ref 62, .int (nI k), .int 3] (qS sw gc I J) (some (.int (I 77 k))) (qS sw gc I J) := by
  refine GM_of (by decide) (Nat.le_refl _) (Nat.le_of_ble_eq_true rfl) trivial ?_
  refine G_st (L := 89) (k := 0) (0, [some (.ref 62), some (.int (nI k)), some (.int 3)], [], qS sw gc I J) (q_hn _ _ _ _) rfl ?_
  refine G_st (L := 89) (k := 2) (2, [some (.ref 62), some (.int (nI k)), some (.int 3)], [.int (nI k), .ref 62], qS sw gc I J) (q_hn _ _ _ _) rfl ?_
  refine G_callV (b := 62) (ci := 9) (as := [.int (nI k)]) (rest := []) rfl rfl rfl (q_lt (by decide)) (by decide) rfl rfl (Nat.le_of_ble_eq_true rfl) (r_isGang hmg hg (k := k) (by omega)) (Nat.le_refl _) ?_
  refine G_st (L := 89) (k := 0) (5, [some (.ref 62), some (.int (nI k)), some (.int 3)], [.int 1], qS sw gc I J) (q_hn _ _ _ _) rfl ?_
  refine G_if_eq 20 rfl rfl (fun h9 => absurd h9 (by decide)) (fun _ => ?_)
  refine G_st (L := 89) (k := 4) (14, [some (.ref 62), some (.int (nI k)), some (.int 3)], [.long 5, .long 0, .long 3], qS sw gc I J) (q_hn _ _ _ _) rfl ?_
  refine G_callS (as := [.long 3, .long 0, .long 5]) (rest := []) rfl rfl rfl (Nat.le_of_ble_eq_true rfl) (GM_r (r2 := 1) (m_in _ _ _) (by decide)) (Nat.le_refl _) ?_
  refine G_st (L := 89) (k := 0) (17, [some (.ref 62), some (.int (nI k)), some (.int 3)], [.int 1], qS sw gc I J) (q_hn _ _ _ _) rfl ?_
  refine G_if_ne 23 rfl rfl (fun _ => ?_) (fun h9 => absurd h9 (by decide))
  refine G_st (L := 89) (k := 1) (24, [some (.ref 62), some (.int (nI k)), some (.int 3)], [.int 3], qS sw gc I J) (q_hn _ _ _ _) rfl ?_
  refine G_tsIn (off := 57) 81 rfl (by decide) (by decide) rfl rfl ?_
  refine G_st (L := 89) (k := 3) (86, [some (.ref 62), some (.int (nI k)), some (.int 3)], [.int (nI k), .ref 77], qS sw gc I J) (q_hn _ _ _ _) rfl ?_
  refine G_iald (i := 77) (n := 8) rfl rfl (q_lt (by decide)) (vp_in_nI (by omega) (by decide)) ?_
  rw [q_clamp (n := k) (by omega)]
  refine G_st (L := 89) (k := 0) (87, [some (.ref 62), some (.int (nI k)), some (.int 3)], [.int (I 77 k)], qS sw gc I J) (q_hn _ _ _ _) rfl ?_
  exact G_iret rfl rfl rfl rfl
theorem r_told4 {d : Nat} {sw : Bool} {gc : Nat} {I : Nat → Nat → Int32} {J : Nat → Nat → Int64} (hmg : I 62 20 = nI gc) (hg : gc ≤ 8) {k : Nat} (hk : k < gc) : GM (d + 2) 123 [.ref 62, .int (nI k), .int 4] (qS sw gc I J) (some (.int (if I 77 k = (-4) then 0 else I 78 k))) (qS sw gc I J) := by
  refine GM_of (by decide) (Nat.le_refl _) (Nat.le_of_ble_eq_true rfl) trivial ?_
  refine G_st (L := 89) (k := 0) (0, [some (.ref 62), some (.int (nI k)), some (.int 4)], [], qS sw gc I J) (q_hn _ _ _ _) rfl ?_
  refine G_st (L := 89) (k := 2) (2, [some (.ref 62), some (.int (nI k)), some (.int 4)], [.int (nI k), .ref 62], qS sw gc I J) (q_hn _ _ _ _) rfl ?_
  refine G_callV (b := 62) (ci := 9) (as := [.int (nI k)]) (rest := []) rfl rfl rfl (q_lt (by decide)) (by decide) rfl rfl (Nat.le_of_ble_eq_true rfl) (r_isGang hmg hg (k := k) (by omega)) (Nat.le_refl _) ?_
  refine G_st (L := 89) (k := 0) (5, [some (.ref 62), some (.int (nI k)), some (.int 4)], [.int 1], qS sw gc I J) (q_hn _ _ _ _) rfl ?_
  refine G_if_eq 20 rfl rfl (fun h9 => absurd h9 (by decide)) (fun _ => ?_)
  refine G_st (L := 89) (k := 4) (14, [some (.ref 62), some (.int (nI k)), some (.int 4)], [.long 5, .long 0, .long 4], qS sw gc I J) (q_hn _ _ _ _) rfl ?_
  refine G_callS (as := [.long 4, .long 0, .long 5]) (rest := []) rfl rfl rfl (Nat.le_of_ble_eq_true rfl) (GM_r (r2 := 1) (m_in _ _ _) (by decide)) (Nat.le_refl _) ?_
  refine G_st (L := 89) (k := 0) (17, [some (.ref 62), some (.int (nI k)), some (.int 4)], [.int 1], qS sw gc I J) (q_hn _ _ _ _) rfl ?_
  refine G_if_ne 23 rfl rfl (fun _ => ?_) (fun h9 => absurd h9 (by decide))
  refine G_st (L := 89) (k := 1) (24, [some (.ref 62), some (.int (nI k)), some (.int 4)], [.int 4], qS sw gc I J) (q_hn _ _ _ _) rfl ?_
  refine G_tsIn (off := 64) 88 rfl (by decide) (by decide) rfl rfl ?_
  refine G_st (L := 89) (k := 3) (93, [some (.ref 62), some (.int (nI k)), some (.int 4)], [.int (nI k), .ref 77], qS sw gc I J) (q_hn _ _ _ _) rfl ?_
  refine G_iald (i := 77) (n := 8) rfl rfl (q_lt (by decide)) (vp_in_nI (by omega) (by decide)) ?_
  rw [q_clamp (n := k) (by omega)]
  refine G_st (L := 89) (k := 1) (96, [some (.ref 62), some (.int (nI k)), some (.int 4)], [.int (-4), .int (I 77 k)], qS sw gc I J) (q_hn _ _ _ _) rfl ?_
  refine G_icmp_ne 103 rfl rfl (fun h1 => ?_) (fun h1 => ?_)
  · skip
    refine G_st (L := 89) (k := 3) (108, [some (.ref 62), some (.int (nI k)), some (.int 4)], [.int (nI k), .ref 78], qS sw gc I J) (q_hn _ _ _ _) rfl ?_
    refine G_iald (i := 78) (n := 8) rfl rfl (q_lt (by decide)) (vp_in_nI (by omega) (by decide)) ?_
    rw [q_clamp (n := k) (by omega)]
    refine G_st (L := 89) (k := 0) (109, [some (.ref 62), some (.int (nI k)), some (.int 4)], [.int (I 78 k)], qS sw gc I J) (q_hn _ _ _ _) rfl ?_
    exact G_iret rfl rfl (by rw [if_neg h1]) rfl
  · skip
    refine G_st (L := 89) (k := 2) (109, [some (.ref 62), some (.int (nI k)), some (.int 4)], [.int 0], qS sw gc I J) (q_hn _ _ _ _) rfl ?_
    exact G_iret rfl rfl (by rw [if_pos h1]) rfl
theorem r_told5 {d : Nat} {sw : Bool} {gc : Nat} {I : Nat → Nat → Int32} {J : Nat → Nat → Int64} (hmg : I 62 20 = nI gc) (hg : gc ≤ 8) {k : Nat} (hk : k < gc) : GM (d + 2) 123 [.ref 62, .int (nI k), .int 5] (qS sw gc I J) (some (.int (I 79 k))) (qS sw gc I J) := by
  refine GM_of (by decide) (Nat.le_refl _) (Nat.le_of_ble_eq_true rfl) trivial ?_
  refine G_st (L := 89) (k := 0) (0, [some (.ref 62), some (.int (nI k)), some (.int 5)], [], qS sw gc I J) (q_hn _ _ _ _) rfl ?_
  refine G_st (L := 89) (k := 2) (2, [some (.ref 62), some (.int (nI k)), some (.int 5)], [.int (nI k), .ref 62], qS sw gc I J) (q_hn _ _ _ _) rfl ?_
  refine G_callV (b := 62) (ci := 9) (as := [.int (nI k)]) (rest := []) rfl rfl rfl (q_lt (by decide)) (by decide) rfl rfl (Nat.le_of_ble_eq_true rfl) (r_isGang hmg hg (k := k) (by omega)) (Nat.le_refl _) ?_
  refine G_st (L := 89) (k := 0) (5, [some (.ref 62), some (.int (nI k)), some (.int 5)], [.int 1], qS sw gc I J) (q_hn _ _ _ _) rfl ?_
  refine G_if_eq 20 rfl rfl (fun h9 => absurd h9 (by decide)) (fun _ => ?_)
  refine G_st (L := 89) (k := 4) (14, [some (.ref 62), some (.int (nI k)), some (.int 5)], [.long 5, .long 0, .long 5], qS sw gc I J) (q_hn _ _ _ _) rfl ?_
  refine G_callS (as := [.long 5, .long 0, .long 5]) (rest := []) rfl rfl rfl (Nat.le_of_ble_eq_true rfl) (GM_r (r2 := 1) (m_in _ _ _) (by decide)) (Nat.le_refl _) ?_
  refine G_st (L := 89) (k := 0) (17, [some (.ref 62), some (.int (nI k)), some (.int 5)], [.int 1], qS sw gc I J) (q_hn _ _ _ _) rfl ?_
  refine G_if_ne 23 rfl rfl (fun _ => ?_) (fun h9 => absurd h9 (by decide))
  refine G_st (L := 89) (k := 1) (24, [some (.ref 62), some (.int (nI k)), some (.int 5)], [.int 5], qS sw gc I J) (q_hn _ _ _ _) rfl ?_
  refine G_tsOut 110 rfl (Or.inr (by decide)) rfl ?_
  refine G_st (L := 89) (k := 3) (115, [some (.ref 62), some (.int (nI k)), some (.int 5)], [.int (nI k), .ref 79], qS sw gc I J) (q_hn _ _ _ _) rfl ?_
  refine G_iald (i := 79) (n := 8) rfl rfl (q_lt (by decide)) (vp_in_nI (by omega) (by decide)) ?_
  rw [q_clamp (n := k) (by omega)]
  refine G_st (L := 89) (k := 0) (116, [some (.ref 62), some (.int (nI k)), some (.int 5)], [.int (I 79 k)], qS sw gc I J) (q_hn _ _ _ _) rfl ?_
  exact G_iret rfl rfl rfl rfl
theorem r_toldQ {d : Nat} {sw : Bool} {gc : Nat} {I : Nat → Nat → Int32} {J : Nat → Nat → Int64} (hmg : I 62 20 = nI gc) (hg : gc ≤ 8) {k : Nat} (hk : k < gc) {q : Int32} (hq : f_i3 q 0 5 = 0) : GM (d + 2) 123 [.ref 62, .int (nI k), .int q] (qS sw gc I J) (some (.int (-1000000))) (qS sw gc I J) := by
  refine GM_of (by decide) (Nat.le_refl _) (Nat.le_of_ble_eq_true rfl) trivial ?_
  refine G_st (L := 89) (k := 0) (0, [some (.ref 62), some (.int (nI k)), some (.int q)], [], qS sw gc I J) (q_hn _ _ _ _) rfl ?_
  refine G_st (L := 89) (k := 2) (2, [some (.ref 62), some (.int (nI k)), some (.int q)], [.int (nI k), .ref 62], qS sw gc I J) (q_hn _ _ _ _) rfl ?_
  refine G_callV (b := 62) (ci := 9) (as := [.int (nI k)]) (rest := []) rfl rfl rfl (q_lt (by decide)) (by decide) rfl rfl (Nat.le_of_ble_eq_true rfl) (r_isGang hmg hg (k := k) (by omega)) (Nat.le_refl _) ?_
  refine G_st (L := 89) (k := 0) (5, [some (.ref 62), some (.int (nI k)), some (.int q)], [.int 1], qS sw gc I J) (q_hn _ _ _ _) rfl ?_
  refine G_if_eq 20 rfl rfl (fun h9 => absurd h9 (by decide)) (fun _ => ?_)
  refine G_st (L := 89) (k := 4) (14, [some (.ref 62), some (.int (nI k)), some (.int q)], [.long 5, .long 0, .long (Int32.toInt64 q)], qS sw gc I J) (q_hn _ _ _ _) rfl ?_
  refine G_callS (as := [.long (Int32.toInt64 q), .long 0, .long 5]) (rest := []) rfl rfl rfl (Nat.le_of_ble_eq_true rfl) (r_in (lo := 0) (hi := 5) rfl rfl) (Nat.le_refl _) ?_
  refine G_st (L := 89) (k := 0) (17, [some (.ref 62), some (.int (nI k)), some (.int q)], [.int (f_i3 q 0 5)], qS sw gc I J) (q_hn _ _ _ _) rfl ?_
  refine G_if_ne 23 rfl rfl (fun h9 => absurd hq h9) (fun _ => ?_)
  refine G_st (L := 89) (k := 1) (22, [some (.ref 62), some (.int (nI k)), some (.int q)], [.int (-1000000)], qS sw gc I J) (q_hn _ _ _ _) rfl ?_
  exact G_iret rfl rfl rfl rfl
theorem r_toldG {d : Nat} {sw : Bool} {gc : Nat} {I : Nat → Nat → Int32} {J : Nat → Nat → Int64} (hmg : I 62 20 = nI gc) (hg : gc ≤ 8) {x : Int32} (hx : Int32.toInt64 x < 0 ∨ lN gc ≤ Int32.toInt64 x) {q : Int32} : GM (d + 2) 123 [.ref 62, .int x, .int q] (qS sw gc I J) (some (.int (-1000000))) (qS sw gc I J) := by
  refine GM_of (by decide) (Nat.le_refl _) (Nat.le_of_ble_eq_true rfl) trivial ?_
  refine G_st (L := 89) (k := 0) (0, [some (.ref 62), some (.int x), some (.int q)], [], qS sw gc I J) (q_hn _ _ _ _) rfl ?_
  refine G_st (L := 89) (k := 2) (2, [some (.ref 62), some (.int x), some (.int q)], [.int x, .ref 62], qS sw gc I J) (q_hn _ _ _ _) rfl ?_
  refine G_callV (b := 62) (ci := 9) (as := [.int x]) (rest := []) rfl rfl rfl (q_lt (by decide)) (by decide) rfl rfl (Nat.le_of_ble_eq_true rfl) (r_isGangB hmg hg hx) (Nat.le_refl _) ?_
  refine G_st (L := 89) (k := 0) (5, [some (.ref 62), some (.int x), some (.int q)], [.int 0], qS sw gc I J) (q_hn _ _ _ _) rfl ?_
  refine G_if_eq 20 rfl rfl (fun _ => ?_) (fun h9 => absurd h9 (by decide))
  refine G_st (L := 89) (k := 1) (22, [some (.ref 62), some (.int x), some (.int q)], [.int (-1000000)], qS sw gc I J) (q_hn _ _ _ _) rfl ?_
  exact G_iret rfl rfl rfl rfl
