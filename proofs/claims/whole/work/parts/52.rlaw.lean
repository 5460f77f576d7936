theorem r_wantsF {d : Nat} {sw : Bool} {gc : Nat} {I : Nat → Nat → Int32} {J : Nat → Nat → Int64} {a b s v f e lo hi : Int32} (hf : ¬ f = 0) : GM (d + 1) 107 [.ref 62, .int lo, .int hi] (qS sw gc (r_R I a b s v f e) J) (none) (qS sw gc (r_R I a b s v f e) J) := by
  refine GM_of (by decide) x_out_n (Nat.le_of_ble_eq_true rfl) trivial ?_
  refine G_st (L := 89) (k := 0) (0, [some (.ref 62), some (.int lo), some (.int hi)], [], qS sw gc (r_R I a b s v f e) J) (q_hn _ _ _ _) rfl ?_
  refine G_st (L := 89) (k := 2) (4, [some (.ref 62), some (.int lo), some (.int hi)], [.int f], qS sw gc (r_R I a b s v f e) J) (q_hn _ _ _ _) rfl ?_
  refine G_if_ne 24 rfl rfl (fun _ => ?_) (fun h9 => absurd h9 hf)
  refine G_st (L := 89) (k := 2) (28, [some (.ref 62), some (.int lo), some (.int hi)], [.int f], qS sw gc (r_R I a b s v f e) J) (q_hn _ _ _ _) rfl ?_
  refine G_if_ne 55 rfl rfl (fun _ => ?_) (fun h9 => absurd h9 hf)
  exact G_ret rfl rfl rfl rfl
theorem r_wants2 {d : Nat} {sw : Bool} {gc : Nat} {I : Nat → Nat → Int32} {J : Nat → Nat → Int64} {a b s v e lo hi : Int32} (hs : ¬ s = 2) : GM (d + 1) 107 [.ref 62, .int lo, .int hi] (qS sw gc (r_R I a b s v 0 e) J) (none) (qS sw gc (r_R I a b s v 2 b) J) := by
  refine GM_of (by decide) x_out_n (Nat.le_of_ble_eq_true rfl) trivial ?_
  refine G_st (L := 89) (k := 0) (0, [some (.ref 62), some (.int lo), some (.int hi)], [], qS sw gc (r_R I a b s v 0 e) J) (q_hn _ _ _ _) rfl ?_
  refine G_st (L := 89) (k := 2) (4, [some (.ref 62), some (.int lo), some (.int hi)], [.int 0], qS sw gc (r_R I a b s v 0 e) J) (q_hn _ _ _ _) rfl ?_
  refine G_if_ne 24 rfl rfl (fun h9 => absurd h9 (by decide)) (fun _ => ?_)
  refine G_st (L := 89) (k := 3) (12, [some (.ref 62), some (.int lo), some (.int hi)], [.int 2, .int s], qS sw gc (r_R I a b s v 0 e) J) (q_hn _ _ _ _) rfl ?_
  refine G_icmp_eq 24 rfl rfl (fun h9 => absurd h9 hs) (fun _ => ?_)
  refine G_st (L := 89) (k := 4) (21, [some (.ref 62), some (.int lo), some (.int hi)], [.int b, .int 2, .ref 62], qS sw gc (r_R I a b s v 0 e) J) (q_hn _ _ _ _) rfl ?_
  refine G_callV (b := 62) (ci := 9) (as := [.int 2, .int b]) (rest := []) rfl rfl rfl (q_lt (by decide)) (by decide) rfl rfl (Nat.le_of_ble_eq_true rfl) r_fails0 x_out_n ?_
  refine G_st (L := 89) (k := 2) (28, [some (.ref 62), some (.int lo), some (.int hi)], [.int 2], qS sw gc (r_R I a b s v 2 b) J) (q_hn _ _ _ _) rfl ?_
  refine G_if_ne 55 rfl rfl (fun _ => ?_) (fun h9 => absurd h9 (by decide))
  exact G_ret rfl rfl rfl rfl
theorem r_wants3 {d : Nat} {sw : Bool} {gc : Nat} {I : Nat → Nat → Int32} {J : Nat → Nat → Int64} {a b v e lo hi : Int32} (hv : f_i3 v lo hi = 0) : GM (d + 1) 107 [.ref 62, .int lo, .int hi] (qS sw gc (r_R I a b 2 v 0 e) J) (none) (qS sw gc (r_R I a b 2 v 3 b) J) := by
  refine GM_of (by decide) x_out_n (Nat.le_of_ble_eq_true rfl) trivial ?_
  refine G_st (L := 89) (k := 0) (0, [some (.ref 62), some (.int lo), some (.int hi)], [], qS sw gc (r_R I a b 2 v 0 e) J) (q_hn _ _ _ _) rfl ?_
  refine G_st (L := 89) (k := 2) (4, [some (.ref 62), some (.int lo), some (.int hi)], [.int 0], qS sw gc (r_R I a b 2 v 0 e) J) (q_hn _ _ _ _) rfl ?_
  refine G_if_ne 24 rfl rfl (fun h9 => absurd h9 (by decide)) (fun _ => ?_)
  refine G_st (L := 89) (k := 3) (12, [some (.ref 62), some (.int lo), some (.int hi)], [.int 2, .int 2], qS sw gc (r_R I a b 2 v 0 e) J) (q_hn _ _ _ _) rfl ?_
  refine G_icmp_eq 24 rfl rfl (fun _ => ?_) (fun h9 => absurd h9 (by decide))
  refine G_st (L := 89) (k := 2) (28, [some (.ref 62), some (.int lo), some (.int hi)], [.int 0], qS sw gc (r_R I a b 2 v 0 e) J) (q_hn _ _ _ _) rfl ?_
  refine G_if_ne 55 rfl rfl (fun h9 => absurd h9 (by decide)) (fun _ => ?_)
  refine G_st (L := 89) (k := 7) (40, [some (.ref 62), some (.int lo), some (.int hi)], [.long (Int32.toInt64 hi), .long (Int32.toInt64 lo), .long (Int32.toInt64 v)], qS sw gc (r_R I a b 2 v 0 e) J) (q_hn _ _ _ _) rfl ?_
  refine G_callS (as := [.long (Int32.toInt64 v), .long (Int32.toInt64 lo), .long (Int32.toInt64 hi)]) (rest := []) rfl rfl rfl (Nat.le_of_ble_eq_true rfl) (r_in (lo := lo) (hi := hi) rfl rfl) x_out_n ?_
  refine G_st (L := 89) (k := 0) (43, [some (.ref 62), some (.int lo), some (.int hi)], [.int (f_i3 v lo hi)], qS sw gc (r_R I a b 2 v 0 e) J) (q_hn _ _ _ _) rfl ?_
  refine G_if_ne 55 rfl rfl (fun h9 => absurd hv h9) (fun _ => ?_)
  refine G_st (L := 89) (k := 4) (52, [some (.ref 62), some (.int lo), some (.int hi)], [.int b, .int 3, .ref 62], qS sw gc (r_R I a b 2 v 0 e) J) (q_hn _ _ _ _) rfl ?_
  refine G_callV (b := 62) (ci := 9) (as := [.int 3, .int b]) (rest := []) rfl rfl rfl (q_lt (by decide)) (by decide) rfl rfl (Nat.le_of_ble_eq_true rfl) r_fails0 x_out_n ?_
  refine G_st (L := 89) (k := 0) (55, [some (.ref 62), some (.int lo), some (.int hi)], [], qS sw gc (r_R I a b 2 v 3 b) J) (q_hn _ _ _ _) rfl ?_
  exact G_ret rfl rfl rfl rfl
theorem r_wantsO {d : Nat} {sw : Bool} {gc : Nat} {I : Nat → Nat → Int32} {J : Nat → Nat → Int64} {a b v e lo hi : Int32} (hv : f_i3 v lo hi = 1) : GM (d + 1) 107 [.ref 62, .int lo, .int hi] (qS sw gc (r_R I a b 2 v 0 e) J) (none) (qS sw gc (r_R I a b 2 v 0 e) J) := by
  refine GM_of (by decide) x_out_n (Nat.le_of_ble_eq_true rfl) trivial ?_
  refine G_st (L := 89) (k := 0) (0, [some (.ref 62), some (.int lo), some (.int hi)], [], qS sw gc (r_R I a b 2 v 0 e) J) (q_hn _ _ _ _) rfl ?_
  refine G_st (L := 89) (k := 2) (4, [some (.ref 62), some (.int lo), some (.int hi)], [.int 0], qS sw gc (r_R I a b 2 v 0 e) J) (q_hn _ _ _ _) rfl ?_
  refine G_if_ne 24 rfl rfl (fun h9 => absurd h9 (by decide)) (fun _ => ?_)
  refine G_st (L := 89) (k := 3) (12, [some (.ref 62), some (.int lo), some (.int hi)], [.int 2, .int 2], qS sw gc (r_R I a b 2 v 0 e) J) (q_hn _ _ _ _) rfl ?_
  refine G_icmp_eq 24 rfl rfl (fun _ => ?_) (fun h9 => absurd h9 (by decide))
  refine G_st (L := 89) (k := 2) (28, [some (.ref 62), some (.int lo), some (.int hi)], [.int 0], qS sw gc (r_R I a b 2 v 0 e) J) (q_hn _ _ _ _) rfl ?_
  refine G_if_ne 55 rfl rfl (fun h9 => absurd h9 (by decide)) (fun _ => ?_)
  refine G_st (L := 89) (k := 7) (40, [some (.ref 62), some (.int lo), some (.int hi)], [.long (Int32.toInt64 hi), .long (Int32.toInt64 lo), .long (Int32.toInt64 v)], qS sw gc (r_R I a b 2 v 0 e) J) (q_hn _ _ _ _) rfl ?_
  refine G_callS (as := [.long (Int32.toInt64 v), .long (Int32.toInt64 lo), .long (Int32.toInt64 hi)]) (rest := []) rfl rfl rfl (Nat.le_of_ble_eq_true rfl) (r_in (lo := lo) (hi := hi) rfl rfl) x_out_n ?_
  refine G_st (L := 89) (k := 0) (43, [some (.ref 62), some (.int lo), some (.int hi)], [.int (f_i3 v lo hi)], qS sw gc (r_R I a b 2 v 0 e) J) (q_hn _ _ _ _) rfl ?_
  refine G_if_ne 55 rfl rfl (fun _ => ?_) (fun h9 => absurd h9 (by rw [hv]; decide))
  exact G_ret rfl rfl rfl rfl
theorem r_takenF {d : Nat} {sw : Bool} {gc : Nat} {I : Nat → Nat → Int32} {J : Nat → Nat → Int64} {a b s v f e : Int32} (hf : ¬ f = 0) : GM d 108 [.ref 62] (qS sw gc (r_R I a b s v f e) J) (some (.int v)) (qS sw gc (r_R I a b s v f e) J) := by
  refine GM_of (by decide) x_out_n (Nat.le_of_ble_eq_true rfl) trivial ?_
  refine G_st (L := 89) (k := 0) (0, [some (.ref 62), none], [], qS sw gc (r_R I a b s v f e) J) (q_hn _ _ _ _) rfl ?_
  refine G_st (L := 89) (k := 5) (9, [some (.ref 62), some (.int v)], [.int f], qS sw gc (r_R I a b s v f e) J) (q_hn _ _ _ _) rfl ?_
  refine G_if_ne 16 rfl rfl (fun _ => ?_) (fun h9 => absurd h9 hf)
  refine G_st (L := 89) (k := 1) (17, [some (.ref 62), some (.int v)], [.int v], qS sw gc (r_R I a b s v f e) J) (q_hn _ _ _ _) rfl ?_
  exact G_iret rfl rfl rfl rfl
theorem r_taken0 {d : Nat} {sw : Bool} {gc : Nat} {I : Nat → Nat → Int32} {J : Nat → Nat → Int64} {I1 : Nat → Nat → Int32} {a b s v e : Int32} (h : GM (d + 3) 106 [.ref 62] (qS sw gc (r_R I a b s v 0 e) J) none (qS sw gc I1 J)) : GM (d + 4) 108 [.ref 62] (qS sw gc (r_R I a b s v 0 e) J) (some (.int v)) (qS sw gc I1 J) := by
  refine GM_of (by decide) x_out_n (Nat.le_of_ble_eq_true rfl) trivial ?_
  refine G_st (L := 89) (k := 5) (9, [some (.ref 62), some (.int v)], [.int 0], qS sw gc (r_R I a b s v 0 e) J) (q_hn _ _ _ _) rfl ?_
  refine G_if_ne 16 rfl rfl (fun h9 => absurd h9 (by decide)) (fun _ => ?_)
  refine G_st (L := 89) (k := 1) (13, [some (.ref 62), some (.int v)], [.ref 62], qS sw gc (r_R I a b s v 0 e) J) (q_hn _ _ _ _) rfl ?_
  refine G_callV (b := 62) (ci := 9) (as := []) (rest := []) rfl rfl rfl (q_lt (by decide)) (by decide) rfl rfl (Nat.le_of_ble_eq_true rfl) h x_out_n ?_
  refine G_st (L := 89) (k := 1) (17, [some (.ref 62), some (.int v)], [.int v], qS sw gc I1 J) (q_hn _ _ _ _) rfl ?_
  exact G_iret rfl rfl rfl rfl
theorem r_lE0 {d : Nat} {sw : Bool} {gc : Nat} {I : Nat → Nat → Int32} {J : Nat → Nat → Int64} {a b s v f e : Int32} (hf : ¬ f = 0) : G (d + 5) 109 (254, [some (.ref 62), none, none, none], [], qS sw gc (r_R I a b s v f e) J) none (qS sw gc (r_R I a b s v f e) J) := by
  refine G_st (L := 89) (k := 2) (258, [some (.ref 62), none, none, none], [.int f], qS sw gc (r_R I a b s v f e) J) (q_hn _ _ _ _) rfl ?_
  refine G_if_ne 278 rfl rfl (fun _ => ?_) (fun h9 => absurd h9 hf)
  refine G_st (L := 89) (k := 2) (282, [some (.ref 62), none, none, none], [.int f], qS sw gc (r_R I a b s v f e) J) (q_hn _ _ _ _) rfl ?_
  refine G_if_ne 289 rfl rfl (fun _ => ?_) (fun h9 => absurd h9 hf)
  exact G_ret rfl rfl rfl rfl
theorem r_lE1 {d : Nat} {sw : Bool} {gc : Nat} {I : Nat → Nat → Int32} {J : Nat → Nat → Int64} {a b s v e : Int32} (hs : ¬ s = 3) : G (d + 5) 109 (254, [some (.ref 62), none, none, none], [], qS sw gc (r_R I a b s v 0 e) J) none (qS sw gc (r_R I a b s v 2 b) J) := by
  refine G_st (L := 89) (k := 2) (258, [some (.ref 62), none, none, none], [.int 0], qS sw gc (r_R I a b s v 0 e) J) (q_hn _ _ _ _) rfl ?_
  refine G_if_ne 278 rfl rfl (fun h9 => absurd h9 (by decide)) (fun _ => ?_)
  refine G_st (L := 89) (k := 3) (266, [some (.ref 62), none, none, none], [.int 3, .int s], qS sw gc (r_R I a b s v 0 e) J) (q_hn _ _ _ _) rfl ?_
  refine G_icmp_eq 278 rfl rfl (fun h9 => absurd h9 hs) (fun _ => ?_)
  refine G_st (L := 89) (k := 4) (275, [some (.ref 62), none, none, none], [.int b, .int 2, .ref 62], qS sw gc (r_R I a b s v 0 e) J) (q_hn _ _ _ _) rfl ?_
  refine G_callV (b := 62) (ci := 9) (as := [.int 2, .int b]) (rest := []) rfl rfl rfl (q_lt (by decide)) (by decide) rfl rfl (Nat.le_of_ble_eq_true rfl) r_fails0 x_out_n ?_
  refine G_st (L := 89) (k := 2) (282, [some (.ref 62), none, none, none], [.int 2], qS sw gc (r_R I a b s v 2 b) J) (q_hn _ _ _ _) rfl ?_
  refine G_if_ne 289 rfl rfl (fun _ => ?_) (fun h9 => absurd h9 (by decide))
  exact G_ret rfl rfl rfl rfl
theorem r_lE2 {d : Nat} {sw : Bool} {gc : Nat} {I : Nat → Nat → Int32} {J : Nat → Nat → Int64} {Iz : Nat → Nat → Int32} {a b v e : Int32} (hn : GM (d + 4) 106 [.ref 62] (qS sw gc (r_R I a b 3 v 0 e) J) none (qS sw gc Iz J)) : G (d + 5) 109 (254, [some (.ref 62), none, none, none], [], qS sw gc (r_R I a b 3 v 0 e) J) none (qS sw gc Iz J) := by
  refine G_st (L := 89) (k := 2) (258, [some (.ref 62), none, none, none], [.int 0], qS sw gc (r_R I a b 3 v 0 e) J) (q_hn _ _ _ _) rfl ?_
  refine G_if_ne 278 rfl rfl (fun h9 => absurd h9 (by decide)) (fun _ => ?_)
  refine G_st (L := 89) (k := 3) (266, [some (.ref 62), none, none, none], [.int 3, .int 3], qS sw gc (r_R I a b 3 v 0 e) J) (q_hn _ _ _ _) rfl ?_
  refine G_icmp_eq 278 rfl rfl (fun _ => ?_) (fun h9 => absurd h9 (by decide))
  refine G_st (L := 89) (k := 2) (282, [some (.ref 62), none, none, none], [.int 0], qS sw gc (r_R I a b 3 v 0 e) J) (q_hn _ _ _ _) rfl ?_
  refine G_if_ne 289 rfl rfl (fun h9 => absurd h9 (by decide)) (fun _ => ?_)
  refine G_st (L := 89) (k := 1) (286, [some (.ref 62), none, none, none], [.ref 62], qS sw gc (r_R I a b 3 v 0 e) J) (q_hn _ _ _ _) rfl ?_
  refine G_callV (b := 62) (ci := 9) (as := []) (rest := []) rfl rfl rfl (q_lt (by decide)) (by decide) rfl rfl (Nat.le_of_ble_eq_true rfl) hn x_out_n ?_
  refine G_st (L := 89) (k := 0) (289, [some (.ref 62), none, none, none], [], qS sw gc Iz J) (q_hn _ _ _ _) rfl ?_
  exact G_ret rfl rfl rfl rfl
theorem r_lA1 {d : Nat} {sw : Bool} {gc : Nat} {I : Nat → Nat → Int32} {J : Nat → Nat → Int64} {a b s v e : Int32} (hs : ¬ s = 1) : G (d + 5) 109 (0, [some (.ref 62), none, none, none], [], qS sw gc (r_R I a b s v 0 e) J) none (qS sw gc (r_R I a b s v 2 b) J) := by
  refine G_st (L := 89) (k := 2) (4, [some (.ref 62), none, none, none], [.int 0], qS sw gc (r_R I a b s v 0 e) J) (q_hn _ _ _ _) rfl ?_
  refine G_if_ne 24 rfl rfl (fun h9 => absurd h9 (by decide)) (fun _ => ?_)
  refine G_st (L := 89) (k := 3) (12, [some (.ref 62), none, none, none], [.int 1, .int s], qS sw gc (r_R I a b s v 0 e) J) (q_hn _ _ _ _) rfl ?_
  refine G_icmp_eq 24 rfl rfl (fun h9 => absurd h9 hs) (fun _ => ?_)
  refine G_st (L := 89) (k := 4) (21, [some (.ref 62), none, none, none], [.int b, .int 2, .ref 62], qS sw gc (r_R I a b s v 0 e) J) (q_hn _ _ _ _) rfl ?_
  refine G_callV (b := 62) (ci := 9) (as := [.int 2, .int b]) (rest := []) rfl rfl rfl (q_lt (by decide)) (by decide) rfl rfl (Nat.le_of_ble_eq_true rfl) r_fails0 x_out_n ?_
  refine G_st (L := 89) (k := 2) (28, [some (.ref 62), none, none, none], [.int 2], qS sw gc (r_R I a b s v 2 b) J) (q_hn _ _ _ _) rfl ?_
  refine G_if_le 32 rfl rfl (fun h9 => absurd h9 (by decide)) (fun _ => ?_)
  exact G_ret rfl rfl rfl rfl
theorem r_lF0 {d : Nat} {sw : Bool} {gc : Nat} {I : Nat → Nat → Int32} {J : Nat → Nat → Int64} {a b s v f e : Int32} (hf : ¬ f = 0) : G (d + 5) 109 (84, [some (.ref 62), some (.int 0), none, none], [], qS sw gc (r_R I a b s v f e) J) none (qS sw gc (r_R (q_u I 67 0 v) a b s v f e) J) := by
  refine G_st (L := 89) (k := 2) (86, [some (.ref 62), some (.int 0), none, none], [.int 4, .int 0], qS sw gc (r_R I a b s v f e) J) (q_hn _ _ _ _) rfl ?_
  refine G_icmp_ne 195 rfl rfl (fun _ => ?_) (fun h9 => absurd h9 (by decide))
  refine G_st (L := 89) (k := 3) (198, [some (.ref 62), some (.int 0), none, none], [.int 1, .int 0, .ref 62], qS sw gc (r_R I a b s v f e) J) (q_hn _ _ _ _) rfl ?_
  refine G_icmp_ne 205 rfl rfl (fun _ => ?_) (fun h9 => absurd h9 (by decide))
  refine G_st (L := 89) (k := 2) (207, [some (.ref 62), some (.int 0), none, none], [.int 0, .int 0, .ref 62], qS sw gc (r_R I a b s v f e) J) (q_hn _ _ _ _) rfl ?_
  refine G_if_ne 216 rfl rfl (fun h9 => absurd h9 (by decide)) (fun _ => ?_)
  refine G_st (L := 89) (k := 2) (239, [some (.ref 62), some (.int 0), none, none], [.int 9999, .int 0, .ref 62], qS sw gc (r_R I a b s v f e) J) (q_hn _ _ _ _) rfl ?_
  refine G_callV (b := 62) (ci := 9) (as := [.int 0, .int 9999]) (rest := []) rfl rfl rfl (q_lt (by decide)) (by decide) rfl rfl (Nat.le_of_ble_eq_true rfl) (r_wantsF hf) x_out_n ?_
  refine G_st (L := 89) (k := 1) (243, [some (.ref 62), some (.int 0), none, none], [.ref 62], qS sw gc (r_R I a b s v f e) J) (q_hn _ _ _ _) rfl ?_
  refine G_callV (b := 62) (ci := 9) (as := []) (rest := []) rfl rfl rfl (q_lt (by decide)) (by decide) rfl rfl (Nat.le_of_ble_eq_true rfl) (r_takenF hf) x_out_n ?_
  refine G_st (L := 89) (k := 5) (253, [some (.ref 62), some (.int 0), some (.int v), none], [.int v, .int 0, .ref 67], qS sw gc (r_R I a b s v f e) J) (q_hn _ _ _ _) rfl ?_
  refine G_iast (i := 67) (n := 4) rfl rfl (q_lt (by decide)) (by unfold vp_in; decide) ?_
  refine G_st (L := 89) (k := 0) (254, [some (.ref 62), some (.int 0), some (.int v), none], [], qS sw gc (q_u (r_R I a b s v f e) 67 0 v) J) (q_hn _ _ _ _) rfl ?_
  rw [r_R_cm (by omega)]
  refine G_fg [some (.ref 62), none, none, none] (by repeat (first | exact trivial | refine ⟨rfl, ?_⟩)) ?_
  exact r_lE0 hf
theorem r_lA2_0 {d : Nat} {sw : Bool} {gc : Nat} {I : Nat → Nat → Int32} {J : Nat → Nat → Int64} {a b e : Int32} (hm : ¬ I 67 0 = -4) : G (d + 5) 109 (0, [some (.ref 62), none, none, none], [], qS sw gc (r_R I a b 1 0 0 e) J) none (qS sw gc (r_R (q_u I 67 0 0) a b 1 0 4 b) J) := by
  refine G_st (L := 89) (k := 2) (4, [some (.ref 62), none, none, none], [.int 0], qS sw gc (r_R I a b 1 0 0 e) J) (q_hn _ _ _ _) rfl ?_
  refine G_if_ne 24 rfl rfl (fun h9 => absurd h9 (by decide)) (fun _ => ?_)
  refine G_st (L := 89) (k := 3) (12, [some (.ref 62), none, none, none], [.int 1, .int 1], qS sw gc (r_R I a b 1 0 0 e) J) (q_hn _ _ _ _) rfl ?_
  refine G_icmp_eq 24 rfl rfl (fun _ => ?_) (fun h9 => absurd h9 (by decide))
  refine G_st (L := 89) (k := 2) (28, [some (.ref 62), none, none, none], [.int 0], qS sw gc (r_R I a b 1 0 0 e) J) (q_hn _ _ _ _) rfl ?_
  refine G_if_le 32 rfl rfl (fun _ => ?_) (fun h9 => absurd h9 (by decide))
  refine G_st (L := 89) (k := 5) (39, [some (.ref 62), some (.int 0), none, none], [.int 4, .int 0], qS sw gc (r_R I a b 1 0 0 e) J) (q_hn _ _ _ _) rfl ?_
  refine G_icmp_ne 53 rfl rfl (fun _ => ?_) (fun h9 => absurd h9 (by decide))
  refine G_st (L := 89) (k := 3) (58, [some (.ref 62), some (.int 0), none, none], [.int 0, .ref 67], qS sw gc (r_R I a b 1 0 0 e) J) (q_hn _ _ _ _) rfl ?_
  refine G_iald (i := 67) (n := 4) rfl rfl (q_lt (by decide)) (by unfold vp_in; decide) ?_
  rw [show (0 : Int32).toNatClampNeg = 0 from rfl]
  rw [show q_i (qS sw gc (r_R I a b 1 0 0 e) J) 67 0 = I 67 0 from (show (r_R I a b 1 0 0 e) 67 0 = I 67 0 from r_R_un (by omega))]
  refine G_st (L := 89) (k := 1) (61, [some (.ref 62), some (.int 0), none, none], [.int (-4), .int (I 67 0)], qS sw gc (r_R I a b 1 0 0 e) J) (q_hn _ _ _ _) rfl ?_
  refine G_icmp_eq 73 rfl rfl (fun h9 => absurd h9 hm) (fun _ => ?_)
  refine G_st (L := 89) (k := 4) (70, [some (.ref 62), some (.int 0), none, none], [.int b, .int 4, .ref 62], qS sw gc (r_R I a b 1 0 0 e) J) (q_hn _ _ _ _) rfl ?_
  refine G_callV (b := 62) (ci := 9) (as := [.int 4, .int b]) (rest := []) rfl rfl rfl (q_lt (by decide)) (by decide) rfl rfl (Nat.le_of_ble_eq_true rfl) r_fails0 x_out_n ?_
  refine G_st (L := 89) (k := 2) (77, [some (.ref 62), some (.int 0), none, none], [.int 4], qS sw gc (r_R I a b 1 0 4 b) J) (q_hn _ _ _ _) rfl ?_
  refine G_if_ne 84 rfl rfl (fun _ => ?_) (fun h9 => absurd h9 (by decide))
  exact r_lF0 (by decide)
theorem r_lA3_0 {d : Nat} {sw : Bool} {gc : Nat} {I : Nat → Nat → Int32} {J : Nat → Nat → Int64} {Iz : Nat → Nat → Int32} {A B S V f W : Int32} {a b e : Int32} (hm : I 67 0 = -4) (hn : GM (d + 4) 106 [.ref 62] (qS sw gc (r_R I a b 1 0 0 e) J) none (qS sw gc (r_R I A B S V f W) J)) (H : G (d + 5) 109 (84, [some (.ref 62), some (.int 0), none, none], [], qS sw gc (r_R I A B S V f W) J) none (qS sw gc Iz J)) : G (d + 5) 109 (0, [some (.ref 62), none, none, none], [], qS sw gc (r_R I a b 1 0 0 e) J) none (qS sw gc Iz J) := by
  refine G_st (L := 89) (k := 2) (4, [some (.ref 62), none, none, none], [.int 0], qS sw gc (r_R I a b 1 0 0 e) J) (q_hn _ _ _ _) rfl ?_
  refine G_if_ne 24 rfl rfl (fun h9 => absurd h9 (by decide)) (fun _ => ?_)
  refine G_st (L := 89) (k := 3) (12, [some (.ref 62), none, none, none], [.int 1, .int 1], qS sw gc (r_R I a b 1 0 0 e) J) (q_hn _ _ _ _) rfl ?_
  refine G_icmp_eq 24 rfl rfl (fun _ => ?_) (fun h9 => absurd h9 (by decide))
  refine G_st (L := 89) (k := 2) (28, [some (.ref 62), none, none, none], [.int 0], qS sw gc (r_R I a b 1 0 0 e) J) (q_hn _ _ _ _) rfl ?_
  refine G_if_le 32 rfl rfl (fun _ => ?_) (fun h9 => absurd h9 (by decide))
  refine G_st (L := 89) (k := 5) (39, [some (.ref 62), some (.int 0), none, none], [.int 4, .int 0], qS sw gc (r_R I a b 1 0 0 e) J) (q_hn _ _ _ _) rfl ?_
  refine G_icmp_ne 53 rfl rfl (fun _ => ?_) (fun h9 => absurd h9 (by decide))
  refine G_st (L := 89) (k := 3) (58, [some (.ref 62), some (.int 0), none, none], [.int 0, .ref 67], qS sw gc (r_R I a b 1 0 0 e) J) (q_hn _ _ _ _) rfl ?_
  refine G_iald (i := 67) (n := 4) rfl rfl (q_lt (by decide)) (by unfold vp_in; decide) ?_
  rw [show (0 : Int32).toNatClampNeg = 0 from rfl]
  rw [show q_i (qS sw gc (r_R I a b 1 0 0 e) J) 67 0 = I 67 0 from (show (r_R I a b 1 0 0 e) 67 0 = I 67 0 from r_R_un (by omega))]
  refine G_st (L := 89) (k := 1) (61, [some (.ref 62), some (.int 0), none, none], [.int (-4), .int (I 67 0)], qS sw gc (r_R I a b 1 0 0 e) J) (q_hn _ _ _ _) rfl ?_
  refine G_icmp_eq 73 rfl rfl (fun _ => ?_) (fun h9 => absurd hm h9)
  refine G_st (L := 89) (k := 2) (77, [some (.ref 62), some (.int 0), none, none], [.int 0], qS sw gc (r_R I a b 1 0 0 e) J) (q_hn _ _ _ _) rfl ?_
  refine G_if_ne 84 rfl rfl (fun h9 => absurd h9 (by decide)) (fun _ => ?_)
  refine G_st (L := 89) (k := 1) (81, [some (.ref 62), some (.int 0), none, none], [.ref 62], qS sw gc (r_R I a b 1 0 0 e) J) (q_hn _ _ _ _) rfl ?_
  refine G_callV (b := 62) (ci := 9) (as := []) (rest := []) rfl rfl rfl (q_lt (by decide)) (by decide) rfl rfl (Nat.le_of_ble_eq_true rfl) hn x_out_n ?_
  refine G_st (L := 89) (k := 0) (84, [some (.ref 62), some (.int 0), none, none], [], qS sw gc (r_R I A B S V f W) J) (q_hn _ _ _ _) rfl ?_
  exact H
theorem r_lB1_0 {d : Nat} {sw : Bool} {gc : Nat} {I : Nat → Nat → Int32} {J : Nat → Nat → Int64} {a b s v e : Int32} (hs : ¬ s = 2) : G (d + 5) 109 (84, [some (.ref 62), some (.int 0), none, none], [], qS sw gc (r_R I a b s v 0 e) J) none (qS sw gc (r_R (q_u I 67 0 v) a b s v 2 b) J) := by
  refine G_st (L := 89) (k := 2) (86, [some (.ref 62), some (.int 0), none, none], [.int 4, .int 0], qS sw gc (r_R I a b s v 0 e) J) (q_hn _ _ _ _) rfl ?_
  refine G_icmp_ne 195 rfl rfl (fun _ => ?_) (fun h9 => absurd h9 (by decide))
  refine G_st (L := 89) (k := 3) (198, [some (.ref 62), some (.int 0), none, none], [.int 1, .int 0, .ref 62], qS sw gc (r_R I a b s v 0 e) J) (q_hn _ _ _ _) rfl ?_
  refine G_icmp_ne 205 rfl rfl (fun _ => ?_) (fun h9 => absurd h9 (by decide))
  refine G_st (L := 89) (k := 2) (207, [some (.ref 62), some (.int 0), none, none], [.int 0, .int 0, .ref 62], qS sw gc (r_R I a b s v 0 e) J) (q_hn _ _ _ _) rfl ?_
  refine G_if_ne 216 rfl rfl (fun h9 => absurd h9 (by decide)) (fun _ => ?_)
  refine G_st (L := 89) (k := 2) (239, [some (.ref 62), some (.int 0), none, none], [.int 9999, .int 0, .ref 62], qS sw gc (r_R I a b s v 0 e) J) (q_hn _ _ _ _) rfl ?_
  refine G_callV (b := 62) (ci := 9) (as := [.int 0, .int 9999]) (rest := []) rfl rfl rfl (q_lt (by decide)) (by decide) rfl rfl (Nat.le_of_ble_eq_true rfl) (r_wants2 hs) x_out_n ?_
  refine G_st (L := 89) (k := 1) (243, [some (.ref 62), some (.int 0), none, none], [.ref 62], qS sw gc (r_R I a b s v 2 b) J) (q_hn _ _ _ _) rfl ?_
  refine G_callV (b := 62) (ci := 9) (as := []) (rest := []) rfl rfl rfl (q_lt (by decide)) (by decide) rfl rfl (Nat.le_of_ble_eq_true rfl) (r_takenF (show ¬ (2 : Int32) = 0 by decide)) x_out_n ?_
  refine G_st (L := 89) (k := 5) (253, [some (.ref 62), some (.int 0), some (.int v), none], [.int v, .int 0, .ref 67], qS sw gc (r_R I a b s v 2 b) J) (q_hn _ _ _ _) rfl ?_
  refine G_iast (i := 67) (n := 4) rfl rfl (q_lt (by decide)) (by unfold vp_in; decide) ?_
  refine G_st (L := 89) (k := 0) (254, [some (.ref 62), some (.int 0), some (.int v), none], [], qS sw gc (q_u (r_R I a b s v 2 b) 67 0 v) J) (q_hn _ _ _ _) rfl ?_
  rw [r_R_cm (by omega)]
  refine G_fg [some (.ref 62), none, none, none] (by repeat (first | exact trivial | refine ⟨rfl, ?_⟩)) ?_
  exact r_lE0 (by decide)
theorem r_lB2_0 {d : Nat} {sw : Bool} {gc : Nat} {I : Nat → Nat → Int32} {J : Nat → Nat → Int64} {a b v e : Int32} (hv : f_i3 v 0 9999 = 0) : G (d + 5) 109 (84, [some (.ref 62), some (.int 0), none, none], [], qS sw gc (r_R I a b 2 v 0 e) J) none (qS sw gc (r_R (q_u I 67 0 v) a b 2 v 3 b) J) := by
  refine G_st (L := 89) (k := 2) (86, [some (.ref 62), some (.int 0), none, none], [.int 4, .int 0], qS sw gc (r_R I a b 2 v 0 e) J) (q_hn _ _ _ _) rfl ?_
  refine G_icmp_ne 195 rfl rfl (fun _ => ?_) (fun h9 => absurd h9 (by decide))
  refine G_st (L := 89) (k := 3) (198, [some (.ref 62), some (.int 0), none, none], [.int 1, .int 0, .ref 62], qS sw gc (r_R I a b 2 v 0 e) J) (q_hn _ _ _ _) rfl ?_
  refine G_icmp_ne 205 rfl rfl (fun _ => ?_) (fun h9 => absurd h9 (by decide))
  refine G_st (L := 89) (k := 2) (207, [some (.ref 62), some (.int 0), none, none], [.int 0, .int 0, .ref 62], qS sw gc (r_R I a b 2 v 0 e) J) (q_hn _ _ _ _) rfl ?_
  refine G_if_ne 216 rfl rfl (fun h9 => absurd h9 (by decide)) (fun _ => ?_)
  refine G_st (L := 89) (k := 2) (239, [some (.ref 62), some (.int 0), none, none], [.int 9999, .int 0, .ref 62], qS sw gc (r_R I a b 2 v 0 e) J) (q_hn _ _ _ _) rfl ?_
  refine G_callV (b := 62) (ci := 9) (as := [.int 0, .int 9999]) (rest := []) rfl rfl rfl (q_lt (by decide)) (by decide) rfl rfl (Nat.le_of_ble_eq_true rfl) (r_wants3 hv) x_out_n ?_
  refine G_st (L := 89) (k := 1) (243, [some (.ref 62), some (.int 0), none, none], [.ref 62], qS sw gc (r_R I a b 2 v 3 b) J) (q_hn _ _ _ _) rfl ?_
  refine G_callV (b := 62) (ci := 9) (as := []) (rest := []) rfl rfl rfl (q_lt (by decide)) (by decide) rfl rfl (Nat.le_of_ble_eq_true rfl) (r_takenF (show ¬ (3 : Int32) = 0 by decide)) x_out_n ?_
  refine G_st (L := 89) (k := 5) (253, [some (.ref 62), some (.int 0), some (.int v), none], [.int v, .int 0, .ref 67], qS sw gc (r_R I a b 2 v 3 b) J) (q_hn _ _ _ _) rfl ?_
  refine G_iast (i := 67) (n := 4) rfl rfl (q_lt (by decide)) (by unfold vp_in; decide) ?_
  refine G_st (L := 89) (k := 0) (254, [some (.ref 62), some (.int 0), some (.int v), none], [], qS sw gc (q_u (r_R I a b 2 v 3 b) 67 0 v) J) (q_hn _ _ _ _) rfl ?_
  rw [r_R_cm (by omega)]
  refine G_fg [some (.ref 62), none, none, none] (by repeat (first | exact trivial | refine ⟨rfl, ?_⟩)) ?_
  exact r_lE0 (by decide)
theorem r_lB3_0 {d : Nat} {sw : Bool} {gc : Nat} {I : Nat → Nat → Int32} {J : Nat → Nat → Int64} {Iz : Nat → Nat → Int32} {A B S V f W : Int32} {a b v e : Int32} (hv : f_i3 v 0 9999 = 1) (hn : GM (d + 3) 106 [.ref 62] (qS sw gc (r_R I a b 2 v 0 e) J) none (qS sw gc (r_R I A B S V f W) J)) (H : G (d + 5) 109 (254, [some (.ref 62), none, none, none], [], qS sw gc (r_R (q_u I 67 0 v) A B S V f W) J) none (qS sw gc Iz J)) : G (d + 5) 109 (84, [some (.ref 62), some (.int 0), none, none], [], qS sw gc (r_R I a b 2 v 0 e) J) none (qS sw gc Iz J) := by
  refine G_st (L := 89) (k := 2) (86, [some (.ref 62), some (.int 0), none, none], [.int 4, .int 0], qS sw gc (r_R I a b 2 v 0 e) J) (q_hn _ _ _ _) rfl ?_
  refine G_icmp_ne 195 rfl rfl (fun _ => ?_) (fun h9 => absurd h9 (by decide))
  refine G_st (L := 89) (k := 3) (198, [some (.ref 62), some (.int 0), none, none], [.int 1, .int 0, .ref 62], qS sw gc (r_R I a b 2 v 0 e) J) (q_hn _ _ _ _) rfl ?_
  refine G_icmp_ne 205 rfl rfl (fun _ => ?_) (fun h9 => absurd h9 (by decide))
  refine G_st (L := 89) (k := 2) (207, [some (.ref 62), some (.int 0), none, none], [.int 0, .int 0, .ref 62], qS sw gc (r_R I a b 2 v 0 e) J) (q_hn _ _ _ _) rfl ?_
  refine G_if_ne 216 rfl rfl (fun h9 => absurd h9 (by decide)) (fun _ => ?_)
  refine G_st (L := 89) (k := 2) (239, [some (.ref 62), some (.int 0), none, none], [.int 9999, .int 0, .ref 62], qS sw gc (r_R I a b 2 v 0 e) J) (q_hn _ _ _ _) rfl ?_
  refine G_callV (b := 62) (ci := 9) (as := [.int 0, .int 9999]) (rest := []) rfl rfl rfl (q_lt (by decide)) (by decide) rfl rfl (Nat.le_of_ble_eq_true rfl) (r_wantsO hv) x_out_n ?_
  refine G_st (L := 89) (k := 1) (243, [some (.ref 62), some (.int 0), none, none], [.ref 62], qS sw gc (r_R I a b 2 v 0 e) J) (q_hn _ _ _ _) rfl ?_
  refine G_callV (b := 62) (ci := 9) (as := []) (rest := []) rfl rfl rfl (q_lt (by decide)) (by decide) rfl rfl (Nat.le_of_ble_eq_true rfl) (r_taken0 hn) x_out_n ?_
  refine G_st (L := 89) (k := 5) (253, [some (.ref 62), some (.int 0), some (.int v), none], [.int v, .int 0, .ref 67], qS sw gc (r_R I A B S V f W) J) (q_hn _ _ _ _) rfl ?_
  refine G_iast (i := 67) (n := 4) rfl rfl (q_lt (by decide)) (by unfold vp_in; decide) ?_
  refine G_st (L := 89) (k := 0) (254, [some (.ref 62), some (.int 0), some (.int v), none], [], qS sw gc (q_u (r_R I A B S V f W) 67 0 v) J) (q_hn _ _ _ _) rfl ?_
  rw [r_R_cm (by omega)]
  refine G_fg [some (.ref 62), none, none, none] (by repeat (first | exact trivial | refine ⟨rfl, ?_⟩)) ?_
  exact H
theorem r_lF1 {d : Nat} {sw : Bool} {gc : Nat} {I : Nat → Nat → Int32} {J : Nat → Nat → Int64} {a b s v f e : Int32} (hf : ¬ f = 0) : G (d + 5) 109 (84, [some (.ref 62), some (.int 1), none, none], [], qS sw gc (r_R I a b s v f e) J) none (qS sw gc (r_R (q_u I 67 1 v) a b s v f e) J) := by
  refine G_st (L := 89) (k := 2) (86, [some (.ref 62), some (.int 1), none, none], [.int 4, .int 1], qS sw gc (r_R I a b s v f e) J) (q_hn _ _ _ _) rfl ?_
  refine G_icmp_ne 195 rfl rfl (fun _ => ?_) (fun h9 => absurd h9 (by decide))
  refine G_st (L := 89) (k := 3) (198, [some (.ref 62), some (.int 1), none, none], [.int 1, .int 1, .ref 62], qS sw gc (r_R I a b s v f e) J) (q_hn _ _ _ _) rfl ?_
  refine G_icmp_ne 205 rfl rfl (fun h9 => absurd h9 (by decide)) (fun _ => ?_)
  refine G_st (L := 89) (k := 3) (207, [some (.ref 62), some (.int 1), none, none], [.int 1, .int 1, .ref 62], qS sw gc (r_R I a b s v f e) J) (q_hn _ _ _ _) rfl ?_
  refine G_if_ne 216 rfl rfl (fun _ => ?_) (fun h9 => absurd h9 (by decide))
  refine G_st (L := 89) (k := 2) (218, [some (.ref 62), some (.int 1), none, none], [.int 1, .int 1, .int 1, .ref 62], qS sw gc (r_R I a b s v f e) J) (q_hn _ _ _ _) rfl ?_
  refine G_icmp_ne 226 rfl rfl (fun h9 => absurd h9 (by decide)) (fun _ => ?_)
  refine G_st (L := 89) (k := 2) (239, [some (.ref 62), some (.int 1), none, none], [.int 20, .int 1, .ref 62], qS sw gc (r_R I a b s v f e) J) (q_hn _ _ _ _) rfl ?_
  refine G_callV (b := 62) (ci := 9) (as := [.int 1, .int 20]) (rest := []) rfl rfl rfl (q_lt (by decide)) (by decide) rfl rfl (Nat.le_of_ble_eq_true rfl) (r_wantsF hf) x_out_n ?_
  refine G_st (L := 89) (k := 1) (243, [some (.ref 62), some (.int 1), none, none], [.ref 62], qS sw gc (r_R I a b s v f e) J) (q_hn _ _ _ _) rfl ?_
  refine G_callV (b := 62) (ci := 9) (as := []) (rest := []) rfl rfl rfl (q_lt (by decide)) (by decide) rfl rfl (Nat.le_of_ble_eq_true rfl) (r_takenF hf) x_out_n ?_
  refine G_st (L := 89) (k := 5) (253, [some (.ref 62), some (.int 1), some (.int v), none], [.int v, .int 1, .ref 67], qS sw gc (r_R I a b s v f e) J) (q_hn _ _ _ _) rfl ?_
  refine G_iast (i := 67) (n := 4) rfl rfl (q_lt (by decide)) (by unfold vp_in; decide) ?_
  refine G_st (L := 89) (k := 0) (254, [some (.ref 62), some (.int 1), some (.int v), none], [], qS sw gc (q_u (r_R I a b s v f e) 67 1 v) J) (q_hn _ _ _ _) rfl ?_
  rw [r_R_cm (by omega)]
  refine G_fg [some (.ref 62), none, none, none] (by repeat (first | exact trivial | refine ⟨rfl, ?_⟩)) ?_
  exact r_lE0 hf
theorem r_lA2_1 {d : Nat} {sw : Bool} {gc : Nat} {I : Nat → Nat → Int32} {J : Nat → Nat → Int64} {a b e : Int32} (hm : ¬ I 67 1 = -4) : G (d + 5) 109 (0, [some (.ref 62), none, none, none], [], qS sw gc (r_R I a b 1 1 0 e) J) none (qS sw gc (r_R (q_u I 67 1 1) a b 1 1 4 b) J) := by
  refine G_st (L := 89) (k := 2) (4, [some (.ref 62), none, none, none], [.int 0], qS sw gc (r_R I a b 1 1 0 e) J) (q_hn _ _ _ _) rfl ?_
  refine G_if_ne 24 rfl rfl (fun h9 => absurd h9 (by decide)) (fun _ => ?_)
  refine G_st (L := 89) (k := 3) (12, [some (.ref 62), none, none, none], [.int 1, .int 1], qS sw gc (r_R I a b 1 1 0 e) J) (q_hn _ _ _ _) rfl ?_
  refine G_icmp_eq 24 rfl rfl (fun _ => ?_) (fun h9 => absurd h9 (by decide))
  refine G_st (L := 89) (k := 2) (28, [some (.ref 62), none, none, none], [.int 0], qS sw gc (r_R I a b 1 1 0 e) J) (q_hn _ _ _ _) rfl ?_
  refine G_if_le 32 rfl rfl (fun _ => ?_) (fun h9 => absurd h9 (by decide))
  refine G_st (L := 89) (k := 5) (39, [some (.ref 62), some (.int 1), none, none], [.int 4, .int 1], qS sw gc (r_R I a b 1 1 0 e) J) (q_hn _ _ _ _) rfl ?_
  refine G_icmp_ne 53 rfl rfl (fun _ => ?_) (fun h9 => absurd h9 (by decide))
  refine G_st (L := 89) (k := 3) (58, [some (.ref 62), some (.int 1), none, none], [.int 1, .ref 67], qS sw gc (r_R I a b 1 1 0 e) J) (q_hn _ _ _ _) rfl ?_
  refine G_iald (i := 67) (n := 4) rfl rfl (q_lt (by decide)) (by unfold vp_in; decide) ?_
  rw [show (1 : Int32).toNatClampNeg = 1 from rfl]
  rw [show q_i (qS sw gc (r_R I a b 1 1 0 e) J) 67 1 = I 67 1 from (show (r_R I a b 1 1 0 e) 67 1 = I 67 1 from r_R_un (by omega))]
  refine G_st (L := 89) (k := 1) (61, [some (.ref 62), some (.int 1), none, none], [.int (-4), .int (I 67 1)], qS sw gc (r_R I a b 1 1 0 e) J) (q_hn _ _ _ _) rfl ?_
  refine G_icmp_eq 73 rfl rfl (fun h9 => absurd h9 hm) (fun _ => ?_)
  refine G_st (L := 89) (k := 4) (70, [some (.ref 62), some (.int 1), none, none], [.int b, .int 4, .ref 62], qS sw gc (r_R I a b 1 1 0 e) J) (q_hn _ _ _ _) rfl ?_
  refine G_callV (b := 62) (ci := 9) (as := [.int 4, .int b]) (rest := []) rfl rfl rfl (q_lt (by decide)) (by decide) rfl rfl (Nat.le_of_ble_eq_true rfl) r_fails0 x_out_n ?_
  refine G_st (L := 89) (k := 2) (77, [some (.ref 62), some (.int 1), none, none], [.int 4], qS sw gc (r_R I a b 1 1 4 b) J) (q_hn _ _ _ _) rfl ?_
  refine G_if_ne 84 rfl rfl (fun _ => ?_) (fun h9 => absurd h9 (by decide))
  exact r_lF1 (by decide)
theorem r_lA3_1 {d : Nat} {sw : Bool} {gc : Nat} {I : Nat → Nat → Int32} {J : Nat → Nat → Int64} {Iz : Nat → Nat → Int32} {A B S V f W : Int32} {a b e : Int32} (hm : I 67 1 = -4) (hn : GM (d + 4) 106 [.ref 62] (qS sw gc (r_R I a b 1 1 0 e) J) none (qS sw gc (r_R I A B S V f W) J)) (H : G (d + 5) 109 (84, [some (.ref 62), some (.int 1), none, none], [], qS sw gc (r_R I A B S V f W) J) none (qS sw gc Iz J)) : G (d + 5) 109 (0, [some (.ref 62), none, none, none], [], qS sw gc (r_R I a b 1 1 0 e) J) none (qS sw gc Iz J) := by
  refine G_st (L := 89) (k := 2) (4, [some (.ref 62), none, none, none], [.int 0], qS sw gc (r_R I a b 1 1 0 e) J) (q_hn _ _ _ _) rfl ?_
  refine G_if_ne 24 rfl rfl (fun h9 => absurd h9 (by decide)) (fun _ => ?_)
  refine G_st (L := 89) (k := 3) (12, [some (.ref 62), none, none, none], [.int 1, .int 1], qS sw gc (r_R I a b 1 1 0 e) J) (q_hn _ _ _ _) rfl ?_
  refine G_icmp_eq 24 rfl rfl (fun _ => ?_) (fun h9 => absurd h9 (by decide))
  refine G_st (L := 89) (k := 2) (28, [some (.ref 62), none, none, none], [.int 0], qS sw gc (r_R I a b 1 1 0 e) J) (q_hn _ _ _ _) rfl ?_
  refine G_if_le 32 rfl rfl (fun _ => ?_) (fun h9 => absurd h9 (by decide))
  refine G_st (L := 89) (k := 5) (39, [some (.ref 62), some (.int 1), none, none], [.int 4, .int 1], qS sw gc (r_R I a b 1 1 0 e) J) (q_hn _ _ _ _) rfl ?_
  refine G_icmp_ne 53 rfl rfl (fun _ => ?_) (fun h9 => absurd h9 (by decide))
  refine G_st (L := 89) (k := 3) (58, [some (.ref 62), some (.int 1), none, none], [.int 1, .ref 67], qS sw gc (r_R I a b 1 1 0 e) J) (q_hn _ _ _ _) rfl ?_
  refine G_iald (i := 67) (n := 4) rfl rfl (q_lt (by decide)) (by unfold vp_in; decide) ?_
  rw [show (1 : Int32).toNatClampNeg = 1 from rfl]
  rw [show q_i (qS sw gc (r_R I a b 1 1 0 e) J) 67 1 = I 67 1 from (show (r_R I a b 1 1 0 e) 67 1 = I 67 1 from r_R_un (by omega))]
  refine G_st (L := 89) (k := 1) (61, [some (.ref 62), some (.int 1), none, none], [.int (-4), .int (I 67 1)], qS sw gc (r_R I a b 1 1 0 e) J) (q_hn _ _ _ _) rfl ?_
  refine G_icmp_eq 73 rfl rfl (fun _ => ?_) (fun h9 => absurd hm h9)
  refine G_st (L := 89) (k := 2) (77, [some (.ref 62), some (.int 1), none, none], [.int 0], qS sw gc (r_R I a b 1 1 0 e) J) (q_hn _ _ _ _) rfl ?_
  refine G_if_ne 84 rfl rfl (fun h9 => absurd h9 (by decide)) (fun _ => ?_)
  refine G_st (L := 89) (k := 1) (81, [some (.ref 62), some (.int 1), none, none], [.ref 62], qS sw gc (r_R I a b 1 1 0 e) J) (q_hn _ _ _ _) rfl ?_
  refine G_callV (b := 62) (ci := 9) (as := []) (rest := []) rfl rfl rfl (q_lt (by decide)) (by decide) rfl rfl (Nat.le_of_ble_eq_true rfl) hn x_out_n ?_
  refine G_st (L := 89) (k := 0) (84, [some (.ref 62), some (.int 1), none, none], [], qS sw gc (r_R I A B S V f W) J) (q_hn _ _ _ _) rfl ?_
  exact H
theorem r_lB1_1 {d : Nat} {sw : Bool} {gc : Nat} {I : Nat → Nat → Int32} {J : Nat → Nat → Int64} {a b s v e : Int32} (hs : ¬ s = 2) : G (d + 5) 109 (84, [some (.ref 62), some (.int 1), none, none], [], qS sw gc (r_R I a b s v 0 e) J) none (qS sw gc (r_R (q_u I 67 1 v) a b s v 2 b) J) := by
  refine G_st (L := 89) (k := 2) (86, [some (.ref 62), some (.int 1), none, none], [.int 4, .int 1], qS sw gc (r_R I a b s v 0 e) J) (q_hn _ _ _ _) rfl ?_
  refine G_icmp_ne 195 rfl rfl (fun _ => ?_) (fun h9 => absurd h9 (by decide))
  refine G_st (L := 89) (k := 3) (198, [some (.ref 62), some (.int 1), none, none], [.int 1, .int 1, .ref 62], qS sw gc (r_R I a b s v 0 e) J) (q_hn _ _ _ _) rfl ?_
  refine G_icmp_ne 205 rfl rfl (fun h9 => absurd h9 (by decide)) (fun _ => ?_)
  refine G_st (L := 89) (k := 3) (207, [some (.ref 62), some (.int 1), none, none], [.int 1, .int 1, .ref 62], qS sw gc (r_R I a b s v 0 e) J) (q_hn _ _ _ _) rfl ?_
  refine G_if_ne 216 rfl rfl (fun _ => ?_) (fun h9 => absurd h9 (by decide))
  refine G_st (L := 89) (k := 2) (218, [some (.ref 62), some (.int 1), none, none], [.int 1, .int 1, .int 1, .ref 62], qS sw gc (r_R I a b s v 0 e) J) (q_hn _ _ _ _) rfl ?_
  refine G_icmp_ne 226 rfl rfl (fun h9 => absurd h9 (by decide)) (fun _ => ?_)
  refine G_st (L := 89) (k := 2) (239, [some (.ref 62), some (.int 1), none, none], [.int 20, .int 1, .ref 62], qS sw gc (r_R I a b s v 0 e) J) (q_hn _ _ _ _) rfl ?_
  refine G_callV (b := 62) (ci := 9) (as := [.int 1, .int 20]) (rest := []) rfl rfl rfl (q_lt (by decide)) (by decide) rfl rfl (Nat.le_of_ble_eq_true rfl) (r_wants2 hs) x_out_n ?_
  refine G_st (L := 89) (k := 1) (243, [some (.ref 62), some (.int 1), none, none], [.ref 62], qS sw gc (r_R I a b s v 2 b) J) (q_hn _ _ _ _) rfl ?_
  refine G_callV (b := 62) (ci := 9) (as := []) (rest := []) rfl rfl rfl (q_lt (by decide)) (by decide) rfl rfl (Nat.le_of_ble_eq_true rfl) (r_takenF (show ¬ (2 : Int32) = 0 by decide)) x_out_n ?_
  refine G_st (L := 89) (k := 5) (253, [some (.ref 62), some (.int 1), some (.int v), none], [.int v, .int 1, .ref 67], qS sw gc (r_R I a b s v 2 b) J) (q_hn _ _ _ _) rfl ?_
  refine G_iast (i := 67) (n := 4) rfl rfl (q_lt (by decide)) (by unfold vp_in; decide) ?_
  refine G_st (L := 89) (k := 0) (254, [some (.ref 62), some (.int 1), some (.int v), none], [], qS sw gc (q_u (r_R I a b s v 2 b) 67 1 v) J) (q_hn _ _ _ _) rfl ?_
  rw [r_R_cm (by omega)]
  refine G_fg [some (.ref 62), none, none, none] (by repeat (first | exact trivial | refine ⟨rfl, ?_⟩)) ?_
  exact r_lE0 (by decide)
theorem r_lB2_1 {d : Nat} {sw : Bool} {gc : Nat} {I : Nat → Nat → Int32} {J : Nat → Nat → Int64} {a b v e : Int32} (hv : f_i3 v 1 20 = 0) : G (d + 5) 109 (84, [some (.ref 62), some (.int 1), none, none], [], qS sw gc (r_R I a b 2 v 0 e) J) none (qS sw gc (r_R (q_u I 67 1 v) a b 2 v 3 b) J) := by
  refine G_st (L := 89) (k := 2) (86, [some (.ref 62), some (.int 1), none, none], [.int 4, .int 1], qS sw gc (r_R I a b 2 v 0 e) J) (q_hn _ _ _ _) rfl ?_
  refine G_icmp_ne 195 rfl rfl (fun _ => ?_) (fun h9 => absurd h9 (by decide))
  refine G_st (L := 89) (k := 3) (198, [some (.ref 62), some (.int 1), none, none], [.int 1, .int 1, .ref 62], qS sw gc (r_R I a b 2 v 0 e) J) (q_hn _ _ _ _) rfl ?_
  refine G_icmp_ne 205 rfl rfl (fun h9 => absurd h9 (by decide)) (fun _ => ?_)
  refine G_st (L := 89) (k := 3) (207, [some (.ref 62), some (.int 1), none, none], [.int 1, .int 1, .ref 62], qS sw gc (r_R I a b 2 v 0 e) J) (q_hn _ _ _ _) rfl ?_
  refine G_if_ne 216 rfl rfl (fun _ => ?_) (fun h9 => absurd h9 (by decide))
  refine G_st (L := 89) (k := 2) (218, [some (.ref 62), some (.int 1), none, none], [.int 1, .int 1, .int 1, .ref 62], qS sw gc (r_R I a b 2 v 0 e) J) (q_hn _ _ _ _) rfl ?_
  refine G_icmp_ne 226 rfl rfl (fun h9 => absurd h9 (by decide)) (fun _ => ?_)
  refine G_st (L := 89) (k := 2) (239, [some (.ref 62), some (.int 1), none, none], [.int 20, .int 1, .ref 62], qS sw gc (r_R I a b 2 v 0 e) J) (q_hn _ _ _ _) rfl ?_
  refine G_callV (b := 62) (ci := 9) (as := [.int 1, .int 20]) (rest := []) rfl rfl rfl (q_lt (by decide)) (by decide) rfl rfl (Nat.le_of_ble_eq_true rfl) (r_wants3 hv) x_out_n ?_
  refine G_st (L := 89) (k := 1) (243, [some (.ref 62), some (.int 1), none, none], [.ref 62], qS sw gc (r_R I a b 2 v 3 b) J) (q_hn _ _ _ _) rfl ?_
  refine G_callV (b := 62) (ci := 9) (as := []) (rest := []) rfl rfl rfl (q_lt (by decide)) (by decide) rfl rfl (Nat.le_of_ble_eq_true rfl) (r_takenF (show ¬ (3 : Int32) = 0 by decide)) x_out_n ?_
  refine G_st (L := 89) (k := 5) (253, [some (.ref 62), some (.int 1), some (.int v), none], [.int v, .int 1, .ref 67], qS sw gc (r_R I a b 2 v 3 b) J) (q_hn _ _ _ _) rfl ?_
  refine G_iast (i := 67) (n := 4) rfl rfl (q_lt (by decide)) (by unfold vp_in; decide) ?_
  refine G_st (L := 89) (k := 0) (254, [some (.ref 62), some (.int 1), some (.int v), none], [], qS sw gc (q_u (r_R I a b 2 v 3 b) 67 1 v) J) (q_hn _ _ _ _) rfl ?_
  rw [r_R_cm (by omega)]
  refine G_fg [some (.ref 62), none, none, none] (by repeat (first | exact trivial | refine ⟨rfl, ?_⟩)) ?_
  exact r_lE0 (by decide)
theorem r_lB3_1 {d : Nat} {sw : Bool} {gc : Nat} {I : Nat → Nat → Int32} {J : Nat → Nat → Int64} {Iz : Nat → Nat → Int32} {A B S V f W : Int32} {a b v e : Int32} (hv : f_i3 v 1 20 = 1) (hn : GM (d + 3) 106 [.ref 62] (qS sw gc (r_R I a b 2 v 0 e) J) none (qS sw gc (r_R I A B S V f W) J)) (H : G (d + 5) 109 (254, [some (.ref 62), none, none, none], [], qS sw gc (r_R (q_u I 67 1 v) A B S V f W) J) none (qS sw gc Iz J)) : G (d + 5) 109 (84, [some (.ref 62), some (.int 1), none, none], [], qS sw gc (r_R I a b 2 v 0 e) J) none (qS sw gc Iz J) := by
  refine G_st (L := 89) (k := 2) (86, [some (.ref 62), some (.int 1), none, none], [.int 4, .int 1], qS sw gc (r_R I a b 2 v 0 e) J) (q_hn _ _ _ _) rfl ?_
  refine G_icmp_ne 195 rfl rfl (fun _ => ?_) (fun h9 => absurd h9 (by decide))
  refine G_st (L := 89) (k := 3) (198, [some (.ref 62), some (.int 1), none, none], [.int 1, .int 1, .ref 62], qS sw gc (r_R I a b 2 v 0 e) J) (q_hn _ _ _ _) rfl ?_
  refine G_icmp_ne 205 rfl rfl (fun h9 => absurd h9 (by decide)) (fun _ => ?_)
  refine G_st (L := 89) (k := 3) (207, [some (.ref 62), some (.int 1), none, none], [.int 1, .int 1, .ref 62], qS sw gc (r_R I a b 2 v 0 e) J) (q_hn _ _ _ _) rfl ?_
  refine G_if_ne 216 rfl rfl (fun _ => ?_) (fun h9 => absurd h9 (by decide))
  refine G_st (L := 89) (k := 2) (218, [some (.ref 62), some (.int 1), none, none], [.int 1, .int 1, .int 1, .ref 62], qS sw gc (r_R I a b 2 v 0 e) J) (q_hn _ _ _ _) rfl ?_
  refine G_icmp_ne 226 rfl rfl (fun h9 => absurd h9 (by decide)) (fun _ => ?_)
  refine G_st (L := 89) (k := 2) (239, [some (.ref 62), some (.int 1), none, none], [.int 20, .int 1, .ref 62], qS sw gc (r_R I a b 2 v 0 e) J) (q_hn _ _ _ _) rfl ?_
  refine G_callV (b := 62) (ci := 9) (as := [.int 1, .int 20]) (rest := []) rfl rfl rfl (q_lt (by decide)) (by decide) rfl rfl (Nat.le_of_ble_eq_true rfl) (r_wantsO hv) x_out_n ?_
  refine G_st (L := 89) (k := 1) (243, [some (.ref 62), some (.int 1), none, none], [.ref 62], qS sw gc (r_R I a b 2 v 0 e) J) (q_hn _ _ _ _) rfl ?_
  refine G_callV (b := 62) (ci := 9) (as := []) (rest := []) rfl rfl rfl (q_lt (by decide)) (by decide) rfl rfl (Nat.le_of_ble_eq_true rfl) (r_taken0 hn) x_out_n ?_
  refine G_st (L := 89) (k := 5) (253, [some (.ref 62), some (.int 1), some (.int v), none], [.int v, .int 1, .ref 67], qS sw gc (r_R I A B S V f W) J) (q_hn _ _ _ _) rfl ?_
  refine G_iast (i := 67) (n := 4) rfl rfl (q_lt (by decide)) (by unfold vp_in; decide) ?_
  refine G_st (L := 89) (k := 0) (254, [some (.ref 62), some (.int 1), some (.int v), none], [], qS sw gc (q_u (r_R I A B S V f W) 67 1 v) J) (q_hn _ _ _ _) rfl ?_
  rw [r_R_cm (by omega)]
  refine G_fg [some (.ref 62), none, none, none] (by repeat (first | exact trivial | refine ⟨rfl, ?_⟩)) ?_
  exact H
theorem r_lF2 {d : Nat} {sw : Bool} {gc : Nat} {I : Nat → Nat → Int32} {J : Nat → Nat → Int64} {a b s v f e : Int32} (hf : ¬ f = 0) : G (d + 5) 109 (84, [some (.ref 62), some (.int 2), none, none], [], qS sw gc (r_R I a b s v f e) J) none (qS sw gc (r_R (q_u I 67 2 v) a b s v f e) J) := by
  refine G_st (L := 89) (k := 2) (86, [some (.ref 62), some (.int 2), none, none], [.int 4, .int 2], qS sw gc (r_R I a b s v f e) J) (q_hn _ _ _ _) rfl ?_
  refine G_icmp_ne 195 rfl rfl (fun _ => ?_) (fun h9 => absurd h9 (by decide))
  refine G_st (L := 89) (k := 3) (198, [some (.ref 62), some (.int 2), none, none], [.int 1, .int 2, .ref 62], qS sw gc (r_R I a b s v f e) J) (q_hn _ _ _ _) rfl ?_
  refine G_icmp_ne 205 rfl rfl (fun _ => ?_) (fun h9 => absurd h9 (by decide))
  refine G_st (L := 89) (k := 2) (207, [some (.ref 62), some (.int 2), none, none], [.int 2, .int 0, .ref 62], qS sw gc (r_R I a b s v f e) J) (q_hn _ _ _ _) rfl ?_
  refine G_if_ne 216 rfl rfl (fun _ => ?_) (fun h9 => absurd h9 (by decide))
  refine G_st (L := 89) (k := 2) (218, [some (.ref 62), some (.int 2), none, none], [.int 1, .int 2, .int 0, .ref 62], qS sw gc (r_R I a b s v f e) J) (q_hn _ _ _ _) rfl ?_
  refine G_icmp_ne 226 rfl rfl (fun _ => ?_) (fun h9 => absurd h9 (by decide))
  refine G_st (L := 89) (k := 2) (228, [some (.ref 62), some (.int 2), none, none], [.int 2, .int 2, .int 0, .ref 62], qS sw gc (r_R I a b s v f e) J) (q_hn _ _ _ _) rfl ?_
  refine G_icmp_ne 237 rfl rfl (fun h9 => absurd h9 (by decide)) (fun _ => ?_)
  refine G_st (L := 89) (k := 2) (239, [some (.ref 62), some (.int 2), none, none], [.int 999, .int 0, .ref 62], qS sw gc (r_R I a b s v f e) J) (q_hn _ _ _ _) rfl ?_
  refine G_callV (b := 62) (ci := 9) (as := [.int 0, .int 999]) (rest := []) rfl rfl rfl (q_lt (by decide)) (by decide) rfl rfl (Nat.le_of_ble_eq_true rfl) (r_wantsF hf) x_out_n ?_
  refine G_st (L := 89) (k := 1) (243, [some (.ref 62), some (.int 2), none, none], [.ref 62], qS sw gc (r_R I a b s v f e) J) (q_hn _ _ _ _) rfl ?_
  refine G_callV (b := 62) (ci := 9) (as := []) (rest := []) rfl rfl rfl (q_lt (by decide)) (by decide) rfl rfl (Nat.le_of_ble_eq_true rfl) (r_takenF hf) x_out_n ?_
  refine G_st (L := 89) (k := 5) (253, [some (.ref 62), some (.int 2), some (.int v), none], [.int v, .int 2, .ref 67], qS sw gc (r_R I a b s v f e) J) (q_hn _ _ _ _) rfl ?_
  refine G_iast (i := 67) (n := 4) rfl rfl (q_lt (by decide)) (by unfold vp_in; decide) ?_
  refine G_st (L := 89) (k := 0) (254, [some (.ref 62), some (.int 2), some (.int v), none], [], qS sw gc (q_u (r_R I a b s v f e) 67 2 v) J) (q_hn _ _ _ _) rfl ?_
  rw [r_R_cm (by omega)]
  refine G_fg [some (.ref 62), none, none, none] (by repeat (first | exact trivial | refine ⟨rfl, ?_⟩)) ?_
  exact r_lE0 hf
theorem r_lA2_2 {d : Nat} {sw : Bool} {gc : Nat} {I : Nat → Nat → Int32} {J : Nat → Nat → Int64} {a b e : Int32} (hm : ¬ I 67 2 = -4) : G (d + 5) 109 (0, [some (.ref 62), none, none, none], [], qS sw gc (r_R I a b 1 2 0 e) J) none (qS sw gc (r_R (q_u I 67 2 2) a b 1 2 4 b) J) := by
  refine G_st (L := 89) (k := 2) (4, [some (.ref 62), none, none, none], [.int 0], qS sw gc (r_R I a b 1 2 0 e) J) (q_hn _ _ _ _) rfl ?_
  refine G_if_ne 24 rfl rfl (fun h9 => absurd h9 (by decide)) (fun _ => ?_)
  refine G_st (L := 89) (k := 3) (12, [some (.ref 62), none, none, none], [.int 1, .int 1], qS sw gc (r_R I a b 1 2 0 e) J) (q_hn _ _ _ _) rfl ?_
  refine G_icmp_eq 24 rfl rfl (fun _ => ?_) (fun h9 => absurd h9 (by decide))
  refine G_st (L := 89) (k := 2) (28, [some (.ref 62), none, none, none], [.int 0], qS sw gc (r_R I a b 1 2 0 e) J) (q_hn _ _ _ _) rfl ?_
  refine G_if_le 32 rfl rfl (fun _ => ?_) (fun h9 => absurd h9 (by decide))
  refine G_st (L := 89) (k := 5) (39, [some (.ref 62), some (.int 2), none, none], [.int 4, .int 2], qS sw gc (r_R I a b 1 2 0 e) J) (q_hn _ _ _ _) rfl ?_
  refine G_icmp_ne 53 rfl rfl (fun _ => ?_) (fun h9 => absurd h9 (by decide))
  refine G_st (L := 89) (k := 3) (58, [some (.ref 62), some (.int 2), none, none], [.int 2, .ref 67], qS sw gc (r_R I a b 1 2 0 e) J) (q_hn _ _ _ _) rfl ?_
  refine G_iald (i := 67) (n := 4) rfl rfl (q_lt (by decide)) (by unfold vp_in; decide) ?_
  rw [show (2 : Int32).toNatClampNeg = 2 from rfl]
  rw [show q_i (qS sw gc (r_R I a b 1 2 0 e) J) 67 2 = I 67 2 from (show (r_R I a b 1 2 0 e) 67 2 = I 67 2 from r_R_un (by omega))]
  refine G_st (L := 89) (k := 1) (61, [some (.ref 62), some (.int 2), none, none], [.int (-4), .int (I 67 2)], qS sw gc (r_R I a b 1 2 0 e) J) (q_hn _ _ _ _) rfl ?_
  refine G_icmp_eq 73 rfl rfl (fun h9 => absurd h9 hm) (fun _ => ?_)
  refine G_st (L := 89) (k := 4) (70, [some (.ref 62), some (.int 2), none, none], [.int b, .int 4, .ref 62], qS sw gc (r_R I a b 1 2 0 e) J) (q_hn _ _ _ _) rfl ?_
  refine G_callV (b := 62) (ci := 9) (as := [.int 4, .int b]) (rest := []) rfl rfl rfl (q_lt (by decide)) (by decide) rfl rfl (Nat.le_of_ble_eq_true rfl) r_fails0 x_out_n ?_
  refine G_st (L := 89) (k := 2) (77, [some (.ref 62), some (.int 2), none, none], [.int 4], qS sw gc (r_R I a b 1 2 4 b) J) (q_hn _ _ _ _) rfl ?_
  refine G_if_ne 84 rfl rfl (fun _ => ?_) (fun h9 => absurd h9 (by decide))
  exact r_lF2 (by decide)
theorem r_lA3_2 {d : Nat} {sw : Bool} {gc : Nat} {I : Nat → Nat → Int32} {J : Nat → Nat → Int64} {Iz : Nat → Nat → Int32} {A B S V f W : Int32} {a b e : Int32} (hm : I 67 2 = -4) (hn : GM (d + 4) 106 [.ref 62] (qS sw gc (r_R I a b 1 2 0 e) J) none (qS sw gc (r_R I A B S V f W) J)) (H : G (d + 5) 109 (84, [some (.ref 62), some (.int 2), none, none], [], qS sw gc (r_R I A B S V f W) J) none (qS sw gc Iz J)) : G (d + 5) 109 (0, [some (.ref 62), none, none, none], [], qS sw gc (r_R I a b 1 2 0 e) J) none (qS sw gc Iz J) := by
  refine G_st (L := 89) (k := 2) (4, [some (.ref 62), none, none, none], [.int 0], qS sw gc (r_R I a b 1 2 0 e) J) (q_hn _ _ _ _) rfl ?_
  refine G_if_ne 24 rfl rfl (fun h9 => absurd h9 (by decide)) (fun _ => ?_)
  refine G_st (L := 89) (k := 3) (12, [some (.ref 62), none, none, none], [.int 1, .int 1], qS sw gc (r_R I a b 1 2 0 e) J) (q_hn _ _ _ _) rfl ?_
  refine G_icmp_eq 24 rfl rfl (fun _ => ?_) (fun h9 => absurd h9 (by decide))
  refine G_st (L := 89) (k := 2) (28, [some (.ref 62), none, none, none], [.int 0], qS sw gc (r_R I a b 1 2 0 e) J) (q_hn _ _ _ _) rfl ?_
  refine G_if_le 32 rfl rfl (fun _ => ?_) (fun h9 => absurd h9 (by decide))
  refine G_st (L := 89) (k := 5) (39, [some (.ref 62), some (.int 2), none, none], [.int 4, .int 2], qS sw gc (r_R I a b 1 2 0 e) J) (q_hn _ _ _ _) rfl ?_
  refine G_icmp_ne 53 rfl rfl (fun _ => ?_) (fun h9 => absurd h9 (by decide))
  refine G_st (L := 89) (k := 3) (58, [some (.ref 62), some (.int 2), none, none], [.int 2, .ref 67], qS sw gc (r_R I a b 1 2 0 e) J) (q_hn _ _ _ _) rfl ?_
  refine G_iald (i := 67) (n := 4) rfl rfl (q_lt (by decide)) (by unfold vp_in; decide) ?_
  rw [show (2 : Int32).toNatClampNeg = 2 from rfl]
  rw [show q_i (qS sw gc (r_R I a b 1 2 0 e) J) 67 2 = I 67 2 from (show (r_R I a b 1 2 0 e) 67 2 = I 67 2 from r_R_un (by omega))]
  refine G_st (L := 89) (k := 1) (61, [some (.ref 62), some (.int 2), none, none], [.int (-4), .int (I 67 2)], qS sw gc (r_R I a b 1 2 0 e) J) (q_hn _ _ _ _) rfl ?_
  refine G_icmp_eq 73 rfl rfl (fun _ => ?_) (fun h9 => absurd hm h9)
  refine G_st (L := 89) (k := 2) (77, [some (.ref 62), some (.int 2), none, none], [.int 0], qS sw gc (r_R I a b 1 2 0 e) J) (q_hn _ _ _ _) rfl ?_
  refine G_if_ne 84 rfl rfl (fun h9 => absurd h9 (by decide)) (fun _ => ?_)
  refine G_st (L := 89) (k := 1) (81, [some (.ref 62), some (.int 2), none, none], [.ref 62], qS sw gc (r_R I a b 1 2 0 e) J) (q_hn _ _ _ _) rfl ?_
  refine G_callV (b := 62) (ci := 9) (as := []) (rest := []) rfl rfl rfl (q_lt (by decide)) (by decide) rfl rfl (Nat.le_of_ble_eq_true rfl) hn x_out_n ?_
  refine G_st (L := 89) (k := 0) (84, [some (.ref 62), some (.int 2), none, none], [], qS sw gc (r_R I A B S V f W) J) (q_hn _ _ _ _) rfl ?_
  exact H
theorem r_lB1_2 {d : Nat} {sw : Bool} {gc : Nat} {I : Nat → Nat → Int32} {J : Nat → Nat → Int64} {a b s v e : Int32} (hs : ¬ s = 2) : G (d + 5) 109 (84, [some (.ref 62), some (.int 2), none, none], [], qS sw gc (r_R I a b s v 0 e) J) none (qS sw gc (r_R (q_u I 67 2 v) a b s v 2 b) J) := by
  refine G_st (L := 89) (k := 2) (86, [some (.ref 62), some (.int 2), none, none], [.int 4, .int 2], qS sw gc (r_R I a b s v 0 e) J) (q_hn _ _ _ _) rfl ?_
  refine G_icmp_ne 195 rfl rfl (fun _ => ?_) (fun h9 => absurd h9 (by decide))
  refine G_st (L := 89) (k := 3) (198, [some (.ref 62), some (.int 2), none, none], [.int 1, .int 2, .ref 62], qS sw gc (r_R I a b s v 0 e) J) (q_hn _ _ _ _) rfl ?_
  refine G_icmp_ne 205 rfl rfl (fun _ => ?_) (fun h9 => absurd h9 (by decide))
  refine G_st (L := 89) (k := 2) (207, [some (.ref 62), some (.int 2), none, none], [.int 2, .int 0, .ref 62], qS sw gc (r_R I a b s v 0 e) J) (q_hn _ _ _ _) rfl ?_
  refine G_if_ne 216 rfl rfl (fun _ => ?_) (fun h9 => absurd h9 (by decide))
  refine G_st (L := 89) (k := 2) (218, [some (.ref 62), some (.int 2), none, none], [.int 1, .int 2, .int 0, .ref 62], qS sw gc (r_R I a b s v 0 e) J) (q_hn _ _ _ _) rfl ?_
  refine G_icmp_ne 226 rfl rfl (fun _ => ?_) (fun h9 => absurd h9 (by decide))
  refine G_st (L := 89) (k := 2) (228, [some (.ref 62), some (.int 2), none, none], [.int 2, .int 2, .int 0, .ref 62], qS sw gc (r_R I a b s v 0 e) J) (q_hn _ _ _ _) rfl ?_
  refine G_icmp_ne 237 rfl rfl (fun h9 => absurd h9 (by decide)) (fun _ => ?_)
  refine G_st (L := 89) (k := 2) (239, [some (.ref 62), some (.int 2), none, none], [.int 999, .int 0, .ref 62], qS sw gc (r_R I a b s v 0 e) J) (q_hn _ _ _ _) rfl ?_
  refine G_callV (b := 62) (ci := 9) (as := [.int 0, .int 999]) (rest := []) rfl rfl rfl (q_lt (by decide)) (by decide) rfl rfl (Nat.le_of_ble_eq_true rfl) (r_wants2 hs) x_out_n ?_
  refine G_st (L := 89) (k := 1) (243, [some (.ref 62), some (.int 2), none, none], [.ref 62], qS sw gc (r_R I a b s v 2 b) J) (q_hn _ _ _ _) rfl ?_
  refine G_callV (b := 62) (ci := 9) (as := []) (rest := []) rfl rfl rfl (q_lt (by decide)) (by decide) rfl rfl (Nat.le_of_ble_eq_true rfl) (r_takenF (show ¬ (2 : Int32) = 0 by decide)) x_out_n ?_
  refine G_st (L := 89) (k := 5) (253, [some (.ref 62), some (.int 2), some (.int v), none], [.int v, .int 2, .ref 67], qS sw gc (r_R I a b s v 2 b) J) (q_hn _ _ _ _) rfl ?_
  refine G_iast (i := 67) (n := 4) rfl rfl (q_lt (by decide)) (by unfold vp_in; decide) ?_
  refine G_st (L := 89) (k := 0) (254, [some (.ref 62), some (.int 2), some (.int v), none], [], qS sw gc (q_u (r_R I a b s v 2 b) 67 2 v) J) (q_hn _ _ _ _) rfl ?_
  rw [r_R_cm (by omega)]
  refine G_fg [some (.ref 62), none, none, none] (by repeat (first | exact trivial | refine ⟨rfl, ?_⟩)) ?_
  exact r_lE0 (by decide)
theorem r_lB2_2 {d : Nat} {sw : Bool} {gc : Nat} {I : Nat → Nat → Int32} {J : Nat → Nat → Int64} {a b v e : Int32} (hv : f_i3 v 0 999 = 0) : G (d + 5) 109 (84, [some (.ref 62), some (.int 2), none, none], [], qS sw gc (r_R I a b 2 v 0 e) J) none (qS sw gc (r_R (q_u I 67 2 v) a b 2 v 3 b) J) := by
  refine G_st (L := 89) (k := 2) (86, [some (.ref 62), some (.int 2), none, none], [.int 4, .int 2], qS sw gc (r_R I a b 2 v 0 e) J) (q_hn _ _ _ _) rfl ?_
  refine G_icmp_ne 195 rfl rfl (fun _ => ?_) (fun h9 => absurd h9 (by decide))
  refine G_st (L := 89) (k := 3) (198, [some (.ref 62), some (.int 2), none, none], [.int 1, .int 2, .ref 62], qS sw gc (r_R I a b 2 v 0 e) J) (q_hn _ _ _ _) rfl ?_
  refine G_icmp_ne 205 rfl rfl (fun _ => ?_) (fun h9 => absurd h9 (by decide))
  refine G_st (L := 89) (k := 2) (207, [some (.ref 62), some (.int 2), none, none], [.int 2, .int 0, .ref 62], qS sw gc (r_R I a b 2 v 0 e) J) (q_hn _ _ _ _) rfl ?_
  refine G_if_ne 216 rfl rfl (fun _ => ?_) (fun h9 => absurd h9 (by decide))
  refine G_st (L := 89) (k := 2) (218, [some (.ref 62), some (.int 2), none, none], [.int 1, .int 2, .int 0, .ref 62], qS sw gc (r_R I a b 2 v 0 e) J) (q_hn _ _ _ _) rfl ?_
  refine G_icmp_ne 226 rfl rfl (fun _ => ?_) (fun h9 => absurd h9 (by decide))
  refine G_st (L := 89) (k := 2) (228, [some (.ref 62), some (.int 2), none, none], [.int 2, .int 2, .int 0, .ref 62], qS sw gc (r_R I a b 2 v 0 e) J) (q_hn _ _ _ _) rfl ?_
  refine G_icmp_ne 237 rfl rfl (fun h9 => absurd h9 (by decide)) (fun _ => ?_)
  refine G_st (L := 89) (k := 2) (239, [some (.ref 62), some (.int 2), none, none], [.int 999, .int 0, .ref 62], qS sw gc (r_R I a b 2 v 0 e) J) (q_hn _ _ _ _) rfl ?_
  refine G_callV (b := 62) (ci := 9) (as := [.int 0, .int 999]) (rest := []) rfl rfl rfl (q_lt (by decide)) (by decide) rfl rfl (Nat.le_of_ble_eq_true rfl) (r_wants3 hv) x_out_n ?_
  refine G_st (L := 89) (k := 1) (243, [some (.ref 62), some (.int 2), none, none], [.ref 62], qS sw gc (r_R I a b 2 v 3 b) J) (q_hn _ _ _ _) rfl ?_
  refine G_callV (b := 62) (ci := 9) (as := []) (rest := []) rfl rfl rfl (q_lt (by decide)) (by decide) rfl rfl (Nat.le_of_ble_eq_true rfl) (r_takenF (show ¬ (3 : Int32) = 0 by decide)) x_out_n ?_
  refine G_st (L := 89) (k := 5) (253, [some (.ref 62), some (.int 2), some (.int v), none], [.int v, .int 2, .ref 67], qS sw gc (r_R I a b 2 v 3 b) J) (q_hn _ _ _ _) rfl ?_
  refine G_iast (i := 67) (n := 4) rfl rfl (q_lt (by decide)) (by unfold vp_in; decide) ?_
  refine G_st (L := 89) (k := 0) (254, [some (.ref 62), some (.int 2), some (.int v), none], [], qS sw gc (q_u (r_R I a b 2 v 3 b) 67 2 v) J) (q_hn _ _ _ _) rfl ?_
  rw [r_R_cm (by omega)]
  refine G_fg [some (.ref 62), none, none, none] (by repeat (first | exact trivial | refine ⟨rfl, ?_⟩)) ?_
  exact r_lE0 (by decide)
theorem r_lB3_2 {d : Nat} {sw : Bool} {gc : Nat} {I : Nat → Nat → Int32} {J : Nat → Nat → Int64} {Iz : Nat → Nat → Int32} {A B S V f W : Int32} {a b v e : Int32} (hv : f_i3 v 0 999 = 1) (hn : GM (d + 3) 106 [.ref 62] (qS sw gc (r_R I a b 2 v 0 e) J) none (qS sw gc (r_R I A B S V f W) J)) (H : G (d + 5) 109 (254, [some (.ref 62), none, none, none], [], qS sw gc (r_R (q_u I 67 2 v) A B S V f W) J) none (qS sw gc Iz J)) : G (d + 5) 109 (84, [some (.ref 62), some (.int 2), none, none], [], qS sw gc (r_R I a b 2 v 0 e) J) none (qS sw gc Iz J) := by
  refine G_st (L := 89) (k := 2) (86, [some (.ref 62), some (.int 2), none, none], [.int 4, .int 2], qS sw gc (r_R I a b 2 v 0 e) J) (q_hn _ _ _ _) rfl ?_
  refine G_icmp_ne 195 rfl rfl (fun _ => ?_) (fun h9 => absurd h9 (by decide))
  refine G_st (L := 89) (k := 3) (198, [some (.ref 62), some (.int 2), none, none], [.int 1, .int 2, .ref 62], qS sw gc (r_R I a b 2 v 0 e) J) (q_hn _ _ _ _) rfl ?_
  refine G_icmp_ne 205 rfl rfl (fun _ => ?_) (fun h9 => absurd h9 (by decide))
  refine G_st (L := 89) (k := 2) (207, [some (.ref 62), some (.int 2), none, none], [.int 2, .int 0, .ref 62], qS sw gc (r_R I a b 2 v 0 e) J) (q_hn _ _ _ _) rfl ?_
  refine G_if_ne 216 rfl rfl (fun _ => ?_) (fun h9 => absurd h9 (by decide))
  refine G_st (L := 89) (k := 2) (218, [some (.ref 62), some (.int 2), none, none], [.int 1, .int 2, .int 0, .ref 62], qS sw gc (r_R I a b 2 v 0 e) J) (q_hn _ _ _ _) rfl ?_
  refine G_icmp_ne 226 rfl rfl (fun _ => ?_) (fun h9 => absurd h9 (by decide))
  refine G_st (L := 89) (k := 2) (228, [some (.ref 62), some (.int 2), none, none], [.int 2, .int 2, .int 0, .ref 62], qS sw gc (r_R I a b 2 v 0 e) J) (q_hn _ _ _ _) rfl ?_
  refine G_icmp_ne 237 rfl rfl (fun h9 => absurd h9 (by decide)) (fun _ => ?_)
  refine G_st (L := 89) (k := 2) (239, [some (.ref 62), some (.int 2), none, none], [.int 999, .int 0, .ref 62], qS sw gc (r_R I a b 2 v 0 e) J) (q_hn _ _ _ _) rfl ?_
  refine G_callV (b := 62) (ci := 9) (as := [.int 0, .int 999]) (rest := []) rfl rfl rfl (q_lt (by decide)) (by decide) rfl rfl (Nat.le_of_ble_eq_true rfl) (r_wantsO hv) x_out_n ?_
  refine G_st (L := 89) (k := 1) (243, [some (.ref 62), some (.int 2), none, none], [.ref 62], qS sw gc (r_R I a b 2 v 0 e) J) (q_hn _ _ _ _) rfl ?_
  refine G_callV (b := 62) (ci := 9) (as := []) (rest := []) rfl rfl rfl (q_lt (by decide)) (by decide) rfl rfl (Nat.le_of_ble_eq_true rfl) (r_taken0 hn) x_out_n ?_
  refine G_st (L := 89) (k := 5) (253, [some (.ref 62), some (.int 2), some (.int v), none], [.int v, .int 2, .ref 67], qS sw gc (r_R I A B S V f W) J) (q_hn _ _ _ _) rfl ?_
  refine G_iast (i := 67) (n := 4) rfl rfl (q_lt (by decide)) (by unfold vp_in; decide) ?_
  refine G_st (L := 89) (k := 0) (254, [some (.ref 62), some (.int 2), some (.int v), none], [], qS sw gc (q_u (r_R I A B S V f W) 67 2 v) J) (q_hn _ _ _ _) rfl ?_
  rw [r_R_cm (by omega)]
  refine G_fg [some (.ref 62), none, none, none] (by repeat (first | exact trivial | refine ⟨rfl, ?_⟩)) ?_
  exact H
theorem r_lF3 {d : Nat} {sw : Bool} {gc : Nat} {I : Nat → Nat → Int32} {J : Nat → Nat → Int64} {a b s v f e : Int32} (hf : ¬ f = 0) : G (d + 5) 109 (84, [some (.ref 62), some (.int 3), none, none], [], qS sw gc (r_R I a b s v f e) J) none (qS sw gc (r_R (q_u I 67 3 v) a b s v f e) J) := by
  refine G_st (L := 89) (k := 2) (86, [some (.ref 62), some (.int 3), none, none], [.int 4, .int 3], qS sw gc (r_R I a b s v f e) J) (q_hn _ _ _ _) rfl ?_
  refine G_icmp_ne 195 rfl rfl (fun _ => ?_) (fun h9 => absurd h9 (by decide))
  refine G_st (L := 89) (k := 3) (198, [some (.ref 62), some (.int 3), none, none], [.int 1, .int 3, .ref 62], qS sw gc (r_R I a b s v f e) J) (q_hn _ _ _ _) rfl ?_
  refine G_icmp_ne 205 rfl rfl (fun _ => ?_) (fun h9 => absurd h9 (by decide))
  refine G_st (L := 89) (k := 2) (207, [some (.ref 62), some (.int 3), none, none], [.int 3, .int 0, .ref 62], qS sw gc (r_R I a b s v f e) J) (q_hn _ _ _ _) rfl ?_
  refine G_if_ne 216 rfl rfl (fun _ => ?_) (fun h9 => absurd h9 (by decide))
  refine G_st (L := 89) (k := 2) (218, [some (.ref 62), some (.int 3), none, none], [.int 1, .int 3, .int 0, .ref 62], qS sw gc (r_R I a b s v f e) J) (q_hn _ _ _ _) rfl ?_
  refine G_icmp_ne 226 rfl rfl (fun _ => ?_) (fun h9 => absurd h9 (by decide))
  refine G_st (L := 89) (k := 2) (228, [some (.ref 62), some (.int 3), none, none], [.int 2, .int 3, .int 0, .ref 62], qS sw gc (r_R I a b s v f e) J) (q_hn _ _ _ _) rfl ?_
  refine G_icmp_ne 237 rfl rfl (fun _ => ?_) (fun h9 => absurd h9 (by decide))
  refine G_st (L := 89) (k := 1) (239, [some (.ref 62), some (.int 3), none, none], [.int 100, .int 0, .ref 62], qS sw gc (r_R I a b s v f e) J) (q_hn _ _ _ _) rfl ?_
  refine G_callV (b := 62) (ci := 9) (as := [.int 0, .int 100]) (rest := []) rfl rfl rfl (q_lt (by decide)) (by decide) rfl rfl (Nat.le_of_ble_eq_true rfl) (r_wantsF hf) x_out_n ?_
  refine G_st (L := 89) (k := 1) (243, [some (.ref 62), some (.int 3), none, none], [.ref 62], qS sw gc (r_R I a b s v f e) J) (q_hn _ _ _ _) rfl ?_
  refine G_callV (b := 62) (ci := 9) (as := []) (rest := []) rfl rfl rfl (q_lt (by decide)) (by decide) rfl rfl (Nat.le_of_ble_eq_true rfl) (r_takenF hf) x_out_n ?_
  refine G_st (L := 89) (k := 5) (253, [some (.ref 62), some (.int 3), some (.int v), none], [.int v, .int 3, .ref 67], qS sw gc (r_R I a b s v f e) J) (q_hn _ _ _ _) rfl ?_
  refine G_iast (i := 67) (n := 4) rfl rfl (q_lt (by decide)) (by unfold vp_in; decide) ?_
  refine G_st (L := 89) (k := 0) (254, [some (.ref 62), some (.int 3), some (.int v), none], [], qS sw gc (q_u (r_R I a b s v f e) 67 3 v) J) (q_hn _ _ _ _) rfl ?_
  rw [r_R_cm (by omega)]
  refine G_fg [some (.ref 62), none, none, none] (by repeat (first | exact trivial | refine ⟨rfl, ?_⟩)) ?_
  exact r_lE0 hf
theorem r_lA2_3 {d : Nat} {sw : Bool} {gc : Nat} {I : Nat → Nat → Int32} {J : Nat → Nat → Int64} {a b e : Int32} (hm : ¬ I 67 3 = -4) : G (d + 5) 109 (0, [some (.ref 62), none, none, none], [], qS sw gc (r_R I a b 1 3 0 e) J) none (qS sw gc (r_R (q_u I 67 3 3) a b 1 3 4 b) J) := by
  refine G_st (L := 89) (k := 2) (4, [some (.ref 62), none, none, none], [.int 0], qS sw gc (r_R I a b 1 3 0 e) J) (q_hn _ _ _ _) rfl ?_
  refine G_if_ne 24 rfl rfl (fun h9 => absurd h9 (by decide)) (fun _ => ?_)
  refine G_st (L := 89) (k := 3) (12, [some (.ref 62), none, none, none], [.int 1, .int 1], qS sw gc (r_R I a b 1 3 0 e) J) (q_hn _ _ _ _) rfl ?_
  refine G_icmp_eq 24 rfl rfl (fun _ => ?_) (fun h9 => absurd h9 (by decide))
  refine G_st (L := 89) (k := 2) (28, [some (.ref 62), none, none, none], [.int 0], qS sw gc (r_R I a b 1 3 0 e) J) (q_hn _ _ _ _) rfl ?_
  refine G_if_le 32 rfl rfl (fun _ => ?_) (fun h9 => absurd h9 (by decide))
  refine G_st (L := 89) (k := 5) (39, [some (.ref 62), some (.int 3), none, none], [.int 4, .int 3], qS sw gc (r_R I a b 1 3 0 e) J) (q_hn _ _ _ _) rfl ?_
  refine G_icmp_ne 53 rfl rfl (fun _ => ?_) (fun h9 => absurd h9 (by decide))
  refine G_st (L := 89) (k := 3) (58, [some (.ref 62), some (.int 3), none, none], [.int 3, .ref 67], qS sw gc (r_R I a b 1 3 0 e) J) (q_hn _ _ _ _) rfl ?_
  refine G_iald (i := 67) (n := 4) rfl rfl (q_lt (by decide)) (by unfold vp_in; decide) ?_
  rw [show (3 : Int32).toNatClampNeg = 3 from rfl]
  rw [show q_i (qS sw gc (r_R I a b 1 3 0 e) J) 67 3 = I 67 3 from (show (r_R I a b 1 3 0 e) 67 3 = I 67 3 from r_R_un (by omega))]
  refine G_st (L := 89) (k := 1) (61, [some (.ref 62), some (.int 3), none, none], [.int (-4), .int (I 67 3)], qS sw gc (r_R I a b 1 3 0 e) J) (q_hn _ _ _ _) rfl ?_
  refine G_icmp_eq 73 rfl rfl (fun h9 => absurd h9 hm) (fun _ => ?_)
  refine G_st (L := 89) (k := 4) (70, [some (.ref 62), some (.int 3), none, none], [.int b, .int 4, .ref 62], qS sw gc (r_R I a b 1 3 0 e) J) (q_hn _ _ _ _) rfl ?_
  refine G_callV (b := 62) (ci := 9) (as := [.int 4, .int b]) (rest := []) rfl rfl rfl (q_lt (by decide)) (by decide) rfl rfl (Nat.le_of_ble_eq_true rfl) r_fails0 x_out_n ?_
  refine G_st (L := 89) (k := 2) (77, [some (.ref 62), some (.int 3), none, none], [.int 4], qS sw gc (r_R I a b 1 3 4 b) J) (q_hn _ _ _ _) rfl ?_
  refine G_if_ne 84 rfl rfl (fun _ => ?_) (fun h9 => absurd h9 (by decide))
  exact r_lF3 (by decide)
theorem r_lA3_3 {d : Nat} {sw : Bool} {gc : Nat} {I : Nat → Nat → Int32} {J : Nat → Nat → Int64} {Iz : Nat → Nat → Int32} {A B S V f W : Int32} {a b e : Int32} (hm : I 67 3 = -4) (hn : GM (d + 4) 106 [.ref 62] (qS sw gc (r_R I a b 1 3 0 e) J) none (qS sw gc (r_R I A B S V f W) J)) (H : G (d + 5) 109 (84, [some (.ref 62), some (.int 3), none, none], [], qS sw gc (r_R I A B S V f W) J) none (qS sw gc Iz J)) : G (d + 5) 109 (0, [some (.ref 62), none, none, none], [], qS sw gc (r_R I a b 1 3 0 e) J) none (qS sw gc Iz J) := by
  refine G_st (L := 89) (k := 2) (4, [some (.ref 62), none, none, none], [.int 0], qS sw gc (r_R I a b 1 3 0 e) J) (q_hn _ _ _ _) rfl ?_
  refine G_if_ne 24 rfl rfl (fun h9 => absurd h9 (by decide)) (fun _ => ?_)
  refine G_st (L := 89) (k := 3) (12, [some (.ref 62), none, none, none], [.int 1, .int 1], qS sw gc (r_R I a b 1 3 0 e) J) (q_hn _ _ _ _) rfl ?_
  refine G_icmp_eq 24 rfl rfl (fun _ => ?_) (fun h9 => absurd h9 (by decide))
  refine G_st (L := 89) (k := 2) (28, [some (.ref 62), none, none, none], [.int 0], qS sw gc (r_R I a b 1 3 0 e) J) (q_hn _ _ _ _) rfl ?_
  refine G_if_le 32 rfl rfl (fun _ => ?_) (fun h9 => absurd h9 (by decide))
  refine G_st (L := 89) (k := 5) (39, [some (.ref 62), some (.int 3), none, none], [.int 4, .int 3], qS sw gc (r_R I a b 1 3 0 e) J) (q_hn _ _ _ _) rfl ?_
  refine G_icmp_ne 53 rfl rfl (fun _ => ?_) (fun h9 => absurd h9 (by decide))
  refine G_st (L := 89) (k := 3) (58, [some (.ref 62), some (.int 3), none, none], [.int 3, .ref 67], qS sw gc (r_R I a b 1 3 0 e) J) (q_hn _ _ _ _) rfl ?_
  refine G_iald (i := 67) (n := 4) rfl rfl (q_lt (by decide)) (by unfold vp_in; decide) ?_
  rw [show (3 : Int32).toNatClampNeg = 3 from rfl]
  rw [show q_i (qS sw gc (r_R I a b 1 3 0 e) J) 67 3 = I 67 3 from (show (r_R I a b 1 3 0 e) 67 3 = I 67 3 from r_R_un (by omega))]
  refine G_st (L := 89) (k := 1) (61, [some (.ref 62), some (.int 3), none, none], [.int (-4), .int (I 67 3)], qS sw gc (r_R I a b 1 3 0 e) J) (q_hn _ _ _ _) rfl ?_
  refine G_icmp_eq 73 rfl rfl (fun _ => ?_) (fun h9 => absurd hm h9)
  refine G_st (L := 89) (k := 2) (77, [some (.ref 62), some (.int 3), none, none], [.int 0], qS sw gc (r_R I a b 1 3 0 e) J) (q_hn _ _ _ _) rfl ?_
  refine G_if_ne 84 rfl rfl (fun h9 => absurd h9 (by decide)) (fun _ => ?_)
  refine G_st (L := 89) (k := 1) (81, [some (.ref 62), some (.int 3), none, none], [.ref 62], qS sw gc (r_R I a b 1 3 0 e) J) (q_hn _ _ _ _) rfl ?_
  refine G_callV (b := 62) (ci := 9) (as := []) (rest := []) rfl rfl rfl (q_lt (by decide)) (by decide) rfl rfl (Nat.le_of_ble_eq_true rfl) hn x_out_n ?_
  refine G_st (L := 89) (k := 0) (84, [some (.ref 62), some (.int 3), none, none], [], qS sw gc (r_R I A B S V f W) J) (q_hn _ _ _ _) rfl ?_
  exact H
theorem r_lB1_3 {d : Nat} {sw : Bool} {gc : Nat} {I : Nat → Nat → Int32} {J : Nat → Nat → Int64} {a b s v e : Int32} (hs : ¬ s = 2) : G (d + 5) 109 (84, [some (.ref 62), some (.int 3), none, none], [], qS sw gc (r_R I a b s v 0 e) J) none (qS sw gc (r_R (q_u I 67 3 v) a b s v 2 b) J) := by
  refine G_st (L := 89) (k := 2) (86, [some (.ref 62), some (.int 3), none, none], [.int 4, .int 3], qS sw gc (r_R I a b s v 0 e) J) (q_hn _ _ _ _) rfl ?_
  refine G_icmp_ne 195 rfl rfl (fun _ => ?_) (fun h9 => absurd h9 (by decide))
  refine G_st (L := 89) (k := 3) (198, [some (.ref 62), some (.int 3), none, none], [.int 1, .int 3, .ref 62], qS sw gc (r_R I a b s v 0 e) J) (q_hn _ _ _ _) rfl ?_
  refine G_icmp_ne 205 rfl rfl (fun _ => ?_) (fun h9 => absurd h9 (by decide))
  refine G_st (L := 89) (k := 2) (207, [some (.ref 62), some (.int 3), none, none], [.int 3, .int 0, .ref 62], qS sw gc (r_R I a b s v 0 e) J) (q_hn _ _ _ _) rfl ?_
  refine G_if_ne 216 rfl rfl (fun _ => ?_) (fun h9 => absurd h9 (by decide))
  refine G_st (L := 89) (k := 2) (218, [some (.ref 62), some (.int 3), none, none], [.int 1, .int 3, .int 0, .ref 62], qS sw gc (r_R I a b s v 0 e) J) (q_hn _ _ _ _) rfl ?_
  refine G_icmp_ne 226 rfl rfl (fun _ => ?_) (fun h9 => absurd h9 (by decide))
  refine G_st (L := 89) (k := 2) (228, [some (.ref 62), some (.int 3), none, none], [.int 2, .int 3, .int 0, .ref 62], qS sw gc (r_R I a b s v 0 e) J) (q_hn _ _ _ _) rfl ?_
  refine G_icmp_ne 237 rfl rfl (fun _ => ?_) (fun h9 => absurd h9 (by decide))
  refine G_st (L := 89) (k := 1) (239, [some (.ref 62), some (.int 3), none, none], [.int 100, .int 0, .ref 62], qS sw gc (r_R I a b s v 0 e) J) (q_hn _ _ _ _) rfl ?_
  refine G_callV (b := 62) (ci := 9) (as := [.int 0, .int 100]) (rest := []) rfl rfl rfl (q_lt (by decide)) (by decide) rfl rfl (Nat.le_of_ble_eq_true rfl) (r_wants2 hs) x_out_n ?_
  refine G_st (L := 89) (k := 1) (243, [some (.ref 62), some (.int 3), none, none], [.ref 62], qS sw gc (r_R I a b s v 2 b) J) (q_hn _ _ _ _) rfl ?_
  refine G_callV (b := 62) (ci := 9) (as := []) (rest := []) rfl rfl rfl (q_lt (by decide)) (by decide) rfl rfl (Nat.le_of_ble_eq_true rfl) (r_takenF (show ¬ (2 : Int32) = 0 by decide)) x_out_n ?_
  refine G_st (L := 89) (k := 5) (253, [some (.ref 62), some (.int 3), some (.int v), none], [.int v, .int 3, .ref 67], qS sw gc (r_R I a b s v 2 b) J) (q_hn _ _ _ _) rfl ?_
  refine G_iast (i := 67) (n := 4) rfl rfl (q_lt (by decide)) (by unfold vp_in; decide) ?_
  refine G_st (L := 89) (k := 0) (254, [some (.ref 62), some (.int 3), some (.int v), none], [], qS sw gc (q_u (r_R I a b s v 2 b) 67 3 v) J) (q_hn _ _ _ _) rfl ?_
  rw [r_R_cm (by omega)]
  refine G_fg [some (.ref 62), none, none, none] (by repeat (first | exact trivial | refine ⟨rfl, ?_⟩)) ?_
  exact r_lE0 (by decide)
theorem r_lB2_3 {d : Nat} {sw : Bool} {gc : Nat} {I : Nat → Nat → Int32} {J : Nat → Nat → Int64} {a b v e : Int32} (hv : f_i3 v 0 100 = 0) : G (d + 5) 109 (84, [some (.ref 62), some (.int 3), none, none], [], qS sw gc (r_R I a b 2 v 0 e) J) none (qS sw gc (r_R (q_u I 67 3 v) a b 2 v 3 b) J) := by
  refine G_st (L := 89) (k := 2) (86, [some (.ref 62), some (.int 3), none, none], [.int 4, .int 3], qS sw gc (r_R I a b 2 v 0 e) J) (q_hn _ _ _ _) rfl ?_
  refine G_icmp_ne 195 rfl rfl (fun _ => ?_) (fun h9 => absurd h9 (by decide))
  refine G_st (L := 89) (k := 3) (198, [some (.ref 62), some (.int 3), none, none], [.int 1, .int 3, .ref 62], qS sw gc (r_R I a b 2 v 0 e) J) (q_hn _ _ _ _) rfl ?_
  refine G_icmp_ne 205 rfl rfl (fun _ => ?_) (fun h9 => absurd h9 (by decide))
  refine G_st (L := 89) (k := 2) (207, [some (.ref 62), some (.int 3), none, none], [.int 3, .int 0, .ref 62], qS sw gc (r_R I a b 2 v 0 e) J) (q_hn _ _ _ _) rfl ?_
  refine G_if_ne 216 rfl rfl (fun _ => ?_) (fun h9 => absurd h9 (by decide))
  refine G_st (L := 89) (k := 2) (218, [some (.ref 62), some (.int 3), none, none], [.int 1, .int 3, .int 0, .ref 62], qS sw gc (r_R I a b 2 v 0 e) J) (q_hn _ _ _ _) rfl ?_
  refine G_icmp_ne 226 rfl rfl (fun _ => ?_) (fun h9 => absurd h9 (by decide))
  refine G_st (L := 89) (k := 2) (228, [some (.ref 62), some (.int 3), none, none], [.int 2, .int 3, .int 0, .ref 62], qS sw gc (r_R I a b 2 v 0 e) J) (q_hn _ _ _ _) rfl ?_
  refine G_icmp_ne 237 rfl rfl (fun _ => ?_) (fun h9 => absurd h9 (by decide))
  refine G_st (L := 89) (k := 1) (239, [some (.ref 62), some (.int 3), none, none], [.int 100, .int 0, .ref 62], qS sw gc (r_R I a b 2 v 0 e) J) (q_hn _ _ _ _) rfl ?_
  refine G_callV (b := 62) (ci := 9) (as := [.int 0, .int 100]) (rest := []) rfl rfl rfl (q_lt (by decide)) (by decide) rfl rfl (Nat.le_of_ble_eq_true rfl) (r_wants3 hv) x_out_n ?_
  refine G_st (L := 89) (k := 1) (243, [some (.ref 62), some (.int 3), none, none], [.ref 62], qS sw gc (r_R I a b 2 v 3 b) J) (q_hn _ _ _ _) rfl ?_
  refine G_callV (b := 62) (ci := 9) (as := []) (rest := []) rfl rfl rfl (q_lt (by decide)) (by decide) rfl rfl (Nat.le_of_ble_eq_true rfl) (r_takenF (show ¬ (3 : Int32) = 0 by decide)) x_out_n ?_
  refine G_st (L := 89) (k := 5) (253, [some (.ref 62), some (.int 3), some (.int v), none], [.int v, .int 3, .ref 67], qS sw gc (r_R I a b 2 v 3 b) J) (q_hn _ _ _ _) rfl ?_
  refine G_iast (i := 67) (n := 4) rfl rfl (q_lt (by decide)) (by unfold vp_in; decide) ?_
  refine G_st (L := 89) (k := 0) (254, [some (.ref 62), some (.int 3), some (.int v), none], [], qS sw gc (q_u (r_R I a b 2 v 3 b) 67 3 v) J) (q_hn _ _ _ _) rfl ?_
  rw [r_R_cm (by omega)]
  refine G_fg [some (.ref 62), none, none, none] (by repeat (first | exact trivial | refine ⟨rfl, ?_⟩)) ?_
  exact r_lE0 (by decide)
theorem r_lB3_3 {d : Nat} {sw : Bool} {gc : Nat} {I : Nat → Nat → Int32} {J : Nat → Nat → Int64} {Iz : Nat → Nat → Int32} {A B S V f W : Int32} {a b v e : Int32} (hv : f_i3 v 0 100 = 1) (hn : GM (d + 3) 106 [.ref 62] (qS sw gc (r_R I a b 2 v 0 e) J) none (qS sw gc (r_R I A B S V f W) J)) (H : G (d + 5) 109 (254, [some (.ref 62), none, none, none], [], qS sw gc (r_R (q_u I 67 3 v) A B S V f W) J) none (qS sw gc Iz J)) : G (d + 5) 109 (84, [some (.ref 62), some (.int 3), none, none], [], qS sw gc (r_R I a b 2 v 0 e) J) none (qS sw gc Iz J) := by
  refine G_st (L := 89) (k := 2) (86, [some (.ref 62), some (.int 3), none, none], [.int 4, .int 3], qS sw gc (r_R I a b 2 v 0 e) J) (q_hn _ _ _ _) rfl ?_
  refine G_icmp_ne 195 rfl rfl (fun _ => ?_) (fun h9 => absurd h9 (by decide))
  refine G_st (L := 89) (k := 3) (198, [some (.ref 62), some (.int 3), none, none], [.int 1, .int 3, .ref 62], qS sw gc (r_R I a b 2 v 0 e) J) (q_hn _ _ _ _) rfl ?_
  refine G_icmp_ne 205 rfl rfl (fun _ => ?_) (fun h9 => absurd h9 (by decide))
  refine G_st (L := 89) (k := 2) (207, [some (.ref 62), some (.int 3), none, none], [.int 3, .int 0, .ref 62], qS sw gc (r_R I a b 2 v 0 e) J) (q_hn _ _ _ _) rfl ?_
  refine G_if_ne 216 rfl rfl (fun _ => ?_) (fun h9 => absurd h9 (by decide))
  refine G_st (L := 89) (k := 2) (218, [some (.ref 62), some (.int 3), none, none], [.int 1, .int 3, .int 0, .ref 62], qS sw gc (r_R I a b 2 v 0 e) J) (q_hn _ _ _ _) rfl ?_
  refine G_icmp_ne 226 rfl rfl (fun _ => ?_) (fun h9 => absurd h9 (by decide))
  refine G_st (L := 89) (k := 2) (228, [some (.ref 62), some (.int 3), none, none], [.int 2, .int 3, .int 0, .ref 62], qS sw gc (r_R I a b 2 v 0 e) J) (q_hn _ _ _ _) rfl ?_
  refine G_icmp_ne 237 rfl rfl (fun _ => ?_) (fun h9 => absurd h9 (by decide))
  refine G_st (L := 89) (k := 1) (239, [some (.ref 62), some (.int 3), none, none], [.int 100, .int 0, .ref 62], qS sw gc (r_R I a b 2 v 0 e) J) (q_hn _ _ _ _) rfl ?_
  refine G_callV (b := 62) (ci := 9) (as := [.int 0, .int 100]) (rest := []) rfl rfl rfl (q_lt (by decide)) (by decide) rfl rfl (Nat.le_of_ble_eq_true rfl) (r_wantsO hv) x_out_n ?_
  refine G_st (L := 89) (k := 1) (243, [some (.ref 62), some (.int 3), none, none], [.ref 62], qS sw gc (r_R I a b 2 v 0 e) J) (q_hn _ _ _ _) rfl ?_
  refine G_callV (b := 62) (ci := 9) (as := []) (rest := []) rfl rfl rfl (q_lt (by decide)) (by decide) rfl rfl (Nat.le_of_ble_eq_true rfl) (r_taken0 hn) x_out_n ?_
  refine G_st (L := 89) (k := 5) (253, [some (.ref 62), some (.int 3), some (.int v), none], [.int v, .int 3, .ref 67], qS sw gc (r_R I A B S V f W) J) (q_hn _ _ _ _) rfl ?_
  refine G_iast (i := 67) (n := 4) rfl rfl (q_lt (by decide)) (by unfold vp_in; decide) ?_
  refine G_st (L := 89) (k := 0) (254, [some (.ref 62), some (.int 3), some (.int v), none], [], qS sw gc (q_u (r_R I A B S V f W) 67 3 v) J) (q_hn _ _ _ _) rfl ?_
  rw [r_R_cm (by omega)]
  refine G_fg [some (.ref 62), none, none, none] (by repeat (first | exact trivial | refine ⟨rfl, ?_⟩)) ?_
  exact H
theorem r_lF4 {d : Nat} {sw : Bool} {gc : Nat} {I : Nat → Nat → Int32} {J : Nat → Nat → Int64} {a b s v f e : Int32} (hf : ¬ f = 0) : G (d + 5) 109 (84, [some (.ref 62), some (.int 4), none, none], [], qS sw gc (r_R I a b s v f e) J) none (qS sw gc (r_R I a b s v f e) J) := by
  refine G_st (L := 89) (k := 2) (86, [some (.ref 62), some (.int 4), none, none], [.int 4, .int 4], qS sw gc (r_R I a b s v f e) J) (q_hn _ _ _ _) rfl ?_
  refine G_icmp_ne 195 rfl rfl (fun h9 => absurd h9 (by decide)) (fun _ => ?_)
  refine G_st (L := 89) (k := 3) (93, [some (.ref 62), some (.int 4), none, none], [.int 9, .int 0, .ref 62], qS sw gc (r_R I a b s v f e) J) (q_hn _ _ _ _) rfl ?_
  refine G_callV (b := 62) (ci := 9) (as := [.int 0, .int 9]) (rest := []) rfl rfl rfl (q_lt (by decide)) (by decide) rfl rfl (Nat.le_of_ble_eq_true rfl) (r_wantsF hf) x_out_n ?_
  refine G_st (L := 89) (k := 2) (100, [some (.ref 62), some (.int 4), none, none], [.int f], qS sw gc (r_R I a b s v f e) J) (q_hn _ _ _ _) rfl ?_
  refine G_if_ne 137 rfl rfl (fun _ => ?_) (fun h9 => absurd h9 hf)
  refine G_st (L := 89) (k := 1) (138, [some (.ref 62), some (.int 4), none, none], [.ref 62], qS sw gc (r_R I a b s v f e) J) (q_hn _ _ _ _) rfl ?_
  refine G_callV (b := 62) (ci := 9) (as := []) (rest := []) rfl rfl rfl (q_lt (by decide)) (by decide) rfl rfl (Nat.le_of_ble_eq_true rfl) (r_takenF hf) x_out_n ?_
  refine G_st (L := 89) (k := 4) (147, [some (.ref 62), some (.int 4), some (.int v), none], [.int 300, .int 0, .ref 62], qS sw gc (r_R I a b s v f e) J) (q_hn _ _ _ _) rfl ?_
  refine G_callV (b := 62) (ci := 9) (as := [.int 0, .int 300]) (rest := []) rfl rfl rfl (q_lt (by decide)) (by decide) rfl rfl (Nat.le_of_ble_eq_true rfl) (r_wantsF hf) x_out_n ?_
  refine G_st (L := 89) (k := 1) (151, [some (.ref 62), some (.int 4), some (.int v), none], [.ref 62], qS sw gc (r_R I a b s v f e) J) (q_hn _ _ _ _) rfl ?_
  refine G_callV (b := 62) (ci := 9) (as := []) (rest := []) rfl rfl rfl (q_lt (by decide)) (by decide) rfl rfl (Nat.le_of_ble_eq_true rfl) (r_takenF hf) x_out_n ?_
  refine G_st (L := 89) (k := 3) (159, [some (.ref 62), some (.int 4), some (.int v), some (.int v)], [.int f], qS sw gc (r_R I a b s v f e) J) (q_hn _ _ _ _) rfl ?_
  refine G_if_ne 192 rfl rfl (fun _ => ?_) (fun h9 => absurd h9 hf)
  refine G_st (L := 89) (k := 1) (254, [some (.ref 62), some (.int 4), some (.int v), some (.int v)], [], qS sw gc (r_R I a b s v f e) J) (q_hn _ _ _ _) rfl ?_
  refine G_fg [some (.ref 62), none, none, none] (by repeat (first | exact trivial | refine ⟨rfl, ?_⟩)) ?_
  exact r_lE0 hf
theorem r_lA2_4 {d : Nat} {sw : Bool} {gc : Nat} {I : Nat → Nat → Int32} {J : Nat → Nat → Int64} {a b e : Int32} (hm : I 62 13 = 4) : G (d + 5) 109 (0, [some (.ref 62), none, none, none], [], qS sw gc (r_R I a b 1 4 0 e) J) none (qS sw gc (r_R I a b 1 4 4 b) J) := by
  refine G_st (L := 89) (k := 2) (4, [some (.ref 62), none, none, none], [.int 0], qS sw gc (r_R I a b 1 4 0 e) J) (q_hn _ _ _ _) rfl ?_
  refine G_if_ne 24 rfl rfl (fun h9 => absurd h9 (by decide)) (fun _ => ?_)
  refine G_st (L := 89) (k := 3) (12, [some (.ref 62), none, none, none], [.int 1, .int 1], qS sw gc (r_R I a b 1 4 0 e) J) (q_hn _ _ _ _) rfl ?_
  refine G_icmp_eq 24 rfl rfl (fun _ => ?_) (fun h9 => absurd h9 (by decide))
  refine G_st (L := 89) (k := 2) (28, [some (.ref 62), none, none, none], [.int 0], qS sw gc (r_R I a b 1 4 0 e) J) (q_hn _ _ _ _) rfl ?_
  refine G_if_le 32 rfl rfl (fun _ => ?_) (fun h9 => absurd h9 (by decide))
  refine G_st (L := 89) (k := 5) (39, [some (.ref 62), some (.int 4), none, none], [.int 4, .int 4], qS sw gc (r_R I a b 1 4 0 e) J) (q_hn _ _ _ _) rfl ?_
  refine G_icmp_ne 53 rfl rfl (fun h9 => absurd h9 (by decide)) (fun _ => ?_)
  refine G_st (L := 89) (k := 3) (47, [some (.ref 62), some (.int 4), none, none], [.int 4, .int (I 62 13)], qS sw gc (r_R I a b 1 4 0 e) J) (q_hn _ _ _ _) rfl ?_
  refine G_icmp_ne 73 rfl rfl (fun h9 => absurd hm h9) (fun _ => ?_)
  refine G_st (L := 89) (k := 5) (70, [some (.ref 62), some (.int 4), none, none], [.int b, .int 4, .ref 62], qS sw gc (r_R I a b 1 4 0 e) J) (q_hn _ _ _ _) rfl ?_
  refine G_callV (b := 62) (ci := 9) (as := [.int 4, .int b]) (rest := []) rfl rfl rfl (q_lt (by decide)) (by decide) rfl rfl (Nat.le_of_ble_eq_true rfl) r_fails0 x_out_n ?_
  refine G_st (L := 89) (k := 2) (77, [some (.ref 62), some (.int 4), none, none], [.int 4], qS sw gc (r_R I a b 1 4 4 b) J) (q_hn _ _ _ _) rfl ?_
  refine G_if_ne 84 rfl rfl (fun _ => ?_) (fun h9 => absurd h9 (by decide))
  exact r_lF4 (by decide)
theorem r_lA3_4 {d : Nat} {sw : Bool} {gc : Nat} {I : Nat → Nat → Int32} {J : Nat → Nat → Int64} {Iz : Nat → Nat → Int32} {A B S V f W : Int32} {a b e : Int32} (hm : ¬ I 62 13 = 4) (hn : GM (d + 4) 106 [.ref 62] (qS sw gc (r_R I a b 1 4 0 e) J) none (qS sw gc (r_R I A B S V f W) J)) (H : G (d + 5) 109 (84, [some (.ref 62), some (.int 4), none, none], [], qS sw gc (r_R I A B S V f W) J) none (qS sw gc Iz J)) : G (d + 5) 109 (0, [some (.ref 62), none, none, none], [], qS sw gc (r_R I a b 1 4 0 e) J) none (qS sw gc Iz J) := by
  refine G_st (L := 89) (k := 2) (4, [some (.ref 62), none, none, none], [.int 0], qS sw gc (r_R I a b 1 4 0 e) J) (q_hn _ _ _ _) rfl ?_
  refine G_if_ne 24 rfl rfl (fun h9 => absurd h9 (by decide)) (fun _ => ?_)
  refine G_st (L := 89) (k := 3) (12, [some (.ref 62), none, none, none], [.int 1, .int 1], qS sw gc (r_R I a b 1 4 0 e) J) (q_hn _ _ _ _) rfl ?_
  refine G_icmp_eq 24 rfl rfl (fun _ => ?_) (fun h9 => absurd h9 (by decide))
  refine G_st (L := 89) (k := 2) (28, [some (.ref 62), none, none, none], [.int 0], qS sw gc (r_R I a b 1 4 0 e) J) (q_hn _ _ _ _) rfl ?_
  refine G_if_le 32 rfl rfl (fun _ => ?_) (fun h9 => absurd h9 (by decide))
  refine G_st (L := 89) (k := 5) (39, [some (.ref 62), some (.int 4), none, none], [.int 4, .int 4], qS sw gc (r_R I a b 1 4 0 e) J) (q_hn _ _ _ _) rfl ?_
  refine G_icmp_ne 53 rfl rfl (fun h9 => absurd h9 (by decide)) (fun _ => ?_)
  refine G_st (L := 89) (k := 3) (47, [some (.ref 62), some (.int 4), none, none], [.int 4, .int (I 62 13)], qS sw gc (r_R I a b 1 4 0 e) J) (q_hn _ _ _ _) rfl ?_
  refine G_icmp_ne 73 rfl rfl (fun _ => ?_) (fun h9 => absurd h9 hm)
  refine G_st (L := 89) (k := 2) (77, [some (.ref 62), some (.int 4), none, none], [.int 0], qS sw gc (r_R I a b 1 4 0 e) J) (q_hn _ _ _ _) rfl ?_
  refine G_if_ne 84 rfl rfl (fun h9 => absurd h9 (by decide)) (fun _ => ?_)
  refine G_st (L := 89) (k := 1) (81, [some (.ref 62), some (.int 4), none, none], [.ref 62], qS sw gc (r_R I a b 1 4 0 e) J) (q_hn _ _ _ _) rfl ?_
  refine G_callV (b := 62) (ci := 9) (as := []) (rest := []) rfl rfl rfl (q_lt (by decide)) (by decide) rfl rfl (Nat.le_of_ble_eq_true rfl) hn x_out_n ?_
  refine G_st (L := 89) (k := 0) (84, [some (.ref 62), some (.int 4), none, none], [], qS sw gc (r_R I A B S V f W) J) (q_hn _ _ _ _) rfl ?_
  exact H
theorem r_lB1_4 {d : Nat} {sw : Bool} {gc : Nat} {I : Nat → Nat → Int32} {J : Nat → Nat → Int64} {a b s v e : Int32} (hs : ¬ s = 2) : G (d + 5) 109 (84, [some (.ref 62), some (.int 4), none, none], [], qS sw gc (r_R I a b s v 0 e) J) none (qS sw gc (r_R I a b s v 2 b) J) := by
  refine G_st (L := 89) (k := 2) (86, [some (.ref 62), some (.int 4), none, none], [.int 4, .int 4], qS sw gc (r_R I a b s v 0 e) J) (q_hn _ _ _ _) rfl ?_
  refine G_icmp_ne 195 rfl rfl (fun h9 => absurd h9 (by decide)) (fun _ => ?_)
  refine G_st (L := 89) (k := 3) (93, [some (.ref 62), some (.int 4), none, none], [.int 9, .int 0, .ref 62], qS sw gc (r_R I a b s v 0 e) J) (q_hn _ _ _ _) rfl ?_
  refine G_callV (b := 62) (ci := 9) (as := [.int 0, .int 9]) (rest := []) rfl rfl rfl (q_lt (by decide)) (by decide) rfl rfl (Nat.le_of_ble_eq_true rfl) (r_wants2 hs) x_out_n ?_
  refine G_st (L := 89) (k := 2) (100, [some (.ref 62), some (.int 4), none, none], [.int 2], qS sw gc (r_R I a b s v 2 b) J) (q_hn _ _ _ _) rfl ?_
  refine G_if_ne 137 rfl rfl (fun _ => ?_) (fun h9 => absurd h9 (by decide))
  refine G_st (L := 89) (k := 1) (138, [some (.ref 62), some (.int 4), none, none], [.ref 62], qS sw gc (r_R I a b s v 2 b) J) (q_hn _ _ _ _) rfl ?_
  refine G_callV (b := 62) (ci := 9) (as := []) (rest := []) rfl rfl rfl (q_lt (by decide)) (by decide) rfl rfl (Nat.le_of_ble_eq_true rfl) (r_takenF (show ¬ (2 : Int32) = 0 by decide)) x_out_n ?_
  refine G_st (L := 89) (k := 4) (147, [some (.ref 62), some (.int 4), some (.int v), none], [.int 300, .int 0, .ref 62], qS sw gc (r_R I a b s v 2 b) J) (q_hn _ _ _ _) rfl ?_
  refine G_callV (b := 62) (ci := 9) (as := [.int 0, .int 300]) (rest := []) rfl rfl rfl (q_lt (by decide)) (by decide) rfl rfl (Nat.le_of_ble_eq_true rfl) (r_wantsF (show ¬ (2 : Int32) = 0 by decide)) x_out_n ?_
  refine G_st (L := 89) (k := 1) (151, [some (.ref 62), some (.int 4), some (.int v), none], [.ref 62], qS sw gc (r_R I a b s v 2 b) J) (q_hn _ _ _ _) rfl ?_
  refine G_callV (b := 62) (ci := 9) (as := []) (rest := []) rfl rfl rfl (q_lt (by decide)) (by decide) rfl rfl (Nat.le_of_ble_eq_true rfl) (r_takenF (show ¬ (2 : Int32) = 0 by decide)) x_out_n ?_
  refine G_st (L := 89) (k := 3) (159, [some (.ref 62), some (.int 4), some (.int v), some (.int v)], [.int 2], qS sw gc (r_R I a b s v 2 b) J) (q_hn _ _ _ _) rfl ?_
  refine G_if_ne 192 rfl rfl (fun _ => ?_) (fun h9 => absurd h9 (by decide))
  refine G_st (L := 89) (k := 1) (254, [some (.ref 62), some (.int 4), some (.int v), some (.int v)], [], qS sw gc (r_R I a b s v 2 b) J) (q_hn _ _ _ _) rfl ?_
  refine G_fg [some (.ref 62), none, none, none] (by repeat (first | exact trivial | refine ⟨rfl, ?_⟩)) ?_
  exact r_lE0 (by decide)
theorem r_lB2_4 {d : Nat} {sw : Bool} {gc : Nat} {I : Nat → Nat → Int32} {J : Nat → Nat → Int64} {a b v e : Int32} (hv : f_i3 v 0 9 = 0) : G (d + 5) 109 (84, [some (.ref 62), some (.int 4), none, none], [], qS sw gc (r_R I a b 2 v 0 e) J) none (qS sw gc (r_R I a b 2 v 3 b) J) := by
  refine G_st (L := 89) (k := 2) (86, [some (.ref 62), some (.int 4), none, none], [.int 4, .int 4], qS sw gc (r_R I a b 2 v 0 e) J) (q_hn _ _ _ _) rfl ?_
  refine G_icmp_ne 195 rfl rfl (fun h9 => absurd h9 (by decide)) (fun _ => ?_)
  refine G_st (L := 89) (k := 3) (93, [some (.ref 62), some (.int 4), none, none], [.int 9, .int 0, .ref 62], qS sw gc (r_R I a b 2 v 0 e) J) (q_hn _ _ _ _) rfl ?_
  refine G_callV (b := 62) (ci := 9) (as := [.int 0, .int 9]) (rest := []) rfl rfl rfl (q_lt (by decide)) (by decide) rfl rfl (Nat.le_of_ble_eq_true rfl) (r_wants3 hv) x_out_n ?_
  refine G_st (L := 89) (k := 2) (100, [some (.ref 62), some (.int 4), none, none], [.int 3], qS sw gc (r_R I a b 2 v 3 b) J) (q_hn _ _ _ _) rfl ?_
  refine G_if_ne 137 rfl rfl (fun _ => ?_) (fun h9 => absurd h9 (by decide))
  refine G_st (L := 89) (k := 1) (138, [some (.ref 62), some (.int 4), none, none], [.ref 62], qS sw gc (r_R I a b 2 v 3 b) J) (q_hn _ _ _ _) rfl ?_
  refine G_callV (b := 62) (ci := 9) (as := []) (rest := []) rfl rfl rfl (q_lt (by decide)) (by decide) rfl rfl (Nat.le_of_ble_eq_true rfl) (r_takenF (show ¬ (3 : Int32) = 0 by decide)) x_out_n ?_
  refine G_st (L := 89) (k := 4) (147, [some (.ref 62), some (.int 4), some (.int v), none], [.int 300, .int 0, .ref 62], qS sw gc (r_R I a b 2 v 3 b) J) (q_hn _ _ _ _) rfl ?_
  refine G_callV (b := 62) (ci := 9) (as := [.int 0, .int 300]) (rest := []) rfl rfl rfl (q_lt (by decide)) (by decide) rfl rfl (Nat.le_of_ble_eq_true rfl) (r_wantsF (show ¬ (3 : Int32) = 0 by decide)) x_out_n ?_
  refine G_st (L := 89) (k := 1) (151, [some (.ref 62), some (.int 4), some (.int v), none], [.ref 62], qS sw gc (r_R I a b 2 v 3 b) J) (q_hn _ _ _ _) rfl ?_
  refine G_callV (b := 62) (ci := 9) (as := []) (rest := []) rfl rfl rfl (q_lt (by decide)) (by decide) rfl rfl (Nat.le_of_ble_eq_true rfl) (r_takenF (show ¬ (3 : Int32) = 0 by decide)) x_out_n ?_
  refine G_st (L := 89) (k := 3) (159, [some (.ref 62), some (.int 4), some (.int v), some (.int v)], [.int 3], qS sw gc (r_R I a b 2 v 3 b) J) (q_hn _ _ _ _) rfl ?_
  refine G_if_ne 192 rfl rfl (fun _ => ?_) (fun h9 => absurd h9 (by decide))
  refine G_st (L := 89) (k := 1) (254, [some (.ref 62), some (.int 4), some (.int v), some (.int v)], [], qS sw gc (r_R I a b 2 v 3 b) J) (q_hn _ _ _ _) rfl ?_
  refine G_fg [some (.ref 62), none, none, none] (by repeat (first | exact trivial | refine ⟨rfl, ?_⟩)) ?_
  exact r_lE0 (by decide)
theorem r_lC1 {d : Nat} {sw : Bool} {gc : Nat} {I : Nat → Nat → Int32} {J : Nat → Nat → Int64} {a b v e : Int32} {c : Nat} (hc : I 62 13 = nI c) (hc4 : c ≤ 4) (hc0 : 0 < c) (hv : f_i3 v 0 9 = 1) (ha : ¬ I 68 (c - 1) < v) : G (d + 5) 109 (84, [some (.ref 62), some (.int 4), none, none], [], qS sw gc (r_R I a b 2 v 0 e) J) none (qS sw gc (r_R I a b 2 v 5 b) J) := by
  refine G_st (L := 89) (k := 2) (86, [some (.ref 62), some (.int 4), none, none], [.int 4, .int 4], qS sw gc (r_R I a b 2 v 0 e) J) (q_hn _ _ _ _) rfl ?_
  refine G_icmp_ne 195 rfl rfl (fun h9 => absurd h9 (by decide)) (fun _ => ?_)
  refine G_st (L := 89) (k := 3) (93, [some (.ref 62), some (.int 4), none, none], [.int 9, .int 0, .ref 62], qS sw gc (r_R I a b 2 v 0 e) J) (q_hn _ _ _ _) rfl ?_
  refine G_callV (b := 62) (ci := 9) (as := [.int 0, .int 9]) (rest := []) rfl rfl rfl (q_lt (by decide)) (by decide) rfl rfl (Nat.le_of_ble_eq_true rfl) (r_wantsO hv) x_out_n ?_
  refine G_st (L := 89) (k := 2) (100, [some (.ref 62), some (.int 4), none, none], [.int 0], qS sw gc (r_R I a b 2 v 0 e) J) (q_hn _ _ _ _) rfl ?_
  refine G_if_ne 137 rfl rfl (fun h9 => absurd h9 (by decide)) (fun _ => ?_)
  refine G_st (L := 89) (k := 2) (107, [some (.ref 62), some (.int 4), none, none], [.int (I 62 13)], qS sw gc (r_R I a b 2 v 0 e) J) (q_hn _ _ _ _) rfl ?_
  rw [show I 62 13 = nI c from hc]
  refine G_if_le 137 rfl rfl (fun h9 => absurd h9 (nI_ge (a := 0) (by omega) (by omega))) (fun _ => ?_)
  refine G_st (L := 89) (k := 8) (124, [some (.ref 62), some (.int 4), none, none], [.int ((I 62 13) - 1), .ref 68, .int v], qS sw gc (r_R I a b 2 v 0 e) J) (q_hn _ _ _ _) rfl ?_
  rw [show (I 62 13) - 1 = nI (c - 1) from (q_subP hc rfl (by omega))]
  refine G_iald (i := 68) (n := 4) rfl rfl (q_lt (by decide)) (vp_in_nI (by omega) (by decide)) ?_
  rw [q_clamp (n := c - 1) (by omega)]
  rw [show q_i (qS sw gc (r_R I a b 2 v 0 e) J) 68 (c - 1) = I 68 (c - 1) from (show (r_R I a b 2 v 0 e) 68 (c - 1) = I 68 (c - 1) from r_R_un (by omega))]
  refine G_st (L := 89) (k := 0) (125, [some (.ref 62), some (.int 4), none, none], [.int (I 68 (c - 1)), .int v], qS sw gc (r_R I a b 2 v 0 e) J) (q_hn _ _ _ _) rfl ?_
  refine G_icmp_gt 137 rfl rfl (fun h9 => absurd h9 ha) (fun _ => ?_)
  refine G_st (L := 89) (k := 4) (134, [some (.ref 62), some (.int 4), none, none], [.int b, .int 5, .ref 62], qS sw gc (r_R I a b 2 v 0 e) J) (q_hn _ _ _ _) rfl ?_
  refine G_callV (b := 62) (ci := 9) (as := [.int 5, .int b]) (rest := []) rfl rfl rfl (q_lt (by decide)) (by decide) rfl rfl (Nat.le_of_ble_eq_true rfl) r_fails0 x_out_n ?_
  refine G_st (L := 89) (k := 1) (138, [some (.ref 62), some (.int 4), none, none], [.ref 62], qS sw gc (r_R I a b 2 v 5 b) J) (q_hn _ _ _ _) rfl ?_
  refine G_callV (b := 62) (ci := 9) (as := []) (rest := []) rfl rfl rfl (q_lt (by decide)) (by decide) rfl rfl (Nat.le_of_ble_eq_true rfl) (r_takenF (show ¬ (5 : Int32) = 0 by decide)) x_out_n ?_
  refine G_st (L := 89) (k := 4) (147, [some (.ref 62), some (.int 4), some (.int v), none], [.int 300, .int 0, .ref 62], qS sw gc (r_R I a b 2 v 5 b) J) (q_hn _ _ _ _) rfl ?_
  refine G_callV (b := 62) (ci := 9) (as := [.int 0, .int 300]) (rest := []) rfl rfl rfl (q_lt (by decide)) (by decide) rfl rfl (Nat.le_of_ble_eq_true rfl) (r_wantsF (show ¬ (5 : Int32) = 0 by decide)) x_out_n ?_
  refine G_st (L := 89) (k := 1) (151, [some (.ref 62), some (.int 4), some (.int v), none], [.ref 62], qS sw gc (r_R I a b 2 v 5 b) J) (q_hn _ _ _ _) rfl ?_
  refine G_callV (b := 62) (ci := 9) (as := []) (rest := []) rfl rfl rfl (q_lt (by decide)) (by decide) rfl rfl (Nat.le_of_ble_eq_true rfl) (r_takenF (show ¬ (5 : Int32) = 0 by decide)) x_out_n ?_
  refine G_st (L := 89) (k := 3) (159, [some (.ref 62), some (.int 4), some (.int v), some (.int v)], [.int 5], qS sw gc (r_R I a b 2 v 5 b) J) (q_hn _ _ _ _) rfl ?_
  refine G_if_ne 192 rfl rfl (fun _ => ?_) (fun h9 => absurd h9 (by decide))
  refine G_st (L := 89) (k := 1) (254, [some (.ref 62), some (.int 4), some (.int v), some (.int v)], [], qS sw gc (r_R I a b 2 v 5 b) J) (q_hn _ _ _ _) rfl ?_
  refine G_fg [some (.ref 62), none, none, none] (by repeat (first | exact trivial | refine ⟨rfl, ?_⟩)) ?_
  exact r_lE0 (by decide)
theorem r_lC2 {d : Nat} {sw : Bool} {gc : Nat} {I : Nat → Nat → Int32} {J : Nat → Nat → Int64} {Iz : Nat → Nat → Int32} {A B S V f W : Int32} {a b v e : Int32} {c : Nat} (hc : I 62 13 = nI c) (hc4 : c ≤ 4) (hc0 : c = 0) (hv : f_i3 v 0 9 = 1) (hn : GM (d + 3) 106 [.ref 62] (qS sw gc (r_R I a b 2 v 0 e) J) none (qS sw gc (r_R I A B S V f W) J)) (H : G (d + 5) 109 (142, [some (.ref 62), some (.int 4), some (.int v), none], [], qS sw gc (r_R I A B S V f W) J) none (qS sw gc Iz J)) : G (d + 5) 109 (84, [some (.ref 62), some (.int 4), none, none], [], qS sw gc (r_R I a b 2 v 0 e) J) none (qS sw gc Iz J) := by
  refine G_st (L := 89) (k := 2) (86, [some (.ref 62), some (.int 4), none, none], [.int 4, .int 4], qS sw gc (r_R I a b 2 v 0 e) J) (q_hn _ _ _ _) rfl ?_
  refine G_icmp_ne 195 rfl rfl (fun h9 => absurd h9 (by decide)) (fun _ => ?_)
  refine G_st (L := 89) (k := 3) (93, [some (.ref 62), some (.int 4), none, none], [.int 9, .int 0, .ref 62], qS sw gc (r_R I a b 2 v 0 e) J) (q_hn _ _ _ _) rfl ?_
  refine G_callV (b := 62) (ci := 9) (as := [.int 0, .int 9]) (rest := []) rfl rfl rfl (q_lt (by decide)) (by decide) rfl rfl (Nat.le_of_ble_eq_true rfl) (r_wantsO hv) x_out_n ?_
  refine G_st (L := 89) (k := 2) (100, [some (.ref 62), some (.int 4), none, none], [.int 0], qS sw gc (r_R I a b 2 v 0 e) J) (q_hn _ _ _ _) rfl ?_
  refine G_if_ne 137 rfl rfl (fun h9 => absurd h9 (by decide)) (fun _ => ?_)
  refine G_st (L := 89) (k := 2) (107, [some (.ref 62), some (.int 4), none, none], [.int (I 62 13)], qS sw gc (r_R I a b 2 v 0 e) J) (q_hn _ _ _ _) rfl ?_
  rw [show I 62 13 = nI c from hc]
  refine G_if_le 137 rfl rfl (fun _ => ?_) (fun h9 => absurd (by rw [hc0]; decide) h9)
  refine G_st (L := 89) (k := 1) (138, [some (.ref 62), some (.int 4), none, none], [.ref 62], qS sw gc (r_R I a b 2 v 0 e) J) (q_hn _ _ _ _) rfl ?_
  refine G_callV (b := 62) (ci := 9) (as := []) (rest := []) rfl rfl rfl (q_lt (by decide)) (by decide) rfl rfl (Nat.le_of_ble_eq_true rfl) (r_taken0 hn) x_out_n ?_
  refine G_st (L := 89) (k := 1) (142, [some (.ref 62), some (.int 4), some (.int v), none], [], qS sw gc (r_R I A B S V f W) J) (q_hn _ _ _ _) rfl ?_
  exact H
theorem r_lC3 {d : Nat} {sw : Bool} {gc : Nat} {I : Nat → Nat → Int32} {J : Nat → Nat → Int64} {Iz : Nat → Nat → Int32} {A B S V f W : Int32} {a b v e : Int32} {c : Nat} (hc : I 62 13 = nI c) (hc4 : c ≤ 4) (hc0 : 0 < c) (ha : I 68 (c - 1) < v) (hv : f_i3 v 0 9 = 1) (hn : GM (d + 3) 106 [.ref 62] (qS sw gc (r_R I a b 2 v 0 e) J) none (qS sw gc (r_R I A B S V f W) J)) (H : G (d + 5) 109 (142, [some (.ref 62), some (.int 4), some (.int v), none], [], qS sw gc (r_R I A B S V f W) J) none (qS sw gc Iz J)) : G (d + 5) 109 (84, [some (.ref 62), some (.int 4), none, none], [], qS sw gc (r_R I a b 2 v 0 e) J) none (qS sw gc Iz J) := by
  refine G_st (L := 89) (k := 2) (86, [some (.ref 62), some (.int 4), none, none], [.int 4, .int 4], qS sw gc (r_R I a b 2 v 0 e) J) (q_hn _ _ _ _) rfl ?_
  refine G_icmp_ne 195 rfl rfl (fun h9 => absurd h9 (by decide)) (fun _ => ?_)
  refine G_st (L := 89) (k := 3) (93, [some (.ref 62), some (.int 4), none, none], [.int 9, .int 0, .ref 62], qS sw gc (r_R I a b 2 v 0 e) J) (q_hn _ _ _ _) rfl ?_
  refine G_callV (b := 62) (ci := 9) (as := [.int 0, .int 9]) (rest := []) rfl rfl rfl (q_lt (by decide)) (by decide) rfl rfl (Nat.le_of_ble_eq_true rfl) (r_wantsO hv) x_out_n ?_
  refine G_st (L := 89) (k := 2) (100, [some (.ref 62), some (.int 4), none, none], [.int 0], qS sw gc (r_R I a b 2 v 0 e) J) (q_hn _ _ _ _) rfl ?_
  refine G_if_ne 137 rfl rfl (fun h9 => absurd h9 (by decide)) (fun _ => ?_)
  refine G_st (L := 89) (k := 2) (107, [some (.ref 62), some (.int 4), none, none], [.int (I 62 13)], qS sw gc (r_R I a b 2 v 0 e) J) (q_hn _ _ _ _) rfl ?_
  rw [show I 62 13 = nI c from hc]
  refine G_if_le 137 rfl rfl (fun h9 => absurd h9 (nI_ge (a := 0) (by omega) (by omega))) (fun _ => ?_)
  refine G_st (L := 89) (k := 8) (124, [some (.ref 62), some (.int 4), none, none], [.int ((I 62 13) - 1), .ref 68, .int v], qS sw gc (r_R I a b 2 v 0 e) J) (q_hn _ _ _ _) rfl ?_
  rw [show (I 62 13) - 1 = nI (c - 1) from (q_subP hc rfl (by omega))]
  refine G_iald (i := 68) (n := 4) rfl rfl (q_lt (by decide)) (vp_in_nI (by omega) (by decide)) ?_
  rw [q_clamp (n := c - 1) (by omega)]
  rw [show q_i (qS sw gc (r_R I a b 2 v 0 e) J) 68 (c - 1) = I 68 (c - 1) from (show (r_R I a b 2 v 0 e) 68 (c - 1) = I 68 (c - 1) from r_R_un (by omega))]
  refine G_st (L := 89) (k := 0) (125, [some (.ref 62), some (.int 4), none, none], [.int (I 68 (c - 1)), .int v], qS sw gc (r_R I a b 2 v 0 e) J) (q_hn _ _ _ _) rfl ?_
  refine G_icmp_gt 137 rfl rfl (fun _ => ?_) (fun h9 => absurd ha h9)
  refine G_st (L := 89) (k := 1) (138, [some (.ref 62), some (.int 4), none, none], [.ref 62], qS sw gc (r_R I a b 2 v 0 e) J) (q_hn _ _ _ _) rfl ?_
  refine G_callV (b := 62) (ci := 9) (as := []) (rest := []) rfl rfl rfl (q_lt (by decide)) (by decide) rfl rfl (Nat.le_of_ble_eq_true rfl) (r_taken0 hn) x_out_n ?_
  refine G_st (L := 89) (k := 1) (142, [some (.ref 62), some (.int 4), some (.int v), none], [], qS sw gc (r_R I A B S V f W) J) (q_hn _ _ _ _) rfl ?_
  exact H
theorem r_lD0 {d : Nat} {sw : Bool} {gc : Nat} {I : Nat → Nat → Int32} {J : Nat → Nat → Int64} {a b s v f e u : Int32} (hf : ¬ f = 0) : G (d + 5) 109 (142, [some (.ref 62), some (.int 4), some (.int u), none], [], qS sw gc (r_R I a b s v f e) J) none (qS sw gc (r_R I a b s v f e) J) := by
  refine G_st (L := 89) (k := 3) (147, [some (.ref 62), some (.int 4), some (.int u), none], [.int 300, .int 0, .ref 62], qS sw gc (r_R I a b s v f e) J) (q_hn _ _ _ _) rfl ?_
  refine G_callV (b := 62) (ci := 9) (as := [.int 0, .int 300]) (rest := []) rfl rfl rfl (q_lt (by decide)) (by decide) rfl rfl (Nat.le_of_ble_eq_true rfl) (r_wantsF hf) x_out_n ?_
  refine G_st (L := 89) (k := 1) (151, [some (.ref 62), some (.int 4), some (.int u), none], [.ref 62], qS sw gc (r_R I a b s v f e) J) (q_hn _ _ _ _) rfl ?_
  refine G_callV (b := 62) (ci := 9) (as := []) (rest := []) rfl rfl rfl (q_lt (by decide)) (by decide) rfl rfl (Nat.le_of_ble_eq_true rfl) (r_takenF hf) x_out_n ?_
  refine G_st (L := 89) (k := 3) (159, [some (.ref 62), some (.int 4), some (.int u), some (.int v)], [.int f], qS sw gc (r_R I a b s v f e) J) (q_hn _ _ _ _) rfl ?_
  refine G_if_ne 192 rfl rfl (fun _ => ?_) (fun h9 => absurd h9 hf)
  refine G_st (L := 89) (k := 1) (254, [some (.ref 62), some (.int 4), some (.int u), some (.int v)], [], qS sw gc (r_R I a b s v f e) J) (q_hn _ _ _ _) rfl ?_
  refine G_fg [some (.ref 62), none, none, none] (by repeat (first | exact trivial | refine ⟨rfl, ?_⟩)) ?_
  exact r_lE0 hf
theorem r_lD1 {d : Nat} {sw : Bool} {gc : Nat} {I : Nat → Nat → Int32} {J : Nat → Nat → Int64} {a b s v e u : Int32} (hs : ¬ s = 2) : G (d + 5) 109 (142, [some (.ref 62), some (.int 4), some (.int u), none], [], qS sw gc (r_R I a b s v 0 e) J) none (qS sw gc (r_R I a b s v 2 b) J) := by
  refine G_st (L := 89) (k := 3) (147, [some (.ref 62), some (.int 4), some (.int u), none], [.int 300, .int 0, .ref 62], qS sw gc (r_R I a b s v 0 e) J) (q_hn _ _ _ _) rfl ?_
  refine G_callV (b := 62) (ci := 9) (as := [.int 0, .int 300]) (rest := []) rfl rfl rfl (q_lt (by decide)) (by decide) rfl rfl (Nat.le_of_ble_eq_true rfl) (r_wants2 hs) x_out_n ?_
  refine G_st (L := 89) (k := 1) (151, [some (.ref 62), some (.int 4), some (.int u), none], [.ref 62], qS sw gc (r_R I a b s v 2 b) J) (q_hn _ _ _ _) rfl ?_
  refine G_callV (b := 62) (ci := 9) (as := []) (rest := []) rfl rfl rfl (q_lt (by decide)) (by decide) rfl rfl (Nat.le_of_ble_eq_true rfl) (r_takenF (show ¬ (2 : Int32) = 0 by decide)) x_out_n ?_
  refine G_st (L := 89) (k := 3) (159, [some (.ref 62), some (.int 4), some (.int u), some (.int v)], [.int 2], qS sw gc (r_R I a b s v 2 b) J) (q_hn _ _ _ _) rfl ?_
  refine G_if_ne 192 rfl rfl (fun _ => ?_) (fun h9 => absurd h9 (by decide))
  refine G_st (L := 89) (k := 1) (254, [some (.ref 62), some (.int 4), some (.int u), some (.int v)], [], qS sw gc (r_R I a b s v 2 b) J) (q_hn _ _ _ _) rfl ?_
  refine G_fg [some (.ref 62), none, none, none] (by repeat (first | exact trivial | refine ⟨rfl, ?_⟩)) ?_
  exact r_lE0 (by decide)
theorem r_lD2 {d : Nat} {sw : Bool} {gc : Nat} {I : Nat → Nat → Int32} {J : Nat → Nat → Int64} {a b v e u : Int32} (hv : f_i3 v 0 300 = 0) : G (d + 5) 109 (142, [some (.ref 62), some (.int 4), some (.int u), none], [], qS sw gc (r_R I a b 2 v 0 e) J) none (qS sw gc (r_R I a b 2 v 3 b) J) := by
  refine G_st (L := 89) (k := 3) (147, [some (.ref 62), some (.int 4), some (.int u), none], [.int 300, .int 0, .ref 62], qS sw gc (r_R I a b 2 v 0 e) J) (q_hn _ _ _ _) rfl ?_
  refine G_callV (b := 62) (ci := 9) (as := [.int 0, .int 300]) (rest := []) rfl rfl rfl (q_lt (by decide)) (by decide) rfl rfl (Nat.le_of_ble_eq_true rfl) (r_wants3 hv) x_out_n ?_
  refine G_st (L := 89) (k := 1) (151, [some (.ref 62), some (.int 4), some (.int u), none], [.ref 62], qS sw gc (r_R I a b 2 v 3 b) J) (q_hn _ _ _ _) rfl ?_
  refine G_callV (b := 62) (ci := 9) (as := []) (rest := []) rfl rfl rfl (q_lt (by decide)) (by decide) rfl rfl (Nat.le_of_ble_eq_true rfl) (r_takenF (show ¬ (3 : Int32) = 0 by decide)) x_out_n ?_
  refine G_st (L := 89) (k := 3) (159, [some (.ref 62), some (.int 4), some (.int u), some (.int v)], [.int 3], qS sw gc (r_R I a b 2 v 3 b) J) (q_hn _ _ _ _) rfl ?_
  refine G_if_ne 192 rfl rfl (fun _ => ?_) (fun h9 => absurd h9 (by decide))
  refine G_st (L := 89) (k := 1) (254, [some (.ref 62), some (.int 4), some (.int u), some (.int v)], [], qS sw gc (r_R I a b 2 v 3 b) J) (q_hn _ _ _ _) rfl ?_
  refine G_fg [some (.ref 62), none, none, none] (by repeat (first | exact trivial | refine ⟨rfl, ?_⟩)) ?_
  exact r_lE0 (by decide)
theorem r_lD3 {d : Nat} {sw : Bool} {gc : Nat} {I : Nat → Nat → Int32} {J : Nat → Nat → Int64} {Iz : Nat → Nat → Int32} {A B S V f W : Int32} {a b v e u : Int32} (hv : f_i3 v 0 300 = 1) (hn : GM (d + 3) 106 [.ref 62] (qS sw gc (r_R I a b 2 v 0 e) J) none (qS sw gc (r_R I A B S V f W) J)) (H : G (d + 5) 109 (155, [some (.ref 62), some (.int 4), some (.int u), some (.int v)], [], qS sw gc (r_R I A B S V f W) J) none (qS sw gc Iz J)) : G (d + 5) 109 (142, [some (.ref 62), some (.int 4), some (.int u), none], [], qS sw gc (r_R I a b 2 v 0 e) J) none (qS sw gc Iz J) := by
  refine G_st (L := 89) (k := 3) (147, [some (.ref 62), some (.int 4), some (.int u), none], [.int 300, .int 0, .ref 62], qS sw gc (r_R I a b 2 v 0 e) J) (q_hn _ _ _ _) rfl ?_
  refine G_callV (b := 62) (ci := 9) (as := [.int 0, .int 300]) (rest := []) rfl rfl rfl (q_lt (by decide)) (by decide) rfl rfl (Nat.le_of_ble_eq_true rfl) (r_wantsO hv) x_out_n ?_
  refine G_st (L := 89) (k := 1) (151, [some (.ref 62), some (.int 4), some (.int u), none], [.ref 62], qS sw gc (r_R I a b 2 v 0 e) J) (q_hn _ _ _ _) rfl ?_
  refine G_callV (b := 62) (ci := 9) (as := []) (rest := []) rfl rfl rfl (q_lt (by decide)) (by decide) rfl rfl (Nat.le_of_ble_eq_true rfl) (r_taken0 hn) x_out_n ?_
  refine G_st (L := 89) (k := 1) (155, [some (.ref 62), some (.int 4), some (.int u), some (.int v)], [], qS sw gc (r_R I A B S V f W) J) (q_hn _ _ _ _) rfl ?_
  exact H
theorem r_lG0 {d : Nat} {sw : Bool} {gc : Nat} {I : Nat → Nat → Int32} {J : Nat → Nat → Int64} {a b s v f e u w : Int32} (hf : ¬ f = 0) : G (d + 5) 109 (155, [some (.ref 62), some (.int 4), some (.int u), some (.int w)], [], qS sw gc (r_R I a b s v f e) J) none (qS sw gc (r_R I a b s v f e) J) := by
  refine G_st (L := 89) (k := 2) (159, [some (.ref 62), some (.int 4), some (.int u), some (.int w)], [.int f], qS sw gc (r_R I a b s v f e) J) (q_hn _ _ _ _) rfl ?_
  refine G_if_ne 192 rfl rfl (fun _ => ?_) (fun h9 => absurd h9 hf)
  refine G_st (L := 89) (k := 1) (254, [some (.ref 62), some (.int 4), some (.int u), some (.int w)], [], qS sw gc (r_R I a b s v f e) J) (q_hn _ _ _ _) rfl ?_
  refine G_fg [some (.ref 62), none, none, none] (by repeat (first | exact trivial | refine ⟨rfl, ?_⟩)) ?_
  exact r_lE0 hf
theorem r_lG1 {d : Nat} {sw : Bool} {gc : Nat} {I : Nat → Nat → Int32} {J : Nat → Nat → Int64} {Iz : Nat → Nat → Int32} {a b s v e u w : Int32} {c : Nat} (hc : I 62 13 = nI c) (hc4 : c < 4) (H : G (d + 5) 109 (254, [some (.ref 62), none, none, none], [], qS sw gc (r_R (q_u (q_u (q_u I 68 c u) 69 c w) 62 13 (nI (c + 1))) a b s v 0 e) J) none (qS sw gc Iz J)) : G (d + 5) 109 (155, [some (.ref 62), some (.int 4), some (.int u), some (.int w)], [], qS sw gc (r_R I a b s v 0 e) J) none (qS sw gc Iz J) := by
  refine G_st (L := 89) (k := 2) (159, [some (.ref 62), some (.int 4), some (.int u), some (.int w)], [.int 0], qS sw gc (r_R I a b s v 0 e) J) (q_hn _ _ _ _) rfl ?_
  refine G_if_ne 192 rfl rfl (fun h9 => absurd h9 (by decide)) (fun _ => ?_)
  refine G_st (L := 89) (k := 5) (171, [some (.ref 62), some (.int 4), some (.int u), some (.int w)], [.int u, .int (I 62 13), .ref 68], qS sw gc (r_R I a b s v 0 e) J) (q_hn _ _ _ _) rfl ?_
  rw [show I 62 13 = nI c from hc]
  refine G_iast (i := 68) (n := 4) rfl rfl (q_lt (by decide)) (vp_in_nI (by omega) (by decide)) ?_
  rw [q_clamp (n := c) (by omega)]
  refine G_st (L := 89) (k := 5) (181, [some (.ref 62), some (.int 4), some (.int u), some (.int w)], [.int w, .int (I 62 13), .ref 69], qS sw gc (q_u (r_R I a b s v 0 e) 68 c u) J) (q_hn _ _ _ _) rfl ?_
  rw [show I 62 13 = nI c from hc]
  rw [r_R_cm (by omega)]
  refine G_iast (i := 69) (n := 4) rfl rfl (q_lt (by decide)) (vp_in_nI (by omega) (by decide)) ?_
  rw [q_clamp (n := c) (by omega)]
  refine G_st (L := 89) (k := 7) (254, [some (.ref 62), some (.int 4), some (.int u), some (.int w)], [], qS sw gc (q_u (q_u (r_R (q_u I 68 c u) a b s v 0 e) 69 c w) 62 13 (((q_u I 68 c u) 62 13) + 1)) J) (q_hn _ _ _ _) rfl ?_
  rw [r_R_cm (by omega)]
  rw [r_R_cm (by omega)]
  refine G_fg [some (.ref 62), none, none, none] (by repeat (first | exact trivial | refine ⟨rfl, ?_⟩)) ?_
  rw [show q_u I 68 c u 62 13 + 1 = nI (c + 1) by rw [show q_u I 68 c u 62 13 = nI c from hc, nI_1]]
  exact H
