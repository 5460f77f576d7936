def c6r (rf : Nat → Nat → Option Nat) : Nat → Nat → Option Nat := q_u (q_z rf 3 none) 2 0 (some 3)
def c6i (I : Nat → Nat → Int32) : Nat → Nat → Int32 := q_u (q_z I 3 0) 2 1 0
def c6j (J : Nat → Nat → Int64) : Nat → Nat → Int64 := (q_z J 3 0)
theorem c6 {d : Nat} {rf : Nat → Nat → Option Nat} {I : Nat → Nat → Int32} {J : Nat → Nat → Int64} : GM (d + 1) 61 [.ref 2] ((3, rf), (I, J)) none ((4, c6r rf), (c6i I, c6j J)) := by
  refine GM_of (by decide) (Nat.le_of_ble_eq_true rfl) (Nat.le_of_ble_eq_true rfl) trivial ?_
  refine G_st (L := 3) (k := 1) (1, [some (.ref 2)], [.ref 2], ((3, rf), (I, J))) (Nat.le_refl _) rfl ?_
  refine G_oinit rfl (by decide) (by omega) (Nat.le_of_ble_eq_true rfl) ?_
  refine G_st (L := 3) (k := 2) (8, [some (.ref 2)], [.int 200, .ref 2], ((3, rf), (I, J))) (Nat.le_refl _) rfl ?_
  refine G_newarr (t := 2) (len := 200) rfl rfl (by decide) rfl (by decide) rfl (by decide) (Nat.le_of_ble_eq_true rfl) ?_
  refine G_st (L := 4) (k := 4) (18, [some (.ref 2)], [], ((4, q_u (q_z rf 3 none) 2 0 (some 3)), (q_u (q_z I 3 0) 2 1 0, (q_z J 3 0)))) (Nat.le_refl _) rfl ?_
  exact G_ret rfl rfl rfl rfl
def c3r (rf : Nat → Nat → Option Nat) : Nat → Nat → Option Nat := q_u (c6r (q_z rf 2 none)) 1 0 (some 2)
def c3i (I : Nat → Nat → Int32) : Nat → Nat → Int32 := q_u (q_u (q_u (q_u (q_u (c6i (q_z I 2 0)) 1 1 0) 1 2 0) 1 3 0) 1 4 0) 1 5 0
def c3j (J : Nat → Nat → Int64) : Nat → Nat → Int64 := (c6j (q_z J 2 0))
theorem c3 {d : Nat} {rf : Nat → Nat → Option Nat} {I : Nat → Nat → Int32} {J : Nat → Nat → Int64} : GM (d + 2) 30 [.ref 1] ((2, rf), (I, J)) none ((4, c3r rf), (c3i I, c3j J)) := by
  refine GM_of (by decide) (Nat.le_of_ble_eq_true rfl) (Nat.le_of_ble_eq_true rfl) trivial ?_
  refine G_st (L := 2) (k := 1) (1, [some (.ref 1)], [.ref 1], ((2, rf), (I, J))) (Nat.le_refl _) rfl ?_
  refine G_oinit rfl (by decide) (by omega) (Nat.le_of_ble_eq_true rfl) ?_
  refine G_st (L := 2) (k := 1) (5, [some (.ref 1)], [.ref 1], ((2, rf), (I, J))) (Nat.le_refl _) rfl ?_
  refine G_new (ci := 6) rfl rfl rfl (Nat.le_of_ble_eq_true rfl) ?_
  refine G_st (L := 3) (k := 1) (9, [some (.ref 1)], [.ref 2, .ref 2, .ref 1], ((3, q_z rf 2 none), ((q_z I 2 0), (q_z J 2 0)))) (Nat.le_refl _) rfl ?_
  refine G_callN (b := 2) (as := []) (rest := [.ref 2, .ref 1]) rfl rfl rfl (Nat.le_of_ble_eq_true rfl) c6 (Nat.le_of_ble_eq_true rfl) ?_
  refine G_st (L := 4) (k := 16) (40, [some (.ref 1)], [], ((4, q_u (c6r (q_z rf 2 none)) 1 0 (some 2)), (q_u (q_u (q_u (q_u (q_u (c6i (q_z I 2 0)) 1 1 0) 1 2 0) 1 3 0) 1 4 0) 1 5 0, (c6j (q_z J 2 0))))) (Nat.le_refl _) rfl ?_
  exact G_ret rfl rfl rfl rfl
theorem c2f4 {d : Nat} {rf : Nat → Nat → Option Nat} {I : Nat → Nat → Int32} {J : Nat → Nat → Int64} (h0 : rf 4 0 = some 5) (h1 : rf 4 1 = some 6) : GM d 20 [.ref 4] ((9, rf), (I, J)) none ((9, rf), (x_fgt4 I, J)) := by
  refine GM_of (by decide) (Nat.le_refl _) (Nat.le_of_ble_eq_true rfl) trivial ?_
  refine G_st (L := 9) (k := 4) (4, [some (.ref 4), some (.int 0)], [.int 4, .int 0], ((9, rf), (I, J))) (Nat.le_refl _) rfl ?_
  refine G_icmp_ge 31 rfl rfl (fun h9 => absurd h9 (by decide)) (fun _ => ?_)
  refine G_st (L := 9) (k := 1) (8, [some (.ref 4), some (.int 0)], [.ref 4], ((9, rf), (I, J))) (Nat.le_refl _) rfl ?_
  refine G_get (ci := 2) (k := 0) (i := 4) rfl rfl rfl (Nat.le_of_ble_eq_true rfl) ?_
  rw [show q_av (((9, rf), (I, J))) 4 (q_fty 2 0) 0 = .ref 5 from congrArg va_rf h0]
  refine G_st (L := 9) (k := 1) (12, [some (.ref 4), some (.int 0)], [.int 0, .ref 5], ((9, rf), (I, J))) (Nat.le_refl _) rfl ?_
  refine G_gets rfl rfl ?_
  refine G_st (L := 9) (k := 1) (16, [some (.ref 4), some (.int 0)], [.int 0, .float 0, .int 0, .ref 5], ((9, rf), (I, J))) (Nat.le_refl _) rfl ?_
  refine G_ialdK (q := (0, "UNTOLD", 4, [-4, -4, 0, 0])) rfl (by decide) rfl (by unfold vp_in; decide) rfl ?_
  refine G_st (L := 9) (k := 0) (17, [some (.ref 4), some (.int 0)], [.int (-4), .int 0, .ref 5], ((9, rf), (I, J))) (Nat.le_refl _) rfl ?_
  refine G_iast (i := 5) (n := 4) rfl rfl (Nat.le_of_ble_eq_true rfl) (by unfold vp_in; decide) ?_
  refine G_st (L := 9) (k := 1) (19, [some (.ref 4), some (.int 0)], [.ref 4], ((9, rf), (q_u I 5 0 (-4), J))) (Nat.le_refl _) rfl ?_
  refine G_get (ci := 2) (k := 1) (i := 4) rfl rfl rfl (Nat.le_of_ble_eq_true rfl) ?_
  rw [show q_av (((9, rf), (q_u I 5 0 (-4), J))) 4 (q_fty 2 1) 1 = .ref 6 from congrArg va_rf h1]
  refine G_st (L := 9) (k := 2) (24, [some (.ref 4), some (.int 0)], [.int 0, .int 0, .ref 6], ((9, rf), (q_u I 5 0 (-4), J))) (Nat.le_refl _) rfl ?_
  refine G_zast (i := 6) (n := 4) rfl rfl (Nat.le_of_ble_eq_true rfl) (by unfold vp_in; decide) ?_
  refine G_st (L := 9) (k := 4) (4, [some (.ref 4), some (.int 1)], [.int 4, .int 1], ((9, rf), (q_u (q_u I 5 0 (-4)) 6 0 0, J))) (Nat.le_refl _) rfl ?_
  refine G_icmp_ge 31 rfl rfl (fun h9 => absurd h9 (by decide)) (fun _ => ?_)
  refine G_st (L := 9) (k := 1) (8, [some (.ref 4), some (.int 1)], [.ref 4], ((9, rf), (q_u (q_u I 5 0 (-4)) 6 0 0, J))) (Nat.le_refl _) rfl ?_
  refine G_get (ci := 2) (k := 0) (i := 4) rfl rfl rfl (Nat.le_of_ble_eq_true rfl) ?_
  rw [show q_av (((9, rf), (q_u (q_u I 5 0 (-4)) 6 0 0, J))) 4 (q_fty 2 0) 0 = .ref 5 from congrArg va_rf h0]
  refine G_st (L := 9) (k := 1) (12, [some (.ref 4), some (.int 1)], [.int 1, .ref 5], ((9, rf), (q_u (q_u I 5 0 (-4)) 6 0 0, J))) (Nat.le_refl _) rfl ?_
  refine G_gets rfl rfl ?_
  refine G_st (L := 9) (k := 1) (16, [some (.ref 4), some (.int 1)], [.int 1, .float 0, .int 1, .ref 5], ((9, rf), (q_u (q_u I 5 0 (-4)) 6 0 0, J))) (Nat.le_refl _) rfl ?_
  refine G_ialdK (q := (0, "UNTOLD", 4, [-4, -4, 0, 0])) rfl (by decide) rfl (by unfold vp_in; decide) rfl ?_
  refine G_st (L := 9) (k := 0) (17, [some (.ref 4), some (.int 1)], [.int (-4), .int 1, .ref 5], ((9, rf), (q_u (q_u I 5 0 (-4)) 6 0 0, J))) (Nat.le_refl _) rfl ?_
  refine G_iast (i := 5) (n := 4) rfl rfl (Nat.le_of_ble_eq_true rfl) (by unfold vp_in; decide) ?_
  refine G_st (L := 9) (k := 1) (19, [some (.ref 4), some (.int 1)], [.ref 4], ((9, rf), (q_u (q_u (q_u I 5 0 (-4)) 6 0 0) 5 1 (-4), J))) (Nat.le_refl _) rfl ?_
  refine G_get (ci := 2) (k := 1) (i := 4) rfl rfl rfl (Nat.le_of_ble_eq_true rfl) ?_
  rw [show q_av (((9, rf), (q_u (q_u (q_u I 5 0 (-4)) 6 0 0) 5 1 (-4), J))) 4 (q_fty 2 1) 1 = .ref 6 from congrArg va_rf h1]
  refine G_st (L := 9) (k := 2) (24, [some (.ref 4), some (.int 1)], [.int 0, .int 1, .ref 6], ((9, rf), (q_u (q_u (q_u I 5 0 (-4)) 6 0 0) 5 1 (-4), J))) (Nat.le_refl _) rfl ?_
  refine G_zast (i := 6) (n := 4) rfl rfl (Nat.le_of_ble_eq_true rfl) (by unfold vp_in; decide) ?_
  refine G_st (L := 9) (k := 4) (4, [some (.ref 4), some (.int 2)], [.int 4, .int 2], ((9, rf), (q_u (q_u (q_u (q_u I 5 0 (-4)) 6 0 0) 5 1 (-4)) 6 1 0, J))) (Nat.le_refl _) rfl ?_
  refine G_icmp_ge 31 rfl rfl (fun h9 => absurd h9 (by decide)) (fun _ => ?_)
  refine G_st (L := 9) (k := 1) (8, [some (.ref 4), some (.int 2)], [.ref 4], ((9, rf), (q_u (q_u (q_u (q_u I 5 0 (-4)) 6 0 0) 5 1 (-4)) 6 1 0, J))) (Nat.le_refl _) rfl ?_
  refine G_get (ci := 2) (k := 0) (i := 4) rfl rfl rfl (Nat.le_of_ble_eq_true rfl) ?_
  rw [show q_av (((9, rf), (q_u (q_u (q_u (q_u I 5 0 (-4)) 6 0 0) 5 1 (-4)) 6 1 0, J))) 4 (q_fty 2 0) 0 = .ref 5 from congrArg va_rf h0]
  refine G_st (L := 9) (k := 1) (12, [some (.ref 4), some (.int 2)], [.int 2, .ref 5], ((9, rf), (q_u (q_u (q_u (q_u I 5 0 (-4)) 6 0 0) 5 1 (-4)) 6 1 0, J))) (Nat.le_refl _) rfl ?_
  refine G_gets rfl rfl ?_
  refine G_st (L := 9) (k := 1) (16, [some (.ref 4), some (.int 2)], [.int 2, .float 0, .int 2, .ref 5], ((9, rf), (q_u (q_u (q_u (q_u I 5 0 (-4)) 6 0 0) 5 1 (-4)) 6 1 0, J))) (Nat.le_refl _) rfl ?_
  refine G_ialdK (q := (0, "UNTOLD", 4, [-4, -4, 0, 0])) rfl (by decide) rfl (by unfold vp_in; decide) rfl ?_
  refine G_st (L := 9) (k := 0) (17, [some (.ref 4), some (.int 2)], [.int 0, .int 2, .ref 5], ((9, rf), (q_u (q_u (q_u (q_u I 5 0 (-4)) 6 0 0) 5 1 (-4)) 6 1 0, J))) (Nat.le_refl _) rfl ?_
  refine G_iast (i := 5) (n := 4) rfl rfl (Nat.le_of_ble_eq_true rfl) (by unfold vp_in; decide) ?_
  refine G_st (L := 9) (k := 1) (19, [some (.ref 4), some (.int 2)], [.ref 4], ((9, rf), (q_u (q_u (q_u (q_u (q_u I 5 0 (-4)) 6 0 0) 5 1 (-4)) 6 1 0) 5 2 0, J))) (Nat.le_refl _) rfl ?_
  refine G_get (ci := 2) (k := 1) (i := 4) rfl rfl rfl (Nat.le_of_ble_eq_true rfl) ?_
  rw [show q_av (((9, rf), (q_u (q_u (q_u (q_u (q_u I 5 0 (-4)) 6 0 0) 5 1 (-4)) 6 1 0) 5 2 0, J))) 4 (q_fty 2 1) 1 = .ref 6 from congrArg va_rf h1]
  refine G_st (L := 9) (k := 2) (24, [some (.ref 4), some (.int 2)], [.int 0, .int 2, .ref 6], ((9, rf), (q_u (q_u (q_u (q_u (q_u I 5 0 (-4)) 6 0 0) 5 1 (-4)) 6 1 0) 5 2 0, J))) (Nat.le_refl _) rfl ?_
  refine G_zast (i := 6) (n := 4) rfl rfl (Nat.le_of_ble_eq_true rfl) (by unfold vp_in; decide) ?_
  refine G_st (L := 9) (k := 4) (4, [some (.ref 4), some (.int 3)], [.int 4, .int 3], ((9, rf), (q_u (q_u (q_u (q_u (q_u (q_u I 5 0 (-4)) 6 0 0) 5 1 (-4)) 6 1 0) 5 2 0) 6 2 0, J))) (Nat.le_refl _) rfl ?_
  refine G_icmp_ge 31 rfl rfl (fun h9 => absurd h9 (by decide)) (fun _ => ?_)
  refine G_st (L := 9) (k := 1) (8, [some (.ref 4), some (.int 3)], [.ref 4], ((9, rf), (q_u (q_u (q_u (q_u (q_u (q_u I 5 0 (-4)) 6 0 0) 5 1 (-4)) 6 1 0) 5 2 0) 6 2 0, J))) (Nat.le_refl _) rfl ?_
  refine G_get (ci := 2) (k := 0) (i := 4) rfl rfl rfl (Nat.le_of_ble_eq_true rfl) ?_
  rw [show q_av (((9, rf), (q_u (q_u (q_u (q_u (q_u (q_u I 5 0 (-4)) 6 0 0) 5 1 (-4)) 6 1 0) 5 2 0) 6 2 0, J))) 4 (q_fty 2 0) 0 = .ref 5 from congrArg va_rf h0]
  refine G_st (L := 9) (k := 1) (12, [some (.ref 4), some (.int 3)], [.int 3, .ref 5], ((9, rf), (q_u (q_u (q_u (q_u (q_u (q_u I 5 0 (-4)) 6 0 0) 5 1 (-4)) 6 1 0) 5 2 0) 6 2 0, J))) (Nat.le_refl _) rfl ?_
  refine G_gets rfl rfl ?_
  refine G_st (L := 9) (k := 1) (16, [some (.ref 4), some (.int 3)], [.int 3, .float 0, .int 3, .ref 5], ((9, rf), (q_u (q_u (q_u (q_u (q_u (q_u I 5 0 (-4)) 6 0 0) 5 1 (-4)) 6 1 0) 5 2 0) 6 2 0, J))) (Nat.le_refl _) rfl ?_
  refine G_ialdK (q := (0, "UNTOLD", 4, [-4, -4, 0, 0])) rfl (by decide) rfl (by unfold vp_in; decide) rfl ?_
  refine G_st (L := 9) (k := 0) (17, [some (.ref 4), some (.int 3)], [.int 0, .int 3, .ref 5], ((9, rf), (q_u (q_u (q_u (q_u (q_u (q_u I 5 0 (-4)) 6 0 0) 5 1 (-4)) 6 1 0) 5 2 0) 6 2 0, J))) (Nat.le_refl _) rfl ?_
  refine G_iast (i := 5) (n := 4) rfl rfl (Nat.le_of_ble_eq_true rfl) (by unfold vp_in; decide) ?_
  refine G_st (L := 9) (k := 1) (19, [some (.ref 4), some (.int 3)], [.ref 4], ((9, rf), (q_u (q_u (q_u (q_u (q_u (q_u (q_u I 5 0 (-4)) 6 0 0) 5 1 (-4)) 6 1 0) 5 2 0) 6 2 0) 5 3 0, J))) (Nat.le_refl _) rfl ?_
  refine G_get (ci := 2) (k := 1) (i := 4) rfl rfl rfl (Nat.le_of_ble_eq_true rfl) ?_
  rw [show q_av (((9, rf), (q_u (q_u (q_u (q_u (q_u (q_u (q_u I 5 0 (-4)) 6 0 0) 5 1 (-4)) 6 1 0) 5 2 0) 6 2 0) 5 3 0, J))) 4 (q_fty 2 1) 1 = .ref 6 from congrArg va_rf h1]
  refine G_st (L := 9) (k := 2) (24, [some (.ref 4), some (.int 3)], [.int 0, .int 3, .ref 6], ((9, rf), (q_u (q_u (q_u (q_u (q_u (q_u (q_u I 5 0 (-4)) 6 0 0) 5 1 (-4)) 6 1 0) 5 2 0) 6 2 0) 5 3 0, J))) (Nat.le_refl _) rfl ?_
  refine G_zast (i := 6) (n := 4) rfl rfl (Nat.le_of_ble_eq_true rfl) (by unfold vp_in; decide) ?_
  refine G_st (L := 9) (k := 4) (4, [some (.ref 4), some (.int 4)], [.int 4, .int 4], ((9, rf), (q_u (q_u (q_u (q_u (q_u (q_u (q_u (q_u I 5 0 (-4)) 6 0 0) 5 1 (-4)) 6 1 0) 5 2 0) 6 2 0) 5 3 0) 6 3 0, J))) (Nat.le_refl _) rfl ?_
  refine G_icmp_ge 31 rfl rfl (fun _ => ?_) (fun h9 => absurd h9 (by decide))
  refine G_st (L := 9) (k := 6) (41, [some (.ref 4), some (.int 4)], [], ((9, rf), (q_u (q_u (q_u (q_u (q_u (q_u (q_u (q_u (q_u (q_u I 5 0 (-4)) 6 0 0) 5 1 (-4)) 6 1 0) 5 2 0) 6 2 0) 5 3 0) 6 3 0) 4 4 0) 4 5 0, J))) (Nat.le_refl _) rfl ?_
  exact G_ret rfl rfl rfl rfl
def c2_4r (rf : Nat → Nat → Option Nat) : Nat → Nat → Option Nat := q_u (q_z (q_u (q_z (q_u (q_z (q_u (q_z rf 5 none) 4 0 (some 5)) 6 none) 4 1 (some 6)) 7 none) 4 2 (some 7)) 8 none) 4 3 (some 8)
def c2_4i (I : Nat → Nat → Int32) : Nat → Nat → Int32 := (x_fgt4 (q_u (q_u (q_z (q_z (q_z (q_z I 5 0) 6 0) 7 0) 8 0) 4 4 0) 4 5 0))
def c2_4j (J : Nat → Nat → Int64) : Nat → Nat → Int64 := (q_z (q_z (q_z (q_z J 5 0) 6 0) 7 0) 8 0)
theorem c2_4 {d : Nat} {rf : Nat → Nat → Option Nat} {I : Nat → Nat → Int32} {J : Nat → Nat → Int64} : GM (d + 1) 18 [.ref 4] ((5, rf), (I, J)) none ((9, c2_4r rf), (c2_4i I, c2_4j J)) := by
  refine GM_of (by decide) (Nat.le_of_ble_eq_true rfl) (Nat.le_of_ble_eq_true rfl) trivial ?_
  refine G_st (L := 5) (k := 1) (1, [some (.ref 4)], [.ref 4], ((5, rf), (I, J))) (Nat.le_refl _) rfl ?_
  refine G_oinit rfl (by decide) (by omega) (Nat.le_of_ble_eq_true rfl) ?_
  refine G_st (L := 5) (k := 2) (6, [some (.ref 4)], [.int 4, .ref 4], ((5, rf), (I, J))) (Nat.le_refl _) rfl ?_
  refine G_newarr (t := 0) (len := 4) rfl rfl (by decide) rfl (by decide) rfl (by decide) (Nat.le_of_ble_eq_true rfl) ?_
  refine G_st (L := 6) (k := 3) (13, [some (.ref 4)], [.int 4, .ref 4], ((6, q_u (q_z rf 5 none) 4 0 (some 5)), ((q_z I 5 0), (q_z J 5 0)))) (Nat.le_refl _) rfl ?_
  refine G_newarr (t := 1) (len := 4) rfl rfl (by decide) rfl (by decide) rfl (by decide) (Nat.le_of_ble_eq_true rfl) ?_
  refine G_st (L := 7) (k := 3) (20, [some (.ref 4)], [.int 4, .ref 4], ((7, q_u (q_z (q_u (q_z rf 5 none) 4 0 (some 5)) 6 none) 4 1 (some 6)), ((q_z (q_z I 5 0) 6 0), (q_z (q_z J 5 0) 6 0)))) (Nat.le_refl _) rfl ?_
  refine G_newarr (t := 0) (len := 4) rfl rfl (by decide) rfl (by decide) rfl (by decide) (Nat.le_of_ble_eq_true rfl) ?_
  refine G_st (L := 8) (k := 3) (27, [some (.ref 4)], [.int 4, .ref 4], ((8, q_u (q_z (q_u (q_z (q_u (q_z rf 5 none) 4 0 (some 5)) 6 none) 4 1 (some 6)) 7 none) 4 2 (some 7)), ((q_z (q_z (q_z I 5 0) 6 0) 7 0), (q_z (q_z (q_z J 5 0) 6 0) 7 0)))) (Nat.le_refl _) rfl ?_
  refine G_newarr (t := 0) (len := 4) rfl rfl (by decide) rfl (by decide) rfl (by decide) (Nat.le_of_ble_eq_true rfl) ?_
  refine G_st (L := 9) (k := 8) (43, [some (.ref 4)], [.ref 4], ((9, q_u (q_z (q_u (q_z (q_u (q_z (q_u (q_z rf 5 none) 4 0 (some 5)) 6 none) 4 1 (some 6)) 7 none) 4 2 (some 7)) 8 none) 4 3 (some 8)), (q_u (q_u (q_z (q_z (q_z (q_z I 5 0) 6 0) 7 0) 8 0) 4 4 0) 4 5 0, (q_z (q_z (q_z (q_z J 5 0) 6 0) 7 0) 8 0)))) (Nat.le_refl _) rfl ?_
  refine G_callV (b := 4) (ci := 2) (as := []) (rest := []) rfl rfl rfl (Nat.le_of_ble_eq_true rfl) (by decide) rfl rfl (Nat.le_of_ble_eq_true rfl) (c2f4 rfl rfl) (Nat.le_of_ble_eq_true rfl) ?_
  refine G_st (L := 9) (k := 0) (46, [some (.ref 4)], [], ((9, q_u (q_z (q_u (q_z (q_u (q_z (q_u (q_z rf 5 none) 4 0 (some 5)) 6 none) 4 1 (some 6)) 7 none) 4 2 (some 7)) 8 none) 4 3 (some 8)), ((x_fgt4 (q_u (q_u (q_z (q_z (q_z (q_z I 5 0) 6 0) 7 0) 8 0) 4 4 0) 4 5 0)), (q_z (q_z (q_z (q_z J 5 0) 6 0) 7 0) 8 0)))) (Nat.le_refl _) rfl ?_
  exact G_ret rfl rfl rfl rfl
theorem c2f9 {d : Nat} {rf : Nat → Nat → Option Nat} {I : Nat → Nat → Int32} {J : Nat → Nat → Int64} (h0 : rf 9 0 = some 10) (h1 : rf 9 1 = some 11) : GM d 20 [.ref 9] ((14, rf), (I, J)) none ((14, rf), (x_fgt9 I, J)) := by
  refine GM_of (by decide) (Nat.le_refl _) (Nat.le_of_ble_eq_true rfl) trivial ?_
  refine G_st (L := 14) (k := 4) (4, [some (.ref 9), some (.int 0)], [.int 4, .int 0], ((14, rf), (I, J))) (Nat.le_refl _) rfl ?_
  refine G_icmp_ge 31 rfl rfl (fun h9 => absurd h9 (by decide)) (fun _ => ?_)
  refine G_st (L := 14) (k := 1) (8, [some (.ref 9), some (.int 0)], [.ref 9], ((14, rf), (I, J))) (Nat.le_refl _) rfl ?_
  refine G_get (ci := 2) (k := 0) (i := 9) rfl rfl rfl (Nat.le_of_ble_eq_true rfl) ?_
  rw [show q_av (((14, rf), (I, J))) 9 (q_fty 2 0) 0 = .ref 10 from congrArg va_rf h0]
  refine G_st (L := 14) (k := 1) (12, [some (.ref 9), some (.int 0)], [.int 0, .ref 10], ((14, rf), (I, J))) (Nat.le_refl _) rfl ?_
  refine G_gets rfl rfl ?_
  refine G_st (L := 14) (k := 1) (16, [some (.ref 9), some (.int 0)], [.int 0, .float 0, .int 0, .ref 10], ((14, rf), (I, J))) (Nat.le_refl _) rfl ?_
  refine G_ialdK (q := (0, "UNTOLD", 4, [-4, -4, 0, 0])) rfl (by decide) rfl (by unfold vp_in; decide) rfl ?_
  refine G_st (L := 14) (k := 0) (17, [some (.ref 9), some (.int 0)], [.int (-4), .int 0, .ref 10], ((14, rf), (I, J))) (Nat.le_refl _) rfl ?_
  refine G_iast (i := 10) (n := 4) rfl rfl (Nat.le_of_ble_eq_true rfl) (by unfold vp_in; decide) ?_
  refine G_st (L := 14) (k := 1) (19, [some (.ref 9), some (.int 0)], [.ref 9], ((14, rf), (q_u I 10 0 (-4), J))) (Nat.le_refl _) rfl ?_
  refine G_get (ci := 2) (k := 1) (i := 9) rfl rfl rfl (Nat.le_of_ble_eq_true rfl) ?_
  rw [show q_av (((14, rf), (q_u I 10 0 (-4), J))) 9 (q_fty 2 1) 1 = .ref 11 from congrArg va_rf h1]
  refine G_st (L := 14) (k := 2) (24, [some (.ref 9), some (.int 0)], [.int 0, .int 0, .ref 11], ((14, rf), (q_u I 10 0 (-4), J))) (Nat.le_refl _) rfl ?_
  refine G_zast (i := 11) (n := 4) rfl rfl (Nat.le_of_ble_eq_true rfl) (by unfold vp_in; decide) ?_
  refine G_st (L := 14) (k := 4) (4, [some (.ref 9), some (.int 1)], [.int 4, .int 1], ((14, rf), (q_u (q_u I 10 0 (-4)) 11 0 0, J))) (Nat.le_refl _) rfl ?_
  refine G_icmp_ge 31 rfl rfl (fun h9 => absurd h9 (by decide)) (fun _ => ?_)
  refine G_st (L := 14) (k := 1) (8, [some (.ref 9), some (.int 1)], [.ref 9], ((14, rf), (q_u (q_u I 10 0 (-4)) 11 0 0, J))) (Nat.le_refl _) rfl ?_
  refine G_get (ci := 2) (k := 0) (i := 9) rfl rfl rfl (Nat.le_of_ble_eq_true rfl) ?_
  rw [show q_av (((14, rf), (q_u (q_u I 10 0 (-4)) 11 0 0, J))) 9 (q_fty 2 0) 0 = .ref 10 from congrArg va_rf h0]
  refine G_st (L := 14) (k := 1) (12, [some (.ref 9), some (.int 1)], [.int 1, .ref 10], ((14, rf), (q_u (q_u I 10 0 (-4)) 11 0 0, J))) (Nat.le_refl _) rfl ?_
  refine G_gets rfl rfl ?_
  refine G_st (L := 14) (k := 1) (16, [some (.ref 9), some (.int 1)], [.int 1, .float 0, .int 1, .ref 10], ((14, rf), (q_u (q_u I 10 0 (-4)) 11 0 0, J))) (Nat.le_refl _) rfl ?_
  refine G_ialdK (q := (0, "UNTOLD", 4, [-4, -4, 0, 0])) rfl (by decide) rfl (by unfold vp_in; decide) rfl ?_
  refine G_st (L := 14) (k := 0) (17, [some (.ref 9), some (.int 1)], [.int (-4), .int 1, .ref 10], ((14, rf), (q_u (q_u I 10 0 (-4)) 11 0 0, J))) (Nat.le_refl _) rfl ?_
  refine G_iast (i := 10) (n := 4) rfl rfl (Nat.le_of_ble_eq_true rfl) (by unfold vp_in; decide) ?_
  refine G_st (L := 14) (k := 1) (19, [some (.ref 9), some (.int 1)], [.ref 9], ((14, rf), (q_u (q_u (q_u I 10 0 (-4)) 11 0 0) 10 1 (-4), J))) (Nat.le_refl _) rfl ?_
  refine G_get (ci := 2) (k := 1) (i := 9) rfl rfl rfl (Nat.le_of_ble_eq_true rfl) ?_
  rw [show q_av (((14, rf), (q_u (q_u (q_u I 10 0 (-4)) 11 0 0) 10 1 (-4), J))) 9 (q_fty 2 1) 1 = .ref 11 from congrArg va_rf h1]
  refine G_st (L := 14) (k := 2) (24, [some (.ref 9), some (.int 1)], [.int 0, .int 1, .ref 11], ((14, rf), (q_u (q_u (q_u I 10 0 (-4)) 11 0 0) 10 1 (-4), J))) (Nat.le_refl _) rfl ?_
  refine G_zast (i := 11) (n := 4) rfl rfl (Nat.le_of_ble_eq_true rfl) (by unfold vp_in; decide) ?_
  refine G_st (L := 14) (k := 4) (4, [some (.ref 9), some (.int 2)], [.int 4, .int 2], ((14, rf), (q_u (q_u (q_u (q_u I 10 0 (-4)) 11 0 0) 10 1 (-4)) 11 1 0, J))) (Nat.le_refl _) rfl ?_
  refine G_icmp_ge 31 rfl rfl (fun h9 => absurd h9 (by decide)) (fun _ => ?_)
  refine G_st (L := 14) (k := 1) (8, [some (.ref 9), some (.int 2)], [.ref 9], ((14, rf), (q_u (q_u (q_u (q_u I 10 0 (-4)) 11 0 0) 10 1 (-4)) 11 1 0, J))) (Nat.le_refl _) rfl ?_
  refine G_get (ci := 2) (k := 0) (i := 9) rfl rfl rfl (Nat.le_of_ble_eq_true rfl) ?_
  rw [show q_av (((14, rf), (q_u (q_u (q_u (q_u I 10 0 (-4)) 11 0 0) 10 1 (-4)) 11 1 0, J))) 9 (q_fty 2 0) 0 = .ref 10 from congrArg va_rf h0]
  refine G_st (L := 14) (k := 1) (12, [some (.ref 9), some (.int 2)], [.int 2, .ref 10], ((14, rf), (q_u (q_u (q_u (q_u I 10 0 (-4)) 11 0 0) 10 1 (-4)) 11 1 0, J))) (Nat.le_refl _) rfl ?_
  refine G_gets rfl rfl ?_
  refine G_st (L := 14) (k := 1) (16, [some (.ref 9), some (.int 2)], [.int 2, .float 0, .int 2, .ref 10], ((14, rf), (q_u (q_u (q_u (q_u I 10 0 (-4)) 11 0 0) 10 1 (-4)) 11 1 0, J))) (Nat.le_refl _) rfl ?_
  refine G_ialdK (q := (0, "UNTOLD", 4, [-4, -4, 0, 0])) rfl (by decide) rfl (by unfold vp_in; decide) rfl ?_
  refine G_st (L := 14) (k := 0) (17, [some (.ref 9), some (.int 2)], [.int 0, .int 2, .ref 10], ((14, rf), (q_u (q_u (q_u (q_u I 10 0 (-4)) 11 0 0) 10 1 (-4)) 11 1 0, J))) (Nat.le_refl _) rfl ?_
  refine G_iast (i := 10) (n := 4) rfl rfl (Nat.le_of_ble_eq_true rfl) (by unfold vp_in; decide) ?_
  refine G_st (L := 14) (k := 1) (19, [some (.ref 9), some (.int 2)], [.ref 9], ((14, rf), (q_u (q_u (q_u (q_u (q_u I 10 0 (-4)) 11 0 0) 10 1 (-4)) 11 1 0) 10 2 0, J))) (Nat.le_refl _) rfl ?_
  refine G_get (ci := 2) (k := 1) (i := 9) rfl rfl rfl (Nat.le_of_ble_eq_true rfl) ?_
  rw [show q_av (((14, rf), (q_u (q_u (q_u (q_u (q_u I 10 0 (-4)) 11 0 0) 10 1 (-4)) 11 1 0) 10 2 0, J))) 9 (q_fty 2 1) 1 = .ref 11 from congrArg va_rf h1]
  refine G_st (L := 14) (k := 2) (24, [some (.ref 9), some (.int 2)], [.int 0, .int 2, .ref 11], ((14, rf), (q_u (q_u (q_u (q_u (q_u I 10 0 (-4)) 11 0 0) 10 1 (-4)) 11 1 0) 10 2 0, J))) (Nat.le_refl _) rfl ?_
  refine G_zast (i := 11) (n := 4) rfl rfl (Nat.le_of_ble_eq_true rfl) (by unfold vp_in; decide) ?_
  refine G_st (L := 14) (k := 4) (4, [some (.ref 9), some (.int 3)], [.int 4, .int 3], ((14, rf), (q_u (q_u (q_u (q_u (q_u (q_u I 10 0 (-4)) 11 0 0) 10 1 (-4)) 11 1 0) 10 2 0) 11 2 0, J))) (Nat.le_refl _) rfl ?_
  refine G_icmp_ge 31 rfl rfl (fun h9 => absurd h9 (by decide)) (fun _ => ?_)
  refine G_st (L := 14) (k := 1) (8, [some (.ref 9), some (.int 3)], [.ref 9], ((14, rf), (q_u (q_u (q_u (q_u (q_u (q_u I 10 0 (-4)) 11 0 0) 10 1 (-4)) 11 1 0) 10 2 0) 11 2 0, J))) (Nat.le_refl _) rfl ?_
  refine G_get (ci := 2) (k := 0) (i := 9) rfl rfl rfl (Nat.le_of_ble_eq_true rfl) ?_
  rw [show q_av (((14, rf), (q_u (q_u (q_u (q_u (q_u (q_u I 10 0 (-4)) 11 0 0) 10 1 (-4)) 11 1 0) 10 2 0) 11 2 0, J))) 9 (q_fty 2 0) 0 = .ref 10 from congrArg va_rf h0]
  refine G_st (L := 14) (k := 1) (12, [some (.ref 9), some (.int 3)], [.int 3, .ref 10], ((14, rf), (q_u (q_u (q_u (q_u (q_u (q_u I 10 0 (-4)) 11 0 0) 10 1 (-4)) 11 1 0) 10 2 0) 11 2 0, J))) (Nat.le_refl _) rfl ?_
  refine G_gets rfl rfl ?_
  refine G_st (L := 14) (k := 1) (16, [some (.ref 9), some (.int 3)], [.int 3, .float 0, .int 3, .ref 10], ((14, rf), (q_u (q_u (q_u (q_u (q_u (q_u I 10 0 (-4)) 11 0 0) 10 1 (-4)) 11 1 0) 10 2 0) 11 2 0, J))) (Nat.le_refl _) rfl ?_
  refine G_ialdK (q := (0, "UNTOLD", 4, [-4, -4, 0, 0])) rfl (by decide) rfl (by unfold vp_in; decide) rfl ?_
  refine G_st (L := 14) (k := 0) (17, [some (.ref 9), some (.int 3)], [.int 0, .int 3, .ref 10], ((14, rf), (q_u (q_u (q_u (q_u (q_u (q_u I 10 0 (-4)) 11 0 0) 10 1 (-4)) 11 1 0) 10 2 0) 11 2 0, J))) (Nat.le_refl _) rfl ?_
  refine G_iast (i := 10) (n := 4) rfl rfl (Nat.le_of_ble_eq_true rfl) (by unfold vp_in; decide) ?_
  refine G_st (L := 14) (k := 1) (19, [some (.ref 9), some (.int 3)], [.ref 9], ((14, rf), (q_u (q_u (q_u (q_u (q_u (q_u (q_u I 10 0 (-4)) 11 0 0) 10 1 (-4)) 11 1 0) 10 2 0) 11 2 0) 10 3 0, J))) (Nat.le_refl _) rfl ?_
  refine G_get (ci := 2) (k := 1) (i := 9) rfl rfl rfl (Nat.le_of_ble_eq_true rfl) ?_
  rw [show q_av (((14, rf), (q_u (q_u (q_u (q_u (q_u (q_u (q_u I 10 0 (-4)) 11 0 0) 10 1 (-4)) 11 1 0) 10 2 0) 11 2 0) 10 3 0, J))) 9 (q_fty 2 1) 1 = .ref 11 from congrArg va_rf h1]
  refine G_st (L := 14) (k := 2) (24, [some (.ref 9), some (.int 3)], [.int 0, .int 3, .ref 11], ((14, rf), (q_u (q_u (q_u (q_u (q_u (q_u (q_u I 10 0 (-4)) 11 0 0) 10 1 (-4)) 11 1 0) 10 2 0) 11 2 0) 10 3 0, J))) (Nat.le_refl _) rfl ?_
  refine G_zast (i := 11) (n := 4) rfl rfl (Nat.le_of_ble_eq_true rfl) (by unfold vp_in; decide) ?_
  refine G_st (L := 14) (k := 4) (4, [some (.ref 9), some (.int 4)], [.int 4, .int 4], ((14, rf), (q_u (q_u (q_u (q_u (q_u (q_u (q_u (q_u I 10 0 (-4)) 11 0 0) 10 1 (-4)) 11 1 0) 10 2 0) 11 2 0) 10 3 0) 11 3 0, J))) (Nat.le_refl _) rfl ?_
  refine G_icmp_ge 31 rfl rfl (fun _ => ?_) (fun h9 => absurd h9 (by decide))
  refine G_st (L := 14) (k := 6) (41, [some (.ref 9), some (.int 4)], [], ((14, rf), (q_u (q_u (q_u (q_u (q_u (q_u (q_u (q_u (q_u (q_u I 10 0 (-4)) 11 0 0) 10 1 (-4)) 11 1 0) 10 2 0) 11 2 0) 10 3 0) 11 3 0) 9 4 0) 9 5 0, J))) (Nat.le_refl _) rfl ?_
  exact G_ret rfl rfl rfl rfl
def c2_9r (rf : Nat → Nat → Option Nat) : Nat → Nat → Option Nat := q_u (q_z (q_u (q_z (q_u (q_z (q_u (q_z rf 10 none) 9 0 (some 10)) 11 none) 9 1 (some 11)) 12 none) 9 2 (some 12)) 13 none) 9 3 (some 13)
def c2_9i (I : Nat → Nat → Int32) : Nat → Nat → Int32 := (x_fgt9 (q_u (q_u (q_z (q_z (q_z (q_z I 10 0) 11 0) 12 0) 13 0) 9 4 0) 9 5 0))
def c2_9j (J : Nat → Nat → Int64) : Nat → Nat → Int64 := (q_z (q_z (q_z (q_z J 10 0) 11 0) 12 0) 13 0)
theorem c2_9 {d : Nat} {rf : Nat → Nat → Option Nat} {I : Nat → Nat → Int32} {J : Nat → Nat → Int64} : GM (d + 1) 18 [.ref 9] ((10, rf), (I, J)) none ((14, c2_9r rf), (c2_9i I, c2_9j J)) := by
  refine GM_of (by decide) (Nat.le_of_ble_eq_true rfl) (Nat.le_of_ble_eq_true rfl) trivial ?_
  refine G_st (L := 10) (k := 1) (1, [some (.ref 9)], [.ref 9], ((10, rf), (I, J))) (Nat.le_refl _) rfl ?_
  refine G_oinit rfl (by decide) (by omega) (Nat.le_of_ble_eq_true rfl) ?_
  refine G_st (L := 10) (k := 2) (6, [some (.ref 9)], [.int 4, .ref 9], ((10, rf), (I, J))) (Nat.le_refl _) rfl ?_
  refine G_newarr (t := 0) (len := 4) rfl rfl (by decide) rfl (by decide) rfl (by decide) (Nat.le_of_ble_eq_true rfl) ?_
  refine G_st (L := 11) (k := 3) (13, [some (.ref 9)], [.int 4, .ref 9], ((11, q_u (q_z rf 10 none) 9 0 (some 10)), ((q_z I 10 0), (q_z J 10 0)))) (Nat.le_refl _) rfl ?_
  refine G_newarr (t := 1) (len := 4) rfl rfl (by decide) rfl (by decide) rfl (by decide) (Nat.le_of_ble_eq_true rfl) ?_
  refine G_st (L := 12) (k := 3) (20, [some (.ref 9)], [.int 4, .ref 9], ((12, q_u (q_z (q_u (q_z rf 10 none) 9 0 (some 10)) 11 none) 9 1 (some 11)), ((q_z (q_z I 10 0) 11 0), (q_z (q_z J 10 0) 11 0)))) (Nat.le_refl _) rfl ?_
  refine G_newarr (t := 0) (len := 4) rfl rfl (by decide) rfl (by decide) rfl (by decide) (Nat.le_of_ble_eq_true rfl) ?_
  refine G_st (L := 13) (k := 3) (27, [some (.ref 9)], [.int 4, .ref 9], ((13, q_u (q_z (q_u (q_z (q_u (q_z rf 10 none) 9 0 (some 10)) 11 none) 9 1 (some 11)) 12 none) 9 2 (some 12)), ((q_z (q_z (q_z I 10 0) 11 0) 12 0), (q_z (q_z (q_z J 10 0) 11 0) 12 0)))) (Nat.le_refl _) rfl ?_
  refine G_newarr (t := 0) (len := 4) rfl rfl (by decide) rfl (by decide) rfl (by decide) (Nat.le_of_ble_eq_true rfl) ?_
  refine G_st (L := 14) (k := 8) (43, [some (.ref 9)], [.ref 9], ((14, q_u (q_z (q_u (q_z (q_u (q_z (q_u (q_z rf 10 none) 9 0 (some 10)) 11 none) 9 1 (some 11)) 12 none) 9 2 (some 12)) 13 none) 9 3 (some 13)), (q_u (q_u (q_z (q_z (q_z (q_z I 10 0) 11 0) 12 0) 13 0) 9 4 0) 9 5 0, (q_z (q_z (q_z (q_z J 10 0) 11 0) 12 0) 13 0)))) (Nat.le_refl _) rfl ?_
  refine G_callV (b := 9) (ci := 2) (as := []) (rest := []) rfl rfl rfl (Nat.le_of_ble_eq_true rfl) (by decide) rfl rfl (Nat.le_of_ble_eq_true rfl) (c2f9 rfl rfl) (Nat.le_of_ble_eq_true rfl) ?_
  refine G_st (L := 14) (k := 0) (46, [some (.ref 9)], [], ((14, q_u (q_z (q_u (q_z (q_u (q_z (q_u (q_z rf 10 none) 9 0 (some 10)) 11 none) 9 1 (some 11)) 12 none) 9 2 (some 12)) 13 none) 9 3 (some 13)), ((x_fgt9 (q_u (q_u (q_z (q_z (q_z (q_z I 10 0) 11 0) 12 0) 13 0) 9 4 0) 9 5 0)), (q_z (q_z (q_z (q_z J 10 0) 11 0) 12 0) 13 0)))) (Nat.le_refl _) rfl ?_
  exact G_ret rfl rfl rfl rfl
def c4r (rf : Nat → Nat → Option Nat) : Nat → Nat → Option Nat := q_u (q_z (q_u (q_z (q_u (q_z (q_u (q_z (q_u (q_z rf 48 none) 47 0 (some 48)) 49 none) 47 1 (some 49)) 50 none) 47 2 (some 50)) 51 none) 47 4 (some 51)) 52 none) 47 5 (some 52)
def c4i (I : Nat → Nat → Int32) : Nat → Nat → Int32 := q_u (q_u (q_u (q_z (q_z (q_u (q_z (q_z (q_z I 48 0) 49 0) 50 0) 47 3 0) 51 0) 52 0) 47 6 0) 47 7 0) 47 8 0
def c4j (J : Nat → Nat → Int64) : Nat → Nat → Int64 := (q_z (q_z (q_z (q_z (q_z J 48 0) 49 0) 50 0) 51 0) 52 0)
theorem c4 {d : Nat} {rf : Nat → Nat → Option Nat} {I : Nat → Nat → Int32} {J : Nat → Nat → Int64} : GM (d + 1) 41 [.ref 47] ((48, rf), (I, J)) none ((53, c4r rf), (c4i I, c4j J)) := by
  refine GM_of (by decide) (Nat.le_of_ble_eq_true rfl) (Nat.le_of_ble_eq_true rfl) trivial ?_
  refine G_st (L := 48) (k := 1) (1, [some (.ref 47)], [.ref 47], ((48, rf), (I, J))) (Nat.le_refl _) rfl ?_
  refine G_oinit rfl (by decide) (by omega) (Nat.le_of_ble_eq_true rfl) ?_
  refine G_st (L := 48) (k := 2) (7, [some (.ref 47)], [.int 8, .ref 47], ((48, rf), (I, J))) (Nat.le_refl _) rfl ?_
  refine G_newarr (t := 0) (len := 8) rfl rfl (by decide) rfl (by decide) rfl (by decide) (Nat.le_of_ble_eq_true rfl) ?_
  refine G_st (L := 49) (k := 3) (15, [some (.ref 47)], [.int 8, .ref 47], ((49, q_u (q_z rf 48 none) 47 0 (some 48)), ((q_z I 48 0), (q_z J 48 0)))) (Nat.le_refl _) rfl ?_
  refine G_newarr (t := 0) (len := 8) rfl rfl (by decide) rfl (by decide) rfl (by decide) (Nat.le_of_ble_eq_true rfl) ?_
  refine G_st (L := 50) (k := 3) (23, [some (.ref 47)], [.int 8, .ref 47], ((50, q_u (q_z (q_u (q_z rf 48 none) 47 0 (some 48)) 49 none) 47 1 (some 49)), ((q_z (q_z I 48 0) 49 0), (q_z (q_z J 48 0) 49 0)))) (Nat.le_refl _) rfl ?_
  refine G_newarr (t := 0) (len := 8) rfl rfl (by decide) rfl (by decide) rfl (by decide) (Nat.le_of_ble_eq_true rfl) ?_
  refine G_st (L := 51) (k := 6) (36, [some (.ref 47)], [.int 41, .ref 47], ((51, q_u (q_z (q_u (q_z (q_u (q_z rf 48 none) 47 0 (some 48)) 49 none) 47 1 (some 49)) 50 none) 47 2 (some 50)), (q_u (q_z (q_z (q_z I 48 0) 49 0) 50 0) 47 3 0, (q_z (q_z (q_z J 48 0) 49 0) 50 0)))) (Nat.le_refl _) rfl ?_
  refine G_newarr (t := 0) (len := 41) rfl rfl (by decide) rfl (by decide) rfl (by decide) (Nat.le_of_ble_eq_true rfl) ?_
  refine G_st (L := 52) (k := 3) (44, [some (.ref 47)], [.int 40, .ref 47], ((52, q_u (q_z (q_u (q_z (q_u (q_z (q_u (q_z rf 48 none) 47 0 (some 48)) 49 none) 47 1 (some 49)) 50 none) 47 2 (some 50)) 51 none) 47 4 (some 51)), ((q_z (q_u (q_z (q_z (q_z I 48 0) 49 0) 50 0) 47 3 0) 51 0), (q_z (q_z (q_z (q_z J 48 0) 49 0) 50 0) 51 0)))) (Nat.le_refl _) rfl ?_
  refine G_newarr (t := 0) (len := 40) rfl rfl (by decide) rfl (by decide) rfl (by decide) (Nat.le_of_ble_eq_true rfl) ?_
  refine G_st (L := 53) (k := 10) (64, [some (.ref 47)], [], ((53, q_u (q_z (q_u (q_z (q_u (q_z (q_u (q_z (q_u (q_z rf 48 none) 47 0 (some 48)) 49 none) 47 1 (some 49)) 50 none) 47 2 (some 50)) 51 none) 47 4 (some 51)) 52 none) 47 5 (some 52)), (q_u (q_u (q_u (q_z (q_z (q_u (q_z (q_z (q_z I 48 0) 49 0) 50 0) 47 3 0) 51 0) 52 0) 47 6 0) 47 7 0) 47 8 0, (q_z (q_z (q_z (q_z (q_z J 48 0) 49 0) 50 0) 51 0) 52 0)))) (Nat.le_refl _) rfl ?_
  exact G_ret rfl rfl rfl rfl
def c5_0r (rf : Nat → Nat → Option Nat) : Nat → Nat → Option Nat := q_u (q_z rf 55 none) 54 0 (some 55)
def c5_0i (I : Nat → Nat → Int32) : Nat → Nat → Int32 := q_u (q_u (q_z I 55 0) 54 1 0) 54 2 (-4)
def c5_0j (J : Nat → Nat → Int64) : Nat → Nat → Int64 := (q_z J 55 0)
theorem c5_0 {d : Nat} {rf : Nat → Nat → Option Nat} {I : Nat → Nat → Int32} {J : Nat → Nat → Int64} : GM (d + 1) 53 [.ref 54] ((55, rf), (I, J)) none ((56, c5_0r rf), (c5_0i I, c5_0j J)) := by
  refine GM_of (by decide) (Nat.le_of_ble_eq_true rfl) (Nat.le_of_ble_eq_true rfl) trivial ?_
  refine G_st (L := 55) (k := 1) (1, [some (.ref 54)], [.ref 54], ((55, rf), (I, J))) (Nat.le_refl _) rfl ?_
  refine G_oinit rfl (by decide) (by omega) (Nat.le_of_ble_eq_true rfl) ?_
  refine G_st (L := 55) (k := 2) (7, [some (.ref 54)], [.int 60, .ref 54], ((55, rf), (I, J))) (Nat.le_refl _) rfl ?_
  refine G_newarr (t := 3) (len := 60) rfl rfl (by decide) rfl (by decide) rfl (by decide) (Nat.le_of_ble_eq_true rfl) ?_
  refine G_st (L := 56) (k := 7) (23, [some (.ref 54)], [], ((56, q_u (q_z rf 55 none) 54 0 (some 55)), (q_u (q_u (q_z I 55 0) 54 1 0) 54 2 (-4), (q_z J 55 0)))) (Nat.le_refl _) rfl ?_
  exact G_ret rfl rfl rfl rfl
def c5_1r (rf : Nat → Nat → Option Nat) : Nat → Nat → Option Nat := q_u (q_z rf 57 none) 56 0 (some 57)
def c5_1i (I : Nat → Nat → Int32) : Nat → Nat → Int32 := q_u (q_u (q_z I 57 0) 56 1 0) 56 2 (-4)
def c5_1j (J : Nat → Nat → Int64) : Nat → Nat → Int64 := (q_z J 57 0)
theorem c5_1 {d : Nat} {rf : Nat → Nat → Option Nat} {I : Nat → Nat → Int32} {J : Nat → Nat → Int64} : GM (d + 1) 53 [.ref 56] ((57, rf), (I, J)) none ((58, c5_1r rf), (c5_1i I, c5_1j J)) := by
  refine GM_of (by decide) (Nat.le_of_ble_eq_true rfl) (Nat.le_of_ble_eq_true rfl) trivial ?_
  refine G_st (L := 57) (k := 1) (1, [some (.ref 56)], [.ref 56], ((57, rf), (I, J))) (Nat.le_refl _) rfl ?_
  refine G_oinit rfl (by decide) (by omega) (Nat.le_of_ble_eq_true rfl) ?_
  refine G_st (L := 57) (k := 2) (7, [some (.ref 56)], [.int 60, .ref 56], ((57, rf), (I, J))) (Nat.le_refl _) rfl ?_
  refine G_newarr (t := 3) (len := 60) rfl rfl (by decide) rfl (by decide) rfl (by decide) (Nat.le_of_ble_eq_true rfl) ?_
  refine G_st (L := 58) (k := 7) (23, [some (.ref 56)], [], ((58, q_u (q_z rf 57 none) 56 0 (some 57)), (q_u (q_u (q_z I 57 0) 56 1 0) 56 2 (-4), (q_z J 57 0)))) (Nat.le_refl _) rfl ?_
  exact G_ret rfl rfl rfl rfl
def c5_2r (rf : Nat → Nat → Option Nat) : Nat → Nat → Option Nat := q_u (q_z rf 59 none) 58 0 (some 59)
def c5_2i (I : Nat → Nat → Int32) : Nat → Nat → Int32 := q_u (q_u (q_z I 59 0) 58 1 0) 58 2 (-4)
def c5_2j (J : Nat → Nat → Int64) : Nat → Nat → Int64 := (q_z J 59 0)
theorem c5_2 {d : Nat} {rf : Nat → Nat → Option Nat} {I : Nat → Nat → Int32} {J : Nat → Nat → Int64} : GM (d + 1) 53 [.ref 58] ((59, rf), (I, J)) none ((60, c5_2r rf), (c5_2i I, c5_2j J)) := by
  refine GM_of (by decide) (Nat.le_of_ble_eq_true rfl) (Nat.le_of_ble_eq_true rfl) trivial ?_
  refine G_st (L := 59) (k := 1) (1, [some (.ref 58)], [.ref 58], ((59, rf), (I, J))) (Nat.le_refl _) rfl ?_
  refine G_oinit rfl (by decide) (by omega) (Nat.le_of_ble_eq_true rfl) ?_
  refine G_st (L := 59) (k := 2) (7, [some (.ref 58)], [.int 60, .ref 58], ((59, rf), (I, J))) (Nat.le_refl _) rfl ?_
  refine G_newarr (t := 3) (len := 60) rfl rfl (by decide) rfl (by decide) rfl (by decide) (Nat.le_of_ble_eq_true rfl) ?_
  refine G_st (L := 60) (k := 7) (23, [some (.ref 58)], [], ((60, q_u (q_z rf 59 none) 58 0 (some 59)), (q_u (q_u (q_z I 59 0) 58 1 0) 58 2 (-4), (q_z J 59 0)))) (Nat.le_refl _) rfl ?_
  exact G_ret rfl rfl rfl rfl
def c5_3r (rf : Nat → Nat → Option Nat) : Nat → Nat → Option Nat := q_u (q_z rf 61 none) 60 0 (some 61)
def c5_3i (I : Nat → Nat → Int32) : Nat → Nat → Int32 := q_u (q_u (q_z I 61 0) 60 1 0) 60 2 (-4)
def c5_3j (J : Nat → Nat → Int64) : Nat → Nat → Int64 := (q_z J 61 0)
theorem c5_3 {d : Nat} {rf : Nat → Nat → Option Nat} {I : Nat → Nat → Int32} {J : Nat → Nat → Int64} : GM (d + 1) 53 [.ref 60] ((61, rf), (I, J)) none ((62, c5_3r rf), (c5_3i I, c5_3j J)) := by
  refine GM_of (by decide) (Nat.le_of_ble_eq_true rfl) (Nat.le_of_ble_eq_true rfl) trivial ?_
  refine G_st (L := 61) (k := 1) (1, [some (.ref 60)], [.ref 60], ((61, rf), (I, J))) (Nat.le_refl _) rfl ?_
  refine G_oinit rfl (by decide) (by omega) (Nat.le_of_ble_eq_true rfl) ?_
  refine G_st (L := 61) (k := 2) (7, [some (.ref 60)], [.int 60, .ref 60], ((61, rf), (I, J))) (Nat.le_refl _) rfl ?_
  refine G_newarr (t := 3) (len := 60) rfl rfl (by decide) rfl (by decide) rfl (by decide) (Nat.le_of_ble_eq_true rfl) ?_
  refine G_st (L := 62) (k := 7) (23, [some (.ref 60)], [], ((62, q_u (q_z rf 61 none) 60 0 (some 61)), (q_u (q_u (q_z I 61 0) 60 1 0) 60 2 (-4), (q_z J 61 0)))) (Nat.le_refl _) rfl ?_
  exact G_ret rfl rfl rfl rfl
def c7 (I : Nat → Nat → Int32) (r : Nat) : Nat → Nat → Int32 := q_u (q_u (q_u (q_u I r 0 5) r 1 0) r 2 0) r 3 (-4)
theorem c7_ok {d : Nat} {rf : Nat → Nat → Option Nat} {I : Nat → Nat → Int32} {J : Nat → Nat → Int64} {n r : Nat} (hs : q_SH r = some (.inl 7)) (hr : r < n) : GM (d + 1) 66 [.ref r] ((n, rf), (I, J)) none ((n, rf), (c7 I r, J)) := by
  refine GM_of (by decide) (Nat.le_refl _) (Nat.le_of_ble_eq_true rfl) trivial ?_
  refine G_st (L := 0) (k := 1) (1, [some (.ref r)], [.ref r], ((n, rf), (I, J))) (Nat.zero_le _) rfl ?_
  refine G_oinit rfl (by decide) (by omega) (Nat.le_of_ble_eq_true rfl) ?_
  refine G_st (L := 0) (k := 2) (6, [some (.ref r)], [.int 5, .ref r], ((n, rf), (I, J))) (Nat.zero_le _) rfl ?_
  refine G_put (ci := 7) (k := 0) (i := r) (M1 := ((n, rf), (q_u I r 0 5, J))) rfl rfl hs hr rfl rfl rfl ?_
  refine G_st (L := 0) (k := 2) (11, [some (.ref r)], [.int 0, .ref r], ((n, rf), (q_u I r 0 5, J))) (Nat.zero_le _) rfl ?_
  refine G_put (ci := 7) (k := 1) (i := r) (M1 := ((n, rf), (q_u (q_u I r 0 5) r 1 0, J))) rfl rfl hs hr rfl rfl rfl ?_
  refine G_st (L := 0) (k := 2) (16, [some (.ref r)], [.int 0, .ref r], ((n, rf), (q_u (q_u I r 0 5) r 1 0, J))) (Nat.zero_le _) rfl ?_
  refine G_put (ci := 7) (k := 2) (i := r) (M1 := ((n, rf), (q_u (q_u (q_u I r 0 5) r 1 0) r 2 0, J))) rfl rfl hs hr rfl rfl rfl ?_
  refine G_st (L := 0) (k := 2) (22, [some (.ref r)], [.int (-4), .ref r], ((n, rf), (q_u (q_u (q_u I r 0 5) r 1 0) r 2 0, J))) (Nat.zero_le _) rfl ?_
  refine G_put (ci := 7) (k := 3) (i := r) (M1 := ((n, rf), (q_u (q_u (q_u (q_u I r 0 5) r 1 0) r 2 0) r 3 (-4), J))) rfl rfl hs hr rfl rfl rfl ?_
  refine G_st (L := 0) (k := 0) (25, [some (.ref r)], [], ((n, rf), (q_u (q_u (q_u (q_u I r 0 5) r 1 0) r 2 0) r 3 (-4), J))) (Nat.zero_le _) rfl ?_
  exact G_ret rfl rfl rfl rfl
def cWr (rf : Nat → Nat → Option Nat) : Nat → Nat → Nat → Option Nat
  | 0 => rf
  | w + 1 => q_u (q_z (cWr rf w) (w + 16) none) 15 w (some (w + 16))
def cWi (I : Nat → Nat → Int32) : Nat → Nat → Nat → Int32
  | 0 => I
  | w + 1 => c7 (q_z (cWi I w) (w + 16) 0) (w + 16)
def cWj (J : Nat → Nat → Int64) : Nat → Nat → Nat → Int64
  | 0 => J
  | w + 1 => q_z (cWj J w) (w + 16) 0
theorem cWr_14 {rf : Nat → Nat → Option Nat} : ∀ w, cWr rf w 14 0 = rf 14 0
  | 0 => rfl
  | w + 1 => by
    unfold cWr
    rw [q_un _ _ (by omega)]
    unfold q_z
    rw [if_neg (by omega)]
    exact cWr_14 w
theorem c0_loop {d : Nat} {rf : Nat → Nat → Option Nat} {I : Nat → Nat → Int32} {J : Nat → Nat → Int64} (h0 : rf 14 0 = some 15) : ∀ (m w : Nat), w + m = 30 → G (d + 2) 0 (15, [some (.ref 14), some (.int (nI w))], [], ((w + 16, cWr rf w), (cWi I w, cWj J w))) none ((46, cWr rf 30), (cWi I 30, cWj J 30)) := by
  intro m
  induction m with
  | zero =>
    intro w h
    obtain rfl : w = 30 := by omega
    refine G_st (L := 0) (k := 2) (18, [some (.ref 14), some (.int 30)], [.int 30, .int 30], ((46, cWr rf 30), ((cWi I 30), (cWj J 30)))) (Nat.zero_le _) rfl ?_
    refine G_icmp_ge 40 rfl rfl (fun _ => ?_) (fun h9 => absurd h9 (by decide))
    exact G_ret rfl rfl rfl rfl
  | succ m ih =>
    intro w h
    refine G_st (L := 0) (k := 2) (18, [some (.ref 14), some (.int (nI w))], [.int 30, .int (nI w)], ((w + 16, cWr rf w), ((cWi I w), (cWj J w)))) (Nat.zero_le _) rfl ?_
    refine G_icmp_ge 40 rfl rfl (fun h9 => absurd h9 (nI_ge (b := 30) (by omega) (by decide))) (fun _ => ?_)
    refine G_st (L := 0) (k := 1) (22, [some (.ref 14), some (.int (nI w))], [.ref 14], ((w + 16, cWr rf w), ((cWi I w), (cWj J w)))) (Nat.zero_le _) rfl ?_
    refine G_get (ci := 0) (k := 0) (i := 14) rfl rfl rfl (show 14 < w + 16 by omega) ?_
    rw [show q_av (((w + 16, cWr rf w), ((cWi I w), (cWj J w)))) 14 (q_fty 0 0) 0 = .ref 15 from congrArg va_rf ((cWr_14 w).trans h0)]
    refine G_st (L := 0) (k := 1) (26, [some (.ref 14), some (.int (nI w))], [.int (nI w), .ref 15], ((w + 16, cWr rf w), ((cWi I w), (cWj J w)))) (Nat.zero_le _) rfl ?_
    refine G_new (ci := 7) rfl rfl (q_shW (by omega)) (show w + 16 + 1 ≤ 46 by omega) ?_
    refine G_st (L := 0) (k := 1) (30, [some (.ref 14), some (.int (nI w))], [.ref (w + 16), .ref (w + 16), .int (nI w), .ref 15], ((w + 16 + 1, q_z (cWr rf w) (w + 16) none), ((q_z (cWi I w) (w + 16) 0), (q_z (cWj J w) (w + 16) 0)))) (Nat.zero_le _) rfl ?_
    refine G_callN (b := w + 16) (as := []) (rest := [.ref (w + 16), .int (nI w), .ref 15]) rfl rfl rfl (Nat.le_of_ble_eq_true rfl) (c7_ok (q_shW (by omega)) (Nat.lt_succ_self _)) (show w + 16 + 1 ≤ 46 by omega) ?_
    refine G_st (L := 0) (k := 0) (33, [some (.ref 14), some (.int (nI w))], [.ref (w + 16), .int (nI w), .ref 15], ((w + 16 + 1, q_z (cWr rf w) (w + 16) none), ((c7 (q_z (cWi I w) (w + 16) 0) (w + 16)), (q_z (cWj J w) (w + 16) 0)))) (Nat.zero_le _) rfl ?_
    refine G_aast (t := 4) (n := 30) (ci := 7) rfl rfl (by decide) (show 15 < w + 16 + 1 by omega) (vp_in_nI (by omega) (by decide)) (q_shW (by omega)) (Nat.lt_succ_self _) (by decide) rfl ?_
    rw [q_clamp (n := w) (by omega)]
    refine G_st (L := 0) (k := 2) (15, [some (.ref 14), some (.int ((nI w) + 1))], [], ((w + 16 + 1, q_u (q_z (cWr rf w) (w + 16) none) 15 w (some (w + 16))), ((c7 (q_z (cWi I w) (w + 16) 0) (w + 16)), (q_z (cWj J w) (w + 16) 0)))) (Nat.zero_le _) rfl ?_
    rw [show (nI w) + 1 = nI (w + 1) from (q_addP rfl rfl)]
    exact ih (w + 1) (by omega)
def c0r (rf : Nat → Nat → Option Nat) : Nat → Nat → Option Nat := cWr (q_u (q_z rf 15 none) 14 0 (some 15)) 30
def c0i (I : Nat → Nat → Int32) : Nat → Nat → Int32 := cWi (q_z I 15 0) 30
def c0j (J : Nat → Nat → Int64) : Nat → Nat → Int64 := cWj (q_z J 15 0) 30
theorem c0 {d : Nat} {rf : Nat → Nat → Option Nat} {I : Nat → Nat → Int32} {J : Nat → Nat → Int64} : GM (d + 2) 0 [.ref 14] ((15, rf), (I, J)) none ((46, c0r rf), (c0i I, c0j J)) := by
  refine GM_of (by decide) (Nat.le_of_ble_eq_true rfl) (Nat.le_of_ble_eq_true rfl) trivial ?_
  refine G_st (L := 15) (k := 1) (1, [some (.ref 14), none], [.ref 14], ((15, rf), (I, J))) (Nat.le_refl _) rfl ?_
  refine G_oinit rfl (by decide) (by omega) (Nat.le_of_ble_eq_true rfl) ?_
  refine G_st (L := 15) (k := 2) (7, [some (.ref 14), none], [.int 30, .ref 14], ((15, rf), (I, J))) (Nat.le_refl _) rfl ?_
  refine G_anew (ci := 7) (t := 4) (len := 30) rfl rfl rfl (by decide) rfl (by decide) rfl (by decide) (Nat.le_of_ble_eq_true rfl) ?_
  refine G_st (L := 16) (k := 3) (15, [some (.ref 14), some (.int 0)], [], ((16, q_u (q_z rf 15 none) 14 0 (some 15)), ((q_z I 15 0), (q_z J 15 0)))) (Nat.le_refl _) rfl ?_
  exact c0_loop (d := d) (rf := q_u (q_z rf 15 none) 14 0 (some 15)) (I := (q_z I 15 0)) (J := (q_z J 15 0)) rfl 30 0 rfl
def c8r (rf : Nat → Nat → Option Nat) : Nat → Nat → Option Nat := q_u (c5_3r (q_z (q_u (c5_2r (q_z (q_u (c5_1r (q_z (q_u (c5_0r (q_z (q_u (q_z (q_u (c4r (q_z (q_u (q_z (q_u (c0r (q_z (q_u (c2_9r (q_z (q_u (c2_4r (q_z (q_u (c3r (q_z rf 1 none)) 0 0 (some 1)) 4 none)) 0 1 (some 4)) 9 none)) 0 2 (some 9)) 14 none)) 0 4 (some 14)) 46 none) 0 5 (some 46)) 47 none)) 0 10 (some 47)) 53 none) 0 14 (some 53)) 54 none)) 53 0 (some 54)) 56 none)) 53 1 (some 56)) 58 none)) 53 2 (some 58)) 60 none)) 53 3 (some 60)
def c8i (I : Nat → Nat → Int32) : Nat → Nat → Int32 := (c5_3i (q_z (c5_2i (q_z (c5_1i (q_z (c5_0i (q_z (q_z (q_u (q_u (q_u (c4i (q_z (q_u (q_u (q_u (q_u (q_z (c0i (q_z (q_u (c2_9i (q_z (c2_4i (q_z (c3i (q_z I 1 0)) 4 0)) 9 0)) 0 3 0) 14 0)) 46 0) 0 6 0) 0 7 0) 0 8 0) 0 9 0) 47 0)) 0 11 0) 0 12 0) 0 13 0) 53 0) 54 0)) 56 0)) 58 0)) 60 0))
def c8j (J : Nat → Nat → Int64) : Nat → Nat → Int64 := (c5_3j (q_z (c5_2j (q_z (c5_1j (q_z (c5_0j (q_z (q_z (c4j (q_z (q_z (c0j (q_z (c2_9j (q_z (c2_4j (q_z (c3j (q_z J 1 0)) 4 0)) 9 0)) 14 0)) 46 0) 47 0)) 53 0) 54 0)) 56 0)) 58 0)) 60 0))
theorem c8 {d : Nat} {rf : Nat → Nat → Option Nat} {I : Nat → Nat → Int32} {J : Nat → Nat → Int64} : GM (d + 3) 67 [.ref 0] ((1, rf), (I, J)) none ((62, c8r rf), (c8i I, c8j J)) := by
  refine GM_of (by decide) (Nat.le_of_ble_eq_true rfl) (Nat.le_of_ble_eq_true rfl) trivial ?_
  refine G_st (L := 1) (k := 1) (1, [some (.ref 0), none], [.ref 0], ((1, rf), (I, J))) (Nat.le_refl _) rfl ?_
  refine G_oinit rfl (by decide) (by omega) (Nat.le_of_ble_eq_true rfl) ?_
  refine G_st (L := 1) (k := 1) (5, [some (.ref 0), none], [.ref 0], ((1, rf), (I, J))) (Nat.le_refl _) rfl ?_
  refine G_new (ci := 3) rfl rfl rfl (Nat.le_of_ble_eq_true rfl) ?_
  refine G_st (L := 2) (k := 1) (9, [some (.ref 0), none], [.ref 1, .ref 1, .ref 0], ((2, q_z rf 1 none), ((q_z I 1 0), (q_z J 1 0)))) (Nat.le_refl _) rfl ?_
  refine G_callN (b := 1) (as := []) (rest := [.ref 1, .ref 0]) rfl rfl rfl (Nat.le_of_ble_eq_true rfl) c3 (Nat.le_of_ble_eq_true rfl) ?_
  refine G_st (L := 4) (k := 2) (16, [some (.ref 0), none], [.ref 0], ((4, q_u (c3r (q_z rf 1 none)) 0 0 (some 1)), ((c3i (q_z I 1 0)), (c3j (q_z J 1 0))))) (Nat.le_refl _) rfl ?_
  refine G_new (ci := 2) rfl rfl rfl (Nat.le_of_ble_eq_true rfl) ?_
  refine G_st (L := 5) (k := 1) (20, [some (.ref 0), none], [.ref 4, .ref 4, .ref 0], ((5, q_z (q_u (c3r (q_z rf 1 none)) 0 0 (some 1)) 4 none), ((q_z (c3i (q_z I 1 0)) 4 0), (q_z (c3j (q_z J 1 0)) 4 0)))) (Nat.le_refl _) rfl ?_
  refine G_callI (b := 4) (as := []) (rest := [.ref 4, .ref 0]) rfl rfl rfl (Nat.le_of_ble_eq_true rfl) c2_4 (Nat.le_of_ble_eq_true rfl) ?_
  refine G_st (L := 9) (k := 2) (27, [some (.ref 0), none], [.ref 0], ((9, q_u (c2_4r (q_z (q_u (c3r (q_z rf 1 none)) 0 0 (some 1)) 4 none)) 0 1 (some 4)), ((c2_4i (q_z (c3i (q_z I 1 0)) 4 0)), (c2_4j (q_z (c3j (q_z J 1 0)) 4 0))))) (Nat.le_refl _) rfl ?_
  refine G_new (ci := 2) rfl rfl rfl (Nat.le_of_ble_eq_true rfl) ?_
  refine G_st (L := 10) (k := 1) (31, [some (.ref 0), none], [.ref 9, .ref 9, .ref 0], ((10, q_z (q_u (c2_4r (q_z (q_u (c3r (q_z rf 1 none)) 0 0 (some 1)) 4 none)) 0 1 (some 4)) 9 none), ((q_z (c2_4i (q_z (c3i (q_z I 1 0)) 4 0)) 9 0), (q_z (c2_4j (q_z (c3j (q_z J 1 0)) 4 0)) 9 0)))) (Nat.le_refl _) rfl ?_
  refine G_callI (b := 9) (as := []) (rest := [.ref 9, .ref 0]) rfl rfl rfl (Nat.le_of_ble_eq_true rfl) c2_9 (Nat.le_of_ble_eq_true rfl) ?_
  refine G_st (L := 14) (k := 5) (43, [some (.ref 0), none], [.ref 0], ((14, q_u (c2_9r (q_z (q_u (c2_4r (q_z (q_u (c3r (q_z rf 1 none)) 0 0 (some 1)) 4 none)) 0 1 (some 4)) 9 none)) 0 2 (some 9)), (q_u (c2_9i (q_z (c2_4i (q_z (c3i (q_z I 1 0)) 4 0)) 9 0)) 0 3 0, (c2_9j (q_z (c2_4j (q_z (c3j (q_z J 1 0)) 4 0)) 9 0))))) (Nat.le_refl _) rfl ?_
  refine G_new (ci := 0) rfl rfl rfl (Nat.le_of_ble_eq_true rfl) ?_
  refine G_st (L := 15) (k := 1) (47, [some (.ref 0), none], [.ref 14, .ref 14, .ref 0], ((15, q_z (q_u (c2_9r (q_z (q_u (c2_4r (q_z (q_u (c3r (q_z rf 1 none)) 0 0 (some 1)) 4 none)) 0 1 (some 4)) 9 none)) 0 2 (some 9)) 14 none), ((q_z (q_u (c2_9i (q_z (c2_4i (q_z (c3i (q_z I 1 0)) 4 0)) 9 0)) 0 3 0) 14 0), (q_z (c2_9j (q_z (c2_4j (q_z (c3j (q_z J 1 0)) 4 0)) 9 0)) 14 0)))) (Nat.le_refl _) rfl ?_
  refine G_callI (b := 14) (as := []) (rest := [.ref 14, .ref 0]) rfl rfl rfl (Nat.le_of_ble_eq_true rfl) c0 (Nat.le_of_ble_eq_true rfl) ?_
  refine G_st (L := 46) (k := 3) (56, [some (.ref 0), none], [.int 8, .ref 0], ((46, q_u (c0r (q_z (q_u (c2_9r (q_z (q_u (c2_4r (q_z (q_u (c3r (q_z rf 1 none)) 0 0 (some 1)) 4 none)) 0 1 (some 4)) 9 none)) 0 2 (some 9)) 14 none)) 0 4 (some 14)), ((c0i (q_z (q_u (c2_9i (q_z (c2_4i (q_z (c3i (q_z I 1 0)) 4 0)) 9 0)) 0 3 0) 14 0)), (c0j (q_z (c2_9j (q_z (c2_4j (q_z (c3j (q_z J 1 0)) 4 0)) 9 0)) 14 0))))) (Nat.le_refl _) rfl ?_
  refine G_anew (ci := 1) (t := 5) (len := 8) rfl rfl rfl (by decide) rfl (by decide) rfl (by decide) (Nat.le_of_ble_eq_true rfl) ?_
  refine G_st (L := 47) (k := 14) (83, [some (.ref 0), none], [.ref 0], ((47, q_u (q_z (q_u (c0r (q_z (q_u (c2_9r (q_z (q_u (c2_4r (q_z (q_u (c3r (q_z rf 1 none)) 0 0 (some 1)) 4 none)) 0 1 (some 4)) 9 none)) 0 2 (some 9)) 14 none)) 0 4 (some 14)) 46 none) 0 5 (some 46)), (q_u (q_u (q_u (q_u (q_z (c0i (q_z (q_u (c2_9i (q_z (c2_4i (q_z (c3i (q_z I 1 0)) 4 0)) 9 0)) 0 3 0) 14 0)) 46 0) 0 6 0) 0 7 0) 0 8 0) 0 9 0, (q_z (c0j (q_z (c2_9j (q_z (c2_4j (q_z (c3j (q_z J 1 0)) 4 0)) 9 0)) 14 0)) 46 0)))) (Nat.le_refl _) rfl ?_
  refine G_new (ci := 4) rfl rfl rfl (Nat.le_of_ble_eq_true rfl) ?_
  refine G_st (L := 48) (k := 1) (87, [some (.ref 0), none], [.ref 47, .ref 47, .ref 0], ((48, q_z (q_u (q_z (q_u (c0r (q_z (q_u (c2_9r (q_z (q_u (c2_4r (q_z (q_u (c3r (q_z rf 1 none)) 0 0 (some 1)) 4 none)) 0 1 (some 4)) 9 none)) 0 2 (some 9)) 14 none)) 0 4 (some 14)) 46 none) 0 5 (some 46)) 47 none), ((q_z (q_u (q_u (q_u (q_u (q_z (c0i (q_z (q_u (c2_9i (q_z (c2_4i (q_z (c3i (q_z I 1 0)) 4 0)) 9 0)) 0 3 0) 14 0)) 46 0) 0 6 0) 0 7 0) 0 8 0) 0 9 0) 47 0), (q_z (q_z (c0j (q_z (c2_9j (q_z (c2_4j (q_z (c3j (q_z J 1 0)) 4 0)) 9 0)) 14 0)) 46 0) 47 0)))) (Nat.le_refl _) rfl ?_
  refine G_callN (b := 47) (as := []) (rest := [.ref 47, .ref 0]) rfl rfl rfl (Nat.le_of_ble_eq_true rfl) c4 (Nat.le_of_ble_eq_true rfl) ?_
  refine G_st (L := 53) (k := 12) (110, [some (.ref 0), none], [.int 4, .ref 0], ((53, q_u (c4r (q_z (q_u (q_z (q_u (c0r (q_z (q_u (c2_9r (q_z (q_u (c2_4r (q_z (q_u (c3r (q_z rf 1 none)) 0 0 (some 1)) 4 none)) 0 1 (some 4)) 9 none)) 0 2 (some 9)) 14 none)) 0 4 (some 14)) 46 none) 0 5 (some 46)) 47 none)) 0 10 (some 47)), (q_u (q_u (q_u (c4i (q_z (q_u (q_u (q_u (q_u (q_z (c0i (q_z (q_u (c2_9i (q_z (c2_4i (q_z (c3i (q_z I 1 0)) 4 0)) 9 0)) 0 3 0) 14 0)) 46 0) 0 6 0) 0 7 0) 0 8 0) 0 9 0) 47 0)) 0 11 0) 0 12 0) 0 13 0, (c4j (q_z (q_z (c0j (q_z (c2_9j (q_z (c2_4j (q_z (c3j (q_z J 1 0)) 4 0)) 9 0)) 14 0)) 46 0) 47 0))))) (Nat.le_refl _) rfl ?_
  refine G_anew (ci := 5) (t := 6) (len := 4) rfl rfl rfl (by decide) rfl (by decide) rfl (by decide) (Nat.le_of_ble_eq_true rfl) ?_
  refine G_st (L := 54) (k := 5) (120, [some (.ref 0), some (.int 0)], [.int 4, .int 0], ((54, q_u (q_z (q_u (c4r (q_z (q_u (q_z (q_u (c0r (q_z (q_u (c2_9r (q_z (q_u (c2_4r (q_z (q_u (c3r (q_z rf 1 none)) 0 0 (some 1)) 4 none)) 0 1 (some 4)) 9 none)) 0 2 (some 9)) 14 none)) 0 4 (some 14)) 46 none) 0 5 (some 46)) 47 none)) 0 10 (some 47)) 53 none) 0 14 (some 53)), ((q_z (q_u (q_u (q_u (c4i (q_z (q_u (q_u (q_u (q_u (q_z (c0i (q_z (q_u (c2_9i (q_z (c2_4i (q_z (c3i (q_z I 1 0)) 4 0)) 9 0)) 0 3 0) 14 0)) 46 0) 0 6 0) 0 7 0) 0 8 0) 0 9 0) 47 0)) 0 11 0) 0 12 0) 0 13 0) 53 0), (q_z (c4j (q_z (q_z (c0j (q_z (c2_9j (q_z (c2_4j (q_z (c3j (q_z J 1 0)) 4 0)) 9 0)) 14 0)) 46 0) 47 0)) 53 0)))) (Nat.le_refl _) rfl ?_
  refine G_icmp_ge 142 rfl rfl (fun h9 => absurd h9 (by decide)) (fun _ => ?_)
  refine G_st (L := 54) (k := 3) (128, [some (.ref 0), some (.int 0)], [.int 0, .ref 53], ((54, q_u (q_z (q_u (c4r (q_z (q_u (q_z (q_u (c0r (q_z (q_u (c2_9r (q_z (q_u (c2_4r (q_z (q_u (c3r (q_z rf 1 none)) 0 0 (some 1)) 4 none)) 0 1 (some 4)) 9 none)) 0 2 (some 9)) 14 none)) 0 4 (some 14)) 46 none) 0 5 (some 46)) 47 none)) 0 10 (some 47)) 53 none) 0 14 (some 53)), ((q_z (q_u (q_u (q_u (c4i (q_z (q_u (q_u (q_u (q_u (q_z (c0i (q_z (q_u (c2_9i (q_z (c2_4i (q_z (c3i (q_z I 1 0)) 4 0)) 9 0)) 0 3 0) 14 0)) 46 0) 0 6 0) 0 7 0) 0 8 0) 0 9 0) 47 0)) 0 11 0) 0 12 0) 0 13 0) 53 0), (q_z (c4j (q_z (q_z (c0j (q_z (c2_9j (q_z (c2_4j (q_z (c3j (q_z J 1 0)) 4 0)) 9 0)) 14 0)) 46 0) 47 0)) 53 0)))) (Nat.le_refl _) rfl ?_
  refine G_new (ci := 5) rfl rfl rfl (Nat.le_of_ble_eq_true rfl) ?_
  refine G_st (L := 55) (k := 1) (132, [some (.ref 0), some (.int 0)], [.ref 54, .ref 54, .int 0, .ref 53], ((55, q_z (q_u (q_z (q_u (c4r (q_z (q_u (q_z (q_u (c0r (q_z (q_u (c2_9r (q_z (q_u (c2_4r (q_z (q_u (c3r (q_z rf 1 none)) 0 0 (some 1)) 4 none)) 0 1 (some 4)) 9 none)) 0 2 (some 9)) 14 none)) 0 4 (some 14)) 46 none) 0 5 (some 46)) 47 none)) 0 10 (some 47)) 53 none) 0 14 (some 53)) 54 none), ((q_z (q_z (q_u (q_u (q_u (c4i (q_z (q_u (q_u (q_u (q_u (q_z (c0i (q_z (q_u (c2_9i (q_z (c2_4i (q_z (c3i (q_z I 1 0)) 4 0)) 9 0)) 0 3 0) 14 0)) 46 0) 0 6 0) 0 7 0) 0 8 0) 0 9 0) 47 0)) 0 11 0) 0 12 0) 0 13 0) 53 0) 54 0), (q_z (q_z (c4j (q_z (q_z (c0j (q_z (c2_9j (q_z (c2_4j (q_z (c3j (q_z J 1 0)) 4 0)) 9 0)) 14 0)) 46 0) 47 0)) 53 0) 54 0)))) (Nat.le_refl _) rfl ?_
  refine G_callN (b := 54) (as := []) (rest := [.ref 54, .int 0, .ref 53]) rfl rfl rfl (Nat.le_of_ble_eq_true rfl) c5_0 (Nat.le_of_ble_eq_true rfl) ?_
  refine G_st (L := 56) (k := 0) (135, [some (.ref 0), some (.int 0)], [.ref 54, .int 0, .ref 53], ((56, c5_0r (q_z (q_u (q_z (q_u (c4r (q_z (q_u (q_z (q_u (c0r (q_z (q_u (c2_9r (q_z (q_u (c2_4r (q_z (q_u (c3r (q_z rf 1 none)) 0 0 (some 1)) 4 none)) 0 1 (some 4)) 9 none)) 0 2 (some 9)) 14 none)) 0 4 (some 14)) 46 none) 0 5 (some 46)) 47 none)) 0 10 (some 47)) 53 none) 0 14 (some 53)) 54 none)), ((c5_0i (q_z (q_z (q_u (q_u (q_u (c4i (q_z (q_u (q_u (q_u (q_u (q_z (c0i (q_z (q_u (c2_9i (q_z (c2_4i (q_z (c3i (q_z I 1 0)) 4 0)) 9 0)) 0 3 0) 14 0)) 46 0) 0 6 0) 0 7 0) 0 8 0) 0 9 0) 47 0)) 0 11 0) 0 12 0) 0 13 0) 53 0) 54 0)), (c5_0j (q_z (q_z (c4j (q_z (q_z (c0j (q_z (c2_9j (q_z (c2_4j (q_z (c3j (q_z J 1 0)) 4 0)) 9 0)) 14 0)) 46 0) 47 0)) 53 0) 54 0))))) (Nat.le_refl _) rfl ?_
  refine G_aast (t := 6) (n := 4) (ci := 5) rfl rfl (by decide) (Nat.le_of_ble_eq_true rfl) (by unfold vp_in; decide) rfl (Nat.le_of_ble_eq_true rfl) (by decide) rfl ?_
  refine G_st (L := 56) (k := 4) (120, [some (.ref 0), some (.int 1)], [.int 4, .int 1], ((56, q_u (c5_0r (q_z (q_u (q_z (q_u (c4r (q_z (q_u (q_z (q_u (c0r (q_z (q_u (c2_9r (q_z (q_u (c2_4r (q_z (q_u (c3r (q_z rf 1 none)) 0 0 (some 1)) 4 none)) 0 1 (some 4)) 9 none)) 0 2 (some 9)) 14 none)) 0 4 (some 14)) 46 none) 0 5 (some 46)) 47 none)) 0 10 (some 47)) 53 none) 0 14 (some 53)) 54 none)) 53 0 (some 54)), ((c5_0i (q_z (q_z (q_u (q_u (q_u (c4i (q_z (q_u (q_u (q_u (q_u (q_z (c0i (q_z (q_u (c2_9i (q_z (c2_4i (q_z (c3i (q_z I 1 0)) 4 0)) 9 0)) 0 3 0) 14 0)) 46 0) 0 6 0) 0 7 0) 0 8 0) 0 9 0) 47 0)) 0 11 0) 0 12 0) 0 13 0) 53 0) 54 0)), (c5_0j (q_z (q_z (c4j (q_z (q_z (c0j (q_z (c2_9j (q_z (c2_4j (q_z (c3j (q_z J 1 0)) 4 0)) 9 0)) 14 0)) 46 0) 47 0)) 53 0) 54 0))))) (Nat.le_refl _) rfl ?_
  refine G_icmp_ge 142 rfl rfl (fun h9 => absurd h9 (by decide)) (fun _ => ?_)
  refine G_st (L := 56) (k := 3) (128, [some (.ref 0), some (.int 1)], [.int 1, .ref 53], ((56, q_u (c5_0r (q_z (q_u (q_z (q_u (c4r (q_z (q_u (q_z (q_u (c0r (q_z (q_u (c2_9r (q_z (q_u (c2_4r (q_z (q_u (c3r (q_z rf 1 none)) 0 0 (some 1)) 4 none)) 0 1 (some 4)) 9 none)) 0 2 (some 9)) 14 none)) 0 4 (some 14)) 46 none) 0 5 (some 46)) 47 none)) 0 10 (some 47)) 53 none) 0 14 (some 53)) 54 none)) 53 0 (some 54)), ((c5_0i (q_z (q_z (q_u (q_u (q_u (c4i (q_z (q_u (q_u (q_u (q_u (q_z (c0i (q_z (q_u (c2_9i (q_z (c2_4i (q_z (c3i (q_z I 1 0)) 4 0)) 9 0)) 0 3 0) 14 0)) 46 0) 0 6 0) 0 7 0) 0 8 0) 0 9 0) 47 0)) 0 11 0) 0 12 0) 0 13 0) 53 0) 54 0)), (c5_0j (q_z (q_z (c4j (q_z (q_z (c0j (q_z (c2_9j (q_z (c2_4j (q_z (c3j (q_z J 1 0)) 4 0)) 9 0)) 14 0)) 46 0) 47 0)) 53 0) 54 0))))) (Nat.le_refl _) rfl ?_
  refine G_new (ci := 5) rfl rfl rfl (Nat.le_of_ble_eq_true rfl) ?_
  refine G_st (L := 57) (k := 1) (132, [some (.ref 0), some (.int 1)], [.ref 56, .ref 56, .int 1, .ref 53], ((57, q_z (q_u (c5_0r (q_z (q_u (q_z (q_u (c4r (q_z (q_u (q_z (q_u (c0r (q_z (q_u (c2_9r (q_z (q_u (c2_4r (q_z (q_u (c3r (q_z rf 1 none)) 0 0 (some 1)) 4 none)) 0 1 (some 4)) 9 none)) 0 2 (some 9)) 14 none)) 0 4 (some 14)) 46 none) 0 5 (some 46)) 47 none)) 0 10 (some 47)) 53 none) 0 14 (some 53)) 54 none)) 53 0 (some 54)) 56 none), ((q_z (c5_0i (q_z (q_z (q_u (q_u (q_u (c4i (q_z (q_u (q_u (q_u (q_u (q_z (c0i (q_z (q_u (c2_9i (q_z (c2_4i (q_z (c3i (q_z I 1 0)) 4 0)) 9 0)) 0 3 0) 14 0)) 46 0) 0 6 0) 0 7 0) 0 8 0) 0 9 0) 47 0)) 0 11 0) 0 12 0) 0 13 0) 53 0) 54 0)) 56 0), (q_z (c5_0j (q_z (q_z (c4j (q_z (q_z (c0j (q_z (c2_9j (q_z (c2_4j (q_z (c3j (q_z J 1 0)) 4 0)) 9 0)) 14 0)) 46 0) 47 0)) 53 0) 54 0)) 56 0)))) (Nat.le_refl _) rfl ?_
  refine G_callN (b := 56) (as := []) (rest := [.ref 56, .int 1, .ref 53]) rfl rfl rfl (Nat.le_of_ble_eq_true rfl) c5_1 (Nat.le_of_ble_eq_true rfl) ?_
  refine G_st (L := 58) (k := 0) (135, [some (.ref 0), some (.int 1)], [.ref 56, .int 1, .ref 53], ((58, c5_1r (q_z (q_u (c5_0r (q_z (q_u (q_z (q_u (c4r (q_z (q_u (q_z (q_u (c0r (q_z (q_u (c2_9r (q_z (q_u (c2_4r (q_z (q_u (c3r (q_z rf 1 none)) 0 0 (some 1)) 4 none)) 0 1 (some 4)) 9 none)) 0 2 (some 9)) 14 none)) 0 4 (some 14)) 46 none) 0 5 (some 46)) 47 none)) 0 10 (some 47)) 53 none) 0 14 (some 53)) 54 none)) 53 0 (some 54)) 56 none)), ((c5_1i (q_z (c5_0i (q_z (q_z (q_u (q_u (q_u (c4i (q_z (q_u (q_u (q_u (q_u (q_z (c0i (q_z (q_u (c2_9i (q_z (c2_4i (q_z (c3i (q_z I 1 0)) 4 0)) 9 0)) 0 3 0) 14 0)) 46 0) 0 6 0) 0 7 0) 0 8 0) 0 9 0) 47 0)) 0 11 0) 0 12 0) 0 13 0) 53 0) 54 0)) 56 0)), (c5_1j (q_z (c5_0j (q_z (q_z (c4j (q_z (q_z (c0j (q_z (c2_9j (q_z (c2_4j (q_z (c3j (q_z J 1 0)) 4 0)) 9 0)) 14 0)) 46 0) 47 0)) 53 0) 54 0)) 56 0))))) (Nat.le_refl _) rfl ?_
  refine G_aast (t := 6) (n := 4) (ci := 5) rfl rfl (by decide) (Nat.le_of_ble_eq_true rfl) (by unfold vp_in; decide) rfl (Nat.le_of_ble_eq_true rfl) (by decide) rfl ?_
  refine G_st (L := 58) (k := 4) (120, [some (.ref 0), some (.int 2)], [.int 4, .int 2], ((58, q_u (c5_1r (q_z (q_u (c5_0r (q_z (q_u (q_z (q_u (c4r (q_z (q_u (q_z (q_u (c0r (q_z (q_u (c2_9r (q_z (q_u (c2_4r (q_z (q_u (c3r (q_z rf 1 none)) 0 0 (some 1)) 4 none)) 0 1 (some 4)) 9 none)) 0 2 (some 9)) 14 none)) 0 4 (some 14)) 46 none) 0 5 (some 46)) 47 none)) 0 10 (some 47)) 53 none) 0 14 (some 53)) 54 none)) 53 0 (some 54)) 56 none)) 53 1 (some 56)), ((c5_1i (q_z (c5_0i (q_z (q_z (q_u (q_u (q_u (c4i (q_z (q_u (q_u (q_u (q_u (q_z (c0i (q_z (q_u (c2_9i (q_z (c2_4i (q_z (c3i (q_z I 1 0)) 4 0)) 9 0)) 0 3 0) 14 0)) 46 0) 0 6 0) 0 7 0) 0 8 0) 0 9 0) 47 0)) 0 11 0) 0 12 0) 0 13 0) 53 0) 54 0)) 56 0)), (c5_1j (q_z (c5_0j (q_z (q_z (c4j (q_z (q_z (c0j (q_z (c2_9j (q_z (c2_4j (q_z (c3j (q_z J 1 0)) 4 0)) 9 0)) 14 0)) 46 0) 47 0)) 53 0) 54 0)) 56 0))))) (Nat.le_refl _) rfl ?_
  refine G_icmp_ge 142 rfl rfl (fun h9 => absurd h9 (by decide)) (fun _ => ?_)
  refine G_st (L := 58) (k := 3) (128, [some (.ref 0), some (.int 2)], [.int 2, .ref 53], ((58, q_u (c5_1r (q_z (q_u (c5_0r (q_z (q_u (q_z (q_u (c4r (q_z (q_u (q_z (q_u (c0r (q_z (q_u (c2_9r (q_z (q_u (c2_4r (q_z (q_u (c3r (q_z rf 1 none)) 0 0 (some 1)) 4 none)) 0 1 (some 4)) 9 none)) 0 2 (some 9)) 14 none)) 0 4 (some 14)) 46 none) 0 5 (some 46)) 47 none)) 0 10 (some 47)) 53 none) 0 14 (some 53)) 54 none)) 53 0 (some 54)) 56 none)) 53 1 (some 56)), ((c5_1i (q_z (c5_0i (q_z (q_z (q_u (q_u (q_u (c4i (q_z (q_u (q_u (q_u (q_u (q_z (c0i (q_z (q_u (c2_9i (q_z (c2_4i (q_z (c3i (q_z I 1 0)) 4 0)) 9 0)) 0 3 0) 14 0)) 46 0) 0 6 0) 0 7 0) 0 8 0) 0 9 0) 47 0)) 0 11 0) 0 12 0) 0 13 0) 53 0) 54 0)) 56 0)), (c5_1j (q_z (c5_0j (q_z (q_z (c4j (q_z (q_z (c0j (q_z (c2_9j (q_z (c2_4j (q_z (c3j (q_z J 1 0)) 4 0)) 9 0)) 14 0)) 46 0) 47 0)) 53 0) 54 0)) 56 0))))) (Nat.le_refl _) rfl ?_
  refine G_new (ci := 5) rfl rfl rfl (Nat.le_of_ble_eq_true rfl) ?_
  refine G_st (L := 59) (k := 1) (132, [some (.ref 0), some (.int 2)], [.ref 58, .ref 58, .int 2, .ref 53], ((59, q_z (q_u (c5_1r (q_z (q_u (c5_0r (q_z (q_u (q_z (q_u (c4r (q_z (q_u (q_z (q_u (c0r (q_z (q_u (c2_9r (q_z (q_u (c2_4r (q_z (q_u (c3r (q_z rf 1 none)) 0 0 (some 1)) 4 none)) 0 1 (some 4)) 9 none)) 0 2 (some 9)) 14 none)) 0 4 (some 14)) 46 none) 0 5 (some 46)) 47 none)) 0 10 (some 47)) 53 none) 0 14 (some 53)) 54 none)) 53 0 (some 54)) 56 none)) 53 1 (some 56)) 58 none), ((q_z (c5_1i (q_z (c5_0i (q_z (q_z (q_u (q_u (q_u (c4i (q_z (q_u (q_u (q_u (q_u (q_z (c0i (q_z (q_u (c2_9i (q_z (c2_4i (q_z (c3i (q_z I 1 0)) 4 0)) 9 0)) 0 3 0) 14 0)) 46 0) 0 6 0) 0 7 0) 0 8 0) 0 9 0) 47 0)) 0 11 0) 0 12 0) 0 13 0) 53 0) 54 0)) 56 0)) 58 0), (q_z (c5_1j (q_z (c5_0j (q_z (q_z (c4j (q_z (q_z (c0j (q_z (c2_9j (q_z (c2_4j (q_z (c3j (q_z J 1 0)) 4 0)) 9 0)) 14 0)) 46 0) 47 0)) 53 0) 54 0)) 56 0)) 58 0)))) (Nat.le_refl _) rfl ?_
  refine G_callN (b := 58) (as := []) (rest := [.ref 58, .int 2, .ref 53]) rfl rfl rfl (Nat.le_of_ble_eq_true rfl) c5_2 (Nat.le_of_ble_eq_true rfl) ?_
  refine G_st (L := 60) (k := 0) (135, [some (.ref 0), some (.int 2)], [.ref 58, .int 2, .ref 53], ((60, c5_2r (q_z (q_u (c5_1r (q_z (q_u (c5_0r (q_z (q_u (q_z (q_u (c4r (q_z (q_u (q_z (q_u (c0r (q_z (q_u (c2_9r (q_z (q_u (c2_4r (q_z (q_u (c3r (q_z rf 1 none)) 0 0 (some 1)) 4 none)) 0 1 (some 4)) 9 none)) 0 2 (some 9)) 14 none)) 0 4 (some 14)) 46 none) 0 5 (some 46)) 47 none)) 0 10 (some 47)) 53 none) 0 14 (some 53)) 54 none)) 53 0 (some 54)) 56 none)) 53 1 (some 56)) 58 none)), ((c5_2i (q_z (c5_1i (q_z (c5_0i (q_z (q_z (q_u (q_u (q_u (c4i (q_z (q_u (q_u (q_u (q_u (q_z (c0i (q_z (q_u (c2_9i (q_z (c2_4i (q_z (c3i (q_z I 1 0)) 4 0)) 9 0)) 0 3 0) 14 0)) 46 0) 0 6 0) 0 7 0) 0 8 0) 0 9 0) 47 0)) 0 11 0) 0 12 0) 0 13 0) 53 0) 54 0)) 56 0)) 58 0)), (c5_2j (q_z (c5_1j (q_z (c5_0j (q_z (q_z (c4j (q_z (q_z (c0j (q_z (c2_9j (q_z (c2_4j (q_z (c3j (q_z J 1 0)) 4 0)) 9 0)) 14 0)) 46 0) 47 0)) 53 0) 54 0)) 56 0)) 58 0))))) (Nat.le_refl _) rfl ?_
  refine G_aast (t := 6) (n := 4) (ci := 5) rfl rfl (by decide) (Nat.le_of_ble_eq_true rfl) (by unfold vp_in; decide) rfl (Nat.le_of_ble_eq_true rfl) (by decide) rfl ?_
  refine G_st (L := 60) (k := 4) (120, [some (.ref 0), some (.int 3)], [.int 4, .int 3], ((60, q_u (c5_2r (q_z (q_u (c5_1r (q_z (q_u (c5_0r (q_z (q_u (q_z (q_u (c4r (q_z (q_u (q_z (q_u (c0r (q_z (q_u (c2_9r (q_z (q_u (c2_4r (q_z (q_u (c3r (q_z rf 1 none)) 0 0 (some 1)) 4 none)) 0 1 (some 4)) 9 none)) 0 2 (some 9)) 14 none)) 0 4 (some 14)) 46 none) 0 5 (some 46)) 47 none)) 0 10 (some 47)) 53 none) 0 14 (some 53)) 54 none)) 53 0 (some 54)) 56 none)) 53 1 (some 56)) 58 none)) 53 2 (some 58)), ((c5_2i (q_z (c5_1i (q_z (c5_0i (q_z (q_z (q_u (q_u (q_u (c4i (q_z (q_u (q_u (q_u (q_u (q_z (c0i (q_z (q_u (c2_9i (q_z (c2_4i (q_z (c3i (q_z I 1 0)) 4 0)) 9 0)) 0 3 0) 14 0)) 46 0) 0 6 0) 0 7 0) 0 8 0) 0 9 0) 47 0)) 0 11 0) 0 12 0) 0 13 0) 53 0) 54 0)) 56 0)) 58 0)), (c5_2j (q_z (c5_1j (q_z (c5_0j (q_z (q_z (c4j (q_z (q_z (c0j (q_z (c2_9j (q_z (c2_4j (q_z (c3j (q_z J 1 0)) 4 0)) 9 0)) 14 0)) 46 0) 47 0)) 53 0) 54 0)) 56 0)) 58 0))))) (Nat.le_refl _) rfl ?_
  refine G_icmp_ge 142 rfl rfl (fun h9 => absurd h9 (by decide)) (fun _ => ?_)
  refine G_st (L := 60) (k := 3) (128, [some (.ref 0), some (.int 3)], [.int 3, .ref 53], ((60, q_u (c5_2r (q_z (q_u (c5_1r (q_z (q_u (c5_0r (q_z (q_u (q_z (q_u (c4r (q_z (q_u (q_z (q_u (c0r (q_z (q_u (c2_9r (q_z (q_u (c2_4r (q_z (q_u (c3r (q_z rf 1 none)) 0 0 (some 1)) 4 none)) 0 1 (some 4)) 9 none)) 0 2 (some 9)) 14 none)) 0 4 (some 14)) 46 none) 0 5 (some 46)) 47 none)) 0 10 (some 47)) 53 none) 0 14 (some 53)) 54 none)) 53 0 (some 54)) 56 none)) 53 1 (some 56)) 58 none)) 53 2 (some 58)), ((c5_2i (q_z (c5_1i (q_z (c5_0i (q_z (q_z (q_u (q_u (q_u (c4i (q_z (q_u (q_u (q_u (q_u (q_z (c0i (q_z (q_u (c2_9i (q_z (c2_4i (q_z (c3i (q_z I 1 0)) 4 0)) 9 0)) 0 3 0) 14 0)) 46 0) 0 6 0) 0 7 0) 0 8 0) 0 9 0) 47 0)) 0 11 0) 0 12 0) 0 13 0) 53 0) 54 0)) 56 0)) 58 0)), (c5_2j (q_z (c5_1j (q_z (c5_0j (q_z (q_z (c4j (q_z (q_z (c0j (q_z (c2_9j (q_z (c2_4j (q_z (c3j (q_z J 1 0)) 4 0)) 9 0)) 14 0)) 46 0) 47 0)) 53 0) 54 0)) 56 0)) 58 0))))) (Nat.le_refl _) rfl ?_
  refine G_new (ci := 5) rfl rfl rfl (Nat.le_of_ble_eq_true rfl) ?_
  refine G_st (L := 61) (k := 1) (132, [some (.ref 0), some (.int 3)], [.ref 60, .ref 60, .int 3, .ref 53], ((61, q_z (q_u (c5_2r (q_z (q_u (c5_1r (q_z (q_u (c5_0r (q_z (q_u (q_z (q_u (c4r (q_z (q_u (q_z (q_u (c0r (q_z (q_u (c2_9r (q_z (q_u (c2_4r (q_z (q_u (c3r (q_z rf 1 none)) 0 0 (some 1)) 4 none)) 0 1 (some 4)) 9 none)) 0 2 (some 9)) 14 none)) 0 4 (some 14)) 46 none) 0 5 (some 46)) 47 none)) 0 10 (some 47)) 53 none) 0 14 (some 53)) 54 none)) 53 0 (some 54)) 56 none)) 53 1 (some 56)) 58 none)) 53 2 (some 58)) 60 none), ((q_z (c5_2i (q_z (c5_1i (q_z (c5_0i (q_z (q_z (q_u (q_u (q_u (c4i (q_z (q_u (q_u (q_u (q_u (q_z (c0i (q_z (q_u (c2_9i (q_z (c2_4i (q_z (c3i (q_z I 1 0)) 4 0)) 9 0)) 0 3 0) 14 0)) 46 0) 0 6 0) 0 7 0) 0 8 0) 0 9 0) 47 0)) 0 11 0) 0 12 0) 0 13 0) 53 0) 54 0)) 56 0)) 58 0)) 60 0), (q_z (c5_2j (q_z (c5_1j (q_z (c5_0j (q_z (q_z (c4j (q_z (q_z (c0j (q_z (c2_9j (q_z (c2_4j (q_z (c3j (q_z J 1 0)) 4 0)) 9 0)) 14 0)) 46 0) 47 0)) 53 0) 54 0)) 56 0)) 58 0)) 60 0)))) (Nat.le_refl _) rfl ?_
  refine G_callN (b := 60) (as := []) (rest := [.ref 60, .int 3, .ref 53]) rfl rfl rfl (Nat.le_of_ble_eq_true rfl) c5_3 (Nat.le_of_ble_eq_true rfl) ?_
  refine G_st (L := 62) (k := 0) (135, [some (.ref 0), some (.int 3)], [.ref 60, .int 3, .ref 53], ((62, c5_3r (q_z (q_u (c5_2r (q_z (q_u (c5_1r (q_z (q_u (c5_0r (q_z (q_u (q_z (q_u (c4r (q_z (q_u (q_z (q_u (c0r (q_z (q_u (c2_9r (q_z (q_u (c2_4r (q_z (q_u (c3r (q_z rf 1 none)) 0 0 (some 1)) 4 none)) 0 1 (some 4)) 9 none)) 0 2 (some 9)) 14 none)) 0 4 (some 14)) 46 none) 0 5 (some 46)) 47 none)) 0 10 (some 47)) 53 none) 0 14 (some 53)) 54 none)) 53 0 (some 54)) 56 none)) 53 1 (some 56)) 58 none)) 53 2 (some 58)) 60 none)), ((c5_3i (q_z (c5_2i (q_z (c5_1i (q_z (c5_0i (q_z (q_z (q_u (q_u (q_u (c4i (q_z (q_u (q_u (q_u (q_u (q_z (c0i (q_z (q_u (c2_9i (q_z (c2_4i (q_z (c3i (q_z I 1 0)) 4 0)) 9 0)) 0 3 0) 14 0)) 46 0) 0 6 0) 0 7 0) 0 8 0) 0 9 0) 47 0)) 0 11 0) 0 12 0) 0 13 0) 53 0) 54 0)) 56 0)) 58 0)) 60 0)), (c5_3j (q_z (c5_2j (q_z (c5_1j (q_z (c5_0j (q_z (q_z (c4j (q_z (q_z (c0j (q_z (c2_9j (q_z (c2_4j (q_z (c3j (q_z J 1 0)) 4 0)) 9 0)) 14 0)) 46 0) 47 0)) 53 0) 54 0)) 56 0)) 58 0)) 60 0))))) (Nat.le_refl _) rfl ?_
  refine G_aast (t := 6) (n := 4) (ci := 5) rfl rfl (by decide) (Nat.le_of_ble_eq_true rfl) (by unfold vp_in; decide) rfl (Nat.le_of_ble_eq_true rfl) (by decide) rfl ?_
  refine G_st (L := 62) (k := 4) (120, [some (.ref 0), some (.int 4)], [.int 4, .int 4], ((62, q_u (c5_3r (q_z (q_u (c5_2r (q_z (q_u (c5_1r (q_z (q_u (c5_0r (q_z (q_u (q_z (q_u (c4r (q_z (q_u (q_z (q_u (c0r (q_z (q_u (c2_9r (q_z (q_u (c2_4r (q_z (q_u (c3r (q_z rf 1 none)) 0 0 (some 1)) 4 none)) 0 1 (some 4)) 9 none)) 0 2 (some 9)) 14 none)) 0 4 (some 14)) 46 none) 0 5 (some 46)) 47 none)) 0 10 (some 47)) 53 none) 0 14 (some 53)) 54 none)) 53 0 (some 54)) 56 none)) 53 1 (some 56)) 58 none)) 53 2 (some 58)) 60 none)) 53 3 (some 60)), ((c5_3i (q_z (c5_2i (q_z (c5_1i (q_z (c5_0i (q_z (q_z (q_u (q_u (q_u (c4i (q_z (q_u (q_u (q_u (q_u (q_z (c0i (q_z (q_u (c2_9i (q_z (c2_4i (q_z (c3i (q_z I 1 0)) 4 0)) 9 0)) 0 3 0) 14 0)) 46 0) 0 6 0) 0 7 0) 0 8 0) 0 9 0) 47 0)) 0 11 0) 0 12 0) 0 13 0) 53 0) 54 0)) 56 0)) 58 0)) 60 0)), (c5_3j (q_z (c5_2j (q_z (c5_1j (q_z (c5_0j (q_z (q_z (c4j (q_z (q_z (c0j (q_z (c2_9j (q_z (c2_4j (q_z (c3j (q_z J 1 0)) 4 0)) 9 0)) 14 0)) 46 0) 47 0)) 53 0) 54 0)) 56 0)) 58 0)) 60 0))))) (Nat.le_refl _) rfl ?_
  refine G_icmp_ge 142 rfl rfl (fun _ => ?_) (fun h9 => absurd h9 (by decide))
  exact G_ret rfl rfl rfl rfl
