theorem r_haulK {d : Nat} {sw : Bool} {gc : Nat} {I : Nat → Nat → Int32} {J : Nat → Nat → Int64} {x u f m : Int32} (hx : x < 0 ∨ nI 4 ≤ x) : GM (d + 2) 143 [.ref 62, .int x, .int u, .int f, .int m] (qS sw gc I J) (some (.int (-1))) (qS sw gc I J) := by
  refine GM_of (by decide) (Nat.le_refl _) (Nat.le_of_ble_eq_true rfl) trivial ?_
  refine G_st (L := 89) (k := 0) (0, [some (.ref 62), some (.int x), some (.int u), some (.int f), some (.int m), none, none, none, none, none, none], [], qS sw gc I J) (q_hn _ _ _ _) rfl ?_
  refine G_st (L := 89) (k := 2) (2, [some (.ref 62), some (.int x), some (.int u), some (.int f), some (.int m), none, none, none, none, none, none], [.int u, .int x], qS sw gc I J) (q_hn _ _ _ _) rfl ?_
  refine G_callS (as := [.int x, .int u]) (rest := []) rfl rfl rfl (Nat.le_of_ble_eq_true rfl) (r_isSheetK hx) (Nat.le_refl _) ?_
  refine G_st (L := 89) (k := 0) (5, [some (.ref 62), some (.int x), some (.int u), some (.int f), some (.int m), none, none, none, none, none, none], [.int 0], qS sw gc I J) (q_hn _ _ _ _) rfl ?_
  refine G_if_eq 21 rfl rfl (fun _ => ?_) (fun h9 => absurd h9 (by decide))
  refine G_st (L := 89) (k := 1) (22, [some (.ref 62), some (.int x), some (.int u), some (.int f), some (.int m), none, none, none, none, none, none], [.int (-1)], qS sw gc I J) (q_hn _ _ _ _) rfl ?_
  exact G_iret rfl rfl rfl rfl
theorem r_haulL {d : Nat} {sw : Bool} {gc : Nat} {I : Nat → Nat → Int32} {J : Nat → Nat → Int64} {k : Nat} {u f m : Int32} (hk : k < 4) (hu : f_i3 u 0 2 = 0) : GM (d + 2) 143 [.ref 62, .int (nI k), .int u, .int f, .int m] (qS sw gc I J) (some (.int (-1))) (qS sw gc I J) := by
  refine GM_of (by decide) (Nat.le_refl _) (Nat.le_of_ble_eq_true rfl) trivial ?_
  refine G_st (L := 89) (k := 0) (0, [some (.ref 62), some (.int (nI k)), some (.int u), some (.int f), some (.int m), none, none, none, none, none, none], [], qS sw gc I J) (q_hn _ _ _ _) rfl ?_
  refine G_st (L := 89) (k := 2) (2, [some (.ref 62), some (.int (nI k)), some (.int u), some (.int f), some (.int m), none, none, none, none, none, none], [.int u, .int (nI k)], qS sw gc I J) (q_hn _ _ _ _) rfl ?_
  refine G_callS (as := [.int (nI k), .int u]) (rest := []) rfl rfl rfl (Nat.le_of_ble_eq_true rfl) (r_isSheetL hk hu) (Nat.le_refl _) ?_
  refine G_st (L := 89) (k := 0) (5, [some (.ref 62), some (.int (nI k)), some (.int u), some (.int f), some (.int m), none, none, none, none, none, none], [.int 0], qS sw gc I J) (q_hn _ _ _ _) rfl ?_
  refine G_if_eq 21 rfl rfl (fun _ => ?_) (fun h9 => absurd h9 (by decide))
  refine G_st (L := 89) (k := 1) (22, [some (.ref 62), some (.int (nI k)), some (.int u), some (.int f), some (.int m), none, none, none, none, none, none], [.int (-1)], qS sw gc I J) (q_hn _ _ _ _) rfl ?_
  exact G_iret rfl rfl rfl rfl
theorem r_haulM {d : Nat} {sw : Bool} {gc : Nat} {I : Nat → Nat → Int32} {J : Nat → Nat → Int64} {k : Nat} {u f m : Int32} (hk : k < 4) (hu : f_i3 u 0 2 = 1) (hm : f_i3 m 0 20 = 0) : GM (d + 2) 143 [.ref 62, .int (nI k), .int u, .int f, .int m] (qS sw gc I J) (some (.int (-1))) (qS sw gc I J) := by
  refine GM_of (by decide) (Nat.le_refl _) (Nat.le_of_ble_eq_true rfl) trivial ?_
  refine G_st (L := 89) (k := 0) (0, [some (.ref 62), some (.int (nI k)), some (.int u), some (.int f), some (.int m), none, none, none, none, none, none], [], qS sw gc I J) (q_hn _ _ _ _) rfl ?_
  refine G_st (L := 89) (k := 2) (2, [some (.ref 62), some (.int (nI k)), some (.int u), some (.int f), some (.int m), none, none, none, none, none, none], [.int u, .int (nI k)], qS sw gc I J) (q_hn _ _ _ _) rfl ?_
  refine G_callS (as := [.int (nI k), .int u]) (rest := []) rfl rfl rfl (Nat.le_of_ble_eq_true rfl) (r_isSheet hk hu) (Nat.le_refl _) ?_
  refine G_st (L := 89) (k := 0) (5, [some (.ref 62), some (.int (nI k)), some (.int u), some (.int f), some (.int m), none, none, none, none, none, none], [.int 1], qS sw gc I J) (q_hn _ _ _ _) rfl ?_
  refine G_if_eq 21 rfl rfl (fun h9 => absurd h9 (by decide)) (fun _ => ?_)
  refine G_st (L := 89) (k := 4) (15, [some (.ref 62), some (.int (nI k)), some (.int u), some (.int f), some (.int m), none, none, none, none, none, none], [.long 20, .long 0, .long (Int32.toInt64 m)], qS sw gc I J) (q_hn _ _ _ _) rfl ?_
  refine G_callS (as := [.long (Int32.toInt64 m), .long 0, .long 20]) (rest := []) rfl rfl rfl (Nat.le_of_ble_eq_true rfl) (r_in (lo := 0) (hi := 20) rfl rfl) (Nat.le_refl _) ?_
  refine G_st (L := 89) (k := 0) (18, [some (.ref 62), some (.int (nI k)), some (.int u), some (.int f), some (.int m), none, none, none, none, none, none], [.int (f_i3 m 0 20)], qS sw gc I J) (q_hn _ _ _ _) rfl ?_
  refine G_if_ne 23 rfl rfl (fun h9 => absurd hm h9) (fun _ => ?_)
  refine G_st (L := 89) (k := 1) (22, [some (.ref 62), some (.int (nI k)), some (.int u), some (.int f), some (.int m), none, none, none, none, none, none], [.int (-1)], qS sw gc I J) (q_hn _ _ _ _) rfl ?_
  exact G_iret rfl rfl rfl rfl
theorem r_haulN {d : Nat} {sw : Bool} {gc : Nat} {I : Nat → Nat → Int32} {J : Nat → Nat → Int64} {k m : Nat} {u f : Int32} (hk : k < 4) (hu : f_i3 u 0 2 = 1) (hm : m ≤ 20) (hne : ¬ I 86 k = u) (hla : I 86 k = -4) : GM (d + 2) 143 [.ref 62, .int (nI k), .int u, .int f, .int (nI m)] (qS sw gc I J) (some (.int (-11))) (qS sw gc I J) := by
  refine GM_of (by decide) (Nat.le_refl _) (Nat.le_of_ble_eq_true rfl) trivial ?_
  refine G_st (L := 89) (k := 0) (0, [some (.ref 62), some (.int (nI k)), some (.int u), some (.int f), some (.int (nI m)), none, none, none, none, none, none], [], qS sw gc I J) (q_hn _ _ _ _) rfl ?_
  refine G_st (L := 89) (k := 2) (2, [some (.ref 62), some (.int (nI k)), some (.int u), some (.int f), some (.int (nI m)), none, none, none, none, none, none], [.int u, .int (nI k)], qS sw gc I J) (q_hn _ _ _ _) rfl ?_
  refine G_callS (as := [.int (nI k), .int u]) (rest := []) rfl rfl rfl (Nat.le_of_ble_eq_true rfl) (r_isSheet hk hu) (Nat.le_refl _) ?_
  refine G_st (L := 89) (k := 0) (5, [some (.ref 62), some (.int (nI k)), some (.int u), some (.int f), some (.int (nI m)), none, none, none, none, none, none], [.int 1], qS sw gc I J) (q_hn _ _ _ _) rfl ?_
  refine G_if_eq 21 rfl rfl (fun h9 => absurd h9 (by decide)) (fun _ => ?_)
  refine G_st (L := 89) (k := 4) (15, [some (.ref 62), some (.int (nI k)), some (.int u), some (.int f), some (.int (nI m)), none, none, none, none, none, none], [.long 20, .long 0, .long (Int32.toInt64 (nI m))], qS sw gc I J) (q_hn _ _ _ _) rfl ?_
  refine G_callS (as := [.long (Int32.toInt64 (nI m)), .long 0, .long 20]) (rest := []) rfl rfl rfl (Nat.le_of_ble_eq_true rfl) (r_in (lo := 0) (hi := 20) rfl rfl) (Nat.le_refl _) ?_
  refine G_st (L := 89) (k := 0) (18, [some (.ref 62), some (.int (nI k)), some (.int u), some (.int f), some (.int (nI m)), none, none, none, none, none, none], [.int (f_i3 (nI m) 0 20)], qS sw gc I J) (q_hn _ _ _ _) rfl ?_
  refine G_if_ne 23 rfl rfl (fun _ => ?_) (fun h9 => absurd h9 (by rw [show f_i3 (nI m) 0 20 = 1 from f_i3_n (n := 20) hm (by decide)]; decide))
  refine G_st (L := 89) (k := 3) (28, [some (.ref 62), some (.int (nI k)), some (.int u), some (.int f), some (.int (nI m)), none, none, none, none, none, none], [.int (nI k), .ref 86], qS sw gc I J) (q_hn _ _ _ _) rfl ?_
  refine G_iald (i := 86) (n := 4) rfl rfl (q_lt (by decide)) (vp_in_nI (by omega) (by decide)) ?_
  rw [q_clamp (n := k) (by omega)]
  refine G_st (L := 89) (k := 1) (30, [some (.ref 62), some (.int (nI k)), some (.int u), some (.int f), some (.int (nI m)), none, none, none, none, none, none], [.int u, .int (I 86 k)], qS sw gc I J) (q_hn _ _ _ _) rfl ?_
  refine G_icmp_eq 52 rfl rfl (fun h9 => absurd h9 hne) (fun _ => ?_)
  refine G_st (L := 89) (k := 3) (38, [some (.ref 62), some (.int (nI k)), some (.int u), some (.int f), some (.int (nI m)), none, none, none, none, none, none], [.int (nI k), .ref 86], qS sw gc I J) (q_hn _ _ _ _) rfl ?_
  refine G_iald (i := 86) (n := 4) rfl rfl (q_lt (by decide)) (vp_in_nI (by omega) (by decide)) ?_
  rw [q_clamp (n := k) (by omega)]
  refine G_st (L := 89) (k := 1) (41, [some (.ref 62), some (.int (nI k)), some (.int u), some (.int f), some (.int (nI m)), none, none, none, none, none, none], [.int (-4), .int (I 86 k)], qS sw gc I J) (q_hn _ _ _ _) rfl ?_
  refine G_icmp_ne 49 rfl rfl (fun h9 => absurd hla h9) (fun _ => ?_)
  refine G_st (L := 89) (k := 2) (51, [some (.ref 62), some (.int (nI k)), some (.int u), some (.int f), some (.int (nI m)), none, none, none, none, none, none], [.int (-11)], qS sw gc I J) (q_hn _ _ _ _) rfl ?_
  exact G_iret rfl rfl rfl rfl
theorem r_haulC {d : Nat} {sw : Bool} {gc : Nat} {I : Nat → Nat → Int32} {J : Nat → Nat → Int64} {k m : Nat} {u f : Int32} (hk : k < 4) (hu : f_i3 u 0 2 = 1) (hm : m ≤ 20) (hne : ¬ I 86 k = u) (hla : ¬ I 86 k = -4) : GM (d + 2) 143 [.ref 62, .int (nI k), .int u, .int f, .int (nI m)] (qS sw gc I J) (some (.int (-13))) (qS sw gc I J) := by
  refine GM_of (by decide) (Nat.le_refl _) (Nat.le_of_ble_eq_true rfl) trivial ?_
  refine G_st (L := 89) (k := 0) (0, [some (.ref 62), some (.int (nI k)), some (.int u), some (.int f), some (.int (nI m)), none, none, none, none, none, none], [], qS sw gc I J) (q_hn _ _ _ _) rfl ?_
  refine G_st (L := 89) (k := 2) (2, [some (.ref 62), some (.int (nI k)), some (.int u), some (.int f), some (.int (nI m)), none, none, none, none, none, none], [.int u, .int (nI k)], qS sw gc I J) (q_hn _ _ _ _) rfl ?_
  refine G_callS (as := [.int (nI k), .int u]) (rest := []) rfl rfl rfl (Nat.le_of_ble_eq_true rfl) (r_isSheet hk hu) (Nat.le_refl _) ?_
  refine G_st (L := 89) (k := 0) (5, [some (.ref 62), some (.int (nI k)), some (.int u), some (.int f), some (.int (nI m)), none, none, none, none, none, none], [.int 1], qS sw gc I J) (q_hn _ _ _ _) rfl ?_
  refine G_if_eq 21 rfl rfl (fun h9 => absurd h9 (by decide)) (fun _ => ?_)
  refine G_st (L := 89) (k := 4) (15, [some (.ref 62), some (.int (nI k)), some (.int u), some (.int f), some (.int (nI m)), none, none, none, none, none, none], [.long 20, .long 0, .long (Int32.toInt64 (nI m))], qS sw gc I J) (q_hn _ _ _ _) rfl ?_
  refine G_callS (as := [.long (Int32.toInt64 (nI m)), .long 0, .long 20]) (rest := []) rfl rfl rfl (Nat.le_of_ble_eq_true rfl) (r_in (lo := 0) (hi := 20) rfl rfl) (Nat.le_refl _) ?_
  refine G_st (L := 89) (k := 0) (18, [some (.ref 62), some (.int (nI k)), some (.int u), some (.int f), some (.int (nI m)), none, none, none, none, none, none], [.int (f_i3 (nI m) 0 20)], qS sw gc I J) (q_hn _ _ _ _) rfl ?_
  refine G_if_ne 23 rfl rfl (fun _ => ?_) (fun h9 => absurd h9 (by rw [show f_i3 (nI m) 0 20 = 1 from f_i3_n (n := 20) hm (by decide)]; decide))
  refine G_st (L := 89) (k := 3) (28, [some (.ref 62), some (.int (nI k)), some (.int u), some (.int f), some (.int (nI m)), none, none, none, none, none, none], [.int (nI k), .ref 86], qS sw gc I J) (q_hn _ _ _ _) rfl ?_
  refine G_iald (i := 86) (n := 4) rfl rfl (q_lt (by decide)) (vp_in_nI (by omega) (by decide)) ?_
  rw [q_clamp (n := k) (by omega)]
  refine G_st (L := 89) (k := 1) (30, [some (.ref 62), some (.int (nI k)), some (.int u), some (.int f), some (.int (nI m)), none, none, none, none, none, none], [.int u, .int (I 86 k)], qS sw gc I J) (q_hn _ _ _ _) rfl ?_
  refine G_icmp_eq 52 rfl rfl (fun h9 => absurd h9 hne) (fun _ => ?_)
  refine G_st (L := 89) (k := 3) (38, [some (.ref 62), some (.int (nI k)), some (.int u), some (.int f), some (.int (nI m)), none, none, none, none, none, none], [.int (nI k), .ref 86], qS sw gc I J) (q_hn _ _ _ _) rfl ?_
  refine G_iald (i := 86) (n := 4) rfl rfl (q_lt (by decide)) (vp_in_nI (by omega) (by decide)) ?_
  rw [q_clamp (n := k) (by omega)]
  refine G_st (L := 89) (k := 1) (41, [some (.ref 62), some (.int (nI k)), some (.int u), some (.int f), some (.int (nI m)), none, none, none, none, none, none], [.int (-4), .int (I 86 k)], qS sw gc I J) (q_hn _ _ _ _) rfl ?_
  refine G_icmp_ne 49 rfl rfl (fun _ => ?_) (fun h9 => absurd h9 hla)
  refine G_st (L := 89) (k := 1) (51, [some (.ref 62), some (.int (nI k)), some (.int u), some (.int f), some (.int (nI m)), none, none, none, none, none, none], [.int (-13)], qS sw gc I J) (q_hn _ _ _ _) rfl ?_
  exact G_iret rfl rfl rfl rfl
theorem r_haulG {d : Nat} {sw : Bool} {gc : Nat} {I : Nat → Nat → Int32} {J : Nat → Nat → Int64} {k m : Nat} {u f : Int32} (hk : k < 4) (hu : f_i3 u 0 2 = 1) (hm : m ≤ 20) (hla : I 86 k = u) {r : Int32} {Iz : Nat → Nat → Int32} {Jz : Nat → Nat → Int64} (g : G (d + 4) 143 (55, [some (.ref 62), some (.int (nI k)), some (.int u), some (.int f), some (.int (nI m)), some (.int (nI 0)), none, none, none, none, none], [], qS sw gc I J) (some (.int r)) (qS sw gc Iz Jz)) : GM (d + 4) 143 [.ref 62, .int (nI k), .int u, .int f, .int (nI m)] (qS sw gc I J) (some (.int r)) (qS sw gc Iz Jz) := by
  refine GM_of (by decide) (Nat.le_refl _) (Nat.le_of_ble_eq_true rfl) trivial ?_
  refine G_st (L := 89) (k := 2) (2, [some (.ref 62), some (.int (nI k)), some (.int u), some (.int f), some (.int (nI m)), none, none, none, none, none, none], [.int u, .int (nI k)], qS sw gc I J) (q_hn _ _ _ _) rfl ?_
  refine G_callS (as := [.int (nI k), .int u]) (rest := []) rfl rfl rfl (Nat.le_of_ble_eq_true rfl) (r_isSheet hk hu) (Nat.le_refl _) ?_
  refine G_st (L := 89) (k := 0) (5, [some (.ref 62), some (.int (nI k)), some (.int u), some (.int f), some (.int (nI m)), none, none, none, none, none, none], [.int 1], qS sw gc I J) (q_hn _ _ _ _) rfl ?_
  refine G_if_eq 21 rfl rfl (fun h9 => absurd h9 (by decide)) (fun _ => ?_)
  refine G_st (L := 89) (k := 4) (15, [some (.ref 62), some (.int (nI k)), some (.int u), some (.int f), some (.int (nI m)), none, none, none, none, none, none], [.long 20, .long 0, .long (Int32.toInt64 (nI m))], qS sw gc I J) (q_hn _ _ _ _) rfl ?_
  refine G_callS (as := [.long (Int32.toInt64 (nI m)), .long 0, .long 20]) (rest := []) rfl rfl rfl (Nat.le_of_ble_eq_true rfl) (r_in (lo := 0) (hi := 20) rfl rfl) (Nat.le_refl _) ?_
  refine G_st (L := 89) (k := 0) (18, [some (.ref 62), some (.int (nI k)), some (.int u), some (.int f), some (.int (nI m)), none, none, none, none, none, none], [.int (f_i3 (nI m) 0 20)], qS sw gc I J) (q_hn _ _ _ _) rfl ?_
  refine G_if_ne 23 rfl rfl (fun _ => ?_) (fun h9 => absurd h9 (by rw [show f_i3 (nI m) 0 20 = 1 from f_i3_n (n := 20) hm (by decide)]; decide))
  refine G_st (L := 89) (k := 3) (28, [some (.ref 62), some (.int (nI k)), some (.int u), some (.int f), some (.int (nI m)), none, none, none, none, none, none], [.int (nI k), .ref 86], qS sw gc I J) (q_hn _ _ _ _) rfl ?_
  refine G_iald (i := 86) (n := 4) rfl rfl (q_lt (by decide)) (vp_in_nI (by omega) (by decide)) ?_
  rw [q_clamp (n := k) (by omega)]
  refine G_st (L := 89) (k := 1) (30, [some (.ref 62), some (.int (nI k)), some (.int u), some (.int f), some (.int (nI m)), none, none, none, none, none, none], [.int u, .int (I 86 k)], qS sw gc I J) (q_hn _ _ _ _) rfl ?_
  refine G_icmp_eq 52 rfl rfl (fun _ => ?_) (fun h9 => absurd hla h9)
  refine G_st (L := 89) (k := 2) (55, [some (.ref 62), some (.int (nI k)), some (.int u), some (.int f), some (.int (nI m)), some (.int 0), none, none, none, none, none], [], qS sw gc I J) (q_hn _ _ _ _) rfl ?_
  exact g
theorem r_haulE {d : Nat} {sw : Bool} {gc : Nat} {I : Nat → Nat → Int32} {J : Nat → Nat → Int64} {k m i : Nat} {u f : Int32} (hk : k < 4) (hm : m ≤ 20) (hi : i = m) : G (d + 4) 143 (55, [some (.ref 62), some (.int (nI k)), some (.int u), some (.int f), some (.int (nI m)), some (.int (nI i)), none, none, none, none, none], [], qS sw gc I J) (some (.int (nI m))) (qS sw gc I J) := by
  refine G_st (L := 89) (k := 2) (59, [some (.ref 62), some (.int (nI k)), some (.int u), some (.int f), some (.int (nI m)), some (.int (nI i)), none, none, none, none, none], [.int (nI m), .int (nI i)], qS sw gc I J) (q_hn _ _ _ _) rfl ?_
  refine G_icmp_ge 207 rfl rfl (fun _ => ?_) (fun h9 => absurd (nI_le (by omega) (by omega)) h9)
  refine G_st (L := 89) (k := 1) (209, [some (.ref 62), some (.int (nI k)), some (.int u), some (.int f), some (.int (nI m)), some (.int (nI i)), none, none, none, none, none], [.int (nI m)], qS sw gc I J) (q_hn _ _ _ _) rfl ?_
  exact G_iret rfl rfl rfl rfl
set_option maxRecDepth 8000 in
theorem r_haulI {d : Nat} {sw : Bool} {gc : Nat} {I : Nat → Nat → Int32} {J : Nat → Nat → Int64} {k m i : Nat} {u f : Int32} (hk : k < 4) (hm : m ≤ 20) {n : Nat} (hi : i < m) (hn : I 87 k = nI n) (hn60 : n ≤ 60) (hz : (Int32.toInt64 f + Int32.toInt64 (3 * nI i)) < 0 ∨ lN n < (Int32.toInt64 f + Int32.toInt64 (3 * nI i)) + 3) : G (d + 4) 143 (55, [some (.ref 62), some (.int (nI k)), some (.int u), some (.int f), some (.int (nI m)), some (.int (nI i)), none, none, none, none, none], [], qS sw gc I J) (some (.int (-12))) (qS sw gc I J) := by
  have hz2 : Int32.toInt64 (I 87 k) = lN n := by rw [hn]; exact nI_l (by omega)
  refine G_st (L := 89) (k := 2) (59, [some (.ref 62), some (.int (nI k)), some (.int u), some (.int f), some (.int (nI m)), some (.int (nI i)), none, none, none, none, none], [.int (nI m), .int (nI i)], qS sw gc I J) (q_hn _ _ _ _) rfl ?_
  refine G_icmp_ge 207 rfl rfl (fun h9 => absurd h9 (nI_ge (by omega) (by omega))) (fun _ => ?_)
  refine G_st (L := 89) (k := 11) (76, [some (.ref 62), some (.int (nI k)), some (.int u), some (.int f), some (.int (nI m)), some (.int (nI i)), some (.long ((Int32.toInt64 f) + (Int32.toInt64 (3 * (nI i))))), none, none, none, none], [.int (lg_cmp ((Int32.toInt64 f) + (Int32.toInt64 (3 * (nI i)))) 0)], qS sw gc I J) (q_hn _ _ _ _) rfl ?_
  refine G_if_lt 96 rfl rfl (fun h1 => ?_) (fun h1 => ?_)
  · skip
    refine G_st (L := 89) (k := 1) (98, [some (.ref 62), some (.int (nI k)), some (.int u), some (.int f), some (.int (nI m)), some (.int (nI i)), some (.long ((Int32.toInt64 f) + (Int32.toInt64 (3 * (nI i))))), none, none, none, none], [.int (-12)], qS sw gc I J) (q_hn _ _ _ _) rfl ?_
    exact G_iret rfl rfl rfl rfl
  · skip
    refine G_st (L := 89) (k := 6) (90, [some (.ref 62), some (.int (nI k)), some (.int u), some (.int f), some (.int (nI m)), some (.int (nI i)), some (.long ((Int32.toInt64 f) + (Int32.toInt64 (3 * (nI i))))), none, none, none, none], [.int (nI k), .ref 87, .long (((Int32.toInt64 f) + (Int32.toInt64 (3 * (nI i)))) + 3)], qS sw gc I J) (q_hn _ _ _ _) rfl ?_
    refine G_iald (i := 87) (n := 4) rfl rfl (q_lt (by decide)) (vp_in_nI (by omega) (by decide)) ?_
    rw [q_clamp (n := k) (by omega)]
    refine G_st (L := 89) (k := 2) (93, [some (.ref 62), some (.int (nI k)), some (.int u), some (.int f), some (.int (nI m)), some (.int (nI i)), some (.long ((Int32.toInt64 f) + (Int32.toInt64 (3 * (nI i))))), none, none, none, none], [.int (lg_cmp (((Int32.toInt64 f) + (Int32.toInt64 (3 * (nI i)))) + 3) (Int32.toInt64 (I 87 k)))], qS sw gc I J) (q_hn _ _ _ _) rfl ?_
    refine G_if_le 99 rfl rfl (fun h9 => absurd h9 (by rw [hz2]; exact fun e9 => absurd ((q_cmp_le _ _).mp e9) (Int64.not_le.mpr (hz.resolve_left (fun z => h1 ((q_cmp_lt _ _).mpr z)))))) (fun _ => ?_)
    refine G_st (L := 89) (k := 1) (98, [some (.ref 62), some (.int (nI k)), some (.int u), some (.int f), some (.int (nI m)), some (.int (nI i)), some (.long ((Int32.toInt64 f) + (Int32.toInt64 (3 * (nI i))))), none, none, none, none], [.int (-12)], qS sw gc I J) (q_hn _ _ _ _) rfl ?_
    exact G_iret rfl rfl rfl rfl
set_option maxRecDepth 8000 in
theorem r_haulB1 {d : Nat} {sw : Bool} {gc : Nat} {I : Nat → Nat → Int32} {J : Nat → Nat → Int64} {k m i : Nat} {u f : Int32} (hk : k < 4) (hm : m ≤ 20) {n : Nat} (hi : i < m) (hn : I 87 k = nI n) (hn60 : n ≤ 60) {j : Nat} (hz : Int32.toInt64 f + Int32.toInt64 (3 * nI i) = lN j) (hj : j + 3 ≤ n) (hmg : I 62 20 = nI gc) (hg : gc ≤ 8) (hin : f_in (J 88 (60 * k + j)) 0 (Int32.toInt64 (I 62 20) - 1) = 0) : G (d + 4) 143 (55, [some (.ref 62), some (.int (nI k)), some (.int u), some (.int f), some (.int (nI m)), some (.int (nI i)), none, none, none, none, none], [], qS sw gc I J) (some (.int (-21))) (qS sw gc I J) := by
  have hz2 : Int32.toInt64 (I 87 k) = lN n := by rw [hn]; exact nI_l (by omega)
  refine G_st (L := 89) (k := 2) (59, [some (.ref 62), some (.int (nI k)), some (.int u), some (.int f), some (.int (nI m)), some (.int (nI i)), none, none, none, none, none], [.int (nI m), .int (nI i)], qS sw gc I J) (q_hn _ _ _ _) rfl ?_
  refine G_icmp_ge 207 rfl rfl (fun h9 => absurd h9 (nI_ge (by omega) (by omega))) (fun _ => ?_)
  refine G_st (L := 89) (k := 11) (76, [some (.ref 62), some (.int (nI k)), some (.int u), some (.int f), some (.int (nI m)), some (.int (nI i)), some (.long ((Int32.toInt64 f) + (Int32.toInt64 (3 * (nI i))))), none, none, none, none], [.int (lg_cmp ((Int32.toInt64 f) + (Int32.toInt64 (3 * (nI i)))) 0)], qS sw gc I J) (q_hn _ _ _ _) rfl ?_
  rw [show (Int32.toInt64 f) + (Int32.toInt64 (3 * (nI i))) = lN j from hz]
  refine G_if_lt 96 rfl rfl (fun h9 => absurd h9 (q_cA (by omega))) (fun _ => ?_)
  refine G_st (L := 89) (k := 6) (90, [some (.ref 62), some (.int (nI k)), some (.int u), some (.int f), some (.int (nI m)), some (.int (nI i)), some (.long (lN j)), none, none, none, none], [.int (nI k), .ref 87, .long ((lN j) + 3)], qS sw gc I J) (q_hn _ _ _ _) rfl ?_
  rw [show (lN j) + 3 = lN (j + 3) from (q_laddP rfl rfl)]
  refine G_iald (i := 87) (n := 4) rfl rfl (q_lt (by decide)) (vp_in_nI (by omega) (by decide)) ?_
  rw [q_clamp (n := k) (by omega)]
  refine G_st (L := 89) (k := 2) (93, [some (.ref 62), some (.int (nI k)), some (.int u), some (.int f), some (.int (nI m)), some (.int (nI i)), some (.long (lN j)), none, none, none, none], [.int (lg_cmp (lN (j + 3)) (Int32.toInt64 (I 87 k)))], qS sw gc I J) (q_hn _ _ _ _) rfl ?_
  refine G_if_le 99 rfl rfl (fun _ => ?_) (fun h9 => absurd (by rw [hz2]; exact (q_cmp_le _ _).mpr ((lN_le (by omega) (by omega)).mpr hj)) h9)
  refine G_st (L := 89) (k := 10) (115, [some (.ref 62), some (.int (nI k)), some (.int u), some (.int f), some (.int (nI m)), some (.int (nI i)), some (.long (lN j)), none, some (.int ((60 * (nI k)) + (Int64.toInt32 (lN j)))), none, none], [.int ((60 * (nI k)) + (Int64.toInt32 (lN j))), .ref 88], qS sw gc I J) (q_hn _ _ _ _) rfl ?_
  rw [show (60 * (nI k)) + (Int64.toInt32 (lN j)) = nI (60 * k + j) from (q_addP (q_mulP rfl rfl) (q_l2iP rfl))]
  refine G_lald (i := 88) (n := 240) rfl rfl (q_lt (by decide)) (vp_in_nI (by omega) (by decide)) ?_
  rw [q_clamp (n := 60 * k + j) (by omega)]
  refine G_st (L := 89) (k := 8) (128, [some (.ref 62), some (.int (nI k)), some (.int u), some (.int f), some (.int (nI m)), some (.int (nI i)), some (.long (lN j)), none, some (.int (nI (60 * k + j))), some (.long (J 88 (60 * k + j))), none], [.long ((Int32.toInt64 (I 62 20)) - 1), .long 0, .long (J 88 (60 * k + j))], qS sw gc I J) (q_hn _ _ _ _) rfl ?_
  refine G_callS (as := [.long (J 88 (60 * k + j)), .long 0, .long ((Int32.toInt64 (I 62 20)) - 1)]) (rest := []) rfl rfl rfl (Nat.le_of_ble_eq_true rfl) (GM_r (r2 := 0) (m_in _ _ _) hin) (Nat.le_refl _) ?_
  refine G_st (L := 89) (k := 0) (131, [some (.ref 62), some (.int (nI k)), some (.int u), some (.int f), some (.int (nI m)), some (.int (nI i)), some (.long (lN j)), none, some (.int (nI (60 * k + j))), some (.long (J 88 (60 * k + j))), none], [.int 0], qS sw gc I J) (q_hn _ _ _ _) rfl ?_
  refine G_if_eq 158 rfl rfl (fun _ => ?_) (fun h9 => absurd h9 (by decide))
  refine G_st (L := 89) (k := 1) (160, [some (.ref 62), some (.int (nI k)), some (.int u), some (.int f), some (.int (nI m)), some (.int (nI i)), some (.long (lN j)), none, some (.int (nI (60 * k + j))), some (.long (J 88 (60 * k + j))), none], [.int (-21)], qS sw gc I J) (q_hn _ _ _ _) rfl ?_
  exact G_iret rfl rfl rfl rfl
set_option maxRecDepth 8000 in
theorem r_haulB2 {d : Nat} {sw : Bool} {gc : Nat} {I : Nat → Nat → Int32} {J : Nat → Nat → Int64} {k m i : Nat} {u f : Int32} (hk : k < 4) (hm : m ≤ 20) {n : Nat} (hi : i < m) (hn : I 87 k = nI n) (hn60 : n ≤ 60) {j : Nat} (hz : Int32.toInt64 f + Int32.toInt64 (3 * nI i) = lN j) (hj : j + 3 ≤ n) (hmg : I 62 20 = nI gc) (hg : gc ≤ 8) (hin : f_in (J 88 (60 * k + j)) 0 (Int32.toInt64 (I 62 20) - 1) = 1) (hbl : f_r_isBlock (J 88 (60 * k + j + 1)) (J 88 (60 * k + j + 2)) = 0) : G (d + 4) 143 (55, [some (.ref 62), some (.int (nI k)), some (.int u), some (.int f), some (.int (nI m)), some (.int (nI i)), none, none, none, none, none], [], qS sw gc I J) (some (.int (-21))) (qS sw gc I J) := by
  have hz2 : Int32.toInt64 (I 87 k) = lN n := by rw [hn]; exact nI_l (by omega)
  refine G_st (L := 89) (k := 2) (59, [some (.ref 62), some (.int (nI k)), some (.int u), some (.int f), some (.int (nI m)), some (.int (nI i)), none, none, none, none, none], [.int (nI m), .int (nI i)], qS sw gc I J) (q_hn _ _ _ _) rfl ?_
  refine G_icmp_ge 207 rfl rfl (fun h9 => absurd h9 (nI_ge (by omega) (by omega))) (fun _ => ?_)
  refine G_st (L := 89) (k := 11) (76, [some (.ref 62), some (.int (nI k)), some (.int u), some (.int f), some (.int (nI m)), some (.int (nI i)), some (.long ((Int32.toInt64 f) + (Int32.toInt64 (3 * (nI i))))), none, none, none, none], [.int (lg_cmp ((Int32.toInt64 f) + (Int32.toInt64 (3 * (nI i)))) 0)], qS sw gc I J) (q_hn _ _ _ _) rfl ?_
  rw [show (Int32.toInt64 f) + (Int32.toInt64 (3 * (nI i))) = lN j from hz]
  refine G_if_lt 96 rfl rfl (fun h9 => absurd h9 (q_cA (by omega))) (fun _ => ?_)
  refine G_st (L := 89) (k := 6) (90, [some (.ref 62), some (.int (nI k)), some (.int u), some (.int f), some (.int (nI m)), some (.int (nI i)), some (.long (lN j)), none, none, none, none], [.int (nI k), .ref 87, .long ((lN j) + 3)], qS sw gc I J) (q_hn _ _ _ _) rfl ?_
  rw [show (lN j) + 3 = lN (j + 3) from (q_laddP rfl rfl)]
  refine G_iald (i := 87) (n := 4) rfl rfl (q_lt (by decide)) (vp_in_nI (by omega) (by decide)) ?_
  rw [q_clamp (n := k) (by omega)]
  refine G_st (L := 89) (k := 2) (93, [some (.ref 62), some (.int (nI k)), some (.int u), some (.int f), some (.int (nI m)), some (.int (nI i)), some (.long (lN j)), none, none, none, none], [.int (lg_cmp (lN (j + 3)) (Int32.toInt64 (I 87 k)))], qS sw gc I J) (q_hn _ _ _ _) rfl ?_
  refine G_if_le 99 rfl rfl (fun _ => ?_) (fun h9 => absurd (by rw [hz2]; exact (q_cmp_le _ _).mpr ((lN_le (by omega) (by omega)).mpr hj)) h9)
  refine G_st (L := 89) (k := 10) (115, [some (.ref 62), some (.int (nI k)), some (.int u), some (.int f), some (.int (nI m)), some (.int (nI i)), some (.long (lN j)), none, some (.int ((60 * (nI k)) + (Int64.toInt32 (lN j)))), none, none], [.int ((60 * (nI k)) + (Int64.toInt32 (lN j))), .ref 88], qS sw gc I J) (q_hn _ _ _ _) rfl ?_
  rw [show (60 * (nI k)) + (Int64.toInt32 (lN j)) = nI (60 * k + j) from (q_addP (q_mulP rfl rfl) (q_l2iP rfl))]
  refine G_lald (i := 88) (n := 240) rfl rfl (q_lt (by decide)) (vp_in_nI (by omega) (by decide)) ?_
  rw [q_clamp (n := 60 * k + j) (by omega)]
  refine G_st (L := 89) (k := 8) (128, [some (.ref 62), some (.int (nI k)), some (.int u), some (.int f), some (.int (nI m)), some (.int (nI i)), some (.long (lN j)), none, some (.int (nI (60 * k + j))), some (.long (J 88 (60 * k + j))), none], [.long ((Int32.toInt64 (I 62 20)) - 1), .long 0, .long (J 88 (60 * k + j))], qS sw gc I J) (q_hn _ _ _ _) rfl ?_
  refine G_callS (as := [.long (J 88 (60 * k + j)), .long 0, .long ((Int32.toInt64 (I 62 20)) - 1)]) (rest := []) rfl rfl rfl (Nat.le_of_ble_eq_true rfl) (GM_r (r2 := 1) (m_in _ _ _) hin) (Nat.le_refl _) ?_
  refine G_st (L := 89) (k := 0) (131, [some (.ref 62), some (.int (nI k)), some (.int u), some (.int f), some (.int (nI m)), some (.int (nI i)), some (.long (lN j)), none, some (.int (nI (60 * k + j))), some (.long (J 88 (60 * k + j))), none], [.int 1], qS sw gc I J) (q_hn _ _ _ _) rfl ?_
  refine G_if_eq 158 rfl rfl (fun h9 => absurd h9 (by decide)) (fun _ => ?_)
  refine G_st (L := 89) (k := 5) (142, [some (.ref 62), some (.int (nI k)), some (.int u), some (.int f), some (.int (nI m)), some (.int (nI i)), some (.long (lN j)), none, some (.int (nI (60 * k + j))), some (.long (J 88 (60 * k + j))), none], [.int ((nI (60 * k + j)) + 1), .ref 88], qS sw gc I J) (q_hn _ _ _ _) rfl ?_
  rw [show (nI (60 * k + j)) + 1 = nI (60 * k + j + 1) from (q_addP rfl rfl)]
  refine G_lald (i := 88) (n := 240) rfl rfl (q_lt (by decide)) (vp_in_nI (by omega) (by decide)) ?_
  rw [q_clamp (n := 60 * k + j + 1) (by omega)]
  refine G_st (L := 89) (k := 5) (151, [some (.ref 62), some (.int (nI k)), some (.int u), some (.int f), some (.int (nI m)), some (.int (nI i)), some (.long (lN j)), none, some (.int (nI (60 * k + j))), some (.long (J 88 (60 * k + j))), none], [.int ((nI (60 * k + j)) + 2), .ref 88, .long (J 88 (60 * k + j + 1))], qS sw gc I J) (q_hn _ _ _ _) rfl ?_
  rw [show (nI (60 * k + j)) + 2 = nI (60 * k + j + 2) from (q_addP rfl rfl)]
  refine G_lald (i := 88) (n := 240) rfl rfl (q_lt (by decide)) (vp_in_nI (by omega) (by decide)) ?_
  rw [q_clamp (n := 60 * k + j + 2) (by omega)]
  refine G_st (L := 89) (k := 0) (152, [some (.ref 62), some (.int (nI k)), some (.int u), some (.int f), some (.int (nI m)), some (.int (nI i)), some (.long (lN j)), none, some (.int (nI (60 * k + j))), some (.long (J 88 (60 * k + j))), none], [.long (J 88 (60 * k + j + 2)), .long (J 88 (60 * k + j + 1))], qS sw gc I J) (q_hn _ _ _ _) rfl ?_
  refine G_callS (as := [.long (J 88 (60 * k + j + 1)), .long (J 88 (60 * k + j + 2))]) (rest := []) rfl rfl rfl (Nat.le_of_ble_eq_true rfl) (GM_r (r2 := 0) r_isBlock hbl) (Nat.le_refl _) ?_
  refine G_st (L := 89) (k := 0) (155, [some (.ref 62), some (.int (nI k)), some (.int u), some (.int f), some (.int (nI m)), some (.int (nI i)), some (.long (lN j)), none, some (.int (nI (60 * k + j))), some (.long (J 88 (60 * k + j))), none], [.int 0], qS sw gc I J) (q_hn _ _ _ _) rfl ?_
  refine G_if_ne 161 rfl rfl (fun h9 => absurd h9 (by decide)) (fun _ => ?_)
  refine G_st (L := 89) (k := 1) (160, [some (.ref 62), some (.int (nI k)), some (.int u), some (.int f), some (.int (nI m)), some (.int (nI i)), some (.long (lN j)), none, some (.int (nI (60 * k + j))), some (.long (J 88 (60 * k + j))), none], [.int (-21)], qS sw gc I J) (q_hn _ _ _ _) rfl ?_
  exact G_iret rfl rfl rfl rfl
set_option maxRecDepth 8000 in
theorem r_haulW0 {d : Nat} {sw : Bool} {gc : Nat} {I : Nat → Nat → Int32} {J : Nat → Nat → Int64} {k m i : Nat} {u f : Int32} (hk : k < 4) (hm : m ≤ 20) {n : Nat} (hi : i < m) (hn : I 87 k = nI n) (hn60 : n ≤ 60) {j : Nat} (hz : Int32.toInt64 f + Int32.toInt64 (3 * nI i) = lN j) (hj : j + 3 ≤ n) (hmg : I 62 20 = nI gc) (hg : gc ≤ 8) {q : Nat} (hq : q < gc) (h0 : J 88 (60 * k + j) = lN q) (hin : f_in (lN q) 0 (Int32.toInt64 (I 62 20) - 1) = 1) (hbl : f_r_isBlock (J 88 (60 * k + j + 1)) (J 88 (60 * k + j + 2)) = 1) (hwk : I 77 q = -4) : G (d + 4) 143 (55, [some (.ref 62), some (.int (nI k)), some (.int u), some (.int f), some (.int (nI m)), some (.int (nI i)), none, none, none, none, none], [], qS sw gc I J) (some (.int (-22))) (qS sw gc I J) := by
  have hz2 : Int32.toInt64 (I 87 k) = lN n := by rw [hn]; exact nI_l (by omega)
  refine G_st (L := 89) (k := 2) (59, [some (.ref 62), some (.int (nI k)), some (.int u), some (.int f), some (.int (nI m)), some (.int (nI i)), none, none, none, none, none], [.int (nI m), .int (nI i)], qS sw gc I J) (q_hn _ _ _ _) rfl ?_
  refine G_icmp_ge 207 rfl rfl (fun h9 => absurd h9 (nI_ge (by omega) (by omega))) (fun _ => ?_)
  refine G_st (L := 89) (k := 11) (76, [some (.ref 62), some (.int (nI k)), some (.int u), some (.int f), some (.int (nI m)), some (.int (nI i)), some (.long ((Int32.toInt64 f) + (Int32.toInt64 (3 * (nI i))))), none, none, none, none], [.int (lg_cmp ((Int32.toInt64 f) + (Int32.toInt64 (3 * (nI i)))) 0)], qS sw gc I J) (q_hn _ _ _ _) rfl ?_
  rw [show (Int32.toInt64 f) + (Int32.toInt64 (3 * (nI i))) = lN j from hz]
  refine G_if_lt 96 rfl rfl (fun h9 => absurd h9 (q_cA (by omega))) (fun _ => ?_)
  refine G_st (L := 89) (k := 6) (90, [some (.ref 62), some (.int (nI k)), some (.int u), some (.int f), some (.int (nI m)), some (.int (nI i)), some (.long (lN j)), none, none, none, none], [.int (nI k), .ref 87, .long ((lN j) + 3)], qS sw gc I J) (q_hn _ _ _ _) rfl ?_
  rw [show (lN j) + 3 = lN (j + 3) from (q_laddP rfl rfl)]
  refine G_iald (i := 87) (n := 4) rfl rfl (q_lt (by decide)) (vp_in_nI (by omega) (by decide)) ?_
  rw [q_clamp (n := k) (by omega)]
  refine G_st (L := 89) (k := 2) (93, [some (.ref 62), some (.int (nI k)), some (.int u), some (.int f), some (.int (nI m)), some (.int (nI i)), some (.long (lN j)), none, none, none, none], [.int (lg_cmp (lN (j + 3)) (Int32.toInt64 (I 87 k)))], qS sw gc I J) (q_hn _ _ _ _) rfl ?_
  refine G_if_le 99 rfl rfl (fun _ => ?_) (fun h9 => absurd (by rw [hz2]; exact (q_cmp_le _ _).mpr ((lN_le (by omega) (by omega)).mpr hj)) h9)
  refine G_st (L := 89) (k := 10) (115, [some (.ref 62), some (.int (nI k)), some (.int u), some (.int f), some (.int (nI m)), some (.int (nI i)), some (.long (lN j)), none, some (.int ((60 * (nI k)) + (Int64.toInt32 (lN j)))), none, none], [.int ((60 * (nI k)) + (Int64.toInt32 (lN j))), .ref 88], qS sw gc I J) (q_hn _ _ _ _) rfl ?_
  rw [show (60 * (nI k)) + (Int64.toInt32 (lN j)) = nI (60 * k + j) from (q_addP (q_mulP rfl rfl) (q_l2iP rfl))]
  refine G_lald (i := 88) (n := 240) rfl rfl (q_lt (by decide)) (vp_in_nI (by omega) (by decide)) ?_
  rw [q_clamp (n := 60 * k + j) (by omega)]
  refine G_st (L := 89) (k := 8) (128, [some (.ref 62), some (.int (nI k)), some (.int u), some (.int f), some (.int (nI m)), some (.int (nI i)), some (.long (lN j)), none, some (.int (nI (60 * k + j))), some (.long (J 88 (60 * k + j))), none], [.long ((Int32.toInt64 (I 62 20)) - 1), .long 0, .long (J 88 (60 * k + j))], qS sw gc I J) (q_hn _ _ _ _) rfl ?_
  rw [show J 88 (60 * k + j) = lN q from h0]
  refine G_callS (as := [.long (lN q), .long 0, .long ((Int32.toInt64 (I 62 20)) - 1)]) (rest := []) rfl rfl rfl (Nat.le_of_ble_eq_true rfl) (GM_r (r2 := 1) (m_in _ _ _) hin) (Nat.le_refl _) ?_
  refine G_st (L := 89) (k := 0) (131, [some (.ref 62), some (.int (nI k)), some (.int u), some (.int f), some (.int (nI m)), some (.int (nI i)), some (.long (lN j)), none, some (.int (nI (60 * k + j))), some (.long (lN q)), none], [.int 1], qS sw gc I J) (q_hn _ _ _ _) rfl ?_
  refine G_if_eq 158 rfl rfl (fun h9 => absurd h9 (by decide)) (fun _ => ?_)
  refine G_st (L := 89) (k := 5) (142, [some (.ref 62), some (.int (nI k)), some (.int u), some (.int f), some (.int (nI m)), some (.int (nI i)), some (.long (lN j)), none, some (.int (nI (60 * k + j))), some (.long (lN q)), none], [.int ((nI (60 * k + j)) + 1), .ref 88], qS sw gc I J) (q_hn _ _ _ _) rfl ?_
  rw [show (nI (60 * k + j)) + 1 = nI (60 * k + j + 1) from (q_addP rfl rfl)]
  refine G_lald (i := 88) (n := 240) rfl rfl (q_lt (by decide)) (vp_in_nI (by omega) (by decide)) ?_
  rw [q_clamp (n := 60 * k + j + 1) (by omega)]
  refine G_st (L := 89) (k := 5) (151, [some (.ref 62), some (.int (nI k)), some (.int u), some (.int f), some (.int (nI m)), some (.int (nI i)), some (.long (lN j)), none, some (.int (nI (60 * k + j))), some (.long (lN q)), none], [.int ((nI (60 * k + j)) + 2), .ref 88, .long (J 88 (60 * k + j + 1))], qS sw gc I J) (q_hn _ _ _ _) rfl ?_
  rw [show (nI (60 * k + j)) + 2 = nI (60 * k + j + 2) from (q_addP rfl rfl)]
  refine G_lald (i := 88) (n := 240) rfl rfl (q_lt (by decide)) (vp_in_nI (by omega) (by decide)) ?_
  rw [q_clamp (n := 60 * k + j + 2) (by omega)]
  refine G_st (L := 89) (k := 0) (152, [some (.ref 62), some (.int (nI k)), some (.int u), some (.int f), some (.int (nI m)), some (.int (nI i)), some (.long (lN j)), none, some (.int (nI (60 * k + j))), some (.long (lN q)), none], [.long (J 88 (60 * k + j + 2)), .long (J 88 (60 * k + j + 1))], qS sw gc I J) (q_hn _ _ _ _) rfl ?_
  refine G_callS (as := [.long (J 88 (60 * k + j + 1)), .long (J 88 (60 * k + j + 2))]) (rest := []) rfl rfl rfl (Nat.le_of_ble_eq_true rfl) (GM_r (r2 := 1) r_isBlock hbl) (Nat.le_refl _) ?_
  refine G_st (L := 89) (k := 0) (155, [some (.ref 62), some (.int (nI k)), some (.int u), some (.int f), some (.int (nI m)), some (.int (nI i)), some (.long (lN j)), none, some (.int (nI (60 * k + j))), some (.long (lN q)), none], [.int 1], qS sw gc I J) (q_hn _ _ _ _) rfl ?_
  refine G_if_ne 161 rfl rfl (fun _ => ?_) (fun h9 => absurd h9 (by decide))
  refine G_st (L := 89) (k := 3) (165, [some (.ref 62), some (.int (nI k)), some (.int u), some (.int f), some (.int (nI m)), some (.int (nI i)), some (.long (lN j)), none, some (.int (nI (60 * k + j))), some (.long (lN q)), none], [.int (Int64.toInt32 (lN q)), .ref 62], qS sw gc I J) (q_hn _ _ _ _) rfl ?_
  rw [show Int64.toInt32 (lN q) = nI q from (q_l2iP rfl)]
  refine G_callV (b := 62) (ci := 9) (as := [.int (nI q)]) (rest := []) rfl rfl rfl (q_lt (by decide)) (by decide) rfl rfl (Nat.le_of_ble_eq_true rfl) (r_mayWorkN hq hg hwk) (Nat.le_refl _) ?_
  refine G_st (L := 89) (k := 0) (168, [some (.ref 62), some (.int (nI k)), some (.int u), some (.int f), some (.int (nI m)), some (.int (nI i)), some (.long (lN j)), none, some (.int (nI (60 * k + j))), some (.long (lN q)), none], [.int 0], qS sw gc I J) (q_hn _ _ _ _) rfl ?_
  refine G_if_ne 174 rfl rfl (fun h9 => absurd h9 (by decide)) (fun _ => ?_)
  refine G_st (L := 89) (k := 1) (173, [some (.ref 62), some (.int (nI k)), some (.int u), some (.int f), some (.int (nI m)), some (.int (nI i)), some (.long (lN j)), none, some (.int (nI (60 * k + j))), some (.long (lN q)), none], [.int (-22)], qS sw gc I J) (q_hn _ _ _ _) rfl ?_
  exact G_iret rfl rfl rfl rfl
set_option maxRecDepth 8000 in
theorem r_haulW1 {d : Nat} {sw : Bool} {gc : Nat} {I : Nat → Nat → Int32} {J : Nat → Nat → Int64} {k m i : Nat} {u f : Int32} (hk : k < 4) (hm : m ≤ 20) {n : Nat} (hi : i < m) (hn : I 87 k = nI n) (hn60 : n ≤ 60) {j : Nat} (hz : Int32.toInt64 f + Int32.toInt64 (3 * nI i) = lN j) (hj : j + 3 ≤ n) (hmg : I 62 20 = nI gc) (hg : gc ≤ 8) {q : Nat} (hq : q < gc) (h0 : J 88 (60 * k + j) = lN q) (hin : f_in (lN q) 0 (Int32.toInt64 (I 62 20) - 1) = 1) (hbl : f_r_isBlock (J 88 (60 * k + j + 1)) (J 88 (60 * k + j + 2)) = 1) {w : Nat} (hw : w < 30) (hwk : I 77 q = nI w) (hmay : r_may I w = false) : G (d + 4) 143 (55, [some (.ref 62), some (.int (nI k)), some (.int u), some (.int f), some (.int (nI m)), some (.int (nI i)), none, none, none, none, none], [], qS sw gc I J) (some (.int (-22))) (qS sw gc I J) := by
  have hz2 : Int32.toInt64 (I 87 k) = lN n := by rw [hn]; exact nI_l (by omega)
  refine G_st (L := 89) (k := 2) (59, [some (.ref 62), some (.int (nI k)), some (.int u), some (.int f), some (.int (nI m)), some (.int (nI i)), none, none, none, none, none], [.int (nI m), .int (nI i)], qS sw gc I J) (q_hn _ _ _ _) rfl ?_
  refine G_icmp_ge 207 rfl rfl (fun h9 => absurd h9 (nI_ge (by omega) (by omega))) (fun _ => ?_)
  refine G_st (L := 89) (k := 11) (76, [some (.ref 62), some (.int (nI k)), some (.int u), some (.int f), some (.int (nI m)), some (.int (nI i)), some (.long ((Int32.toInt64 f) + (Int32.toInt64 (3 * (nI i))))), none, none, none, none], [.int (lg_cmp ((Int32.toInt64 f) + (Int32.toInt64 (3 * (nI i)))) 0)], qS sw gc I J) (q_hn _ _ _ _) rfl ?_
  rw [show (Int32.toInt64 f) + (Int32.toInt64 (3 * (nI i))) = lN j from hz]
  refine G_if_lt 96 rfl rfl (fun h9 => absurd h9 (q_cA (by omega))) (fun _ => ?_)
  refine G_st (L := 89) (k := 6) (90, [some (.ref 62), some (.int (nI k)), some (.int u), some (.int f), some (.int (nI m)), some (.int (nI i)), some (.long (lN j)), none, none, none, none], [.int (nI k), .ref 87, .long ((lN j) + 3)], qS sw gc I J) (q_hn _ _ _ _) rfl ?_
  rw [show (lN j) + 3 = lN (j + 3) from (q_laddP rfl rfl)]
  refine G_iald (i := 87) (n := 4) rfl rfl (q_lt (by decide)) (vp_in_nI (by omega) (by decide)) ?_
  rw [q_clamp (n := k) (by omega)]
  refine G_st (L := 89) (k := 2) (93, [some (.ref 62), some (.int (nI k)), some (.int u), some (.int f), some (.int (nI m)), some (.int (nI i)), some (.long (lN j)), none, none, none, none], [.int (lg_cmp (lN (j + 3)) (Int32.toInt64 (I 87 k)))], qS sw gc I J) (q_hn _ _ _ _) rfl ?_
  refine G_if_le 99 rfl rfl (fun _ => ?_) (fun h9 => absurd (by rw [hz2]; exact (q_cmp_le _ _).mpr ((lN_le (by omega) (by omega)).mpr hj)) h9)
  refine G_st (L := 89) (k := 10) (115, [some (.ref 62), some (.int (nI k)), some (.int u), some (.int f), some (.int (nI m)), some (.int (nI i)), some (.long (lN j)), none, some (.int ((60 * (nI k)) + (Int64.toInt32 (lN j)))), none, none], [.int ((60 * (nI k)) + (Int64.toInt32 (lN j))), .ref 88], qS sw gc I J) (q_hn _ _ _ _) rfl ?_
  rw [show (60 * (nI k)) + (Int64.toInt32 (lN j)) = nI (60 * k + j) from (q_addP (q_mulP rfl rfl) (q_l2iP rfl))]
  refine G_lald (i := 88) (n := 240) rfl rfl (q_lt (by decide)) (vp_in_nI (by omega) (by decide)) ?_
  rw [q_clamp (n := 60 * k + j) (by omega)]
  refine G_st (L := 89) (k := 8) (128, [some (.ref 62), some (.int (nI k)), some (.int u), some (.int f), some (.int (nI m)), some (.int (nI i)), some (.long (lN j)), none, some (.int (nI (60 * k + j))), some (.long (J 88 (60 * k + j))), none], [.long ((Int32.toInt64 (I 62 20)) - 1), .long 0, .long (J 88 (60 * k + j))], qS sw gc I J) (q_hn _ _ _ _) rfl ?_
  rw [show J 88 (60 * k + j) = lN q from h0]
  refine G_callS (as := [.long (lN q), .long 0, .long ((Int32.toInt64 (I 62 20)) - 1)]) (rest := []) rfl rfl rfl (Nat.le_of_ble_eq_true rfl) (GM_r (r2 := 1) (m_in _ _ _) hin) (Nat.le_refl _) ?_
  refine G_st (L := 89) (k := 0) (131, [some (.ref 62), some (.int (nI k)), some (.int u), some (.int f), some (.int (nI m)), some (.int (nI i)), some (.long (lN j)), none, some (.int (nI (60 * k + j))), some (.long (lN q)), none], [.int 1], qS sw gc I J) (q_hn _ _ _ _) rfl ?_
  refine G_if_eq 158 rfl rfl (fun h9 => absurd h9 (by decide)) (fun _ => ?_)
  refine G_st (L := 89) (k := 5) (142, [some (.ref 62), some (.int (nI k)), some (.int u), some (.int f), some (.int (nI m)), some (.int (nI i)), some (.long (lN j)), none, some (.int (nI (60 * k + j))), some (.long (lN q)), none], [.int ((nI (60 * k + j)) + 1), .ref 88], qS sw gc I J) (q_hn _ _ _ _) rfl ?_
  rw [show (nI (60 * k + j)) + 1 = nI (60 * k + j + 1) from (q_addP rfl rfl)]
  refine G_lald (i := 88) (n := 240) rfl rfl (q_lt (by decide)) (vp_in_nI (by omega) (by decide)) ?_
  rw [q_clamp (n := 60 * k + j + 1) (by omega)]
  refine G_st (L := 89) (k := 5) (151, [some (.ref 62), some (.int (nI k)), some (.int u), some (.int f), some (.int (nI m)), some (.int (nI i)), some (.long (lN j)), none, some (.int (nI (60 * k + j))), some (.long (lN q)), none], [.int ((nI (60 * k + j)) + 2), .ref 88, .long (J 88 (60 * k + j + 1))], qS sw gc I J) (q_hn _ _ _ _) rfl ?_
  rw [show (nI (60 * k + j)) + 2 = nI (60 * k + j + 2) from (q_addP rfl rfl)]
  refine G_lald (i := 88) (n := 240) rfl rfl (q_lt (by decide)) (vp_in_nI (by omega) (by decide)) ?_
  rw [q_clamp (n := 60 * k + j + 2) (by omega)]
  refine G_st (L := 89) (k := 0) (152, [some (.ref 62), some (.int (nI k)), some (.int u), some (.int f), some (.int (nI m)), some (.int (nI i)), some (.long (lN j)), none, some (.int (nI (60 * k + j))), some (.long (lN q)), none], [.long (J 88 (60 * k + j + 2)), .long (J 88 (60 * k + j + 1))], qS sw gc I J) (q_hn _ _ _ _) rfl ?_
  refine G_callS (as := [.long (J 88 (60 * k + j + 1)), .long (J 88 (60 * k + j + 2))]) (rest := []) rfl rfl rfl (Nat.le_of_ble_eq_true rfl) (GM_r (r2 := 1) r_isBlock hbl) (Nat.le_refl _) ?_
  refine G_st (L := 89) (k := 0) (155, [some (.ref 62), some (.int (nI k)), some (.int u), some (.int f), some (.int (nI m)), some (.int (nI i)), some (.long (lN j)), none, some (.int (nI (60 * k + j))), some (.long (lN q)), none], [.int 1], qS sw gc I J) (q_hn _ _ _ _) rfl ?_
  refine G_if_ne 161 rfl rfl (fun _ => ?_) (fun h9 => absurd h9 (by decide))
  refine G_st (L := 89) (k := 3) (165, [some (.ref 62), some (.int (nI k)), some (.int u), some (.int f), some (.int (nI m)), some (.int (nI i)), some (.long (lN j)), none, some (.int (nI (60 * k + j))), some (.long (lN q)), none], [.int (Int64.toInt32 (lN q)), .ref 62], qS sw gc I J) (q_hn _ _ _ _) rfl ?_
  rw [show Int64.toInt32 (lN q) = nI q from (q_l2iP rfl)]
  refine G_callV (b := 62) (ci := 9) (as := [.int (nI q)]) (rest := []) rfl rfl rfl (q_lt (by decide)) (by decide) rfl rfl (Nat.le_of_ble_eq_true rfl) (GM_r (r2 := 0) (r_mayWork hq hg hw hwk) (by rw [hmay]; rfl)) (Nat.le_refl _) ?_
  refine G_st (L := 89) (k := 0) (168, [some (.ref 62), some (.int (nI k)), some (.int u), some (.int f), some (.int (nI m)), some (.int (nI i)), some (.long (lN j)), none, some (.int (nI (60 * k + j))), some (.long (lN q)), none], [.int 0], qS sw gc I J) (q_hn _ _ _ _) rfl ?_
  refine G_if_ne 174 rfl rfl (fun h9 => absurd h9 (by decide)) (fun _ => ?_)
  refine G_st (L := 89) (k := 1) (173, [some (.ref 62), some (.int (nI k)), some (.int u), some (.int f), some (.int (nI m)), some (.int (nI i)), some (.long (lN j)), none, some (.int (nI (60 * k + j))), some (.long (lN q)), none], [.int (-22)], qS sw gc I J) (q_hn _ _ _ _) rfl ?_
  exact G_iret rfl rfl rfl rfl
set_option maxRecDepth 8000 in
theorem r_haulS {d : Nat} {sw : Bool} {gc : Nat} {I : Nat → Nat → Int32} {J : Nat → Nat → Int64} {k m i : Nat} {u f : Int32} (hk : k < 4) (hm : m ≤ 20) {n : Nat} (hi : i < m) (hn : I 87 k = nI n) (hn60 : n ≤ 60) {j : Nat} (hz : Int32.toInt64 f + Int32.toInt64 (3 * nI i) = lN j) (hj : j + 3 ≤ n) (hmg : I 62 20 = nI gc) (hg : gc ≤ 8) {q : Nat} (hq : q < gc) (h0 : J 88 (60 * k + j) = lN q) (hin : f_in (lN q) 0 (Int32.toInt64 (I 62 20) - 1) = 1) {len z c w : Nat} {L P : Nat → Nat} (h1 : J 88 (60 * k + j + 1) = lN len) (hbl : f_r_isBlock (lN len) (J 88 (60 * k + j + 2)) = 1) (hw : w < 30) (hwk : I 77 q = nI w) (hmay : r_may I w = true) (hsz : r_Sz I z L P) (hlen : len ≤ 40) (hl1 : 1 ≤ len) (hc : I 62 9 = nI c) (hc4 : c ≤ 4) {r : Int32} {Iz : Nat → Nat → Int32} {Jz : Nat → Nat → Int64} (g : G (d + 4) 143 (55, [some (.ref 62), some (.int (nI k)), some (.int u), some (.int f), some (.int (nI m)), some (.int (nI (i + 1))), none, none, none, none, none], [], qS sw gc (r_wks I L P z len (J 88 (60 * k + j + 2)) w q c) J) (some (.int r)) (qS sw gc Iz Jz)) : G (d + 4) 143 (55, [some (.ref 62), some (.int (nI k)), some (.int u), some (.int f), some (.int (nI m)), some (.int (nI i)), none, none, none, none, none], [], qS sw gc I J) (some (.int r)) (qS sw gc Iz Jz) := by
  have hz2 : Int32.toInt64 (I 87 k) = lN n := by rw [hn]; exact nI_l (by omega)
  refine G_st (L := 89) (k := 2) (59, [some (.ref 62), some (.int (nI k)), some (.int u), some (.int f), some (.int (nI m)), some (.int (nI i)), none, none, none, none, none], [.int (nI m), .int (nI i)], qS sw gc I J) (q_hn _ _ _ _) rfl ?_
  refine G_icmp_ge 207 rfl rfl (fun h9 => absurd h9 (nI_ge (by omega) (by omega))) (fun _ => ?_)
  refine G_st (L := 89) (k := 11) (76, [some (.ref 62), some (.int (nI k)), some (.int u), some (.int f), some (.int (nI m)), some (.int (nI i)), some (.long ((Int32.toInt64 f) + (Int32.toInt64 (3 * (nI i))))), none, none, none, none], [.int (lg_cmp ((Int32.toInt64 f) + (Int32.toInt64 (3 * (nI i)))) 0)], qS sw gc I J) (q_hn _ _ _ _) rfl ?_
  rw [show (Int32.toInt64 f) + (Int32.toInt64 (3 * (nI i))) = lN j from hz]
  refine G_if_lt 96 rfl rfl (fun h9 => absurd h9 (q_cA (by omega))) (fun _ => ?_)
  refine G_st (L := 89) (k := 6) (90, [some (.ref 62), some (.int (nI k)), some (.int u), some (.int f), some (.int (nI m)), some (.int (nI i)), some (.long (lN j)), none, none, none, none], [.int (nI k), .ref 87, .long ((lN j) + 3)], qS sw gc I J) (q_hn _ _ _ _) rfl ?_
  rw [show (lN j) + 3 = lN (j + 3) from (q_laddP rfl rfl)]
  refine G_iald (i := 87) (n := 4) rfl rfl (q_lt (by decide)) (vp_in_nI (by omega) (by decide)) ?_
  rw [q_clamp (n := k) (by omega)]
  refine G_st (L := 89) (k := 2) (93, [some (.ref 62), some (.int (nI k)), some (.int u), some (.int f), some (.int (nI m)), some (.int (nI i)), some (.long (lN j)), none, none, none, none], [.int (lg_cmp (lN (j + 3)) (Int32.toInt64 (I 87 k)))], qS sw gc I J) (q_hn _ _ _ _) rfl ?_
  refine G_if_le 99 rfl rfl (fun _ => ?_) (fun h9 => absurd (by rw [hz2]; exact (q_cmp_le _ _).mpr ((lN_le (by omega) (by omega)).mpr hj)) h9)
  refine G_st (L := 89) (k := 10) (115, [some (.ref 62), some (.int (nI k)), some (.int u), some (.int f), some (.int (nI m)), some (.int (nI i)), some (.long (lN j)), none, some (.int ((60 * (nI k)) + (Int64.toInt32 (lN j)))), none, none], [.int ((60 * (nI k)) + (Int64.toInt32 (lN j))), .ref 88], qS sw gc I J) (q_hn _ _ _ _) rfl ?_
  rw [show (60 * (nI k)) + (Int64.toInt32 (lN j)) = nI (60 * k + j) from (q_addP (q_mulP rfl rfl) (q_l2iP rfl))]
  refine G_lald (i := 88) (n := 240) rfl rfl (q_lt (by decide)) (vp_in_nI (by omega) (by decide)) ?_
  rw [q_clamp (n := 60 * k + j) (by omega)]
  refine G_st (L := 89) (k := 8) (128, [some (.ref 62), some (.int (nI k)), some (.int u), some (.int f), some (.int (nI m)), some (.int (nI i)), some (.long (lN j)), none, some (.int (nI (60 * k + j))), some (.long (J 88 (60 * k + j))), none], [.long ((Int32.toInt64 (I 62 20)) - 1), .long 0, .long (J 88 (60 * k + j))], qS sw gc I J) (q_hn _ _ _ _) rfl ?_
  rw [show J 88 (60 * k + j) = lN q from h0]
  refine G_callS (as := [.long (lN q), .long 0, .long ((Int32.toInt64 (I 62 20)) - 1)]) (rest := []) rfl rfl rfl (Nat.le_of_ble_eq_true rfl) (GM_r (r2 := 1) (m_in _ _ _) hin) (Nat.le_refl _) ?_
  refine G_st (L := 89) (k := 0) (131, [some (.ref 62), some (.int (nI k)), some (.int u), some (.int f), some (.int (nI m)), some (.int (nI i)), some (.long (lN j)), none, some (.int (nI (60 * k + j))), some (.long (lN q)), none], [.int 1], qS sw gc I J) (q_hn _ _ _ _) rfl ?_
  refine G_if_eq 158 rfl rfl (fun h9 => absurd h9 (by decide)) (fun _ => ?_)
  refine G_st (L := 89) (k := 5) (142, [some (.ref 62), some (.int (nI k)), some (.int u), some (.int f), some (.int (nI m)), some (.int (nI i)), some (.long (lN j)), none, some (.int (nI (60 * k + j))), some (.long (lN q)), none], [.int ((nI (60 * k + j)) + 1), .ref 88], qS sw gc I J) (q_hn _ _ _ _) rfl ?_
  rw [show (nI (60 * k + j)) + 1 = nI (60 * k + j + 1) from (q_addP rfl rfl)]
  refine G_lald (i := 88) (n := 240) rfl rfl (q_lt (by decide)) (vp_in_nI (by omega) (by decide)) ?_
  rw [q_clamp (n := 60 * k + j + 1) (by omega)]
  refine G_st (L := 89) (k := 5) (151, [some (.ref 62), some (.int (nI k)), some (.int u), some (.int f), some (.int (nI m)), some (.int (nI i)), some (.long (lN j)), none, some (.int (nI (60 * k + j))), some (.long (lN q)), none], [.int ((nI (60 * k + j)) + 2), .ref 88, .long (J 88 (60 * k + j + 1))], qS sw gc I J) (q_hn _ _ _ _) rfl ?_
  rw [show (nI (60 * k + j)) + 2 = nI (60 * k + j + 2) from (q_addP rfl rfl)]
  rw [show J 88 (60 * k + j + 1) = lN len from h1]
  refine G_lald (i := 88) (n := 240) rfl rfl (q_lt (by decide)) (vp_in_nI (by omega) (by decide)) ?_
  rw [q_clamp (n := 60 * k + j + 2) (by omega)]
  refine G_st (L := 89) (k := 0) (152, [some (.ref 62), some (.int (nI k)), some (.int u), some (.int f), some (.int (nI m)), some (.int (nI i)), some (.long (lN j)), none, some (.int (nI (60 * k + j))), some (.long (lN q)), none], [.long (J 88 (60 * k + j + 2)), .long (lN len)], qS sw gc I J) (q_hn _ _ _ _) rfl ?_
  refine G_callS (as := [.long (lN len), .long (J 88 (60 * k + j + 2))]) (rest := []) rfl rfl rfl (Nat.le_of_ble_eq_true rfl) (GM_r (r2 := 1) r_isBlock hbl) (Nat.le_refl _) ?_
  refine G_st (L := 89) (k := 0) (155, [some (.ref 62), some (.int (nI k)), some (.int u), some (.int f), some (.int (nI m)), some (.int (nI i)), some (.long (lN j)), none, some (.int (nI (60 * k + j))), some (.long (lN q)), none], [.int 1], qS sw gc I J) (q_hn _ _ _ _) rfl ?_
  refine G_if_ne 161 rfl rfl (fun _ => ?_) (fun h9 => absurd h9 (by decide))
  refine G_st (L := 89) (k := 3) (165, [some (.ref 62), some (.int (nI k)), some (.int u), some (.int f), some (.int (nI m)), some (.int (nI i)), some (.long (lN j)), none, some (.int (nI (60 * k + j))), some (.long (lN q)), none], [.int (Int64.toInt32 (lN q)), .ref 62], qS sw gc I J) (q_hn _ _ _ _) rfl ?_
  rw [show Int64.toInt32 (lN q) = nI q from (q_l2iP rfl)]
  refine G_callV (b := 62) (ci := 9) (as := [.int (nI q)]) (rest := []) rfl rfl rfl (q_lt (by decide)) (by decide) rfl rfl (Nat.le_of_ble_eq_true rfl) (GM_r (r2 := 1) (r_mayWork hq hg hw hwk) (by rw [hmay]; rfl)) (Nat.le_refl _) ?_
  refine G_st (L := 89) (k := 0) (168, [some (.ref 62), some (.int (nI k)), some (.int u), some (.int f), some (.int (nI m)), some (.int (nI i)), some (.long (lN j)), none, some (.int (nI (60 * k + j))), some (.long (lN q)), none], [.int 1], qS sw gc I J) (q_hn _ _ _ _) rfl ?_
  refine G_if_ne 174 rfl rfl (fun _ => ?_) (fun h9 => absurd h9 (by decide))
  refine G_st (L := 89) (k := 8) (186, [some (.ref 62), some (.int (nI k)), some (.int u), some (.int f), some (.int (nI m)), some (.int (nI i)), some (.long (lN j)), none, some (.int (nI (60 * k + j))), some (.long (lN q)), none], [.int ((nI (60 * k + j)) + 1), .ref 88, .int (Int64.toInt32 (lN q)), .ref 62], qS sw gc I J) (q_hn _ _ _ _) rfl ?_
  rw [show (nI (60 * k + j)) + 1 = nI (60 * k + j + 1) from (q_addP rfl rfl)]
  rw [show Int64.toInt32 (lN q) = nI q from (q_l2iP rfl)]
  refine G_lald (i := 88) (n := 240) rfl rfl (q_lt (by decide)) (vp_in_nI (by omega) (by decide)) ?_
  rw [q_clamp (n := 60 * k + j + 1) (by omega)]
  refine G_st (L := 89) (k := 6) (196, [some (.ref 62), some (.int (nI k)), some (.int u), some (.int f), some (.int (nI m)), some (.int (nI i)), some (.long (lN j)), none, some (.int (nI (60 * k + j))), some (.long (lN q)), none], [.int ((nI (60 * k + j)) + 2), .ref 88, .int (Int64.toInt32 (J 88 (60 * k + j + 1))), .int (nI q), .ref 62], qS sw gc I J) (q_hn _ _ _ _) rfl ?_
  rw [show Int64.toInt32 (J 88 (60 * k + j + 1)) = nI len from (q_l2iP h1)]
  rw [show (nI (60 * k + j)) + 2 = nI (60 * k + j + 2) from (q_addP rfl rfl)]
  refine G_lald (i := 88) (n := 240) rfl rfl (q_lt (by decide)) (vp_in_nI (by omega) (by decide)) ?_
  rw [q_clamp (n := 60 * k + j + 2) (by omega)]
  refine G_st (L := 89) (k := 0) (197, [some (.ref 62), some (.int (nI k)), some (.int u), some (.int f), some (.int (nI m)), some (.int (nI i)), some (.long (lN j)), none, some (.int (nI (60 * k + j))), some (.long (lN q)), none], [.long (J 88 (60 * k + j + 2)), .int (nI len), .int (nI q), .ref 62], qS sw gc I J) (q_hn _ _ _ _) rfl ?_
  refine G_callV (b := 62) (ci := 9) (as := [.int (nI q), .int (nI len), .long (J 88 (60 * k + j + 2))]) (rest := []) rfl rfl rfl (q_lt (by decide)) (by decide) rfl rfl (Nat.le_of_ble_eq_true rfl) (r_works hsz hlen hl1 (by omega) hw hwk hc hc4) (Nat.le_refl _) ?_
  refine G_st (L := 89) (k := 3) (55, [some (.ref 62), some (.int (nI k)), some (.int u), some (.int f), some (.int (nI m)), some (.int ((nI i) + 1)), some (.long (lN j)), none, some (.int (nI (60 * k + j))), some (.long (lN q)), none], [], qS sw gc (r_wks I L P z len (J 88 (60 * k + j + 2)) w q c) J) (q_hn _ _ _ _) rfl ?_
  rw [show (nI i) + 1 = nI (i + 1) from (q_addP rfl rfl)]
  refine G_fg [some (.ref 62), some (.int (nI k)), some (.int u), some (.int f), some (.int (nI m)), some (.int (nI (i + 1))), none, none, none, none, none] (by repeat (first | exact trivial | refine ⟨rfl, ?_⟩)) ?_
  exact g
